/-! 21.words.lean.txt -/
theorem dX9_addWord_0 : decode cX9_addWord 0 = .ok (.iload_n 2, 1) := dk_o28 (by decide +kernel)
theorem dX9_addWord_1 : decode cX9_addWord 1 = .ok (.istore_n 3, 1) := dk_o62 (by decide +kernel)
theorem dX9_addWord_2 : decode cX9_addWord 2 = .ok (.iload_n 3, 1) := dk_o29 (by decide +kernel)
theorem dX9_addWord_3 : decode cX9_addWord 3 = .ok (.aload_n 1, 1) := dk_o43 (by decide +kernel)
theorem dX9_addWord_4 : decode cX9_addWord 4 = .ok (.getfield 28, 3) := dk_o180 (by decide +kernel)
theorem dX9_addWord_7 : decode cX9_addWord 7 = .ok (.if_icmp .ge 21, 3) := dk_o162 (by decide +kernel)
theorem dX9_addWord_10 : decode cX9_addWord 10 = .ok (.aload_n 1, 1) := dk_o43 (by decide +kernel)
theorem dX9_addWord_11 : decode cX9_addWord 11 = .ok (.getfield 33, 3) := dk_o180 (by decide +kernel)
theorem dX9_addWord_14 : decode cX9_addWord 14 = .ok (.iload_n 3, 1) := dk_o29 (by decide +kernel)
theorem dX9_addWord_15 : decode cX9_addWord 15 = .ok (.iaload, 1) := dk_o46 (by decide +kernel)
theorem dX9_addWord_16 : decode cX9_addWord 16 = .ok (.invokestatic 36, 3) := dk_o184 (by decide +kernel)
theorem dX9_addWord_19 : decode cX9_addWord 19 = .ok (.ifCond .eq 9, 3) := dk_o153 (by decide +kernel)
theorem dX9_addWord_22 : decode cX9_addWord 22 = .ok (.iinc 3 1, 3) := dk_o132 (by decide +kernel)
theorem dX9_addWord_25 : decode cX9_addWord 25 = .ok (.goto (-23), 3) := dk_o167 (by decide +kernel)
theorem dX9_addWord_28 : decode cX9_addWord 28 = .ok (.aload_n 0, 1) := dk_o42 (by decide +kernel)
theorem dX9_addWord_29 : decode cX9_addWord 29 = .ok (.iload_n 2, 1) := dk_o28 (by decide +kernel)
theorem dX9_addWord_30 : decode cX9_addWord 30 = .ok (.iload_n 3, 1) := dk_o29 (by decide +kernel)
theorem dX9_addWord_31 : decode cX9_addWord 31 = .ok (.bipush 6, 2) := dk_o16 (by decide +kernel)
theorem dX9_addWord_33 : decode cX9_addWord 33 = .ok (.invokevirtual 54, 3) := dk_o182 (by decide +kernel)
theorem dX9_addWord_36 : decode cX9_addWord 36 = .ok (.ifCond .ne 40, 3) := dk_o154 (by decide +kernel)
theorem dX9_addWord_39 : decode cX9_addWord 39 = .ok (.aload_n 1, 1) := dk_o43 (by decide +kernel)
theorem dX9_addWord_40 : decode cX9_addWord 40 = .ok (.iload_n 2, 1) := dk_o28 (by decide +kernel)
theorem dX9_addWord_41 : decode cX9_addWord 41 = .ok (.iload_n 3, 1) := dk_o29 (by decide +kernel)
theorem dX9_addWord_42 : decode cX9_addWord 42 = .ok (.invokestatic 58, 3) := dk_o184 (by decide +kernel)
theorem dX9_addWord_45 : decode cX9_addWord 45 = .ok (.istore 4, 2) := dk_o54 (by decide +kernel)
theorem dX9_addWord_47 : decode cX9_addWord 47 = .ok (.iload 4, 2) := dk_o21 (by decide +kernel)
theorem dX9_addWord_49 : decode cX9_addWord 49 = .ok (.iconst (-1), 1) := dk_o2 (by decide +kernel)
theorem dX9_addWord_50 : decode cX9_addWord 50 = .ok (.if_icmp .ne 18, 3) := dk_o160 (by decide +kernel)
theorem dX9_addWord_53 : decode cX9_addWord 53 = .ok (.aload_n 0, 1) := dk_o42 (by decide +kernel)
theorem dX9_addWord_54 : decode cX9_addWord 54 = .ok (.iconst 2, 1) := dk_o5 (by decide +kernel)
theorem dX9_addWord_55 : decode cX9_addWord 55 = .ok (.iload_n 2, 1) := dk_o28 (by decide +kernel)
theorem dX9_addWord_56 : decode cX9_addWord 56 = .ok (.aload_n 1, 1) := dk_o43 (by decide +kernel)
theorem dX9_addWord_57 : decode cX9_addWord 57 = .ok (.iload_n 2, 1) := dk_o28 (by decide +kernel)
theorem dX9_addWord_58 : decode cX9_addWord 58 = .ok (.iload_n 3, 1) := dk_o29 (by decide +kernel)
theorem dX9_addWord_59 : decode cX9_addWord 59 = .ok (.invokestatic 62, 3) := dk_o184 (by decide +kernel)
theorem dX9_addWord_62 : decode cX9_addWord 62 = .ok (.invokevirtual 50, 3) := dk_o182 (by decide +kernel)
theorem dX9_addWord_65 : decode cX9_addWord 65 = .ok (.goto 11, 3) := dk_o167 (by decide +kernel)
theorem dX9_addWord_68 : decode cX9_addWord 68 = .ok (.aload_n 0, 1) := dk_o42 (by decide +kernel)
theorem dX9_addWord_69 : decode cX9_addWord 69 = .ok (.iconst 1, 1) := dk_o4 (by decide +kernel)
theorem dX9_addWord_70 : decode cX9_addWord 70 = .ok (.iload_n 2, 1) := dk_o28 (by decide +kernel)
theorem dX9_addWord_71 : decode cX9_addWord 71 = .ok (.iload 4, 2) := dk_o21 (by decide +kernel)
theorem dX9_addWord_73 : decode cX9_addWord 73 = .ok (.invokevirtual 50, 3) := dk_o182 (by decide +kernel)
theorem dX9_addWord_76 : decode cX9_addWord 76 = .ok (.aload_n 0, 1) := dk_o42 (by decide +kernel)
theorem dX9_addWord_77 : decode cX9_addWord 77 = .ok (.iload_n 3, 1) := dk_o29 (by decide +kernel)
theorem dX9_addWord_78 : decode cX9_addWord 78 = .ok (.putfield 25, 3) := dk_o181 (by decide +kernel)
theorem dX9_addWord_81 : decode cX9_addWord 81 = .ok (.iload_n 3, 1) := dk_o29 (by decide +kernel)
theorem dX9_addWord_82 : decode cX9_addWord 82 = .ok (.ireturn, 1) := dk_o172 (by decide +kernel)
theorem dX9_addNumber_0 : decode cX9_addNumber 0 = .ok (.iload_n 2, 1) := dk_o28 (by decide +kernel)
theorem dX9_addNumber_1 : decode cX9_addNumber 1 = .ok (.istore_n 3, 1) := dk_o62 (by decide +kernel)
theorem dX9_addNumber_2 : decode cX9_addNumber 2 = .ok (.iload_n 3, 1) := dk_o29 (by decide +kernel)
theorem dX9_addNumber_3 : decode cX9_addNumber 3 = .ok (.aload_n 1, 1) := dk_o43 (by decide +kernel)
theorem dX9_addNumber_4 : decode cX9_addNumber 4 = .ok (.getfield 28, 3) := dk_o180 (by decide +kernel)
theorem dX9_addNumber_7 : decode cX9_addNumber 7 = .ok (.if_icmp .ge 21, 3) := dk_o162 (by decide +kernel)
theorem dX9_addNumber_10 : decode cX9_addNumber 10 = .ok (.aload_n 1, 1) := dk_o43 (by decide +kernel)
theorem dX9_addNumber_11 : decode cX9_addNumber 11 = .ok (.getfield 33, 3) := dk_o180 (by decide +kernel)
theorem dX9_addNumber_14 : decode cX9_addNumber 14 = .ok (.iload_n 3, 1) := dk_o29 (by decide +kernel)
theorem dX9_addNumber_15 : decode cX9_addNumber 15 = .ok (.iaload, 1) := dk_o46 (by decide +kernel)
theorem dX9_addNumber_16 : decode cX9_addNumber 16 = .ok (.invokestatic 44, 3) := dk_o184 (by decide +kernel)
theorem dX9_addNumber_19 : decode cX9_addNumber 19 = .ok (.ifCond .eq 9, 3) := dk_o153 (by decide +kernel)
theorem dX9_addNumber_22 : decode cX9_addNumber 22 = .ok (.iinc 3 1, 3) := dk_o132 (by decide +kernel)
theorem dX9_addNumber_25 : decode cX9_addNumber 25 = .ok (.goto (-23), 3) := dk_o167 (by decide +kernel)
theorem dX9_addNumber_28 : decode cX9_addNumber 28 = .ok (.aload_n 0, 1) := dk_o42 (by decide +kernel)
theorem dX9_addNumber_29 : decode cX9_addNumber 29 = .ok (.iload_n 2, 1) := dk_o28 (by decide +kernel)
theorem dX9_addNumber_30 : decode cX9_addNumber 30 = .ok (.iload_n 3, 1) := dk_o29 (by decide +kernel)
theorem dX9_addNumber_31 : decode cX9_addNumber 31 = .ok (.iconst 4, 1) := dk_o7 (by decide +kernel)
theorem dX9_addNumber_32 : decode cX9_addNumber 32 = .ok (.invokevirtual 54, 3) := dk_o182 (by decide +kernel)
theorem dX9_addNumber_35 : decode cX9_addNumber 35 = .ok (.ifCond .ne 47, 3) := dk_o154 (by decide +kernel)
theorem dX9_addNumber_38 : decode cX9_addNumber 38 = .ok (.iconst 0, 1) := dk_o3 (by decide +kernel)
theorem dX9_addNumber_39 : decode cX9_addNumber 39 = .ok (.istore 4, 2) := dk_o54 (by decide +kernel)
theorem dX9_addNumber_41 : decode cX9_addNumber 41 = .ok (.iload_n 2, 1) := dk_o28 (by decide +kernel)
theorem dX9_addNumber_42 : decode cX9_addNumber 42 = .ok (.istore 5, 2) := dk_o54 (by decide +kernel)
theorem dX9_addNumber_44 : decode cX9_addNumber 44 = .ok (.iload 5, 2) := dk_o21 (by decide +kernel)
theorem dX9_addNumber_46 : decode cX9_addNumber 46 = .ok (.iload_n 3, 1) := dk_o29 (by decide +kernel)
theorem dX9_addNumber_47 : decode cX9_addNumber 47 = .ok (.if_icmp .ge 27, 3) := dk_o162 (by decide +kernel)
theorem dX9_addNumber_50 : decode cX9_addNumber 50 = .ok (.bipush 10, 2) := dk_o16 (by decide +kernel)
theorem dX9_addNumber_52 : decode cX9_addNumber 52 = .ok (.iload 4, 2) := dk_o21 (by decide +kernel)
theorem dX9_addNumber_54 : decode cX9_addNumber 54 = .ok (.imul, 1) := dk_o104 (by decide +kernel)
theorem dX9_addNumber_55 : decode cX9_addNumber 55 = .ok (.aload_n 1, 1) := dk_o43 (by decide +kernel)
theorem dX9_addNumber_56 : decode cX9_addNumber 56 = .ok (.getfield 33, 3) := dk_o180 (by decide +kernel)
theorem dX9_addNumber_59 : decode cX9_addNumber 59 = .ok (.iload 5, 2) := dk_o21 (by decide +kernel)
theorem dX9_addNumber_61 : decode cX9_addNumber 61 = .ok (.iaload, 1) := dk_o46 (by decide +kernel)
theorem dX9_addNumber_62 : decode cX9_addNumber 62 = .ok (.iadd, 1) := dk_o96 (by decide +kernel)
theorem dX9_addNumber_63 : decode cX9_addNumber 63 = .ok (.bipush 48, 2) := dk_o16 (by decide +kernel)
theorem dX9_addNumber_65 : decode cX9_addNumber 65 = .ok (.isub, 1) := dk_o100 (by decide +kernel)
theorem dX9_addNumber_66 : decode cX9_addNumber 66 = .ok (.istore 4, 2) := dk_o54 (by decide +kernel)
theorem dX9_addNumber_68 : decode cX9_addNumber 68 = .ok (.iinc 5 1, 3) := dk_o132 (by decide +kernel)
theorem dX9_addNumber_71 : decode cX9_addNumber 71 = .ok (.goto (-27), 3) := dk_o167 (by decide +kernel)
theorem dX9_addNumber_74 : decode cX9_addNumber 74 = .ok (.aload_n 0, 1) := dk_o42 (by decide +kernel)
theorem dX9_addNumber_75 : decode cX9_addNumber 75 = .ok (.iconst 3, 1) := dk_o6 (by decide +kernel)
theorem dX9_addNumber_76 : decode cX9_addNumber 76 = .ok (.iload_n 2, 1) := dk_o28 (by decide +kernel)
theorem dX9_addNumber_77 : decode cX9_addNumber 77 = .ok (.iload 4, 2) := dk_o21 (by decide +kernel)
theorem dX9_addNumber_79 : decode cX9_addNumber 79 = .ok (.invokevirtual 50, 3) := dk_o182 (by decide +kernel)
theorem dX9_addNumber_82 : decode cX9_addNumber 82 = .ok (.aload_n 0, 1) := dk_o42 (by decide +kernel)
theorem dX9_addNumber_83 : decode cX9_addNumber 83 = .ok (.iload_n 3, 1) := dk_o29 (by decide +kernel)
theorem dX9_addNumber_84 : decode cX9_addNumber 84 = .ok (.putfield 25, 3) := dk_o181 (by decide +kernel)
theorem dX9_addNumber_87 : decode cX9_addNumber 87 = .ok (.iload_n 3, 1) := dk_o29 (by decide +kernel)
theorem dX9_addNumber_88 : decode cX9_addNumber 88 = .ok (.ireturn, 1) := dk_o172 (by decide +kernel)
theorem dX9_addIfWrong_0 : decode cX9_addIfWrong 0 = .ok (.iload_n 2, 1) := dk_o28 (by decide +kernel)
theorem dX9_addIfWrong_1 : decode cX9_addIfWrong 1 = .ok (.iload_n 1, 1) := dk_o27 (by decide +kernel)
theorem dX9_addIfWrong_2 : decode cX9_addIfWrong 2 = .ok (.isub, 1) := dk_o100 (by decide +kernel)
theorem dX9_addIfWrong_3 : decode cX9_addIfWrong 3 = .ok (.iload_n 3, 1) := dk_o29 (by decide +kernel)
theorem dX9_addIfWrong_4 : decode cX9_addIfWrong 4 = .ok (.if_icmp .le 14, 3) := dk_o164 (by decide +kernel)
theorem dX9_addIfWrong_7 : decode cX9_addIfWrong 7 = .ok (.aload_n 0, 1) := dk_o42 (by decide +kernel)
theorem dX9_addIfWrong_8 : decode cX9_addIfWrong 8 = .ok (.iconst 5, 1) := dk_o8 (by decide +kernel)
theorem dX9_addIfWrong_9 : decode cX9_addIfWrong 9 = .ok (.iload_n 1, 1) := dk_o27 (by decide +kernel)
theorem dX9_addIfWrong_10 : decode cX9_addIfWrong 10 = .ok (.iload_n 1, 1) := dk_o27 (by decide +kernel)
theorem dX9_addIfWrong_11 : decode cX9_addIfWrong 11 = .ok (.iload_n 3, 1) := dk_o29 (by decide +kernel)
theorem dX9_addIfWrong_12 : decode cX9_addIfWrong 12 = .ok (.iadd, 1) := dk_o96 (by decide +kernel)
theorem dX9_addIfWrong_13 : decode cX9_addIfWrong 13 = .ok (.invokevirtual 50, 3) := dk_o182 (by decide +kernel)
theorem dX9_addIfWrong_16 : decode cX9_addIfWrong 16 = .ok (.iconst 1, 1) := dk_o4 (by decide +kernel)
theorem dX9_addIfWrong_17 : decode cX9_addIfWrong 17 = .ok (.ireturn, 1) := dk_o172 (by decide +kernel)
theorem dX9_addIfWrong_18 : decode cX9_addIfWrong 18 = .ok (.iload_n 1, 1) := dk_o27 (by decide +kernel)
theorem dX9_addIfWrong_19 : decode cX9_addIfWrong 19 = .ok (.aload_n 0, 1) := dk_o42 (by decide +kernel)
theorem dX9_addIfWrong_20 : decode cX9_addIfWrong 20 = .ok (.getfield 25, 3) := dk_o180 (by decide +kernel)
theorem dX9_addIfWrong_23 : decode cX9_addIfWrong 23 = .ok (.if_icmp .ne 12, 3) := dk_o160 (by decide +kernel)
theorem dX9_addIfWrong_26 : decode cX9_addIfWrong 26 = .ok (.aload_n 0, 1) := dk_o42 (by decide +kernel)
theorem dX9_addIfWrong_27 : decode cX9_addIfWrong 27 = .ok (.iconst 5, 1) := dk_o8 (by decide +kernel)
theorem dX9_addIfWrong_28 : decode cX9_addIfWrong 28 = .ok (.iload_n 1, 1) := dk_o27 (by decide +kernel)
theorem dX9_addIfWrong_29 : decode cX9_addIfWrong 29 = .ok (.iload_n 1, 1) := dk_o27 (by decide +kernel)
theorem dX9_addIfWrong_30 : decode cX9_addIfWrong 30 = .ok (.invokevirtual 50, 3) := dk_o182 (by decide +kernel)
theorem dX9_addIfWrong_33 : decode cX9_addIfWrong 33 = .ok (.iconst 1, 1) := dk_o4 (by decide +kernel)
theorem dX9_addIfWrong_34 : decode cX9_addIfWrong 34 = .ok (.ireturn, 1) := dk_o172 (by decide +kernel)
theorem dX9_addIfWrong_35 : decode cX9_addIfWrong 35 = .ok (.iconst 0, 1) := dk_o3 (by decide +kernel)
theorem dX9_addIfWrong_36 : decode cX9_addIfWrong 36 = .ok (.ireturn, 1) := dk_o172 (by decide +kernel)
theorem dX9_add_0 : decode cX9_add 0 = .ok (.aload_n 0, 1) := dk_o42 (by decide +kernel)
theorem dX9_add_1 : decode cX9_add 1 = .ok (.getfield 21, 3) := dk_o180 (by decide +kernel)
theorem dX9_add_4 : decode cX9_add 4 = .ok (.sipush 1600, 3) := dk_o17 (by decide +kernel)
theorem dX9_add_7 : decode cX9_add 7 = .ok (.if_icmp .gt 43, 3) := dk_o163 (by decide +kernel)
theorem dX9_add_10 : decode cX9_add 10 = .ok (.aload_n 0, 1) := dk_o42 (by decide +kernel)
theorem dX9_add_11 : decode cX9_add 11 = .ok (.getfield 9, 3) := dk_o180 (by decide +kernel)
theorem dX9_add_14 : decode cX9_add 14 = .ok (.aload_n 0, 1) := dk_o42 (by decide +kernel)
theorem dX9_add_15 : decode cX9_add 15 = .ok (.getfield 21, 3) := dk_o180 (by decide +kernel)
theorem dX9_add_18 : decode cX9_add 18 = .ok (.iload_n 1, 1) := dk_o27 (by decide +kernel)
theorem dX9_add_19 : decode cX9_add 19 = .ok (.iastore, 1) := dk_o79 (by decide +kernel)
theorem dX9_add_20 : decode cX9_add 20 = .ok (.aload_n 0, 1) := dk_o42 (by decide +kernel)
theorem dX9_add_21 : decode cX9_add 21 = .ok (.getfield 15, 3) := dk_o180 (by decide +kernel)
theorem dX9_add_24 : decode cX9_add 24 = .ok (.aload_n 0, 1) := dk_o42 (by decide +kernel)
theorem dX9_add_25 : decode cX9_add 25 = .ok (.getfield 21, 3) := dk_o180 (by decide +kernel)
theorem dX9_add_28 : decode cX9_add 28 = .ok (.iload_n 2, 1) := dk_o28 (by decide +kernel)
theorem dX9_add_29 : decode cX9_add 29 = .ok (.iastore, 1) := dk_o79 (by decide +kernel)
theorem dX9_add_30 : decode cX9_add 30 = .ok (.aload_n 0, 1) := dk_o42 (by decide +kernel)
theorem dX9_add_31 : decode cX9_add 31 = .ok (.getfield 18, 3) := dk_o180 (by decide +kernel)
theorem dX9_add_34 : decode cX9_add 34 = .ok (.aload_n 0, 1) := dk_o42 (by decide +kernel)
theorem dX9_add_35 : decode cX9_add 35 = .ok (.getfield 21, 3) := dk_o180 (by decide +kernel)
theorem dX9_add_38 : decode cX9_add 38 = .ok (.iload_n 3, 1) := dk_o29 (by decide +kernel)
theorem dX9_add_39 : decode cX9_add 39 = .ok (.iastore, 1) := dk_o79 (by decide +kernel)
theorem dX9_add_40 : decode cX9_add 40 = .ok (.aload_n 0, 1) := dk_o42 (by decide +kernel)
theorem dX9_add_41 : decode cX9_add 41 = .ok (.dup, 1) := dk_o89 (by decide +kernel)
theorem dX9_add_42 : decode cX9_add 42 = .ok (.getfield 21, 3) := dk_o180 (by decide +kernel)
theorem dX9_add_45 : decode cX9_add 45 = .ok (.iconst 1, 1) := dk_o4 (by decide +kernel)
theorem dX9_add_46 : decode cX9_add 46 = .ok (.iadd, 1) := dk_o96 (by decide +kernel)
theorem dX9_add_47 : decode cX9_add 47 = .ok (.putfield 21, 3) := dk_o181 (by decide +kernel)
theorem dX9_add_50 : decode cX9_add 50 = .ok (.return_, 1) := dk_o177 (by decide +kernel)
theorem dX9_lettersOf_0 : decode cX9_lettersOf 0 = .ok (.iconst 0, 1) := dk_o3 (by decide +kernel)
theorem dX9_lettersOf_1 : decode cX9_lettersOf 1 = .ok (.istore_n 3, 1) := dk_o62 (by decide +kernel)
theorem dX9_lettersOf_2 : decode cX9_lettersOf 2 = .ok (.iconst 0, 1) := dk_o3 (by decide +kernel)
theorem dX9_lettersOf_3 : decode cX9_lettersOf 3 = .ok (.istore 4, 2) := dk_o54 (by decide +kernel)
theorem dX9_lettersOf_5 : decode cX9_lettersOf 5 = .ok (.iload 4, 2) := dk_o21 (by decide +kernel)
theorem dX9_lettersOf_7 : decode cX9_lettersOf 7 = .ok (.bipush 6, 2) := dk_o16 (by decide +kernel)
theorem dX9_lettersOf_9 : decode cX9_lettersOf 9 = .ok (.if_icmp .ge 45, 3) := dk_o162 (by decide +kernel)
theorem dX9_lettersOf_12 : decode cX9_lettersOf 12 = .ok (.iload_n 1, 1) := dk_o27 (by decide +kernel)
theorem dX9_lettersOf_13 : decode cX9_lettersOf 13 = .ok (.iload 4, 2) := dk_o21 (by decide +kernel)
theorem dX9_lettersOf_15 : decode cX9_lettersOf 15 = .ok (.iadd, 1) := dk_o96 (by decide +kernel)
theorem dX9_lettersOf_16 : decode cX9_lettersOf 16 = .ok (.iload_n 2, 1) := dk_o28 (by decide +kernel)
theorem dX9_lettersOf_17 : decode cX9_lettersOf 17 = .ok (.if_icmp .ge 20, 3) := dk_o162 (by decide +kernel)
theorem dX9_lettersOf_20 : decode cX9_lettersOf 20 = .ok (.aload_n 0, 1) := dk_o42 (by decide +kernel)
theorem dX9_lettersOf_21 : decode cX9_lettersOf 21 = .ok (.getfield 33, 3) := dk_o180 (by decide +kernel)
theorem dX9_lettersOf_24 : decode cX9_lettersOf 24 = .ok (.iload_n 1, 1) := dk_o27 (by decide +kernel)
theorem dX9_lettersOf_25 : decode cX9_lettersOf 25 = .ok (.iload 4, 2) := dk_o21 (by decide +kernel)
theorem dX9_lettersOf_27 : decode cX9_lettersOf 27 = .ok (.iadd, 1) := dk_o96 (by decide +kernel)
theorem dX9_lettersOf_28 : decode cX9_lettersOf 28 = .ok (.iaload, 1) := dk_o46 (by decide +kernel)
theorem dX9_lettersOf_29 : decode cX9_lettersOf 29 = .ok (.bipush 97, 2) := dk_o16 (by decide +kernel)
theorem dX9_lettersOf_31 : decode cX9_lettersOf 31 = .ok (.isub, 1) := dk_o100 (by decide +kernel)
theorem dX9_lettersOf_32 : decode cX9_lettersOf 32 = .ok (.iconst 1, 1) := dk_o4 (by decide +kernel)
theorem dX9_lettersOf_33 : decode cX9_lettersOf 33 = .ok (.iadd, 1) := dk_o96 (by decide +kernel)
theorem dX9_lettersOf_34 : decode cX9_lettersOf 34 = .ok (.goto 4, 3) := dk_o167 (by decide +kernel)
theorem dX9_lettersOf_37 : decode cX9_lettersOf 37 = .ok (.iconst 0, 1) := dk_o3 (by decide +kernel)
theorem dX9_lettersOf_38 : decode cX9_lettersOf 38 = .ok (.istore 5, 2) := dk_o54 (by decide +kernel)
theorem dX9_lettersOf_40 : decode cX9_lettersOf 40 = .ok (.bipush 27, 2) := dk_o16 (by decide +kernel)
theorem dX9_lettersOf_42 : decode cX9_lettersOf 42 = .ok (.iload_n 3, 1) := dk_o29 (by decide +kernel)
theorem dX9_lettersOf_43 : decode cX9_lettersOf 43 = .ok (.imul, 1) := dk_o104 (by decide +kernel)
theorem dX9_lettersOf_44 : decode cX9_lettersOf 44 = .ok (.iload 5, 2) := dk_o21 (by decide +kernel)
theorem dX9_lettersOf_46 : decode cX9_lettersOf 46 = .ok (.iadd, 1) := dk_o96 (by decide +kernel)
theorem dX9_lettersOf_47 : decode cX9_lettersOf 47 = .ok (.istore_n 3, 1) := dk_o62 (by decide +kernel)
theorem dX9_lettersOf_48 : decode cX9_lettersOf 48 = .ok (.iinc 4 1, 3) := dk_o132 (by decide +kernel)
theorem dX9_lettersOf_51 : decode cX9_lettersOf 51 = .ok (.goto (-46), 3) := dk_o167 (by decide +kernel)
theorem dX9_lettersOf_54 : decode cX9_lettersOf 54 = .ok (.iload_n 3, 1) := dk_o29 (by decide +kernel)
theorem dX9_lettersOf_55 : decode cX9_lettersOf 55 = .ok (.ireturn, 1) := dk_o172 (by decide +kernel)
theorem dX9_ownWord_0 : decode cX9_ownWord 0 = .ok (.iconst 0, 1) := dk_o3 (by decide +kernel)
theorem dX9_ownWord_1 : decode cX9_ownWord 1 = .ok (.istore_n 3, 1) := dk_o62 (by decide +kernel)
theorem dX9_ownWord_2 : decode cX9_ownWord 2 = .ok (.iload_n 3, 1) := dk_o29 (by decide +kernel)
theorem dX9_ownWord_3 : decode cX9_ownWord 3 = .ok (.bipush 27, 2) := dk_o16 (by decide +kernel)
theorem dX9_ownWord_5 : decode cX9_ownWord 5 = .ok (.if_icmp .ge 81, 3) := dk_o162 (by decide +kernel)
theorem dX9_ownWord_8 : decode cX9_ownWord 8 = .ok (.iconst 0, 1) := dk_o3 (by decide +kernel)
theorem dX9_ownWord_9 : decode cX9_ownWord 9 = .ok (.istore 4, 2) := dk_o54 (by decide +kernel)
theorem dX9_ownWord_11 : decode cX9_ownWord 11 = .ok (.iconst 0, 1) := dk_o3 (by decide +kernel)
theorem dX9_ownWord_12 : decode cX9_ownWord 12 = .ok (.istore 5, 2) := dk_o54 (by decide +kernel)
theorem dX9_ownWord_14 : decode cX9_ownWord 14 = .ok (.iload 5, 2) := dk_o21 (by decide +kernel)
theorem dX9_ownWord_16 : decode cX9_ownWord 16 = .ok (.bipush 6, 2) := dk_o16 (by decide +kernel)
theorem dX9_ownWord_18 : decode cX9_ownWord 18 = .ok (.if_icmp .ge 53, 3) := dk_o162 (by decide +kernel)
theorem dX9_ownWord_21 : decode cX9_ownWord 21 = .ok (.iload_n 1, 1) := dk_o27 (by decide +kernel)
theorem dX9_ownWord_22 : decode cX9_ownWord 22 = .ok (.iload 5, 2) := dk_o21 (by decide +kernel)
theorem dX9_ownWord_24 : decode cX9_ownWord 24 = .ok (.iadd, 1) := dk_o96 (by decide +kernel)
theorem dX9_ownWord_25 : decode cX9_ownWord 25 = .ok (.iload_n 2, 1) := dk_o28 (by decide +kernel)
theorem dX9_ownWord_26 : decode cX9_ownWord 26 = .ok (.if_icmp .ge 15, 3) := dk_o162 (by decide +kernel)
theorem dX9_ownWord_29 : decode cX9_ownWord 29 = .ok (.aload_n 0, 1) := dk_o42 (by decide +kernel)
theorem dX9_ownWord_30 : decode cX9_ownWord 30 = .ok (.getfield 33, 3) := dk_o180 (by decide +kernel)
theorem dX9_ownWord_33 : decode cX9_ownWord 33 = .ok (.iload_n 1, 1) := dk_o27 (by decide +kernel)
theorem dX9_ownWord_34 : decode cX9_ownWord 34 = .ok (.iload 5, 2) := dk_o21 (by decide +kernel)
theorem dX9_ownWord_36 : decode cX9_ownWord 36 = .ok (.iadd, 1) := dk_o96 (by decide +kernel)
theorem dX9_ownWord_37 : decode cX9_ownWord 37 = .ok (.iaload, 1) := dk_o46 (by decide +kernel)
theorem dX9_ownWord_38 : decode cX9_ownWord 38 = .ok (.goto 5, 3) := dk_o167 (by decide +kernel)
theorem dX9_ownWord_41 : decode cX9_ownWord 41 = .ok (.bipush 32, 2) := dk_o16 (by decide +kernel)
theorem dX9_ownWord_43 : decode cX9_ownWord 43 = .ok (.istore 6, 2) := dk_o54 (by decide +kernel)
theorem dX9_ownWord_45 : decode cX9_ownWord 45 = .ok (.iload 6, 2) := dk_o21 (by decide +kernel)
theorem dX9_ownWord_47 : decode cX9_ownWord 47 = .ok (.ldc 65, 2) := dk_o18 (by decide +kernel)
theorem dX9_ownWord_49 : decode cX9_ownWord 49 = .ok (.bipush 6, 2) := dk_o16 (by decide +kernel)
theorem dX9_ownWord_51 : decode cX9_ownWord 51 = .ok (.iload_n 3, 1) := dk_o29 (by decide +kernel)
theorem dX9_ownWord_52 : decode cX9_ownWord 52 = .ok (.imul, 1) := dk_o104 (by decide +kernel)
theorem dX9_ownWord_53 : decode cX9_ownWord 53 = .ok (.iload 5, 2) := dk_o21 (by decide +kernel)
theorem dX9_ownWord_55 : decode cX9_ownWord 55 = .ok (.iadd, 1) := dk_o96 (by decide +kernel)
theorem dX9_ownWord_56 : decode cX9_ownWord 56 = .ok (.invokevirtual 67, 3) := dk_o182 (by decide +kernel)
theorem dX9_ownWord_59 : decode cX9_ownWord 59 = .ok (.if_icmp .ne 6, 3) := dk_o160 (by decide +kernel)
theorem dX9_ownWord_62 : decode cX9_ownWord 62 = .ok (.iinc 4 1, 3) := dk_o132 (by decide +kernel)
theorem dX9_ownWord_65 : decode cX9_ownWord 65 = .ok (.iinc 5 1, 3) := dk_o132 (by decide +kernel)
theorem dX9_ownWord_68 : decode cX9_ownWord 68 = .ok (.goto (-54), 3) := dk_o167 (by decide +kernel)
theorem dX9_ownWord_71 : decode cX9_ownWord 71 = .ok (.iload 4, 2) := dk_o21 (by decide +kernel)
theorem dX9_ownWord_73 : decode cX9_ownWord 73 = .ok (.bipush 6, 2) := dk_o16 (by decide +kernel)
theorem dX9_ownWord_75 : decode cX9_ownWord 75 = .ok (.if_icmp .ne 5, 3) := dk_o160 (by decide +kernel)
theorem dX9_ownWord_78 : decode cX9_ownWord 78 = .ok (.iload_n 3, 1) := dk_o29 (by decide +kernel)
theorem dX9_ownWord_79 : decode cX9_ownWord 79 = .ok (.ireturn, 1) := dk_o172 (by decide +kernel)
theorem dX9_ownWord_80 : decode cX9_ownWord 80 = .ok (.iinc 3 1, 3) := dk_o132 (by decide +kernel)
theorem dX9_ownWord_83 : decode cX9_ownWord 83 = .ok (.goto (-81), 3) := dk_o167 (by decide +kernel)
theorem dX9_ownWord_86 : decode cX9_ownWord 86 = .ok (.iconst (-1), 1) := dk_o2 (by decide +kernel)
theorem dX9_ownWord_87 : decode cX9_ownWord 87 = .ok (.ireturn, 1) := dk_o172 (by decide +kernel)
theorem dX9_isLetter_0 : decode cX9_isLetter 0 = .ok (.iload_n 0, 1) := dk_o26 (by decide +kernel)
theorem dX9_isLetter_1 : decode cX9_isLetter 1 = .ok (.bipush 97, 2) := dk_o16 (by decide +kernel)
theorem dX9_isLetter_3 : decode cX9_isLetter 3 = .ok (.if_icmp .lt 13, 3) := dk_o161 (by decide +kernel)
theorem dX9_isLetter_6 : decode cX9_isLetter 6 = .ok (.iload_n 0, 1) := dk_o26 (by decide +kernel)
theorem dX9_isLetter_7 : decode cX9_isLetter 7 = .ok (.bipush 122, 2) := dk_o16 (by decide +kernel)
theorem dX9_isLetter_9 : decode cX9_isLetter 9 = .ok (.if_icmp .gt 7, 3) := dk_o163 (by decide +kernel)
theorem dX9_isLetter_12 : decode cX9_isLetter 12 = .ok (.iconst 1, 1) := dk_o4 (by decide +kernel)
theorem dX9_isLetter_13 : decode cX9_isLetter 13 = .ok (.goto 4, 3) := dk_o167 (by decide +kernel)
theorem dX9_isLetter_16 : decode cX9_isLetter 16 = .ok (.iconst 0, 1) := dk_o3 (by decide +kernel)
theorem dX9_isLetter_17 : decode cX9_isLetter 17 = .ok (.ireturn, 1) := dk_o172 (by decide +kernel)
theorem dX9_isDigit_0 : decode cX9_isDigit 0 = .ok (.iload_n 0, 1) := dk_o26 (by decide +kernel)
theorem dX9_isDigit_1 : decode cX9_isDigit 1 = .ok (.bipush 48, 2) := dk_o16 (by decide +kernel)
theorem dX9_isDigit_3 : decode cX9_isDigit 3 = .ok (.if_icmp .lt 13, 3) := dk_o161 (by decide +kernel)
theorem dX9_isDigit_6 : decode cX9_isDigit 6 = .ok (.iload_n 0, 1) := dk_o26 (by decide +kernel)
theorem dX9_isDigit_7 : decode cX9_isDigit 7 = .ok (.bipush 57, 2) := dk_o16 (by decide +kernel)
theorem dX9_isDigit_9 : decode cX9_isDigit 9 = .ok (.if_icmp .gt 7, 3) := dk_o163 (by decide +kernel)
theorem dX9_isDigit_12 : decode cX9_isDigit 12 = .ok (.iconst 1, 1) := dk_o4 (by decide +kernel)
theorem dX9_isDigit_13 : decode cX9_isDigit 13 = .ok (.goto 4, 3) := dk_o167 (by decide +kernel)
theorem dX9_isDigit_16 : decode cX9_isDigit 16 = .ok (.iconst 0, 1) := dk_o3 (by decide +kernel)
theorem dX9_isDigit_17 : decode cX9_isDigit 17 = .ok (.ireturn, 1) := dk_o172 (by decide +kernel)
theorem wB_179 : Cond.fieldLink RX9 21 "DarkMine$Words" "count" "I" ∈ dgB := List.mem_filter.mpr ⟨tbl_2 _ (List.mem_of_getElem? (i := 66) (by decide +kernel)), by decide +kernel⟩
theorem wB_180 : Cond.fieldLink RX9 9 "DarkMine$Words" "kinds" "[I" ∈ dgB := List.mem_filter.mpr ⟨tbl_2 _ (List.mem_of_getElem? (i := 60) (by decide +kernel)), by decide +kernel⟩
theorem wB_181 : Cond.fieldLink RX9 15 "DarkMine$Words" "starts" "[I" ∈ dgB := List.mem_filter.mpr ⟨tbl_2 _ (List.mem_of_getElem? (i := 62) (by decide +kernel)), by decide +kernel⟩
theorem wB_182 : Cond.fieldLink RX9 18 "DarkMine$Words" "values" "[I" ∈ dgB := List.mem_filter.mpr ⟨tbl_2 _ (List.mem_of_getElem? (i := 64) (by decide +kernel)), by decide +kernel⟩
theorem wB_183 : Cond.fieldLink RX9 25 "DarkMine$Words" "plainEnd" "I" ∈ dgB := List.mem_filter.mpr ⟨tbl_2 _ (List.mem_of_getElem? (i := 67) (by decide +kernel)), by decide +kernel⟩
theorem wB_184 : Cond.code yX9_add cX9_add 4 none ∈ dgB := List.mem_filter.mpr ⟨tbl_3 _ (List.mem_of_getElem? (i := 139) rfl), rfl⟩
theorem wB_185 : Cond.methodLink RX9 50 yX9_add ∈ dgB := List.mem_filter.mpr ⟨tbl_3 _ (List.mem_of_getElem? (i := 136) (by decide +kernel)), by decide +kernel⟩
theorem wB_186 : Cond.instanceMethod yX9_add ∈ dgB := List.mem_filter.mpr ⟨tbl_3 _ (List.mem_of_getElem? (i := 138) (by decide +kernel)), by decide +kernel⟩
theorem wB_187 : Cond.selects RX9 yX9_add yX9_add ∈ dgB := List.mem_filter.mpr ⟨List.mem_of_getElem? (i := 4) (by decide +kernel), by decide +kernel⟩
theorem wB_188 : Cond.initialized RX9 ∈ dgB := List.mem_filter.mpr ⟨tbl_1 _ (List.mem_of_getElem? (i := 8) (by decide +kernel)), by decide +kernel⟩
theorem wB_189 : Cond.fieldLink RX9 33 "DarkMine$Tape" "bytes" "[I" ∈ dgB := List.mem_filter.mpr ⟨tbl_1 _ (List.mem_of_getElem? (i := 37) (by decide +kernel)), by decide +kernel⟩
theorem wB_190 : Cond.fieldLink RX9 28 "DarkMine$Tape" "length" "I" ∈ dgB := List.mem_filter.mpr ⟨tbl_1 _ (List.mem_of_getElem? (i := 42) (by decide +kernel)), by decide +kernel⟩
theorem wB_191 : Cond.code yX9_isLetter cX9_isLetter 1 (some .boolean) ∈ dgB := List.mem_filter.mpr ⟨tbl_3 _ (List.mem_of_getElem? (i := 127) rfl), rfl⟩
theorem wB_192 : Cond.methodLink RX9 36 yX9_isLetter ∈ dgB := List.mem_filter.mpr ⟨tbl_3 _ (List.mem_of_getElem? (i := 125) (by decide +kernel)), by decide +kernel⟩
theorem wB_193 : Cond.static yX9_isLetter ∈ dgB := List.mem_filter.mpr ⟨tbl_3 _ (List.mem_of_getElem? (i := 126) (by decide +kernel)), by decide +kernel⟩
theorem wB_194 : Cond.code yX9_addIfWrong cX9_addIfWrong 4 (some .boolean) ∈ dgB := List.mem_filter.mpr ⟨tbl_3 _ (List.mem_of_getElem? (i := 135) rfl), rfl⟩
theorem wB_195 : Cond.methodLink RX9 54 yX9_addIfWrong ∈ dgB := List.mem_filter.mpr ⟨tbl_3 _ (List.mem_of_getElem? (i := 132) (by decide +kernel)), by decide +kernel⟩
theorem wB_196 : Cond.instanceMethod yX9_addIfWrong ∈ dgB := List.mem_filter.mpr ⟨tbl_3 _ (List.mem_of_getElem? (i := 134) (by decide +kernel)), by decide +kernel⟩
theorem wB_197 : Cond.selects RX9 yX9_addIfWrong yX9_addIfWrong ∈ dgB := List.mem_filter.mpr ⟨List.mem_of_getElem? (i := 3) (by decide +kernel), by decide +kernel⟩
theorem wB_198 : Cond.code yX9_ownWord cX9_ownWord 7 (some .int) ∈ dgB := List.mem_filter.mpr ⟨tbl_3 _ (List.mem_of_getElem? (i := 142) rfl), rfl⟩
theorem wB_199 : Cond.methodLink RX9 58 yX9_ownWord ∈ dgB := List.mem_filter.mpr ⟨tbl_3 _ (List.mem_of_getElem? (i := 140) (by decide +kernel)), by decide +kernel⟩
theorem wB_200 : Cond.static yX9_ownWord ∈ dgB := List.mem_filter.mpr ⟨tbl_3 _ (List.mem_of_getElem? (i := 141) (by decide +kernel)), by decide +kernel⟩
theorem wB_201 : Cond.code yX9_lettersOf cX9_lettersOf 6 (some .int) ∈ dgB := List.mem_filter.mpr ⟨tbl_3 _ (List.mem_of_getElem? (i := 186) rfl), rfl⟩
theorem wB_202 : Cond.methodLink RX9 62 yX9_lettersOf ∈ dgB := List.mem_filter.mpr ⟨tbl_3 _ (List.mem_of_getElem? (i := 184) (by decide +kernel)), by decide +kernel⟩
theorem wB_203 : Cond.static yX9_lettersOf ∈ dgB := List.mem_filter.mpr ⟨tbl_3 _ (List.mem_of_getElem? (i := 185) (by decide +kernel)), by decide +kernel⟩
theorem wB_204 : Cond.code yX9_isDigit cX9_isDigit 1 (some .boolean) ∈ dgB := List.mem_filter.mpr ⟨tbl_3 _ (List.mem_of_getElem? (i := 189) rfl), rfl⟩
theorem wB_205 : Cond.methodLink RX9 44 yX9_isDigit ∈ dgB := List.mem_filter.mpr ⟨tbl_3 _ (List.mem_of_getElem? (i := 187) (by decide +kernel)), by decide +kernel⟩
theorem wB_206 : Cond.static yX9_isDigit ∈ dgB := List.mem_filter.mpr ⟨tbl_3 _ (List.mem_of_getElem? (i := 188) (by decide +kernel)), by decide +kernel⟩
set_option maxHeartbeats 8000000 in
set_option maxRecDepth 100000 in
theorem c_v_isLetter (l : Launch) (g : Nat → ClassId) (D : va_G) (o : Nat) (S : dg_S) (a1 : Int32) (I : CX o S) (sz : Nat) : Met l yX9_isLetter (bw yX9_isLetter cX9_isLetter 1 (some .boolean)) ({ frames := 1, cells := 0, slots := 0, locals := 32 } : Room) (dk_Pc g D (dg_w g shX o rfX S) sz [.int a1]) (va_Qi (fun (r : Int32) S' => S' = S ∧ (0 ≤ (r).toInt ∧ (r).toInt ≤ 1) ∧ ((r).toInt = 1 ↔ (97 ≤ (a1).toInt ∧ (a1).toInt ≤ 122)) ∧ True) (dg_B g D shX o rfX) (dg_A o shX.length sz)) 0 0 (dg_A o shX.length sz) := by
  refine dg_met (cc := cX9_isLetter) (maxL := 1) (ret := (some .boolean)) (dk_dq rfl) rfl (Nat.le_of_ble_eq_true rfl) ?_
  intro p e s m args below meth c A hAe harg hx hb hr hml hts hown hlocks hin hP K hS hA1 hA ST hsz ls hl
  rw [← hAe]
  have F : CallFix p m c cX9_isLetter 1 s args (bw yX9_isLetter cX9_isLetter 1 (some .boolean)) RX9 := ⟨hx, hb, hml, hown, hts⟩
  have hl : lv_has ls 1 [(0, .int a1)] := hl
  have M_0 : dg_sm shX [] [] S S := dg_sm.rf
  refine lv_iload_n hx hb dX9_isLetter_0 rfl (lv_at hl 0 rfl) ?_
  refine lv_bipush (v := 97) hx hb dX9_isLetter_1 (by decide +kernel) ?_
  refine lv_icmp_lt (tgt := 16) hx hb dX9_isLetter_3 (dk_dq rfl) (fun c_1 => ?_) (fun c_1 => ?_)
  · have jc_1 := dk_ltc (k := 97) (by decide +kernel) c_1
    refine lv_iconst (v := 0) hx hb dX9_isLetter_16 (by decide +kernel) ?_
    have hz_2 : (0 : Int32).toInt = 0 := by decide +kernel
    have hz_3 : (0 : Int32).toInt = 0 := by decide +kernel
    refine W.widen (k := 0) (n := 0) (Nat.le_of_ble_eq_true rfl) (Nat.le_of_ble_eq_true rfl) ?_
    exact dg_iret hx hb hr hlocks (by decide +kernel) hP hS ⟨rfl, (by decide +kernel), (by omega), trivial⟩ dX9_isLetter_17
  · have jc_1 := dk_nltc (k := 97) (by decide +kernel) c_1
    refine lv_iload_n hx hb dX9_isLetter_6 rfl (lv_at hl 0 rfl) ?_
    refine lv_bipush (v := 122) hx hb dX9_isLetter_7 (by decide +kernel) ?_
    refine lv_icmp_gt (tgt := 16) hx hb dX9_isLetter_9 (dk_dq rfl) (fun c_4 => ?_) (fun c_4 => ?_)
    · have jc_4 := dk_gtc (k := 122) (by decide +kernel) c_4
      refine lv_iconst (v := 0) hx hb dX9_isLetter_16 (by decide +kernel) ?_
      have hz_5 : (0 : Int32).toInt = 0 := by decide +kernel
      have hz_6 : (0 : Int32).toInt = 0 := by decide +kernel
      refine W.widen (k := 0) (n := 0) (Nat.le_of_ble_eq_true rfl) (Nat.le_of_ble_eq_true rfl) ?_
      exact dg_iret hx hb hr hlocks (by decide +kernel) hP hS ⟨rfl, (by decide +kernel), (by omega), trivial⟩ dX9_isLetter_17
    · have jc_4 := dk_ngtc (k := 122) (by decide +kernel) c_4
      refine lv_iconst (v := 1) hx hb dX9_isLetter_12 (by decide +kernel) ?_
      refine lv_goto (tgt := 17) hx hb dX9_isLetter_13 (dk_dq rfl) ?_
      have hz_7 : (1 : Int32).toInt = 1 := by decide +kernel
      have hz_8 : (1 : Int32).toInt = 1 := by decide +kernel
      refine W.widen (k := 0) (n := 0) (Nat.le_of_ble_eq_true rfl) (Nat.le_of_ble_eq_true rfl) ?_
      exact dg_iret hx hb hr hlocks (by decide +kernel) hP hS ⟨rfl, (by decide +kernel), (by omega), trivial⟩ dX9_isLetter_17
set_option maxHeartbeats 8000000 in
set_option maxRecDepth 100000 in
theorem c_v_isDigit (l : Launch) (g : Nat → ClassId) (D : va_G) (o : Nat) (S : dg_S) (a1 : Int32) (I : CX o S) (sz : Nat) : Met l yX9_isDigit (bw yX9_isDigit cX9_isDigit 1 (some .boolean)) ({ frames := 1, cells := 0, slots := 0, locals := 32 } : Room) (dk_Pc g D (dg_w g shX o rfX S) sz [.int a1]) (va_Qi (fun (r : Int32) S' => S' = S ∧ (0 ≤ (r).toInt ∧ (r).toInt ≤ 1) ∧ ((r).toInt = 1 ↔ (48 ≤ (a1).toInt ∧ (a1).toInt ≤ 57)) ∧ True) (dg_B g D shX o rfX) (dg_A o shX.length sz)) 0 0 (dg_A o shX.length sz) := by
  refine dg_met (cc := cX9_isDigit) (maxL := 1) (ret := (some .boolean)) (dk_dq rfl) rfl (Nat.le_of_ble_eq_true rfl) ?_
  intro p e s m args below meth c A hAe harg hx hb hr hml hts hown hlocks hin hP K hS hA1 hA ST hsz ls hl
  rw [← hAe]
  have F : CallFix p m c cX9_isDigit 1 s args (bw yX9_isDigit cX9_isDigit 1 (some .boolean)) RX9 := ⟨hx, hb, hml, hown, hts⟩
  have hl : lv_has ls 1 [(0, .int a1)] := hl
  have M_0 : dg_sm shX [] [] S S := dg_sm.rf
  refine lv_iload_n hx hb dX9_isDigit_0 rfl (lv_at hl 0 rfl) ?_
  refine lv_bipush (v := 48) hx hb dX9_isDigit_1 (by decide +kernel) ?_
  refine lv_icmp_lt (tgt := 16) hx hb dX9_isDigit_3 (dk_dq rfl) (fun c_1 => ?_) (fun c_1 => ?_)
  · have jc_1 := dk_ltc (k := 48) (by decide +kernel) c_1
    refine lv_iconst (v := 0) hx hb dX9_isDigit_16 (by decide +kernel) ?_
    have hz_2 : (0 : Int32).toInt = 0 := by decide +kernel
    have hz_3 : (0 : Int32).toInt = 0 := by decide +kernel
    refine W.widen (k := 0) (n := 0) (Nat.le_of_ble_eq_true rfl) (Nat.le_of_ble_eq_true rfl) ?_
    exact dg_iret hx hb hr hlocks (by decide +kernel) hP hS ⟨rfl, (by decide +kernel), (by omega), trivial⟩ dX9_isDigit_17
  · have jc_1 := dk_nltc (k := 48) (by decide +kernel) c_1
    refine lv_iload_n hx hb dX9_isDigit_6 rfl (lv_at hl 0 rfl) ?_
    refine lv_bipush (v := 57) hx hb dX9_isDigit_7 (by decide +kernel) ?_
    refine lv_icmp_gt (tgt := 16) hx hb dX9_isDigit_9 (dk_dq rfl) (fun c_4 => ?_) (fun c_4 => ?_)
    · have jc_4 := dk_gtc (k := 57) (by decide +kernel) c_4
      refine lv_iconst (v := 0) hx hb dX9_isDigit_16 (by decide +kernel) ?_
      have hz_5 : (0 : Int32).toInt = 0 := by decide +kernel
      have hz_6 : (0 : Int32).toInt = 0 := by decide +kernel
      refine W.widen (k := 0) (n := 0) (Nat.le_of_ble_eq_true rfl) (Nat.le_of_ble_eq_true rfl) ?_
      exact dg_iret hx hb hr hlocks (by decide +kernel) hP hS ⟨rfl, (by decide +kernel), (by omega), trivial⟩ dX9_isDigit_17
    · have jc_4 := dk_ngtc (k := 57) (by decide +kernel) c_4
      refine lv_iconst (v := 1) hx hb dX9_isDigit_12 (by decide +kernel) ?_
      refine lv_goto (tgt := 17) hx hb dX9_isDigit_13 (dk_dq rfl) ?_
      have hz_7 : (1 : Int32).toInt = 1 := by decide +kernel
      have hz_8 : (1 : Int32).toInt = 1 := by decide +kernel
      refine W.widen (k := 0) (n := 0) (Nat.le_of_ble_eq_true rfl) (Nat.le_of_ble_eq_true rfl) ?_
      exact dg_iret hx hb hr hlocks (by decide +kernel) hP hS ⟨rfl, (by decide +kernel), (by omega), trivial⟩ dX9_isDigit_17
set_option maxHeartbeats 8000000 in
set_option maxRecDepth 100000 in
theorem c_v_add (l : Launch) (g : Nat → ClassId) (D : va_G) (o : Nat) (S : dg_S) (a1 : Int32) (a2 : Int32) (a3 : Int32) (c0 : Int32) (f_c0 : S.1 210 3 = .int c0) (b_c0 : 0 ≤ (c0).toInt ∧ (c0).toInt ≤ 1600) (I : CX o S) (sz : Nat) : Met l yX9_add (bw yX9_add cX9_add 4 none) ({ frames := 1, cells := 0, slots := 0, locals := 32 } : Room) (dk_Pc g D (dg_w g shX o rfX S) sz [.ref (o + 210), .int a1, .int a2, .int a3]) (va_Qv (fun S' => CX o S' ∧ dg_sm shX [(32, 3)] [33, 34, 35] S S' ∧ (∃ y9 : Int32, S'.1 210 3 = .int y9 ∧ ((y9).toInt = (c0).toInt + 1)) ∧ (S'.2.1 211 = upd (S.2.1 211) (c0 : Int32).toNatClampNeg a1 ∧ S'.2.1 213 = upd (S.2.1 213) (c0 : Int32).toNatClampNeg a3) ∧ True) (dg_B g D shX o rfX) (dg_A o shX.length sz)) 0 0 (dg_A o shX.length sz) := by
  refine dg_met (cc := cX9_add) (maxL := 4) (ret := none) (dk_dq rfl) rfl (Nat.le_of_ble_eq_true rfl) ?_
  intro p e s m args below meth c A hAe harg hx hb hr hml hts hown hlocks hin hP K hS hA1 hA ST hsz ls hl
  rw [← hAe]
  have F : CallFix p m c cX9_add 4 s args (bw yX9_add cX9_add 4 none) RX9 := ⟨hx, hb, hml, hown, hts⟩
  have hl : lv_has ls 4 [(0, .ref (o + 210)), (1, .int a1), (2, .int a2), (3, .int a3)] := hl
  have M_0 : dg_sm shX [(32, 3)] [33, 34, 35] S S := dg_sm.rf
  refine lv_aload_n hx hb dX9_add_0 rfl (lv_at hl 0 rfl) ?_
  refine dg_get (C := RX9) (T := TX9) (N := 5) hx hb hts (fun w h => bw_mem (wU_X9 w h)) hown K hP sX_210 rfl 3 (dk_dq rfl) (hts _ (bw_mem wB_179)) (fun _ h9 => h9) (v := .int c0) f_c0 dX9_add_1 ?_
  refine lv_sipush (v := 1600) hx hb dX9_add_4 (by decide +kernel) ?_
  refine lv_icmp_gt (tgt := 50) hx hb dX9_add_7 (dk_dq rfl) (fun c => absurd c (fun z => absurd (dk_gtc (k := 1600) (by decide +kernel) z) (by omega))) (fun _ => ?_)
  refine lv_aload_n hx hb dX9_add_10 rfl (lv_at hl 0 rfl) ?_
  refine dg_get (C := RX9) (T := TX9) (N := 5) hx hb hts (fun w h => bw_mem (wU_X9 w h)) hown K hP sX_210 rfl 0 (dk_dq rfl) (hts _ (bw_mem wB_180)) (fun _ h9 => h9) (v := .ref (o + 211)) (show S.1 210 0 = .ref (o + 211) from dg_I.rel (d := 1) I sX_210 (by decide +kernel)) dX9_add_11 ?_
  refine lv_aload_n hx hb dX9_add_14 rfl (lv_at hl 0 rfl) ?_
  refine dg_get (C := RX9) (T := TX9) (N := 5) hx hb hts (fun w h => bw_mem (wU_X9 w h)) hown K hP sX_210 rfl 3 (dk_dq rfl) (hts _ (bw_mem wB_179)) (fun _ h9 => h9) (v := .int c0) f_c0 dX9_add_15 ?_
  refine lv_iload_n hx hb dX9_add_18 rfl (lv_at hl 1 rfl) ?_
  have hin_1 : vp_in c0 1601 := (dk_inv2 (by omega))
  refine dg_iast hx hb K hP hS hA1 sX_211 hin_1 dX9_add_19 (fun S_2 e_2 H locs hP hS => ?_)
  have I_2 := dg_I.uf0 I e_2 sX_211 (by decide +kernel)
  have M_2 := dg_sm.uf M_0 e_2 sX_211 (dk_dq rfl)
  refine lv_aload_n hx hb dX9_add_20 rfl (lv_at hl 0 rfl) ?_
  refine dg_get (C := RX9) (T := TX9) (N := 5) hx hb hts (fun w h => bw_mem (wU_X9 w h)) hown K hP sX_210 rfl 1 (dk_dq rfl) (hts _ (bw_mem wB_181)) (fun _ h9 => h9) (v := .ref (o + 212)) (show S_2.1 210 1 = .ref (o + 212) from dg_I.rel (d := 2) I_2 sX_210 (by decide +kernel)) dX9_add_21 ?_
  refine lv_aload_n hx hb dX9_add_24 rfl (lv_at hl 0 rfl) ?_
  refine dg_get (C := RX9) (T := TX9) (N := 5) hx hb hts (fun w h => bw_mem (wU_X9 w h)) hown K hP sX_210 rfl 3 (dk_dq rfl) (hts _ (bw_mem wB_179)) (fun _ h9 => h9) (v := .int c0) ((dg_uf_F e_2 210 3).trans f_c0) dX9_add_25 ?_
  refine lv_iload_n hx hb dX9_add_28 rfl (lv_at hl 2 rfl) ?_
  have hin_3 : vp_in c0 1601 := (dk_inv2 (by omega))
  refine dg_iast hx hb K hP hS hA1 sX_212 hin_3 dX9_add_29 (fun S_4 e_4 H locs hP hS => ?_)
  have I_4 := dg_I.uf0 I_2 e_4 sX_212 (by decide +kernel)
  have M_4 := dg_sm.uf M_2 e_4 sX_212 (dk_dq rfl)
  refine lv_aload_n hx hb dX9_add_30 rfl (lv_at hl 0 rfl) ?_
  refine dg_get (C := RX9) (T := TX9) (N := 5) hx hb hts (fun w h => bw_mem (wU_X9 w h)) hown K hP sX_210 rfl 2 (dk_dq rfl) (hts _ (bw_mem wB_182)) (fun _ h9 => h9) (v := .ref (o + 213)) (show S_4.1 210 2 = .ref (o + 213) from dg_I.rel (d := 3) I_4 sX_210 (by decide +kernel)) dX9_add_31 ?_
  refine lv_aload_n hx hb dX9_add_34 rfl (lv_at hl 0 rfl) ?_
  refine dg_get (C := RX9) (T := TX9) (N := 5) hx hb hts (fun w h => bw_mem (wU_X9 w h)) hown K hP sX_210 rfl 3 (dk_dq rfl) (hts _ (bw_mem wB_179)) (fun _ h9 => h9) (v := .int c0) (((dg_uf_F e_4 210 3).trans (dg_uf_F e_2 210 3)).trans f_c0) dX9_add_35 ?_
  refine lv_iload_n hx hb dX9_add_38 rfl (lv_at hl 3 rfl) ?_
  have hin_5 : vp_in c0 1601 := (dk_inv2 (by omega))
  refine dg_iast hx hb K hP hS hA1 sX_213 hin_5 dX9_add_39 (fun S_6 e_6 H locs hP hS => ?_)
  have I_6 := dg_I.uf0 I_4 e_6 sX_213 (by decide +kernel)
  have M_6 := dg_sm.uf M_4 e_6 sX_213 (dk_dq rfl)
  refine lv_aload_n hx hb dX9_add_40 rfl (lv_at hl 0 rfl) ?_
  refine lv_dup hx hb dX9_add_41 rfl ?_
  refine dg_get (C := RX9) (T := TX9) (N := 5) hx hb hts (fun w h => bw_mem (wU_X9 w h)) hown K hP sX_210 rfl 3 (dk_dq rfl) (hts _ (bw_mem wB_179)) (fun _ h9 => h9) (v := .int c0) (((dg_uf_F e_6 210 3).trans ((dg_uf_F e_4 210 3).trans (dg_uf_F e_2 210 3))).trans f_c0) dX9_add_42 ?_
  refine lv_iconst (v := 1) hx hb dX9_add_45 (by decide +kernel) ?_
  refine lv_iadd hx hb dX9_add_46 ?_
  refine lv_topi (fun x_7 ex_7 => ?_)
  have jx_7 : (x_7).toInt = (c0).toInt + 1 := by rw [ex_7]; exact dk_addT2 rfl (by decide +kernel) (by omega)
  refine dg_put (ci := 9) (v := .int x_7) (ty := tyX9 3) (C := RX9) (T := TX9) (N := 5) hx hb hts (fun w h => bw_mem (wU_X9 w h)) tyX9 tyX9_ok nmX9 hown K hP hS hA1 sX_210 rfl 3 (dk_dq rfl) (hts _ (bw_mem wB_179)) (fun _ h9 => h9) rfl (by decide +kernel) rfl rfl dX9_add_47 (fun S_8 e_8 H locs hP hS => ?_)
  have I_8 := dg_I.uFi (lo := 0) (hi := 1601) I_6 e_8 sX_210 (by decide +kernel) (show 0 ≤ (x_7).toInt ∧ (x_7).toInt ≤ 1601 from (by omega))
  have M_8 := dg_sm.uF M_6 e_8 sX_210 (dk_dq rfl)
  refine W.widen (k := 0) (n := 0) (Nat.le_of_ble_eq_true rfl) (Nat.le_of_ble_eq_true rfl) ?_
  exact dg_vret hx hb hr hlocks hP hS ⟨I_8, M_8, ⟨x_7, (dg_uF_at e_8), (by omega)⟩, ⟨(by rw [((dg_uF_f e_8 211).trans ((dg_uf_ne e_6 (dk_dq rfl)).trans (dg_uf_ne e_4 (dk_dq rfl)))), dg_uf_at e_2]), (by rw [(dg_uF_f e_8 213), dg_uf_at e_6, ((dg_uf_ne e_4 (dk_dq rfl)).trans (dg_uf_ne e_2 (dk_dq rfl)))])⟩, trivial⟩ dX9_add_50
set_option maxHeartbeats 8000000 in
set_option maxRecDepth 100000 in
theorem c_v_addIfWrong (l : Launch) (g : Nat → ClassId) (D : va_G) (o : Nat) (S : dg_S) (a1 : Int32) (b_a1 : 0 ≤ (a1).toInt ∧ (a1).toInt ≤ 1600) (a2 : Int32) (b_a2 : 0 ≤ (a2).toInt ∧ (a2).toInt ≤ 1600) (a3 : Int32) (b_a3 : 0 ≤ (a3).toInt ∧ (a3).toInt ≤ 10) (c0 : Int32) (f_c0 : S.1 210 3 = .int c0) (b_c0 : 0 ≤ (c0).toInt ∧ (c0).toInt ≤ 1600) (pe : Int32) (f_pe : S.1 210 4 = .int pe) (b_pe : (-1) ≤ (pe).toInt ∧ (pe).toInt ≤ 1600) (I : CX o S) (sz : Nat) : Met l yX9_addIfWrong (bw yX9_addIfWrong cX9_addIfWrong 4 (some .boolean)) ({ frames := 2, cells := 0, slots := 0, locals := 55 } : Room) (dk_Pc g D (dg_w g shX o rfX S) sz [.ref (o + 210), .int a1, .int a2, .int a3]) (va_Qi (fun (r : Int32) S' => CX o S' ∧ dg_sm shX [(32, 3)] [33, 34, 35] S S' ∧ (0 ≤ (r).toInt ∧ (r).toInt ≤ 1) ∧ (∃ y9 : Int32, S'.1 210 3 = .int y9 ∧ ((y9).toInt = (c0).toInt + (r).toInt)) ∧ (((r).toInt = 1 → ∃ v9 : Int32, ((a3).toInt < (a2).toInt - (a1).toInt → v9.toInt = (a1).toInt + (a3).toInt) ∧ (¬ (a3).toInt < (a2).toInt - (a1).toInt → v9.toInt = (a1).toInt) ∧ S'.2.1 211 = upd (S.2.1 211) (c0 : Int32).toNatClampNeg 5 ∧ S'.2.1 213 = upd (S.2.1 213) (c0 : Int32).toNatClampNeg v9 ∧ ((a3).toInt < (a2).toInt - (a1).toInt ∨ (a1).toInt = (pe).toInt)) ∧ ((r).toInt = 0 → S'.2.1 211 = S.2.1 211 ∧ S'.2.1 213 = S.2.1 213 ∧ ¬ ((a3).toInt < (a2).toInt - (a1).toInt ∨ (a1).toInt = (pe).toInt))) ∧ True) (dg_B g D shX o rfX) (dg_A o shX.length sz)) 0 0 (dg_A o shX.length sz) := by
  refine dg_met (cc := cX9_addIfWrong) (maxL := 4) (ret := (some .boolean)) (dk_dq rfl) rfl (Nat.le_of_ble_eq_true rfl) ?_
  intro p e s m args below meth c A hAe harg hx hb hr hml hts hown hlocks hin hP K hS hA1 hA ST hsz ls hl
  rw [← hAe]
  have F : CallFix p m c cX9_addIfWrong 4 s args (bw yX9_addIfWrong cX9_addIfWrong 4 (some .boolean)) RX9 := ⟨hx, hb, hml, hown, hts⟩
  have hl : lv_has ls 4 [(0, .ref (o + 210)), (1, .int a1), (2, .int a2), (3, .int a3)] := hl
  have M_0 : dg_sm shX [(32, 3)] [33, 34, 35] S S := dg_sm.rf
  refine lv_iload_n hx hb dX9_addIfWrong_0 rfl (lv_at hl 2 rfl) ?_
  refine lv_iload_n hx hb dX9_addIfWrong_1 rfl (lv_at hl 1 rfl) ?_
  refine lv_isub hx hb dX9_addIfWrong_2 ?_
  refine lv_topi (fun x_1 ex_1 => ?_)
  have jx_1 : (x_1).toInt = (a2).toInt - (a1).toInt := by rw [ex_1]; exact dk_subT2 rfl rfl (by omega)
  refine lv_iload_n hx hb dX9_addIfWrong_3 rfl (lv_at hl 3 rfl) ?_
  refine lv_icmp_le (tgt := 18) hx hb dX9_addIfWrong_4 (dk_dq rfl) (fun c_2 => ?_) (fun c_2 => ?_)
  · as_aux_lemma =>
      have jc_2 := dk_lec (k := (a3).toInt) rfl c_2
      refine lv_iload_n hx hb dX9_addIfWrong_18 rfl (lv_at hl 1 rfl) ?_
      refine lv_aload_n hx hb dX9_addIfWrong_19 rfl (lv_at hl 0 rfl) ?_
      refine dg_get (C := RX9) (T := TX9) (N := 5) hx hb hts (fun w h => bw_mem (wU_X9 w h)) hown K hP sX_210 rfl 4 (dk_dq rfl) (hts _ (bw_mem wB_183)) (fun _ h9 => h9) (v := .int pe) f_pe dX9_addIfWrong_20 ?_
      refine lv_icmp_ne (tgt := 35) hx hb dX9_addIfWrong_23 (dk_dq rfl) (fun c_3 => ?_) (fun c_3 => ?_)
      · have jc_3 := dk_neqc (k := (pe).toInt) rfl c_3
        refine lv_iconst (v := 0) hx hb dX9_addIfWrong_35 (by decide +kernel) ?_
        have hz_4 : (0 : Int32).toInt = 0 := by decide +kernel
        have hz_5 : (0 : Int32).toInt = 0 := by decide +kernel
        have hz_6 : (0 : Int32).toInt = 0 := by decide +kernel
        refine W.widen (k := 0) (n := 0) (Nat.le_of_ble_eq_true rfl) (Nat.le_of_ble_eq_true rfl) ?_
        exact dg_iret hx hb hr hlocks (by decide +kernel) hP hS ⟨I, M_0, (by decide +kernel), ⟨c0, f_c0, (by omega)⟩, ⟨fun q9 => absurd q9 (by omega), fun _ => ⟨rfl, rfl, by omega⟩⟩, trivial⟩ dX9_addIfWrong_36
      · as_aux_lemma =>
          have jc_3 := dk_eqc (k := (pe).toInt) rfl c_3
          refine lv_aload_n hx hb dX9_addIfWrong_26 rfl (lv_at hl 0 rfl) ?_
          refine lv_iconst (v := 5) hx hb dX9_addIfWrong_27 (by decide +kernel) ?_
          refine lv_iload_n hx hb dX9_addIfWrong_28 rfl (lv_at hl 1 rfl) ?_
          refine lv_iload_n hx hb dX9_addIfWrong_29 rfl (lv_at hl 1 rfl) ?_
          refine dg_callv hS hA1 hA (va_runV (As := [.int 5, .int a1, .int a1]) (rest := []) F (c_v_add l g D o S 5 a1 a1 c0 f_c0 (by omega) I s.heap.size) (cwV 3 hts (bw_V wB_185 wB_186 wB_187 wB_188 wB_184) rfl rfl rfl (by decide +kernel) ⟨Nat.le_of_ble_eq_true rfl, Nat.le_of_ble_eq_true rfl⟩) (dg_preV sX_210 rfl K ST hP hS hA1 hA) rfl rfl hl.1 rfl (lv_room (Nat.le_of_ble_eq_true rfl)) dX9_addIfWrong_30 ⟨Nat.le_of_ble_eq_true rfl, Nat.le_of_ble_eq_true rfl⟩) (fun S_7 hw_7 H locs hP hS => ?_)
          obtain ⟨I_7, m_7, w_7_0, w_7_1, -⟩ := hw_7
          have M_7 := dg_sm.tr M_0 m_7 (dk_dq rfl) (dk_dq rfl)
          have hz_8 : (5 : Int32).toInt = 5 := by decide +kernel
          obtain ⟨y_9, f_y_9, w_7_0⟩ := w_7_0
          have w_7_0 : (y_9).toInt = (c0).toInt + 1 := w_7_0
          have b_y_9 : 0 ≤ (y_9).toInt ∧ (y_9).toInt ≤ 1601 := dg_I.intb (lo := 0) (hi := 1601) I_7 sX_210 (by decide +kernel) f_y_9
          replace w_7_1 : S_7.2.1 211 = upd (S.2.1 211) (c0 : Int32).toNatClampNeg (5 : Int32) ∧ S_7.2.1 213 = upd (S.2.1 213) (c0 : Int32).toNatClampNeg a1 := w_7_1
          refine lv_iconst (v := 1) hx hb dX9_addIfWrong_33 (by decide +kernel) ?_
          have hz_10 : (1 : Int32).toInt = 1 := by decide +kernel
          have hz_11 : (1 : Int32).toInt = 1 := by decide +kernel
          have hz_12 : (1 : Int32).toInt = 1 := by decide +kernel
          refine W.widen (k := 0) (n := 0) (Nat.le_of_ble_eq_true rfl) (Nat.le_of_ble_eq_true rfl) ?_
          exact dg_iret hx hb hr hlocks (by decide +kernel) hP hS ⟨I_7, M_7, (by decide +kernel), ⟨y_9, f_y_9, (by omega)⟩, ⟨fun _ => ⟨a1, by omega, by omega, (by rw [w_7_1.1]), (by rw [w_7_1.2]), by omega⟩, fun q9 => absurd q9 (by omega)⟩, trivial⟩ dX9_addIfWrong_34
  · as_aux_lemma =>
      have jc_2 := dk_nlec (k := (a3).toInt) rfl c_2
      refine lv_aload_n hx hb dX9_addIfWrong_7 rfl (lv_at hl 0 rfl) ?_
      refine lv_iconst (v := 5) hx hb dX9_addIfWrong_8 (by decide +kernel) ?_
      refine lv_iload_n hx hb dX9_addIfWrong_9 rfl (lv_at hl 1 rfl) ?_
      refine lv_iload_n hx hb dX9_addIfWrong_10 rfl (lv_at hl 1 rfl) ?_
      refine lv_iload_n hx hb dX9_addIfWrong_11 rfl (lv_at hl 3 rfl) ?_
      refine lv_iadd hx hb dX9_addIfWrong_12 ?_
      refine lv_topi (fun x_13 ex_13 => ?_)
      have jx_13 : (x_13).toInt = (a1).toInt + (a3).toInt := by rw [ex_13]; exact dk_addT2 rfl rfl (by omega)
      refine dg_callv hS hA1 hA (va_runV (As := [.int 5, .int a1, .int x_13]) (rest := []) F (c_v_add l g D o S 5 a1 x_13 c0 f_c0 (by omega) I s.heap.size) (cwV 3 hts (bw_V wB_185 wB_186 wB_187 wB_188 wB_184) rfl rfl rfl (by decide +kernel) ⟨Nat.le_of_ble_eq_true rfl, Nat.le_of_ble_eq_true rfl⟩) (dg_preV sX_210 rfl K ST hP hS hA1 hA) rfl rfl hl.1 rfl (lv_room (Nat.le_of_ble_eq_true rfl)) dX9_addIfWrong_13 ⟨Nat.le_of_ble_eq_true rfl, Nat.le_of_ble_eq_true rfl⟩) (fun S_14 hw_14 H locs hP hS => ?_)
      obtain ⟨I_14, m_14, w_14_0, w_14_1, -⟩ := hw_14
      have M_14 := dg_sm.tr M_0 m_14 (dk_dq rfl) (dk_dq rfl)
      have hz_15 : (5 : Int32).toInt = 5 := by decide +kernel
      obtain ⟨y_16, f_y_16, w_14_0⟩ := w_14_0
      have w_14_0 : (y_16).toInt = (c0).toInt + 1 := w_14_0
      have b_y_16 : 0 ≤ (y_16).toInt ∧ (y_16).toInt ≤ 1601 := dg_I.intb (lo := 0) (hi := 1601) I_14 sX_210 (by decide +kernel) f_y_16
      replace w_14_1 : S_14.2.1 211 = upd (S.2.1 211) (c0 : Int32).toNatClampNeg (5 : Int32) ∧ S_14.2.1 213 = upd (S.2.1 213) (c0 : Int32).toNatClampNeg x_13 := w_14_1
      refine lv_iconst (v := 1) hx hb dX9_addIfWrong_16 (by decide +kernel) ?_
      have hz_17 : (1 : Int32).toInt = 1 := by decide +kernel
      have hz_18 : (1 : Int32).toInt = 1 := by decide +kernel
      have hz_19 : (1 : Int32).toInt = 1 := by decide +kernel
      refine W.widen (k := 0) (n := 0) (Nat.le_of_ble_eq_true rfl) (Nat.le_of_ble_eq_true rfl) ?_
      exact dg_iret hx hb hr hlocks (by decide +kernel) hP hS ⟨I_14, M_14, (by decide +kernel), ⟨y_16, f_y_16, (by omega)⟩, ⟨fun _ => ⟨x_13, by omega, by omega, (by rw [w_14_1.1]), (by rw [w_14_1.2]), by omega⟩, fun q9 => absurd q9 (by omega)⟩, trivial⟩ dX9_addIfWrong_17
set_option maxHeartbeats 8000000 in
set_option maxRecDepth 100000 in
theorem c_v_lettersOf (l : Launch) (g : Nat → ClassId) (D : va_G) (o : Nat) (S : dg_S) (a1 : Int32) (b_a1 : 0 ≤ (a1).toInt ∧ (a1).toInt ≤ 1600) (a2 : Int32) (b_a2 : 0 ≤ (a2).toInt ∧ (a2).toInt ≤ 1600) (tb : Nat → Int32) (htb : S.2.1 2 = tb) (hlt : ∀ j9 : Nat, (a1 : Int32).toNatClampNeg ≤ j9 → j9 < (a2 : Int32).toNatClampNeg → t_l (tb j9) = true) (I : CX o S) (sz : Nat) : Met l yX9_lettersOf (bw yX9_lettersOf cX9_lettersOf 6 (some .int)) ({ frames := 1, cells := 0, slots := 0, locals := 32 } : Room) (dk_Pc g D (dg_w g shX o rfX S) sz [.ref (o + 1), .int a1, .int a2]) (va_Qi (fun (r : Int32) S' => S' = S ∧ (0 ≤ (r).toInt ∧ (r).toInt ≤ 387420488) ∧ ((r).toInt = t_let tb (a1 : Int32).toNatClampNeg (a2 : Int32).toNatClampNeg 6) ∧ True) (dg_B g D shX o rfX) (dg_A o shX.length sz)) 0 0 (dg_A o shX.length sz) := by
  refine dg_met (cc := cX9_lettersOf) (maxL := 6) (ret := (some .int)) (dk_dq rfl) rfl (Nat.le_of_ble_eq_true rfl) ?_
  intro p e s m args below meth c A hAe harg hx hb hr hml hts hown hlocks hin hP K hS hA1 hA ST hsz ls hl
  rw [← hAe]
  have F : CallFix p m c cX9_lettersOf 6 s args (bw yX9_lettersOf cX9_lettersOf 6 (some .int)) RX9 := ⟨hx, hb, hml, hown, hts⟩
  have hl : lv_has ls 6 [(0, .ref (o + 1)), (1, .int a1), (2, .int a2)] := hl
  have M_0 : dg_sm shX [] [] S S := dg_sm.rf
  refine lv_iconst (v := 0) hx hb dX9_lettersOf_0 (by decide +kernel) ?_
  refine lv_istore_n (lv' := [(3, .int 0), (0, .ref (o + 1)), (1, .int a1), (2, .int a2)]) hx hb dX9_lettersOf_1 rfl hl (dk_dq rfl) rfl (fun ls hl => ?_)
  refine lv_iconst (v := 0) hx hb dX9_lettersOf_2 (by decide +kernel) ?_
  refine lv_istore (lv' := [(4, .int 0), (3, .int 0), (0, .ref (o + 1)), (1, .int a1), (2, .int a2)]) hx hb dX9_lettersOf_3 hl (dk_dq rfl) rfl (fun ls hl => ?_)
  have L_23 : ∀ (n : Nat) (x_21 : Int32) (x_22 : Int32), (0 ≤ (x_21).toInt ∧ (x_21).toInt ≤ 6) → (0 ≤ (x_22).toInt ∧ (x_22).toInt ≤ 387420488) → ((x_22).toInt = t_let tb (a1 : Int32).toNatClampNeg (a2 : Int32).toNatClampNeg (x_21 : Int32).toNatClampNeg) → ((7 - (x_21).toInt).toNat < n) → ∀ (H : Heap) (locs : List Loc), va_P D vwCl (dg_w g shX o rfX S) H → va_S A s.heap H locs → ∀ ls : Array Slot, lv_has ls 6 [(4, .int x_21), (3, .int x_22), (0, .ref (o + 1)), (1, .int a1), (2, .int a2)] → W p l e ({ frames := 1, cells := 0, slots := 0, locals := 32 } : Room) s m args below meth c H locs 0 0 (MQ below (va_Qi (fun (r : Int32) S' => S' = S ∧ (0 ≤ (r).toInt ∧ (r).toInt ≤ 387420488) ∧ ((r).toInt = t_let tb (a1 : Int32).toNatClampNeg (a2 : Int32).toNatClampNeg 6) ∧ True) (dg_B g D shX o rfX) A) args s 0 0 A) (F0 m 5 ls []) := by
    as_aux_lemma =>
      intro n
      induction n with
      | zero =>
        intro x_21 x_22 b_x_21 b_x_22 rel_0 hmu H locs hP hS ls hl
        omega
      | succ n ih =>
        as_aux_lemma =>
          intro x_21 x_22 b_x_21 b_x_22 rel_0 hmu H locs hP hS ls hl
          refine lv_iload hx hb dX9_lettersOf_5 (lv_at hl 0 rfl) ?_
          refine lv_bipush (v := 6) hx hb dX9_lettersOf_7 (by decide +kernel) ?_
          refine lv_icmp_ge (tgt := 54) hx hb dX9_lettersOf_9 (dk_dq rfl) (fun c_24 => ?_) (fun c_24 => ?_)
          · have jc_24 := dk_gec (k := 6) (by decide +kernel) c_24
            refine lv_iload_n hx hb dX9_lettersOf_54 rfl (lv_at hl 1 rfl) ?_
            refine W.widen (k := 0) (n := 0) (Nat.le_of_ble_eq_true rfl) (Nat.le_of_ble_eq_true rfl) ?_
            exact dg_iret hx hb hr hlocks rfl hP hS ⟨rfl, (by omega), (t_let_end rel_0 (by omega)), trivial⟩ dX9_lettersOf_55
          · as_aux_lemma =>
              have jc_24 := dk_ngec (k := 6) (by decide +kernel) c_24
              have hb9 := t_let_5 (k := x_21) hlt (by omega) (by omega)
              have hc9 : 0 ≤ (x_22).toInt ∧ (x_22).toInt ≤ 14348906 := by omega
              refine lv_iload_n hx hb dX9_lettersOf_12 rfl (lv_at hl 3 rfl) ?_
              refine lv_iload hx hb dX9_lettersOf_13 (lv_at hl 0 rfl) ?_
              refine lv_iadd hx hb dX9_lettersOf_15 ?_
              refine lv_topi (fun x_25 ex_25 => ?_)
              have jx_25 : (x_25).toInt = (a1).toInt + (x_21).toInt := by rw [ex_25]; exact dk_addT2 rfl rfl (by omega)
              refine lv_iload_n hx hb dX9_lettersOf_16 rfl (lv_at hl 4 rfl) ?_
              refine lv_icmp_ge (tgt := 37) hx hb dX9_lettersOf_17 (dk_dq rfl) (fun c_26 => ?_) (fun c_26 => ?_)
              · as_aux_lemma =>
                  have jc_26 := dk_gec (k := (a2).toInt) rfl c_26
                  refine lv_iconst (v := 0) hx hb dX9_lettersOf_37 (by decide +kernel) ?_
                  refine lv_istore (lv' := [(5, .int 0), (4, .int x_21), (3, .int x_22), (0, .ref (o + 1)), (1, .int a1), (2, .int a2)]) hx hb dX9_lettersOf_38 hl (dk_dq rfl) rfl (fun ls hl => ?_)
                  refine lv_bipush (v := 27) hx hb dX9_lettersOf_40 (by decide +kernel) ?_
                  refine lv_iload_n hx hb dX9_lettersOf_42 rfl (lv_at hl 2 rfl) ?_
                  refine lv_imul hx hb dX9_lettersOf_43 ?_
                  refine lv_topi (fun x_27 ex_27 => ?_)
                  have jx_27 : (x_27).toInt = 27 * (x_22).toInt := by rw [ex_27]; exact dk_mulT2 (by decide +kernel) rfl (by omega)
                  refine lv_iload hx hb dX9_lettersOf_44 (lv_at hl 0 rfl) ?_
                  refine lv_iadd hx hb dX9_lettersOf_46 ?_
                  refine dk_top (y := x_27) (by simp) ?_
                  refine lv_istore_n (lv' := [(3, .int x_27), (5, .int 0), (4, .int x_21), (0, .ref (o + 1)), (1, .int a1), (2, .int a2)]) hx hb dX9_lettersOf_47 rfl hl (dk_dq rfl) rfl (fun ls hl => ?_)
                  obtain ⟨x_28, ex_28⟩ : ∃ z, z = x_21 + 1 := ⟨_, rfl⟩
                  have jx_28 : (x_28).toInt = (x_21).toInt + 1 := by rw [ex_28]; exact dk_addT2 rfl (by decide +kernel) (by omega)
                  refine lv_iinc (v := x_28) (lv' := [(4, .int x_28), (3, .int x_27), (5, .int 0), (0, .ref (o + 1)), (1, .int a1), (2, .int a2)]) hx hb dX9_lettersOf_48 hl (k := 2) rfl (by rw [ex_28]; rfl) (dk_dq rfl) rfl (fun ls hl => ?_)
                  refine lv_goto (tgt := 5) hx hb dX9_lettersOf_51 (dk_dq rfl) ?_
                  exact ih x_28 x_27 (by omega) (by omega) (t_let_go0 rel_0 (by omega) (by omega) (by omega) (by omega)) (by first | exact mu_lt hmu (by omega) (by omega) | omega) _ _ hP hS _ (lv_sub hl [0, 1, 3, 4, 5] rfl)
              · as_aux_lemma =>
                  have jc_26 := dk_ngec (k := (a2).toInt) rfl c_26
                  refine lv_aload_n hx hb dX9_lettersOf_20 rfl (lv_at hl 2 rfl) ?_
                  refine dg_get (C := RX8) (T := TX8) (N := 2) hx hb hts (fun w h => bw_mem (wU_X8 w h)) hown K hP sX_1 rfl 0 (dk_dq rfl) (hts _ (bw_mem wB_189)) (fun _ h9 => h9) (v := .ref (o + 2)) (show S.1 1 0 = .ref (o + 2) from dg_I.rel (d := 1) I sX_1 (by decide +kernel)) dX9_lettersOf_21 ?_
                  refine lv_iload_n hx hb dX9_lettersOf_24 rfl (lv_at hl 3 rfl) ?_
                  refine lv_iload hx hb dX9_lettersOf_25 (lv_at hl 0 rfl) ?_
                  refine lv_iadd hx hb dX9_lettersOf_27 ?_
                  refine lv_topi (fun x_29 ex_29 => ?_)
                  have jx_29 : (x_29).toInt = (a1).toInt + (x_21).toInt := by rw [ex_29]; exact dk_addT2 rfl rfl (by omega)
                  have hin_30 : vp_in x_29 1600 := (dk_inv2 (by omega))
                  refine dg_iald hx hb K hP sX_2 hin_30 dX9_lettersOf_28 (fun x_31 ex_31 => ?_)
                  have b_x_31 := dk_all_at (dg_I.row (lo := 0) (hi := 255) I sX_2 (by decide +kernel)) hin_30 ex_31
                  have kx_31 : tb (x_29 : Int32).toNatClampNeg = x_31 := by rw [ex_31, htb]
                  have qx_31 := t_l_iff.mp (kx_31 ▸ hlt (x_29 : Int32).toNatClampNeg (by have h8 := dk_clN x_29; have h9 := dk_clN a1; omega) (by have h8 := dk_clN x_29; have h9 := dk_clN a2; omega))
                  refine lv_bipush (v := 97) hx hb dX9_lettersOf_29 (by decide +kernel) ?_
                  refine lv_isub hx hb dX9_lettersOf_31 ?_
                  refine lv_topi (fun x_32 ex_32 => ?_)
                  have jx_32 : (x_32).toInt = (x_31).toInt - 97 := by rw [ex_32]; exact dk_subT2 rfl (by decide +kernel) (by omega)
                  refine lv_iconst (v := 1) hx hb dX9_lettersOf_32 (by decide +kernel) ?_
                  refine lv_iadd hx hb dX9_lettersOf_33 ?_
                  refine lv_topi (fun x_33 ex_33 => ?_)
                  have jx_33 : (x_33).toInt = (x_32).toInt + 1 := by rw [ex_33]; exact dk_addT2 rfl (by decide +kernel) (by omega)
                  refine lv_goto (tgt := 38) hx hb dX9_lettersOf_34 (dk_dq rfl) ?_
                  refine lv_istore (lv' := [(5, .int x_33), (4, .int x_21), (3, .int x_22), (0, .ref (o + 1)), (1, .int a1), (2, .int a2)]) hx hb dX9_lettersOf_38 hl (dk_dq rfl) rfl (fun ls hl => ?_)
                  refine lv_bipush (v := 27) hx hb dX9_lettersOf_40 (by decide +kernel) ?_
                  refine lv_iload_n hx hb dX9_lettersOf_42 rfl (lv_at hl 2 rfl) ?_
                  refine lv_imul hx hb dX9_lettersOf_43 ?_
                  refine lv_topi (fun x_34 ex_34 => ?_)
                  have jx_34 : (x_34).toInt = 27 * (x_22).toInt := by rw [ex_34]; exact dk_mulT2 (by decide +kernel) rfl (by omega)
                  refine lv_iload hx hb dX9_lettersOf_44 (lv_at hl 0 rfl) ?_
                  refine lv_iadd hx hb dX9_lettersOf_46 ?_
                  refine lv_topi (fun x_35 ex_35 => ?_)
                  have jx_35 : (x_35).toInt = (x_34).toInt + (x_33).toInt := by rw [ex_35]; exact dk_addT2 rfl rfl (by omega)
                  refine lv_istore_n (lv' := [(3, .int x_35), (5, .int x_33), (4, .int x_21), (0, .ref (o + 1)), (1, .int a1), (2, .int a2)]) hx hb dX9_lettersOf_47 rfl hl (dk_dq rfl) rfl (fun ls hl => ?_)
                  obtain ⟨x_36, ex_36⟩ : ∃ z, z = x_21 + 1 := ⟨_, rfl⟩
                  have jx_36 : (x_36).toInt = (x_21).toInt + 1 := by rw [ex_36]; exact dk_addT2 rfl (by decide +kernel) (by omega)
                  refine lv_iinc (v := x_36) (lv' := [(4, .int x_36), (3, .int x_35), (5, .int x_33), (0, .ref (o + 1)), (1, .int a1), (2, .int a2)]) hx hb dX9_lettersOf_48 hl (k := 2) rfl (by rw [ex_36]; rfl) (dk_dq rfl) rfl (fun ls hl => ?_)
                  refine lv_goto (tgt := 5) hx hb dX9_lettersOf_51 (dk_dq rfl) ?_
                  exact ih x_36 x_35 (by omega) (by omega) (t_let_go1 rel_0 kx_31 (by omega) (by omega) (by omega) (by omega) (by omega)) (by first | exact mu_lt hmu (by omega) (by omega) | omega) _ _ hP hS _ (lv_sub hl [0, 1, 3, 4, 5] rfl)
  have hz_37 : (0 : Int32).toInt = 0 := by decide +kernel
  have hz_38 : (0 : Int32).toInt = 0 := by decide +kernel
  have hz_39 : (0 : Int32).toInt = 0 := by decide +kernel
  have hz_40 : (0 : Int32).toInt = 0 := by decide +kernel
  have hz_41 : (0 : Int32).toInt = 0 := by decide +kernel
  have hz_42 : (0 : Int32).toInt = 0 := by decide +kernel
  exact L_23 ((7 - ((0 : Int32)).toInt).toNat + 1) 0 0 (by decide +kernel) (by decide +kernel) (t_let_z (by decide +kernel) (by decide +kernel)) (by first | exact mu_lt hmu (by omega) (by omega) | omega) _ _ hP hS _ (lv_sub hl [0, 1, 2, 3, 4] rfl)
set_option maxHeartbeats 8000000 in
set_option maxRecDepth 100000 in
theorem c_v_ownWord (l : Launch) (g : Nat → ClassId) (D : va_G) (o : Nat) (S : dg_S) (a1 : Int32) (b_a1 : 0 ≤ (a1).toInt ∧ (a1).toInt ≤ 1600) (a2 : Int32) (b_a2 : 0 ≤ (a2).toInt ∧ (a2).toInt ≤ 1600) (tb : Nat → Int32) (htb : S.2.1 2 = tb) (I : CX o S) (sz : Nat) : Met l yX9_ownWord (bw yX9_ownWord cX9_ownWord 7 (some .int)) ({ frames := 6, cells := 0, slots := 0, locals := 300 } : Room) (dk_Pc g D (dg_w g shX o rfX S) sz [.ref (o + 1), .int a1, .int a2]) (va_Qi (fun (r : Int32) S' => S' = S ∧ ((-1) ≤ (r).toInt ∧ (r).toInt ≤ 26) ∧ ((r).toInt = t_own tb (a1 : Int32).toNatClampNeg (a2 : Int32).toNatClampNeg) ∧ True) (dg_B g D shX o rfX) (dg_A o shX.length sz)) 0 0 (dg_A o shX.length sz) := by
  refine dg_met (cc := cX9_ownWord) (maxL := 7) (ret := (some .int)) (dk_dq rfl) rfl (Nat.le_of_ble_eq_true rfl) ?_
  intro p e s m args below meth c A hAe harg hx hb hr hml hts hown hlocks hin hP K hS hA1 hA ST hsz ls hl
  rw [← hAe]
  have F : CallFix p m c cX9_ownWord 7 s args (bw yX9_ownWord cX9_ownWord 7 (some .int)) RX9 := ⟨hx, hb, hml, hown, hts⟩
  have hl : lv_has ls 7 [(0, .ref (o + 1)), (1, .int a1), (2, .int a2)] := hl
  have M_0 : dg_sm shX [] [] S S := dg_sm.rf
  refine lv_iconst (v := 0) hx hb dX9_ownWord_0 (by decide +kernel) ?_
  refine lv_istore_n (lv' := [(3, .int 0), (0, .ref (o + 1)), (1, .int a1), (2, .int a2)]) hx hb dX9_ownWord_1 rfl hl (dk_dq rfl) rfl (fun ls hl => ?_)
  have L_137 : ∀ (n : Nat) (x_136 : Int32), (0 ≤ (x_136).toInt ∧ (x_136).toInt ≤ 27) → (∀ j9 : Nat, j9 < (x_136 : Int32).toNatClampNeg → t_mt tb (a1 : Int32).toNatClampNeg (a2 : Int32).toNatClampNeg j9 = false) → ((28 - (x_136).toInt).toNat < n) → ∀ (H : Heap) (locs : List Loc), va_P D vwCl (dg_w g shX o rfX S) H → va_S A s.heap H locs → ∀ ls : Array Slot, lv_has ls 7 [(3, .int x_136), (0, .ref (o + 1)), (1, .int a1), (2, .int a2)] → W p l e ({ frames := 6, cells := 0, slots := 0, locals := 300 } : Room) s m args below meth c H locs 0 0 (MQ below (va_Qi (fun (r : Int32) S' => S' = S ∧ ((-1) ≤ (r).toInt ∧ (r).toInt ≤ 26) ∧ ((r).toInt = t_own tb (a1 : Int32).toNatClampNeg (a2 : Int32).toNatClampNeg) ∧ True) (dg_B g D shX o rfX) A) args s 0 0 A) (F0 m 2 ls []) := by
    as_aux_lemma =>
      intro n
      induction n with
      | zero =>
        intro x_136 b_x_136 rel_0 hmu H locs hP hS ls hl
        omega
      | succ n ih =>
        as_aux_lemma =>
          intro x_136 b_x_136 rel_0 hmu H locs hP hS ls hl
          refine lv_iload_n hx hb dX9_ownWord_2 rfl (lv_at hl 0 rfl) ?_
          refine lv_bipush (v := 27) hx hb dX9_ownWord_3 (by decide +kernel) ?_
          refine lv_icmp_ge (tgt := 86) hx hb dX9_ownWord_5 (dk_dq rfl) (fun c_138 => ?_) (fun c_138 => ?_)
          · have jc_138 := dk_gec (k := 27) (by decide +kernel) c_138
            refine lv_iconst (v := (-1)) hx hb dX9_ownWord_86 (by decide +kernel) ?_
            have hz_139 : (-1 : Int32).toInt = (-1) := by decide +kernel
            have hz_140 : (-1 : Int32).toInt = (-1) := by decide +kernel
            refine W.widen (k := 0) (n := 0) (Nat.le_of_ble_eq_true rfl) (Nat.le_of_ble_eq_true rfl) ?_
            exact dg_iret hx hb hr hlocks rfl hP hS ⟨rfl, (by decide +kernel), (t_own_none rel_0 (by omega) (by decide +kernel)), trivial⟩ dX9_ownWord_87
          · as_aux_lemma =>
              have jc_138 := dk_ngec (k := 27) (by decide +kernel) c_138
              have ro9 := rel_0
              refine lv_iconst (v := 0) hx hb dX9_ownWord_8 (by decide +kernel) ?_
              refine lv_istore (lv' := [(4, .int 0), (3, .int x_136), (0, .ref (o + 1)), (1, .int a1), (2, .int a2)]) hx hb dX9_ownWord_9 hl (dk_dq rfl) rfl (fun ls hl => ?_)
              refine lv_iconst (v := 0) hx hb dX9_ownWord_11 (by decide +kernel) ?_
              refine lv_istore (lv' := [(5, .int 0), (4, .int 0), (3, .int x_136), (0, .ref (o + 1)), (1, .int a1), (2, .int a2)]) hx hb dX9_ownWord_12 hl (dk_dq rfl) rfl (fun ls hl => ?_)
              have J_210 : ∀ (x_206 : Int32) (x_207 : Int32), (6 ≤ (x_206).toInt ∧ (x_206).toInt ≤ 6) → (0 ≤ (x_207).toInt ∧ (x_207).toInt ≤ 6) → ((x_207).toInt = ((t_sm tb (a1 : Int32).toNatClampNeg (a2 : Int32).toNatClampNeg (x_136 : Int32).toNatClampNeg 6 : Nat) : Int)) → ∀ (H : Heap) (locs : List Loc), va_P D vwCl (dg_w g shX o rfX S) H → va_S A s.heap H locs → ∀ ls : Array Slot, lv_has ls 7 [(5, .int x_206), (4, .int x_207), (3, .int x_136), (0, .ref (o + 1)), (1, .int a1), (2, .int a2)] → W p l e ({ frames := 6, cells := 0, slots := 0, locals := 300 } : Room) s m args below meth c H locs 0 0 (MQ below (va_Qi (fun (r : Int32) S' => S' = S ∧ ((-1) ≤ (r).toInt ∧ (r).toInt ≤ 26) ∧ ((r).toInt = t_own tb (a1 : Int32).toNatClampNeg (a2 : Int32).toNatClampNeg) ∧ True) (dg_B g D shX o rfX) A) args s 0 0 A) (F0 m 71 ls []) := by
                intro x_206 x_207 b_x_206 b_x_207 rel_0 H locs hP hS ls hl
                refine lv_iload hx hb dX9_ownWord_71 (lv_at hl 1 rfl) ?_
                refine lv_bipush (v := 6) hx hb dX9_ownWord_73 (by decide +kernel) ?_
                refine lv_icmp_ne (tgt := 80) hx hb dX9_ownWord_75 (dk_dq rfl) (fun c_211 => ?_) (fun c_211 => ?_)
                · have jc_211 := dk_neqc (k := 6) (by decide +kernel) c_211
                  obtain ⟨x_212, ex_212⟩ : ∃ z, z = x_136 + 1 := ⟨_, rfl⟩
                  have jx_212 : (x_212).toInt = (x_136).toInt + 1 := by rw [ex_212]; exact dk_addT2 rfl (by decide +kernel) (by omega)
                  refine lv_iinc (v := x_212) (lv' := [(3, .int x_212), (5, .int x_206), (4, .int x_207), (0, .ref (o + 1)), (1, .int a1), (2, .int a2)]) hx hb dX9_ownWord_80 hl (k := 2) rfl (by rw [ex_212]; rfl) (dk_dq rfl) rfl (fun ls hl => ?_)
                  refine lv_goto (tgt := 2) hx hb dX9_ownWord_83 (dk_dq rfl) ?_
                  exact ih x_212 (by omega) (t_own_next ro9 rel_0 (by omega) (by omega) (by omega)) (by first | exact mu_lt hmu (by omega) (by omega) | omega) _ _ hP hS _ (lv_sub hl [0, 3, 4, 5] rfl)
                · have jc_211 := dk_eqc (k := 6) (by decide +kernel) c_211
                  refine lv_iload_n hx hb dX9_ownWord_78 rfl (lv_at hl 2 rfl) ?_
                  refine W.widen (k := 0) (n := 0) (Nat.le_of_ble_eq_true rfl) (Nat.le_of_ble_eq_true rfl) ?_
                  exact dg_iret hx hb hr hlocks rfl hP hS ⟨rfl, (by omega), (t_own_hit32 ro9 rel_0 (by omega) (by omega)), trivial⟩ dX9_ownWord_79
              have L_254 : ∀ (n : Nat) (x_252 : Int32) (x_253 : Int32), (0 ≤ (x_252).toInt ∧ (x_252).toInt ≤ 6) → (0 ≤ (x_253).toInt ∧ (x_253).toInt ≤ 6) → ((x_253).toInt = ((t_sm tb (a1 : Int32).toNatClampNeg (a2 : Int32).toNatClampNeg (x_136 : Int32).toNatClampNeg (x_252 : Int32).toNatClampNeg : Nat) : Int)) → ((x_253).toInt ≤ (x_252).toInt) → ((7 - (x_252).toInt).toNat < n) → ∀ (H : Heap) (locs : List Loc), va_P D vwCl (dg_w g shX o rfX S) H → va_S A s.heap H locs → ∀ ls : Array Slot, lv_has ls 7 [(5, .int x_252), (4, .int x_253), (3, .int x_136), (0, .ref (o + 1)), (1, .int a1), (2, .int a2)] → W p l e ({ frames := 6, cells := 0, slots := 0, locals := 300 } : Room) s m args below meth c H locs 0 0 (MQ below (va_Qi (fun (r : Int32) S' => S' = S ∧ ((-1) ≤ (r).toInt ∧ (r).toInt ≤ 26) ∧ ((r).toInt = t_own tb (a1 : Int32).toNatClampNeg (a2 : Int32).toNatClampNeg) ∧ True) (dg_B g D shX o rfX) A) args s 0 0 A) (F0 m 14 ls []) := by
                as_aux_lemma =>
                  intro n
                  induction n with
                  | zero =>
                    intro x_252 x_253 b_x_252 b_x_253 rel_0 rel_1 hmu H locs hP hS ls hl
                    omega
                  | succ n ih =>
                    as_aux_lemma =>
                      intro x_252 x_253 b_x_252 b_x_253 rel_0 rel_1 hmu H locs hP hS ls hl
                      refine lv_iload hx hb dX9_ownWord_14 (lv_at hl 0 rfl) ?_
                      refine lv_bipush (v := 6) hx hb dX9_ownWord_16 (by decide +kernel) ?_
                      refine lv_icmp_ge (tgt := 71) hx hb dX9_ownWord_18 (dk_dq rfl) (fun c_255 => ?_) (fun c_255 => ?_)
                      · have jc_255 := dk_gec (k := 6) (by decide +kernel) c_255
                        exact J_210 x_252 x_253 (by omega) (by omega) (t_sm_end rel_0 (by omega)) _ _ hP hS _ (lv_sub hl [0, 1, 2, 3, 4, 5] rfl)
                      · as_aux_lemma =>
                          have jc_255 := dk_ngec (k := 6) (by decide +kernel) c_255
                          refine lv_iload_n hx hb dX9_ownWord_21 rfl (lv_at hl 4 rfl) ?_
                          refine lv_iload hx hb dX9_ownWord_22 (lv_at hl 0 rfl) ?_
                          refine lv_iadd hx hb dX9_ownWord_24 ?_
                          refine lv_topi (fun x_256 ex_256 => ?_)
                          have jx_256 : (x_256).toInt = (a1).toInt + (x_252).toInt := by rw [ex_256]; exact dk_addT2 rfl rfl (by omega)
                          refine lv_iload_n hx hb dX9_ownWord_25 rfl (lv_at hl 5 rfl) ?_
                          refine lv_icmp_ge (tgt := 41) hx hb dX9_ownWord_26 (dk_dq rfl) (fun c_257 => ?_) (fun c_257 => ?_)
                          · as_aux_lemma =>
                              have jc_257 := dk_gec (k := (a2).toInt) rfl c_257
                              refine lv_bipush (v := 32) hx hb dX9_ownWord_41 (by decide +kernel) ?_
                              refine lv_istore (lv' := [(6, .int 32), (5, .int x_252), (4, .int x_253), (3, .int x_136), (0, .ref (o + 1)), (1, .int a1), (2, .int a2)]) hx hb dX9_ownWord_43 hl (dk_dq rfl) rfl (fun ls hl => ?_)
                              refine lv_iload hx hb dX9_ownWord_45 (lv_at hl 0 rfl) ?_
                              obtain ⟨-, -, -, sa_258, sa_258_v, sa_258_R, sa_258_S⟩ := id ST
                              refine va_ldcS hx hb hown sa_258_R dX9_ownWord_47 ?_
                              refine lv_bipush (v := 6) hx hb dX9_ownWord_49 (by decide +kernel) ?_
                              refine lv_iload_n hx hb dX9_ownWord_51 rfl (lv_at hl 3 rfl) ?_
                              refine lv_imul hx hb dX9_ownWord_52 ?_
                              refine lv_topi (fun x_259 ex_259 => ?_)
                              have jx_259 : (x_259).toInt = 6 * (x_136).toInt := by rw [ex_259]; exact dk_mulT2 (by decide +kernel) rfl (by omega)
                              refine lv_iload hx hb dX9_ownWord_53 (lv_at hl 1 rfl) ?_
                              refine lv_iadd hx hb dX9_ownWord_55 ?_
                              refine lv_topi (fun x_260 ex_260 => ?_)
                              have jx_260 : (x_260).toInt = (x_259).toInt + (x_252).toInt := by rw [ex_260]; exact dk_addT2 rfl rfl (by omega)
                              refine dg_charAt F K ST sa_258_S hP hS  hA1 hA (by omega) hl.1 (Nat.le_of_ble_eq_true rfl) (Nat.le_of_ble_eq_true rfl) ⟨Nat.le_of_ble_eq_true rfl, Nat.le_of_ble_eq_true rfl⟩ (Nat.le_of_ble_eq_true rfl) dX9_ownWord_56 (fun x_261 H locs cx_x_261 hP hS => ?_)
                              refine lv_icmp_ne (tgt := 65) hx hb dX9_ownWord_59 (dk_dq rfl) (fun c_262 => ?_) (fun c_262 => ?_)
                              · have jc_262 := dk_neqc (k := 32) (by decide +kernel) (fun z => c_262 z.symm)
                                obtain ⟨x_263, ex_263⟩ : ∃ z, z = x_252 + 1 := ⟨_, rfl⟩
                                have jx_263 : (x_263).toInt = (x_252).toInt + 1 := by rw [ex_263]; exact dk_addT2 rfl (by decide +kernel) (by omega)
                                refine lv_iinc (v := x_263) (lv' := [(5, .int x_263), (6, .int 32), (4, .int x_253), (3, .int x_136), (0, .ref (o + 1)), (1, .int a1), (2, .int a2)]) hx hb dX9_ownWord_65 hl (k := 1) rfl (by rw [ex_263]; rfl) (dk_dq rfl) rfl (fun ls hl => ?_)
                                refine lv_goto (tgt := 14) hx hb dX9_ownWord_68 (dk_dq rfl) ?_
                                have hz_264 : (32 : Int32).toInt = 32 := by decide +kernel
                                have hz32 : (32 : Int32).toInt = 32 := by decide +kernel
                                exact ih x_263 x_253 (by omega) (by omega) (t_sm_go rel_0 (t_ch_out (by omega) (by omega)) (by omega) cx_x_261 (by omega) (by omega) (by omega)) (by omega) (by first | exact mu_lt hmu (by omega) (by omega) | omega) _ _ hP hS _ (lv_sub hl [0, 2, 3, 4, 5, 6] rfl)
                              · have jc_262 := dk_eqc (k := 32) (by decide +kernel) (Eq.symm c_262)
                                obtain ⟨x_265, ex_265⟩ : ∃ z, z = x_253 + 1 := ⟨_, rfl⟩
                                have jx_265 : (x_265).toInt = (x_253).toInt + 1 := by rw [ex_265]; exact dk_addT2 rfl (by decide +kernel) (by omega)
                                refine lv_iinc (v := x_265) (lv' := [(4, .int x_265), (6, .int 32), (5, .int x_252), (3, .int x_136), (0, .ref (o + 1)), (1, .int a1), (2, .int a2)]) hx hb dX9_ownWord_62 hl (k := 2) rfl (by rw [ex_265]; rfl) (dk_dq rfl) rfl (fun ls hl => ?_)
                                obtain ⟨x_266, ex_266⟩ : ∃ z, z = x_252 + 1 := ⟨_, rfl⟩
                                have jx_266 : (x_266).toInt = (x_252).toInt + 1 := by rw [ex_266]; exact dk_addT2 rfl (by decide +kernel) (by omega)
                                refine lv_iinc (v := x_266) (lv' := [(5, .int x_266), (4, .int x_265), (6, .int 32), (3, .int x_136), (0, .ref (o + 1)), (1, .int a1), (2, .int a2)]) hx hb dX9_ownWord_65 hl (k := 2) rfl (by rw [ex_266]; rfl) (dk_dq rfl) rfl (fun ls hl => ?_)
                                refine lv_goto (tgt := 14) hx hb dX9_ownWord_68 (dk_dq rfl) ?_
                                have hz_267 : (32 : Int32).toInt = 32 := by decide +kernel
                                have hz32 : (32 : Int32).toInt = 32 := by decide +kernel
                                exact ih x_266 x_265 (by omega) (by omega) (t_sm_go rel_0 (t_ch_out (by omega) (by omega)) (by omega) cx_x_261 (by omega) (by omega) (by omega)) (by omega) (by first | exact mu_lt hmu (by omega) (by omega) | omega) _ _ hP hS _ (lv_sub hl [0, 1, 3, 4, 5, 6] rfl)
                          · as_aux_lemma =>
                              have jc_257 := dk_ngec (k := (a2).toInt) rfl c_257
                              refine lv_aload_n hx hb dX9_ownWord_29 rfl (lv_at hl 3 rfl) ?_
                              refine dg_get (C := RX8) (T := TX8) (N := 2) hx hb hts (fun w h => bw_mem (wU_X8 w h)) hown K hP sX_1 rfl 0 (dk_dq rfl) (hts _ (bw_mem wB_189)) (fun _ h9 => h9) (v := .ref (o + 2)) (show S.1 1 0 = .ref (o + 2) from dg_I.rel (d := 1) I sX_1 (by decide +kernel)) dX9_ownWord_30 ?_
                              refine lv_iload_n hx hb dX9_ownWord_33 rfl (lv_at hl 4 rfl) ?_
                              refine lv_iload hx hb dX9_ownWord_34 (lv_at hl 0 rfl) ?_
                              refine lv_iadd hx hb dX9_ownWord_36 ?_
                              refine lv_topi (fun x_268 ex_268 => ?_)
                              have jx_268 : (x_268).toInt = (a1).toInt + (x_252).toInt := by rw [ex_268]; exact dk_addT2 rfl rfl (by omega)
                              have hin_269 : vp_in x_268 1600 := (dk_inv2 (by omega))
                              refine dg_iald hx hb K hP sX_2 hin_269 dX9_ownWord_37 (fun x_270 ex_270 => ?_)
                              have b_x_270 := dk_all_at (dg_I.row (lo := 0) (hi := 255) I sX_2 (by decide +kernel)) hin_269 ex_270
                              have kx_270 : tb (x_268 : Int32).toNatClampNeg = x_270 := by rw [ex_270, htb]
                              refine lv_goto (tgt := 43) hx hb dX9_ownWord_38 (dk_dq rfl) ?_
                              refine lv_istore (lv' := [(6, .int x_270), (5, .int x_252), (4, .int x_253), (3, .int x_136), (0, .ref (o + 1)), (1, .int a1), (2, .int a2)]) hx hb dX9_ownWord_43 hl (dk_dq rfl) rfl (fun ls hl => ?_)
                              refine lv_iload hx hb dX9_ownWord_45 (lv_at hl 0 rfl) ?_
                              obtain ⟨-, -, -, sa_271, sa_271_v, sa_271_R, sa_271_S⟩ := id ST
                              refine va_ldcS hx hb hown sa_271_R dX9_ownWord_47 ?_
                              refine lv_bipush (v := 6) hx hb dX9_ownWord_49 (by decide +kernel) ?_
                              refine lv_iload_n hx hb dX9_ownWord_51 rfl (lv_at hl 3 rfl) ?_
                              refine lv_imul hx hb dX9_ownWord_52 ?_
                              refine lv_topi (fun x_272 ex_272 => ?_)
                              have jx_272 : (x_272).toInt = 6 * (x_136).toInt := by rw [ex_272]; exact dk_mulT2 (by decide +kernel) rfl (by omega)
                              refine lv_iload hx hb dX9_ownWord_53 (lv_at hl 1 rfl) ?_
                              refine lv_iadd hx hb dX9_ownWord_55 ?_
                              refine lv_topi (fun x_273 ex_273 => ?_)
                              have jx_273 : (x_273).toInt = (x_272).toInt + (x_252).toInt := by rw [ex_273]; exact dk_addT2 rfl rfl (by omega)
                              refine dg_charAt F K ST sa_271_S hP hS  hA1 hA (by omega) hl.1 (Nat.le_of_ble_eq_true rfl) (Nat.le_of_ble_eq_true rfl) ⟨Nat.le_of_ble_eq_true rfl, Nat.le_of_ble_eq_true rfl⟩ (Nat.le_of_ble_eq_true rfl) dX9_ownWord_56 (fun x_274 H locs cx_x_274 hP hS => ?_)
                              refine lv_icmp_ne (tgt := 65) hx hb dX9_ownWord_59 (dk_dq rfl) (fun c_275 => ?_) (fun c_275 => ?_)
                              · have hf_275 := dk_full x_274
                                have jc_275 := dk_neqc (k := (x_274).toInt) rfl c_275
                                obtain ⟨x_277, ex_277⟩ : ∃ z, z = x_252 + 1 := ⟨_, rfl⟩
                                have jx_277 : (x_277).toInt = (x_252).toInt + 1 := by rw [ex_277]; exact dk_addT2 rfl (by decide +kernel) (by omega)
                                refine lv_iinc (v := x_277) (lv' := [(5, .int x_277), (6, .int x_270), (4, .int x_253), (3, .int x_136), (0, .ref (o + 1)), (1, .int a1), (2, .int a2)]) hx hb dX9_ownWord_65 hl (k := 1) rfl (by rw [ex_277]; rfl) (dk_dq rfl) rfl (fun ls hl => ?_)
                                refine lv_goto (tgt := 14) hx hb dX9_ownWord_68 (dk_dq rfl) ?_
                                exact ih x_277 x_253 (by omega) (by omega) (t_sm_go rel_0 (t_ch_in kx_270 (by omega) (by omega) (by omega)) (by omega) cx_x_274 (by omega) (by omega) (by omega)) (by omega) (by first | exact mu_lt hmu (by omega) (by omega) | omega) _ _ hP hS _ (lv_sub hl [0, 2, 3, 4, 5, 6] rfl)
                              · have hf_277 := dk_full x_274
                                have jc_275 := dk_eqc (k := (x_274).toInt) rfl c_275
                                obtain ⟨x_279, ex_279⟩ : ∃ z, z = x_253 + 1 := ⟨_, rfl⟩
                                have jx_279 : (x_279).toInt = (x_253).toInt + 1 := by rw [ex_279]; exact dk_addT2 rfl (by decide +kernel) (by omega)
                                refine lv_iinc (v := x_279) (lv' := [(4, .int x_279), (6, .int x_270), (5, .int x_252), (3, .int x_136), (0, .ref (o + 1)), (1, .int a1), (2, .int a2)]) hx hb dX9_ownWord_62 hl (k := 2) rfl (by rw [ex_279]; rfl) (dk_dq rfl) rfl (fun ls hl => ?_)
                                obtain ⟨x_280, ex_280⟩ : ∃ z, z = x_252 + 1 := ⟨_, rfl⟩
                                have jx_280 : (x_280).toInt = (x_252).toInt + 1 := by rw [ex_280]; exact dk_addT2 rfl (by decide +kernel) (by omega)
                                refine lv_iinc (v := x_280) (lv' := [(5, .int x_280), (4, .int x_279), (6, .int x_270), (3, .int x_136), (0, .ref (o + 1)), (1, .int a1), (2, .int a2)]) hx hb dX9_ownWord_65 hl (k := 2) rfl (by rw [ex_280]; rfl) (dk_dq rfl) rfl (fun ls hl => ?_)
                                refine lv_goto (tgt := 14) hx hb dX9_ownWord_68 (dk_dq rfl) ?_
                                exact ih x_280 x_279 (by omega) (by omega) (t_sm_go rel_0 (t_ch_in kx_270 (by omega) (by omega) (by omega)) (by omega) cx_x_274 (by omega) (by omega) (by omega)) (by omega) (by first | exact mu_lt hmu (by omega) (by omega) | omega) _ _ hP hS _ (lv_sub hl [0, 1, 3, 4, 5, 6] rfl)
              have hz_281 : (0 : Int32).toInt = 0 := by decide +kernel
              have hz_282 : (0 : Int32).toInt = 0 := by decide +kernel
              have hz_283 : (0 : Int32).toInt = 0 := by decide +kernel
              have hz_284 : (0 : Int32).toInt = 0 := by decide +kernel
              have hz_285 : (0 : Int32).toInt = 0 := by decide +kernel
              have hz_286 : (0 : Int32).toInt = 0 := by decide +kernel
              have hz_287 : (0 : Int32).toInt = 0 := by decide +kernel
              have hz_288 : (0 : Int32).toInt = 0 := by decide +kernel
              exact L_254 ((7 - ((0 : Int32)).toInt).toNat + 1) 0 0 (by decide +kernel) (by decide +kernel) (t_sm_z (by decide +kernel) (by decide +kernel)) (by omega) (by first | exact mu_lt hmu (by omega) (by omega) | omega) _ _ hP hS _ (lv_sub hl [0, 1, 2, 3, 4, 5] rfl)
  have hz_289 : (0 : Int32).toInt = 0 := by decide +kernel
  have hz_290 : (0 : Int32).toInt = 0 := by decide +kernel
  have hz_291 : (0 : Int32).toInt = 0 := by decide +kernel
  exact L_137 ((28 - ((0 : Int32)).toInt).toNat + 1) 0 (by decide +kernel) y_lt0 (by first | exact mu_lt hmu (by omega) (by omega) | omega) _ _ hP hS _ (lv_sub hl [0, 1, 2, 3] rfl)
set_option maxHeartbeats 8000000 in
set_option maxRecDepth 100000 in
theorem c_v_addWord (l : Launch) (g : Nat → ClassId) (D : va_G) (o : Nat) (S : dg_S) (a2 : Int32) (b_a2 : 0 ≤ (a2).toInt ∧ (a2).toInt ≤ 1599) (tb : Nat → Int32) (c0 : Int32) (f_c0 : S.1 210 3 = .int c0) (b_c0 : 0 ≤ (c0).toInt ∧ (c0).toInt ≤ 1600) (pe : Int32) (f_pe : S.1 210 4 = .int pe) (b_pe : (-1) ≤ (pe).toInt ∧ (pe).toInt ≤ 1600) (le : Int32) (f_le : S.1 1 1 = .int le) (b_le : 0 ≤ (le).toInt ∧ (le).toInt ≤ 1600) (xs : Int32) (f_xs : S.2.1 2 (a2 : Int32).toNatClampNeg = xs) (b_xs : 97 ≤ (xs).toInt ∧ (xs).toInt ≤ 122) (htb : S.2.1 2 = tb) (hle : (a2).toInt < (le).toInt) (I : CX o S) (sz : Nat) : Met l yX9_addWord (bw yX9_addWord cX9_addWord 5 (some .int)) ({ frames := 7, cells := 0, slots := 0, locals := 326 } : Room) (dk_Pc g D (dg_w g shX o rfX S) sz [.ref (o + 210), .ref (o + 1), .int a2]) (va_Qi (fun (r : Int32) S' => CX o S' ∧ dg_sm shX [(32, 3), (32, 4)] [33, 34, 35] S S' ∧ (1 ≤ (r).toInt ∧ (r).toInt ≤ 1600) ∧ (((a2).toInt < (r).toInt ∧ (r).toInt ≤ (le).toInt) ∧ t_en tb (le : Int32).toNatClampNeg (a2 : Int32).toNatClampNeg = (r : Int32).toNatClampNeg) ∧ (∃ y9 : Int32, S'.1 210 3 = .int y9 ∧ ((y9).toInt = (c0).toInt + 1)) ∧ (∃ y9 : Int32, S'.1 210 4 = .int y9 ∧ ((y9).toInt = (r).toInt)) ∧ (∃ k8 v8 : Int32, (k8.toInt = t_K tb (a2 : Int32).toNatClampNeg (r : Int32).toNatClampNeg (decide ((pe).toInt = (a2).toInt)) ∧ v8.toInt = t_V tb (a2 : Int32).toNatClampNeg (r : Int32).toNatClampNeg (decide ((pe).toInt = (a2).toInt))) ∧ S'.2.1 211 = upd (S.2.1 211) (c0 : Int32).toNatClampNeg k8 ∧ S'.2.1 213 = upd (S.2.1 213) (c0 : Int32).toNatClampNeg v8) ∧ True) (dg_B g D shX o rfX) (dg_A o shX.length sz)) 0 0 (dg_A o shX.length sz) := by
  refine dg_met (cc := cX9_addWord) (maxL := 5) (ret := (some .int)) (dk_dq rfl) rfl (Nat.le_of_ble_eq_true rfl) ?_
  intro p e s m args below meth c A hAe harg hx hb hr hml hts hown hlocks hin hP K hS hA1 hA ST hsz ls hl
  rw [← hAe]
  have F : CallFix p m c cX9_addWord 5 s args (bw yX9_addWord cX9_addWord 5 (some .int)) RX9 := ⟨hx, hb, hml, hown, hts⟩
  have hl : lv_has ls 5 [(0, .ref (o + 210)), (1, .ref (o + 1)), (2, .int a2)] := hl
  have M_0 : dg_sm shX [(32, 3), (32, 4)] [33, 34, 35] S S := dg_sm.rf
  refine lv_iload_n hx hb dX9_addWord_0 rfl (lv_at hl 2 rfl) ?_
  refine lv_istore_n (lv' := [(3, .int a2), (0, .ref (o + 210)), (1, .ref (o + 1)), (2, .int a2)]) hx hb dX9_addWord_1 rfl hl (dk_dq rfl) rfl (fun ls hl => ?_)
  have J_45 : ∀ (x_24 : Int32), (0 ≤ (x_24).toInt ∧ (x_24).toInt ≤ 1600) → ((a2).toInt < (x_24).toInt ∧ (x_24).toInt ≤ (le).toInt) → (∀ j9 : Nat, (a2 : Int32).toNatClampNeg ≤ j9 → j9 < (x_24 : Int32).toNatClampNeg → t_l (tb j9) = true) → (t_wd tb (le : Int32).toNatClampNeg (x_24 : Int32).toNatClampNeg = false) → ∀ (H : Heap) (locs : List Loc), va_P D vwCl (dg_w g shX o rfX S) H → va_S A s.heap H locs → ∀ ls : Array Slot, lv_has ls 5 [(3, .int x_24), (0, .ref (o + 210)), (1, .ref (o + 1)), (2, .int a2)] → W p l e ({ frames := 7, cells := 0, slots := 0, locals := 326 } : Room) s m args below meth c H locs 0 0 (MQ below (va_Qi (fun (r : Int32) S' => CX o S' ∧ dg_sm shX [(32, 3), (32, 4)] [33, 34, 35] S S' ∧ (1 ≤ (r).toInt ∧ (r).toInt ≤ 1600) ∧ (((a2).toInt < (r).toInt ∧ (r).toInt ≤ (le).toInt) ∧ t_en tb (le : Int32).toNatClampNeg (a2 : Int32).toNatClampNeg = (r : Int32).toNatClampNeg) ∧ (∃ y9 : Int32, S'.1 210 3 = .int y9 ∧ ((y9).toInt = (c0).toInt + 1)) ∧ (∃ y9 : Int32, S'.1 210 4 = .int y9 ∧ ((y9).toInt = (r).toInt)) ∧ (∃ k8 v8 : Int32, (k8.toInt = t_K tb (a2 : Int32).toNatClampNeg (r : Int32).toNatClampNeg (decide ((pe).toInt = (a2).toInt)) ∧ v8.toInt = t_V tb (a2 : Int32).toNatClampNeg (r : Int32).toNatClampNeg (decide ((pe).toInt = (a2).toInt))) ∧ S'.2.1 211 = upd (S.2.1 211) (c0 : Int32).toNatClampNeg k8 ∧ S'.2.1 213 = upd (S.2.1 213) (c0 : Int32).toNatClampNeg v8) ∧ True) (dg_B g D shX o rfX) A) args s 0 0 A) (F0 m 28 ls []) := by
    as_aux_lemma =>
      intro x_24 b_x_24 rel_0 rel_1 rel_2 H locs hP hS ls hl
      have qc1 := rel_1
      have qc2 := rel_2
      have qe : t_en tb (le : Int32).toNatClampNeg (a2 : Int32).toNatClampNeg = (x_24 : Int32).toNatClampNeg := t_en_word (by have h7 := dk_clN a2; have h8 := dk_clN le; have h9 := dk_clN x_24; omega) (by have h7 := dk_clN a2; have h8 := dk_clN le; have h9 := dk_clN x_24; omega) (by have h7 := dk_clN a2; have h8 := dk_clN le; have h9 := dk_clN x_24; omega) qc1 qc2
      have q0 : t_l (tb (a2 : Int32).toNatClampNeg) = true := qc1 _ (Nat.le_refl _) (by have h7 := dk_clN a2; have h8 := dk_clN le; have h9 := dk_clN x_24; omega)
      refine lv_aload_n hx hb dX9_addWord_28 rfl (lv_at hl 1 rfl) ?_
      refine lv_iload_n hx hb dX9_addWord_29 rfl (lv_at hl 3 rfl) ?_
      refine lv_iload_n hx hb dX9_addWord_30 rfl (lv_at hl 0 rfl) ?_
      refine lv_bipush (v := 6) hx hb dX9_addWord_31 (by decide +kernel) ?_
      have hz_46 : (6 : Int32).toInt = 6 := by decide +kernel
      refine dg_calli hS hA1 hA (va_runV (As := [.int a2, .int x_24, .int 6]) (rest := []) F (c_v_addIfWrong l g D o S a2 (by omega) x_24 (by omega) 6 (by decide +kernel) c0 f_c0 (by omega) pe f_pe (by omega) I H.size) (cwV 3 hts (bw_V wB_195 wB_196 wB_197 wB_188 wB_194) rfl rfl rfl (by decide +kernel) ⟨Nat.le_of_ble_eq_true rfl, Nat.le_of_ble_eq_true rfl⟩) (dg_preV sX_210 rfl K ST hP hS hA1 hA) rfl rfl hl.1 rfl (lv_room (Nat.le_of_ble_eq_true rfl)) dX9_addWord_33 ⟨Nat.le_of_ble_eq_true rfl, Nat.le_of_ble_eq_true rfl⟩) (fun x_47 S_48 hw_48 H locs hP hS => ?_)
      obtain ⟨I_48, m_48, w_48_0, w_48_1, w_48_2, -⟩ := hw_48
      have M_48 := dg_sm.tr M_0 m_48 (dk_dq rfl) (dk_dq rfl)
      have hz_49 : (6 : Int32).toInt = 6 := by decide +kernel
      have w_48_0 : 0 ≤ (x_47).toInt ∧ (x_47).toInt ≤ 1 := w_48_0
      obtain ⟨y_50, f_y_50, w_48_1⟩ := w_48_1
      have w_48_1 : (y_50).toInt = (c0).toInt + (x_47).toInt := w_48_1
      have b_y_50 : 0 ≤ (y_50).toInt ∧ (y_50).toInt ≤ 1601 := dg_I.intb (lo := 0) (hi := 1601) I_48 sX_210 (by decide +kernel) f_y_50
      replace w_48_2 : ((x_47).toInt = 1 → ∃ v9 : Int32, (((6 : Int32)).toInt < (x_24).toInt - (a2).toInt → v9.toInt = (a2).toInt + ((6 : Int32)).toInt) ∧ (¬ ((6 : Int32)).toInt < (x_24).toInt - (a2).toInt → v9.toInt = (a2).toInt) ∧ S_48.2.1 211 = upd (S.2.1 211) (c0 : Int32).toNatClampNeg 5 ∧ S_48.2.1 213 = upd (S.2.1 213) (c0 : Int32).toNatClampNeg v9 ∧ (((6 : Int32)).toInt < (x_24).toInt - (a2).toInt ∨ (a2).toInt = (pe).toInt)) ∧ ((x_47).toInt = 0 → S_48.2.1 211 = S.2.1 211 ∧ S_48.2.1 213 = S.2.1 213 ∧ ¬ (((6 : Int32)).toInt < (x_24).toInt - (a2).toInt ∨ (a2).toInt = (pe).toInt)) := w_48_2
      refine lv_if_ne (tgt := 76) hx hb dX9_addWord_36 (dk_dq rfl) (fun c_51 => ?_) (fun c_51 => ?_)
      · have jc_51 := dk_neqc (k := 0) (by decide +kernel) c_51
        refine lv_aload_n hx hb dX9_addWord_76 rfl (lv_at hl 1 rfl) ?_
        refine lv_iload_n hx hb dX9_addWord_77 rfl (lv_at hl 0 rfl) ?_
        refine dg_put (ci := 9) (v := .int x_24) (ty := tyX9 4) (C := RX9) (T := TX9) (N := 5) hx hb hts (fun w h => bw_mem (wU_X9 w h)) tyX9 tyX9_ok nmX9 hown K hP hS hA1 sX_210 rfl 4 (dk_dq rfl) (hts _ (bw_mem wB_183)) (fun _ h9 => h9) rfl (by decide +kernel) rfl rfl dX9_addWord_78 (fun S_52 e_52 H locs hP hS => ?_)
        have I_52 := dg_I.uFi (lo := (-2147483648)) (hi := 2147483647) I_48 e_52 sX_210 (by decide +kernel) (show (-2147483648) ≤ (x_24).toInt ∧ (x_24).toInt ≤ 2147483647 from (dk_full _))
        have M_52 := dg_sm.uF M_48 e_52 sX_210 (dk_dq rfl)
        refine lv_iload_n hx hb dX9_addWord_81 rfl (lv_at hl 0 rfl) ?_
        obtain ⟨v9, hv1, hv2, hv3, hv4, hv5⟩ := w_48_2.1 (by omega)
        refine W.widen (k := 0) (n := 0) (Nat.le_of_ble_eq_true rfl) (Nat.le_of_ble_eq_true rfl) ?_
        exact dg_iret hx hb hr hlocks rfl hP hS ⟨I_52, M_52, (by omega), ⟨by omega, qe⟩, ⟨y_50, ((dg_uF_ne e_52 (fun z => absurd z.2 (dk_dq rfl))).trans f_y_50), (by omega)⟩, ⟨x_24, (dg_uF_at e_52), (by omega)⟩, ⟨5, v9, t_K_wl (v := v9) q0 (by omega) (by omega) (by omega) (by omega) (by omega), (by rw [(dg_uF_f e_52 211), hv3]), (by rw [(dg_uF_f e_52 213), hv4])⟩, trivial⟩ dX9_addWord_82
      · as_aux_lemma =>
          have jc_51 := dk_eqc (k := 0) (by decide +kernel) c_51
          refine lv_aload_n hx hb dX9_addWord_39 rfl (lv_at hl 2 rfl) ?_
          refine lv_iload_n hx hb dX9_addWord_40 rfl (lv_at hl 3 rfl) ?_
          refine lv_iload_n hx hb dX9_addWord_41 rfl (lv_at hl 0 rfl) ?_
          refine dg_calli hS hA1 hA (va_runS (As := [.ref (o + 1), .int a2, .int x_24]) (rest := []) F (c_v_ownWord l g D o S_48 a2 (by omega) x_24 (by omega) tb ((m_48.2 2 _ sX_2 (dk_dq rfl)).1.trans htb) I_48 H.size) (va_cwS 3 hts (bw_S wB_199 wB_200 wB_188 wB_198) rfl rfl rfl (by decide +kernel) ⟨Nat.le_of_ble_eq_true rfl, Nat.le_of_ble_eq_true rfl⟩) (dg_preS K ST hP hS hA1 hA) rfl rfl hl.1 rfl (lv_room (Nat.le_of_ble_eq_true rfl)) dX9_addWord_42 ⟨Nat.le_of_ble_eq_true rfl, Nat.le_of_ble_eq_true rfl⟩) (fun x_53 S_54 hw_54 H locs hP hS => ?_)
          rw [hw_54.1] at hP
          obtain ⟨hq_54, w_54_0, w_54_1, -⟩ := hw_54
          have w_54_0 : (-1) ≤ (x_53).toInt ∧ (x_53).toInt ≤ 26 := w_54_0
          have w_54_1 : (x_53).toInt = t_own tb (a2 : Int32).toNatClampNeg (x_24 : Int32).toNatClampNeg := w_54_1
          refine lv_istore (lv' := [(4, .int x_53), (3, .int x_24), (0, .ref (o + 210)), (1, .ref (o + 1)), (2, .int a2)]) hx hb dX9_addWord_45 hl (dk_dq rfl) rfl (fun ls hl => ?_)
          refine lv_iload hx hb dX9_addWord_47 (lv_at hl 0 rfl) ?_
          refine lv_iconst (v := (-1)) hx hb dX9_addWord_49 (by decide +kernel) ?_
          refine lv_icmp_ne (tgt := 68) hx hb dX9_addWord_50 (dk_dq rfl) (fun c_55 => ?_) (fun c_55 => ?_)
          · as_aux_lemma =>
              have jc_55 := dk_neqc (k := (-1)) (by decide +kernel) c_55
              refine lv_aload_n hx hb dX9_addWord_68 rfl (lv_at hl 2 rfl) ?_
              refine lv_iconst (v := 1) hx hb dX9_addWord_69 (by decide +kernel) ?_
              refine lv_iload_n hx hb dX9_addWord_70 rfl (lv_at hl 4 rfl) ?_
              refine lv_iload hx hb dX9_addWord_71 (lv_at hl 0 rfl) ?_
              refine dg_callv hS hA1 hA (va_runV (As := [.int 1, .int a2, .int x_53]) (rest := []) F (c_v_add l g D o S_48 1 a2 x_53 y_50 f_y_50 (by omega) I_48 H.size) (cwV 3 hts (bw_V wB_185 wB_186 wB_187 wB_188 wB_184) rfl rfl rfl (by decide +kernel) ⟨Nat.le_of_ble_eq_true rfl, Nat.le_of_ble_eq_true rfl⟩) (dg_preV sX_210 rfl K ST hP hS hA1 hA) rfl rfl hl.1 rfl (lv_room (Nat.le_of_ble_eq_true rfl)) dX9_addWord_73 ⟨Nat.le_of_ble_eq_true rfl, Nat.le_of_ble_eq_true rfl⟩) (fun S_56 hw_56 H locs hP hS => ?_)
              obtain ⟨I_56, m_56, w_56_0, w_56_1, -⟩ := hw_56
              have M_56 := dg_sm.tr M_48 m_56 (dk_dq rfl) (dk_dq rfl)
              have hz_57 : (1 : Int32).toInt = 1 := by decide +kernel
              obtain ⟨y_58, f_y_58, w_56_0⟩ := w_56_0
              have w_56_0 : (y_58).toInt = (y_50).toInt + 1 := w_56_0
              have b_y_58 : 0 ≤ (y_58).toInt ∧ (y_58).toInt ≤ 1601 := dg_I.intb (lo := 0) (hi := 1601) I_56 sX_210 (by decide +kernel) f_y_58
              replace w_56_1 : S_56.2.1 211 = upd (S_48.2.1 211) (y_50 : Int32).toNatClampNeg (1 : Int32) ∧ S_56.2.1 213 = upd (S_48.2.1 213) (y_50 : Int32).toNatClampNeg x_53 := w_56_1
              refine lv_aload_n hx hb dX9_addWord_76 rfl (lv_at hl 2 rfl) ?_
              refine lv_iload_n hx hb dX9_addWord_77 rfl (lv_at hl 1 rfl) ?_
              refine dg_put (ci := 9) (v := .int x_24) (ty := tyX9 4) (C := RX9) (T := TX9) (N := 5) hx hb hts (fun w h => bw_mem (wU_X9 w h)) tyX9 tyX9_ok nmX9 hown K hP hS hA1 sX_210 rfl 4 (dk_dq rfl) (hts _ (bw_mem wB_183)) (fun _ h9 => h9) rfl (by decide +kernel) rfl rfl dX9_addWord_78 (fun S_59 e_59 H locs hP hS => ?_)
              have I_59 := dg_I.uFi (lo := (-2147483648)) (hi := 2147483647) I_56 e_59 sX_210 (by decide +kernel) (show (-2147483648) ≤ (x_24).toInt ∧ (x_24).toInt ≤ 2147483647 from (dk_full _))
              have M_59 := dg_sm.uF M_56 e_59 sX_210 (dk_dq rfl)
              refine lv_iload_n hx hb dX9_addWord_81 rfl (lv_at hl 1 rfl) ?_
              obtain ⟨hv1, hv2, hv3⟩ := w_48_2.2 (by omega)
              refine W.widen (k := 0) (n := 0) (Nat.le_of_ble_eq_true rfl) (Nat.le_of_ble_eq_true rfl) ?_
              exact dg_iret hx hb hr hlocks rfl hP hS ⟨I_59, M_59, (by omega), ⟨by omega, qe⟩, ⟨y_58, ((dg_uF_ne e_59 (fun z => absurd z.2 (dk_dq rfl))).trans f_y_58), (by omega)⟩, ⟨x_24, (dg_uF_at e_59), (by omega)⟩, ⟨1, x_53, t_K_own q0 (by omega) (by omega) (by omega) w_54_1 (by omega), (by rw [(dg_uF_f e_59 211), w_56_1.1, hv1, (show y_50 = c0 from Int32.toInt_inj.mp (by omega))]), (by rw [(dg_uF_f e_59 213), w_56_1.2, hv2, (show y_50 = c0 from Int32.toInt_inj.mp (by omega))])⟩, trivial⟩ dX9_addWord_82
          · as_aux_lemma =>
              have jc_55 := dk_eqc (k := (-1)) (by decide +kernel) c_55
              refine lv_aload_n hx hb dX9_addWord_53 rfl (lv_at hl 2 rfl) ?_
              refine lv_iconst (v := 2) hx hb dX9_addWord_54 (by decide +kernel) ?_
              refine lv_iload_n hx hb dX9_addWord_55 rfl (lv_at hl 4 rfl) ?_
              refine lv_aload_n hx hb dX9_addWord_56 rfl (lv_at hl 3 rfl) ?_
              refine lv_iload_n hx hb dX9_addWord_57 rfl (lv_at hl 4 rfl) ?_
              refine lv_iload_n hx hb dX9_addWord_58 rfl (lv_at hl 1 rfl) ?_
              refine dg_calli hS hA1 hA (va_runS (As := [.ref (o + 1), .int a2, .int x_24]) (rest := [.int a2, .int 2, .ref (o + 210)]) F (c_v_lettersOf l g D o S_48 a2 (by omega) x_24 (by omega) tb ((m_48.2 2 _ sX_2 (dk_dq rfl)).1.trans htb) qc1 I_48 H.size) (va_cwS 3 hts (bw_S wB_202 wB_203 wB_188 wB_201) rfl rfl rfl (by decide +kernel) ⟨Nat.le_of_ble_eq_true rfl, Nat.le_of_ble_eq_true rfl⟩) (dg_preS K ST hP hS hA1 hA) rfl rfl hl.1 rfl (lv_room (Nat.le_of_ble_eq_true rfl)) dX9_addWord_59 ⟨Nat.le_of_ble_eq_true rfl, Nat.le_of_ble_eq_true rfl⟩) (fun x_60 S_61 hw_61 H locs hP hS => ?_)
              rw [hw_61.1] at hP
              obtain ⟨hq_61, w_61_0, w_61_1, -⟩ := hw_61
              have w_61_0 : 0 ≤ (x_60).toInt ∧ (x_60).toInt ≤ 387420488 := w_61_0
              have w_61_1 : (x_60).toInt = t_let tb (a2 : Int32).toNatClampNeg (x_24 : Int32).toNatClampNeg 6 := w_61_1
              refine dg_callv hS hA1 hA (va_runV (As := [.int 2, .int a2, .int x_60]) (rest := []) F (c_v_add l g D o S_48 2 a2 x_60 y_50 f_y_50 (by omega) I_48 H.size) (cwV 3 hts (bw_V wB_185 wB_186 wB_187 wB_188 wB_184) rfl rfl rfl (by decide +kernel) ⟨Nat.le_of_ble_eq_true rfl, Nat.le_of_ble_eq_true rfl⟩) (dg_preV sX_210 rfl K ST hP hS hA1 hA) rfl rfl hl.1 rfl (lv_room (Nat.le_of_ble_eq_true rfl)) dX9_addWord_62 ⟨Nat.le_of_ble_eq_true rfl, Nat.le_of_ble_eq_true rfl⟩) (fun S_62 hw_62 H locs hP hS => ?_)
              obtain ⟨I_62, m_62, w_62_0, w_62_1, -⟩ := hw_62
              have M_62 := dg_sm.tr M_48 m_62 (dk_dq rfl) (dk_dq rfl)
              have hz_63 : (2 : Int32).toInt = 2 := by decide +kernel
              obtain ⟨y_64, f_y_64, w_62_0⟩ := w_62_0
              have w_62_0 : (y_64).toInt = (y_50).toInt + 1 := w_62_0
              have b_y_64 : 0 ≤ (y_64).toInt ∧ (y_64).toInt ≤ 1601 := dg_I.intb (lo := 0) (hi := 1601) I_62 sX_210 (by decide +kernel) f_y_64
              replace w_62_1 : S_62.2.1 211 = upd (S_48.2.1 211) (y_50 : Int32).toNatClampNeg (2 : Int32) ∧ S_62.2.1 213 = upd (S_48.2.1 213) (y_50 : Int32).toNatClampNeg x_60 := w_62_1
              refine lv_goto (tgt := 76) hx hb dX9_addWord_65 (dk_dq rfl) ?_
              refine lv_aload_n hx hb dX9_addWord_76 rfl (lv_at hl 2 rfl) ?_
              refine lv_iload_n hx hb dX9_addWord_77 rfl (lv_at hl 1 rfl) ?_
              refine dg_put (ci := 9) (v := .int x_24) (ty := tyX9 4) (C := RX9) (T := TX9) (N := 5) hx hb hts (fun w h => bw_mem (wU_X9 w h)) tyX9 tyX9_ok nmX9 hown K hP hS hA1 sX_210 rfl 4 (dk_dq rfl) (hts _ (bw_mem wB_183)) (fun _ h9 => h9) rfl (by decide +kernel) rfl rfl dX9_addWord_78 (fun S_65 e_65 H locs hP hS => ?_)
              have I_65 := dg_I.uFi (lo := (-2147483648)) (hi := 2147483647) I_62 e_65 sX_210 (by decide +kernel) (show (-2147483648) ≤ (x_24).toInt ∧ (x_24).toInt ≤ 2147483647 from (dk_full _))
              have M_65 := dg_sm.uF M_62 e_65 sX_210 (dk_dq rfl)
              refine lv_iload_n hx hb dX9_addWord_81 rfl (lv_at hl 1 rfl) ?_
              obtain ⟨hv1, hv2, hv3⟩ := w_48_2.2 (by omega)
              refine W.widen (k := 0) (n := 0) (Nat.le_of_ble_eq_true rfl) (Nat.le_of_ble_eq_true rfl) ?_
              exact dg_iret hx hb hr hlocks rfl hP hS ⟨I_65, M_65, (by omega), ⟨by omega, qe⟩, ⟨y_64, ((dg_uF_ne e_65 (fun z => absurd z.2 (dk_dq rfl))).trans f_y_64), (by omega)⟩, ⟨x_24, (dg_uF_at e_65), (by omega)⟩, ⟨2, x_60, t_K_name q0 (by omega) (by omega) (by omega) w_54_1 (by omega) w_61_1, (by rw [(dg_uF_f e_65 211), w_62_1.1, hv1, (show y_50 = c0 from Int32.toInt_inj.mp (by omega))]), (by rw [(dg_uF_f e_65 213), w_62_1.2, hv2, (show y_50 = c0 from Int32.toInt_inj.mp (by omega))])⟩, trivial⟩ dX9_addWord_82
  have L_82 : ∀ (n : Nat) (x_81 : Int32), (0 ≤ (x_81).toInt ∧ (x_81).toInt ≤ 1600) → ((a2).toInt ≤ (x_81).toInt ∧ (x_81).toInt ≤ (le).toInt) → (∀ j9 : Nat, (a2 : Int32).toNatClampNeg ≤ j9 → j9 < (x_81 : Int32).toNatClampNeg → t_l (tb j9) = true) → ((1601 - (x_81).toInt).toNat < n) → ∀ (H : Heap) (locs : List Loc), va_P D vwCl (dg_w g shX o rfX S) H → va_S A s.heap H locs → ∀ ls : Array Slot, lv_has ls 5 [(3, .int x_81), (0, .ref (o + 210)), (1, .ref (o + 1)), (2, .int a2)] → W p l e ({ frames := 7, cells := 0, slots := 0, locals := 326 } : Room) s m args below meth c H locs 0 0 (MQ below (va_Qi (fun (r : Int32) S' => CX o S' ∧ dg_sm shX [(32, 3), (32, 4)] [33, 34, 35] S S' ∧ (1 ≤ (r).toInt ∧ (r).toInt ≤ 1600) ∧ (((a2).toInt < (r).toInt ∧ (r).toInt ≤ (le).toInt) ∧ t_en tb (le : Int32).toNatClampNeg (a2 : Int32).toNatClampNeg = (r : Int32).toNatClampNeg) ∧ (∃ y9 : Int32, S'.1 210 3 = .int y9 ∧ ((y9).toInt = (c0).toInt + 1)) ∧ (∃ y9 : Int32, S'.1 210 4 = .int y9 ∧ ((y9).toInt = (r).toInt)) ∧ (∃ k8 v8 : Int32, (k8.toInt = t_K tb (a2 : Int32).toNatClampNeg (r : Int32).toNatClampNeg (decide ((pe).toInt = (a2).toInt)) ∧ v8.toInt = t_V tb (a2 : Int32).toNatClampNeg (r : Int32).toNatClampNeg (decide ((pe).toInt = (a2).toInt))) ∧ S'.2.1 211 = upd (S.2.1 211) (c0 : Int32).toNatClampNeg k8 ∧ S'.2.1 213 = upd (S.2.1 213) (c0 : Int32).toNatClampNeg v8) ∧ True) (dg_B g D shX o rfX) A) args s 0 0 A) (F0 m 2 ls []) := by
    as_aux_lemma =>
      intro n
      induction n with
      | zero =>
        intro x_81 b_x_81 rel_0 rel_1 hmu H locs hP hS ls hl
        omega
      | succ n ih =>
        as_aux_lemma =>
          intro x_81 b_x_81 rel_0 rel_1 hmu H locs hP hS ls hl
          refine lv_iload_n hx hb dX9_addWord_2 rfl (lv_at hl 0 rfl) ?_
          refine lv_aload_n hx hb dX9_addWord_3 rfl (lv_at hl 2 rfl) ?_
          refine dg_get (C := RX8) (T := TX8) (N := 2) hx hb hts (fun w h => bw_mem (wU_X8 w h)) hown K hP sX_1 rfl 1 (dk_dq rfl) (hts _ (bw_mem wB_190)) (fun _ h9 => h9) (v := .int le) f_le dX9_addWord_4 ?_
          refine lv_icmp_ge (tgt := 28) hx hb dX9_addWord_7 (dk_dq rfl) (fun c_83 => ?_) (fun c_83 => ?_)
          · have jc_83 := dk_gec (k := (le).toInt) rfl c_83
            exact J_45 x_81 (by omega) (by omega) rel_1 (t_wd_ge (by have h8 := dk_clN le; have h9 := dk_clN x_81; omega)) _ _ hP hS _ (lv_sub hl [0, 1, 2, 3] rfl)
          · as_aux_lemma =>
              have jc_83 := dk_ngec (k := (le).toInt) rfl c_83
              refine lv_aload_n hx hb dX9_addWord_10 rfl (lv_at hl 2 rfl) ?_
              refine dg_get (C := RX8) (T := TX8) (N := 2) hx hb hts (fun w h => bw_mem (wU_X8 w h)) hown K hP sX_1 rfl 0 (dk_dq rfl) (hts _ (bw_mem wB_189)) (fun _ h9 => h9) (v := .ref (o + 2)) (show S.1 1 0 = .ref (o + 2) from dg_I.rel (d := 1) I sX_1 (by decide +kernel)) dX9_addWord_11 ?_
              refine lv_iload_n hx hb dX9_addWord_14 rfl (lv_at hl 0 rfl) ?_
              have hin_84 : vp_in x_81 1600 := (dk_inv2 (by omega))
              refine dg_iald hx hb K hP sX_2 hin_84 dX9_addWord_15 (fun x_85 ex_85 => ?_)
              have b_x_85 := dk_all_at (dg_I.row (lo := 0) (hi := 255) I sX_2 (by decide +kernel)) hin_84 ex_85
              have kx_85 : tb (x_81 : Int32).toNatClampNeg = x_85 := by rw [ex_85, htb]
              have hs_x_85 : (x_81).toInt = (a2).toInt → (x_85).toInt = (xs).toInt := fun h => by have h9 := Int32.toInt_inj.mp h; rw [ex_85, h9]; exact congrArg Int32.toInt f_xs
              refine dg_calli hS hA1 hA (va_runS (As := [.int x_85]) (rest := []) F (c_v_isLetter l g D o S x_85 I H.size) (va_cwS 1 hts (bw_S wB_192 wB_193 wB_188 wB_191) rfl rfl rfl (by decide +kernel) ⟨Nat.le_of_ble_eq_true rfl, Nat.le_of_ble_eq_true rfl⟩) (dg_preS K ST hP hS hA1 hA) rfl rfl hl.1 rfl (lv_room (Nat.le_of_ble_eq_true rfl)) dX9_addWord_16 ⟨Nat.le_of_ble_eq_true rfl, Nat.le_of_ble_eq_true rfl⟩) (fun x_86 S_87 hw_87 H locs hP hS => ?_)
              rw [hw_87.1] at hP
              obtain ⟨hq_87, w_87_0, w_87_1, -⟩ := hw_87
              have w_87_0 : 0 ≤ (x_86).toInt ∧ (x_86).toInt ≤ 1 := w_87_0
              have w_87_1 : (x_86).toInt = 1 ↔ (97 ≤ (x_85).toInt ∧ (x_85).toInt ≤ 122) := w_87_1
              refine lv_if_eq (tgt := 28) hx hb dX9_addWord_19 (dk_dq rfl) (fun c_88 => ?_) (fun c_88 => ?_)
              · have jc_88 := dk_eqc (k := 0) (by decide +kernel) c_88
                have qlw_87_1 : t_l x_85 = false := t_l_f (by omega)
                exact J_45 x_81 (by omega) (by omega) rel_1 (t_wd_no (by rw [kx_85]; exact qlw_87_1)) _ _ hP hS _ (lv_sub hl [0, 1, 2, 3] rfl)
              · have jc_88 := dk_neqc (k := 0) (by decide +kernel) c_88
                have qlw_87_1 : t_l x_85 = true := t_l_iff.mpr (by omega)
                obtain ⟨x_89, ex_89⟩ : ∃ z, z = x_81 + 1 := ⟨_, rfl⟩
                have jx_89 : (x_89).toInt = (x_81).toInt + 1 := by rw [ex_89]; exact dk_addT2 rfl (by decide +kernel) (by omega)
                refine lv_iinc (v := x_89) (lv' := [(3, .int x_89), (0, .ref (o + 210)), (1, .ref (o + 1)), (2, .int a2)]) hx hb dX9_addWord_22 hl (k := 0) rfl (by rw [ex_89]; rfl) (dk_dq rfl) rfl (fun ls hl => ?_)
                refine lv_goto (tgt := 2) hx hb dX9_addWord_25 (dk_dq rfl) ?_
                exact ih x_89 (by omega) (by omega) (tl_step rel_1 (by rw [kx_85]; exact qlw_87_1) (by omega) (by omega)) (by first | exact mu_lt hmu (by omega) (by omega) | omega) _ _ hP hS _ (lv_sub hl [0, 1, 2, 3] rfl)
  exact L_82 ((1601 - ((a2 : Int32)).toInt).toNat + 1) a2 (by omega) (by omega) tl_zero (by first | exact mu_lt hmu (by omega) (by omega) | omega) _ _ hP hS _ (lv_sub hl [0, 1, 2, 3] rfl)
set_option maxHeartbeats 8000000 in
set_option maxRecDepth 100000 in
theorem c_v_addNumber (l : Launch) (g : Nat → ClassId) (D : va_G) (o : Nat) (S : dg_S) (a2 : Int32) (b_a2 : 0 ≤ (a2).toInt ∧ (a2).toInt ≤ 1599) (tb : Nat → Int32) (c0 : Int32) (f_c0 : S.1 210 3 = .int c0) (b_c0 : 0 ≤ (c0).toInt ∧ (c0).toInt ≤ 1600) (pe : Int32) (f_pe : S.1 210 4 = .int pe) (b_pe : (-1) ≤ (pe).toInt ∧ (pe).toInt ≤ 1600) (le : Int32) (f_le : S.1 1 1 = .int le) (b_le : 0 ≤ (le).toInt ∧ (le).toInt ≤ 1600) (xs : Int32) (f_xs : S.2.1 2 (a2 : Int32).toNatClampNeg = xs) (b_xs : 48 ≤ (xs).toInt ∧ (xs).toInt ≤ 57) (htb : S.2.1 2 = tb) (hle : (a2).toInt < (le).toInt) (I : CX o S) (sz : Nat) : Met l yX9_addNumber (bw yX9_addNumber cX9_addNumber 6 (some .int)) ({ frames := 3, cells := 0, slots := 0, locals := 78 } : Room) (dk_Pc g D (dg_w g shX o rfX S) sz [.ref (o + 210), .ref (o + 1), .int a2]) (va_Qi (fun (r : Int32) S' => CX o S' ∧ dg_sm shX [(32, 3), (32, 4)] [33, 34, 35] S S' ∧ (1 ≤ (r).toInt ∧ (r).toInt ≤ 1600) ∧ (((a2).toInt < (r).toInt ∧ (r).toInt ≤ (le).toInt) ∧ t_en tb (le : Int32).toNatClampNeg (a2 : Int32).toNatClampNeg = (r : Int32).toNatClampNeg) ∧ (∃ y9 : Int32, S'.1 210 3 = .int y9 ∧ ((y9).toInt = (c0).toInt + 1)) ∧ (∃ y9 : Int32, S'.1 210 4 = .int y9 ∧ ((y9).toInt = (r).toInt)) ∧ (∃ k8 v8 : Int32, (k8.toInt = t_K tb (a2 : Int32).toNatClampNeg (r : Int32).toNatClampNeg (decide ((pe).toInt = (a2).toInt)) ∧ v8.toInt = t_V tb (a2 : Int32).toNatClampNeg (r : Int32).toNatClampNeg (decide ((pe).toInt = (a2).toInt))) ∧ S'.2.1 211 = upd (S.2.1 211) (c0 : Int32).toNatClampNeg k8 ∧ S'.2.1 213 = upd (S.2.1 213) (c0 : Int32).toNatClampNeg v8) ∧ True) (dg_B g D shX o rfX) (dg_A o shX.length sz)) 0 0 (dg_A o shX.length sz) := by
  refine dg_met (cc := cX9_addNumber) (maxL := 6) (ret := (some .int)) (dk_dq rfl) rfl (Nat.le_of_ble_eq_true rfl) ?_
  intro p e s m args below meth c A hAe harg hx hb hr hml hts hown hlocks hin hP K hS hA1 hA ST hsz ls hl
  rw [← hAe]
  have F : CallFix p m c cX9_addNumber 6 s args (bw yX9_addNumber cX9_addNumber 6 (some .int)) RX9 := ⟨hx, hb, hml, hown, hts⟩
  have hl : lv_has ls 6 [(0, .ref (o + 210)), (1, .ref (o + 1)), (2, .int a2)] := hl
  have M_0 : dg_sm shX [(32, 3), (32, 4)] [33, 34, 35] S S := dg_sm.rf
  refine lv_iload_n hx hb dX9_addNumber_0 rfl (lv_at hl 2 rfl) ?_
  refine lv_istore_n (lv' := [(3, .int a2), (0, .ref (o + 210)), (1, .ref (o + 1)), (2, .int a2)]) hx hb dX9_addNumber_1 rfl hl (dk_dq rfl) rfl (fun ls hl => ?_)
  have J_68 : ∀ (x_24 : Int32), (0 ≤ (x_24).toInt ∧ (x_24).toInt ≤ 1600) → ((a2).toInt < (x_24).toInt ∧ (x_24).toInt ≤ (le).toInt) → (∀ j9 : Nat, (a2 : Int32).toNatClampNeg ≤ j9 → j9 < (x_24 : Int32).toNatClampNeg → t_d (tb j9) = true) → (t_nm tb (le : Int32).toNatClampNeg (x_24 : Int32).toNatClampNeg = false) → ∀ (H : Heap) (locs : List Loc), va_P D vwCl (dg_w g shX o rfX S) H → va_S A s.heap H locs → ∀ ls : Array Slot, lv_has ls 6 [(3, .int x_24), (0, .ref (o + 210)), (1, .ref (o + 1)), (2, .int a2)] → W p l e ({ frames := 3, cells := 0, slots := 0, locals := 78 } : Room) s m args below meth c H locs 0 0 (MQ below (va_Qi (fun (r : Int32) S' => CX o S' ∧ dg_sm shX [(32, 3), (32, 4)] [33, 34, 35] S S' ∧ (1 ≤ (r).toInt ∧ (r).toInt ≤ 1600) ∧ (((a2).toInt < (r).toInt ∧ (r).toInt ≤ (le).toInt) ∧ t_en tb (le : Int32).toNatClampNeg (a2 : Int32).toNatClampNeg = (r : Int32).toNatClampNeg) ∧ (∃ y9 : Int32, S'.1 210 3 = .int y9 ∧ ((y9).toInt = (c0).toInt + 1)) ∧ (∃ y9 : Int32, S'.1 210 4 = .int y9 ∧ ((y9).toInt = (r).toInt)) ∧ (∃ k8 v8 : Int32, (k8.toInt = t_K tb (a2 : Int32).toNatClampNeg (r : Int32).toNatClampNeg (decide ((pe).toInt = (a2).toInt)) ∧ v8.toInt = t_V tb (a2 : Int32).toNatClampNeg (r : Int32).toNatClampNeg (decide ((pe).toInt = (a2).toInt))) ∧ S'.2.1 211 = upd (S.2.1 211) (c0 : Int32).toNatClampNeg k8 ∧ S'.2.1 213 = upd (S.2.1 213) (c0 : Int32).toNatClampNeg v8) ∧ True) (dg_B g D shX o rfX) A) args s 0 0 A) (F0 m 28 ls []) := by
    as_aux_lemma =>
      intro x_24 b_x_24 rel_0 rel_1 rel_2 H locs hP hS ls hl
      have qc1 := rel_1
      have qc2 := rel_2
      have qe : t_en tb (le : Int32).toNatClampNeg (a2 : Int32).toNatClampNeg = (x_24 : Int32).toNatClampNeg := t_en_numb (by have h7 := dk_clN a2; have h8 := dk_clN le; have h9 := dk_clN x_24; omega) (by have h7 := dk_clN a2; have h8 := dk_clN le; have h9 := dk_clN x_24; omega) (by have h7 := dk_clN a2; have h8 := dk_clN le; have h9 := dk_clN x_24; omega) qc1 qc2
      have q0 : t_d (tb (a2 : Int32).toNatClampNeg) = true := qc1 _ (Nat.le_refl _) (by have h7 := dk_clN a2; have h8 := dk_clN le; have h9 := dk_clN x_24; omega)
      refine lv_aload_n hx hb dX9_addNumber_28 rfl (lv_at hl 1 rfl) ?_
      refine lv_iload_n hx hb dX9_addNumber_29 rfl (lv_at hl 3 rfl) ?_
      refine lv_iload_n hx hb dX9_addNumber_30 rfl (lv_at hl 0 rfl) ?_
      refine lv_iconst (v := 4) hx hb dX9_addNumber_31 (by decide +kernel) ?_
      have hz_69 : (4 : Int32).toInt = 4 := by decide +kernel
      refine dg_calli hS hA1 hA (va_runV (As := [.int a2, .int x_24, .int 4]) (rest := []) F (c_v_addIfWrong l g D o S a2 (by omega) x_24 (by omega) 4 (by decide +kernel) c0 f_c0 (by omega) pe f_pe (by omega) I H.size) (cwV 3 hts (bw_V wB_195 wB_196 wB_197 wB_188 wB_194) rfl rfl rfl (by decide +kernel) ⟨Nat.le_of_ble_eq_true rfl, Nat.le_of_ble_eq_true rfl⟩) (dg_preV sX_210 rfl K ST hP hS hA1 hA) rfl rfl hl.1 rfl (lv_room (Nat.le_of_ble_eq_true rfl)) dX9_addNumber_32 ⟨Nat.le_of_ble_eq_true rfl, Nat.le_of_ble_eq_true rfl⟩) (fun x_70 S_71 hw_71 H locs hP hS => ?_)
      obtain ⟨I_71, m_71, w_71_0, w_71_1, w_71_2, -⟩ := hw_71
      have M_71 := dg_sm.tr M_0 m_71 (dk_dq rfl) (dk_dq rfl)
      have hz_72 : (4 : Int32).toInt = 4 := by decide +kernel
      have w_71_0 : 0 ≤ (x_70).toInt ∧ (x_70).toInt ≤ 1 := w_71_0
      obtain ⟨y_73, f_y_73, w_71_1⟩ := w_71_1
      have w_71_1 : (y_73).toInt = (c0).toInt + (x_70).toInt := w_71_1
      have b_y_73 : 0 ≤ (y_73).toInt ∧ (y_73).toInt ≤ 1601 := dg_I.intb (lo := 0) (hi := 1601) I_71 sX_210 (by decide +kernel) f_y_73
      replace w_71_2 : ((x_70).toInt = 1 → ∃ v9 : Int32, (((4 : Int32)).toInt < (x_24).toInt - (a2).toInt → v9.toInt = (a2).toInt + ((4 : Int32)).toInt) ∧ (¬ ((4 : Int32)).toInt < (x_24).toInt - (a2).toInt → v9.toInt = (a2).toInt) ∧ S_71.2.1 211 = upd (S.2.1 211) (c0 : Int32).toNatClampNeg 5 ∧ S_71.2.1 213 = upd (S.2.1 213) (c0 : Int32).toNatClampNeg v9 ∧ (((4 : Int32)).toInt < (x_24).toInt - (a2).toInt ∨ (a2).toInt = (pe).toInt)) ∧ ((x_70).toInt = 0 → S_71.2.1 211 = S.2.1 211 ∧ S_71.2.1 213 = S.2.1 213 ∧ ¬ (((4 : Int32)).toInt < (x_24).toInt - (a2).toInt ∨ (a2).toInt = (pe).toInt)) := w_71_2
      refine lv_if_ne (tgt := 82) hx hb dX9_addNumber_35 (dk_dq rfl) (fun c_74 => ?_) (fun c_74 => ?_)
      · have jc_74 := dk_neqc (k := 0) (by decide +kernel) c_74
        refine lv_aload_n hx hb dX9_addNumber_82 rfl (lv_at hl 1 rfl) ?_
        refine lv_iload_n hx hb dX9_addNumber_83 rfl (lv_at hl 0 rfl) ?_
        refine dg_put (ci := 9) (v := .int x_24) (ty := tyX9 4) (C := RX9) (T := TX9) (N := 5) hx hb hts (fun w h => bw_mem (wU_X9 w h)) tyX9 tyX9_ok nmX9 hown K hP hS hA1 sX_210 rfl 4 (dk_dq rfl) (hts _ (bw_mem wB_183)) (fun _ h9 => h9) rfl (by decide +kernel) rfl rfl dX9_addNumber_84 (fun S_75 e_75 H locs hP hS => ?_)
        have I_75 := dg_I.uFi (lo := (-2147483648)) (hi := 2147483647) I_71 e_75 sX_210 (by decide +kernel) (show (-2147483648) ≤ (x_24).toInt ∧ (x_24).toInt ≤ 2147483647 from (dk_full _))
        have M_75 := dg_sm.uF M_71 e_75 sX_210 (dk_dq rfl)
        refine lv_iload_n hx hb dX9_addNumber_87 rfl (lv_at hl 0 rfl) ?_
        obtain ⟨v9, hv1, hv2, hv3, hv4, hv5⟩ := w_71_2.1 (by omega)
        refine W.widen (k := 0) (n := 0) (Nat.le_of_ble_eq_true rfl) (Nat.le_of_ble_eq_true rfl) ?_
        exact dg_iret hx hb hr hlocks rfl hP hS ⟨I_75, M_75, (by omega), ⟨by omega, qe⟩, ⟨y_73, ((dg_uF_ne e_75 (fun z => absurd z.2 (dk_dq rfl))).trans f_y_73), (by omega)⟩, ⟨x_24, (dg_uF_at e_75), (by omega)⟩, ⟨5, v9, t_K_wd (v := v9) q0 (by omega) (by omega) (by omega) (by omega) (by omega), (by rw [(dg_uF_f e_75 211), hv3]), (by rw [(dg_uF_f e_75 213), hv4])⟩, trivial⟩ dX9_addNumber_88
      · as_aux_lemma =>
          have jc_74 := dk_eqc (k := 0) (by decide +kernel) c_74
          refine lv_iconst (v := 0) hx hb dX9_addNumber_38 (by decide +kernel) ?_
          refine lv_istore (lv' := [(4, .int 0), (3, .int x_24), (0, .ref (o + 210)), (1, .ref (o + 1)), (2, .int a2)]) hx hb dX9_addNumber_39 hl (dk_dq rfl) rfl (fun ls hl => ?_)
          refine lv_iload_n hx hb dX9_addNumber_41 rfl (lv_at hl 4 rfl) ?_
          refine lv_istore (lv' := [(5, .int a2), (4, .int 0), (3, .int x_24), (0, .ref (o + 210)), (1, .ref (o + 1)), (2, .int a2)]) hx hb dX9_addNumber_42 hl (dk_dq rfl) rfl (fun ls hl => ?_)
          have L_101 : ∀ (n : Nat) (x_99 : Int32) (x_100 : Int32), (0 ≤ (x_99).toInt ∧ (x_99).toInt ≤ 1600) → (0 ≤ (x_100).toInt ∧ (x_100).toInt ≤ 9999) → ((x_100).toInt = t_num tb (a2 : Int32).toNatClampNeg ((x_99 : Int32).toNatClampNeg - (a2 : Int32).toNatClampNeg)) → ((a2).toInt ≤ (x_99).toInt ∧ (x_99).toInt ≤ (x_24).toInt) → ((1601 - (x_99).toInt).toNat < n) → ∀ (H : Heap) (locs : List Loc), va_P D vwCl (dg_w g shX o rfX S_71) H → va_S A s.heap H locs → ∀ ls : Array Slot, lv_has ls 6 [(5, .int x_99), (4, .int x_100), (3, .int x_24), (0, .ref (o + 210)), (1, .ref (o + 1)), (2, .int a2)] → W p l e ({ frames := 3, cells := 0, slots := 0, locals := 78 } : Room) s m args below meth c H locs 0 0 (MQ below (va_Qi (fun (r : Int32) S' => CX o S' ∧ dg_sm shX [(32, 3), (32, 4)] [33, 34, 35] S S' ∧ (1 ≤ (r).toInt ∧ (r).toInt ≤ 1600) ∧ (((a2).toInt < (r).toInt ∧ (r).toInt ≤ (le).toInt) ∧ t_en tb (le : Int32).toNatClampNeg (a2 : Int32).toNatClampNeg = (r : Int32).toNatClampNeg) ∧ (∃ y9 : Int32, S'.1 210 3 = .int y9 ∧ ((y9).toInt = (c0).toInt + 1)) ∧ (∃ y9 : Int32, S'.1 210 4 = .int y9 ∧ ((y9).toInt = (r).toInt)) ∧ (∃ k8 v8 : Int32, (k8.toInt = t_K tb (a2 : Int32).toNatClampNeg (r : Int32).toNatClampNeg (decide ((pe).toInt = (a2).toInt)) ∧ v8.toInt = t_V tb (a2 : Int32).toNatClampNeg (r : Int32).toNatClampNeg (decide ((pe).toInt = (a2).toInt))) ∧ S'.2.1 211 = upd (S.2.1 211) (c0 : Int32).toNatClampNeg k8 ∧ S'.2.1 213 = upd (S.2.1 213) (c0 : Int32).toNatClampNeg v8) ∧ True) (dg_B g D shX o rfX) A) args s 0 0 A) (F0 m 44 ls []) := by
            as_aux_lemma =>
              intro n
              induction n with
              | zero =>
                intro x_99 x_100 b_x_99 b_x_100 rel_0 rel_1 hmu H locs hP hS ls hl
                omega
              | succ n ih =>
                as_aux_lemma =>
                  intro x_99 x_100 b_x_99 b_x_100 rel_0 rel_1 hmu H locs hP hS ls hl
                  refine lv_iload hx hb dX9_addNumber_44 (lv_at hl 0 rfl) ?_
                  refine lv_iload_n hx hb dX9_addNumber_46 rfl (lv_at hl 2 rfl) ?_
                  refine lv_icmp_ge (tgt := 74) hx hb dX9_addNumber_47 (dk_dq rfl) (fun c_102 => ?_) (fun c_102 => ?_)
                  · as_aux_lemma =>
                      have jc_102 := dk_gec (k := (x_24).toInt) rfl c_102
                      refine lv_aload_n hx hb dX9_addNumber_74 rfl (lv_at hl 3 rfl) ?_
                      refine lv_iconst (v := 3) hx hb dX9_addNumber_75 (by decide +kernel) ?_
                      refine lv_iload_n hx hb dX9_addNumber_76 rfl (lv_at hl 5 rfl) ?_
                      refine lv_iload hx hb dX9_addNumber_77 (lv_at hl 1 rfl) ?_
                      refine dg_callv hS hA1 hA (va_runV (As := [.int 3, .int a2, .int x_100]) (rest := []) F (c_v_add l g D o S_71 3 a2 x_100 y_73 f_y_73 (by omega) I_71 H.size) (cwV 3 hts (bw_V wB_185 wB_186 wB_187 wB_188 wB_184) rfl rfl rfl (by decide +kernel) ⟨Nat.le_of_ble_eq_true rfl, Nat.le_of_ble_eq_true rfl⟩) (dg_preV sX_210 rfl K ST hP hS hA1 hA) rfl rfl hl.1 rfl (lv_room (Nat.le_of_ble_eq_true rfl)) dX9_addNumber_79 ⟨Nat.le_of_ble_eq_true rfl, Nat.le_of_ble_eq_true rfl⟩) (fun S_103 hw_103 H locs hP hS => ?_)
                      obtain ⟨I_103, m_103, w_103_0, w_103_1, -⟩ := hw_103
                      have M_103 := dg_sm.tr M_71 m_103 (dk_dq rfl) (dk_dq rfl)
                      have hz_104 : (3 : Int32).toInt = 3 := by decide +kernel
                      obtain ⟨y_105, f_y_105, w_103_0⟩ := w_103_0
                      have w_103_0 : (y_105).toInt = (y_73).toInt + 1 := w_103_0
                      have b_y_105 : 0 ≤ (y_105).toInt ∧ (y_105).toInt ≤ 1601 := dg_I.intb (lo := 0) (hi := 1601) I_103 sX_210 (by decide +kernel) f_y_105
                      replace w_103_1 : S_103.2.1 211 = upd (S_71.2.1 211) (y_73 : Int32).toNatClampNeg (3 : Int32) ∧ S_103.2.1 213 = upd (S_71.2.1 213) (y_73 : Int32).toNatClampNeg x_100 := w_103_1
                      refine lv_aload_n hx hb dX9_addNumber_82 rfl (lv_at hl 3 rfl) ?_
                      refine lv_iload_n hx hb dX9_addNumber_83 rfl (lv_at hl 2 rfl) ?_
                      refine dg_put (ci := 9) (v := .int x_24) (ty := tyX9 4) (C := RX9) (T := TX9) (N := 5) hx hb hts (fun w h => bw_mem (wU_X9 w h)) tyX9 tyX9_ok nmX9 hown K hP hS hA1 sX_210 rfl 4 (dk_dq rfl) (hts _ (bw_mem wB_183)) (fun _ h9 => h9) rfl (by decide +kernel) rfl rfl dX9_addNumber_84 (fun S_106 e_106 H locs hP hS => ?_)
                      have I_106 := dg_I.uFi (lo := (-2147483648)) (hi := 2147483647) I_103 e_106 sX_210 (by decide +kernel) (show (-2147483648) ≤ (x_24).toInt ∧ (x_24).toInt ≤ 2147483647 from (dk_full _))
                      have M_106 := dg_sm.uF M_103 e_106 sX_210 (dk_dq rfl)
                      refine lv_iload_n hx hb dX9_addNumber_87 rfl (lv_at hl 2 rfl) ?_
                      obtain ⟨hv1, hv2, hv3⟩ := w_71_2.2 (by omega)
                      refine W.widen (k := 0) (n := 0) (Nat.le_of_ble_eq_true rfl) (Nat.le_of_ble_eq_true rfl) ?_
                      exact dg_iret hx hb hr hlocks rfl hP hS ⟨I_106, M_106, (by omega), ⟨by omega, qe⟩, ⟨y_105, ((dg_uF_ne e_106 (fun z => absurd z.2 (dk_dq rfl))).trans f_y_105), (by omega)⟩, ⟨x_24, (dg_uF_at e_106), (by omega)⟩, ⟨3, x_100, t_K_num q0 (by omega) (by omega) (by omega) rel_0 (by omega), (by rw [(dg_uF_f e_106 211), w_103_1.1, hv1, (show y_73 = c0 from Int32.toInt_inj.mp (by omega))]), (by rw [(dg_uF_f e_106 213), w_103_1.2, hv2, (show y_73 = c0 from Int32.toInt_inj.mp (by omega))])⟩, trivial⟩ dX9_addNumber_88
                  · as_aux_lemma =>
                      have jc_102 := dk_ngec (k := (x_24).toInt) rfl c_102
                      have hw9 := (w_71_2.2 (by omega)).2.2
                      have hc9 := t_num_3 rel_0 qc1 (by omega) (by omega) (by omega)
                      refine lv_bipush (v := 10) hx hb dX9_addNumber_50 (by decide +kernel) ?_
                      refine lv_iload hx hb dX9_addNumber_52 (lv_at hl 1 rfl) ?_
                      refine lv_imul hx hb dX9_addNumber_54 ?_
                      refine lv_topi (fun x_107 ex_107 => ?_)
                      have jx_107 : (x_107).toInt = 10 * (x_100).toInt := by rw [ex_107]; exact dk_mulT2 (by decide +kernel) rfl (by omega)
                      refine lv_aload_n hx hb dX9_addNumber_55 rfl (lv_at hl 4 rfl) ?_
                      refine dg_get (C := RX8) (T := TX8) (N := 2) hx hb hts (fun w h => bw_mem (wU_X8 w h)) hown K hP sX_1 rfl 0 (dk_dq rfl) (hts _ (bw_mem wB_189)) (fun _ h9 => h9) (v := .ref (o + 2)) (show S_71.1 1 0 = .ref (o + 2) from dg_I.rel (d := 1) I_71 sX_1 (by decide +kernel)) dX9_addNumber_56 ?_
                      refine lv_iload hx hb dX9_addNumber_59 (lv_at hl 0 rfl) ?_
                      have hin_108 : vp_in x_99 1600 := (dk_inv2 (by omega))
                      refine dg_iald hx hb K hP sX_2 hin_108 dX9_addNumber_61 (fun x_109 ex_109 => ?_)
                      have b_x_109 := dk_all_at (dg_I.row (lo := 0) (hi := 255) I_71 sX_2 (by decide +kernel)) hin_108 ex_109
                      have kx_109 : tb (x_99 : Int32).toNatClampNeg = x_109 := by rw [ex_109, (m_71.2 2 _ sX_2 (dk_dq rfl)).1, htb]
                      have qx_109 := t_d_iff.mp (kx_109 ▸ qc1 (x_99 : Int32).toNatClampNeg (by have h8 := dk_clN x_99; have h9 := dk_clN a2; omega) (by have h8 := dk_clN x_99; have h9 := dk_clN x_24; omega))
                      have hs_x_109 : (x_99).toInt = (a2).toInt → (x_109).toInt = (xs).toInt := fun h => by have h9 := Int32.toInt_inj.mp h; rw [ex_109, h9]; exact congrArg Int32.toInt ((congrFun (m_71.2 2 _ sX_2 (dk_dq rfl)).1 _).trans f_xs)
                      refine lv_iadd hx hb dX9_addNumber_62 ?_
                      refine lv_topi (fun x_110 ex_110 => ?_)
                      have jx_110 : (x_110).toInt = (x_107).toInt + (x_109).toInt := by rw [ex_110]; exact dk_addT2 rfl rfl (by omega)
                      refine lv_bipush (v := 48) hx hb dX9_addNumber_63 (by decide +kernel) ?_
                      refine lv_isub hx hb dX9_addNumber_65 ?_
                      refine lv_topi (fun x_111 ex_111 => ?_)
                      have jx_111 : (x_111).toInt = (x_110).toInt - 48 := by rw [ex_111]; exact dk_subT2 rfl (by decide +kernel) (by omega)
                      refine lv_istore (lv' := [(4, .int x_111), (5, .int x_99), (3, .int x_24), (0, .ref (o + 210)), (1, .ref (o + 1)), (2, .int a2)]) hx hb dX9_addNumber_66 hl (dk_dq rfl) rfl (fun ls hl => ?_)
                      obtain ⟨x_112, ex_112⟩ : ∃ z, z = x_99 + 1 := ⟨_, rfl⟩
                      have jx_112 : (x_112).toInt = (x_99).toInt + 1 := by rw [ex_112]; exact dk_addT2 rfl (by decide +kernel) (by omega)
                      refine lv_iinc (v := x_112) (lv' := [(5, .int x_112), (4, .int x_111), (3, .int x_24), (0, .ref (o + 210)), (1, .ref (o + 1)), (2, .int a2)]) hx hb dX9_addNumber_68 hl (k := 1) rfl (by rw [ex_112]; rfl) (dk_dq rfl) rfl (fun ls hl => ?_)
                      refine lv_goto (tgt := 44) hx hb dX9_addNumber_71 (dk_dq rfl) ?_
                      exact ih x_112 x_111 (by omega) (by omega) (t_num_go rel_0 kx_109 (by omega) (by omega) (by omega)) (by omega) (by first | exact mu_lt hmu (by omega) (by omega) | omega) _ _ hP hS _ (lv_sub hl [0, 1, 2, 3, 4, 5] rfl)
          have hz_113 : (0 : Int32).toInt = 0 := by decide +kernel
          have hz_114 : (0 : Int32).toInt = 0 := by decide +kernel
          have hz_115 : (0 : Int32).toInt = 0 := by decide +kernel
          have hz_116 : (0 : Int32).toInt = 0 := by decide +kernel
          exact L_101 ((1601 - ((a2 : Int32)).toInt).toNat + 1) a2 0 (by omega) (by decide +kernel) (t_num_z (by decide +kernel)) (by omega) (by first | exact mu_lt hmu (by omega) (by omega) | omega) _ _ hP hS _ (lv_sub hl [0, 1, 2, 3, 4, 5] rfl)
  have L_133 : ∀ (n : Nat) (x_132 : Int32), (0 ≤ (x_132).toInt ∧ (x_132).toInt ≤ 1600) → ((a2).toInt ≤ (x_132).toInt ∧ (x_132).toInt ≤ (le).toInt) → (∀ j9 : Nat, (a2 : Int32).toNatClampNeg ≤ j9 → j9 < (x_132 : Int32).toNatClampNeg → t_d (tb j9) = true) → ((1601 - (x_132).toInt).toNat < n) → ∀ (H : Heap) (locs : List Loc), va_P D vwCl (dg_w g shX o rfX S) H → va_S A s.heap H locs → ∀ ls : Array Slot, lv_has ls 6 [(3, .int x_132), (0, .ref (o + 210)), (1, .ref (o + 1)), (2, .int a2)] → W p l e ({ frames := 3, cells := 0, slots := 0, locals := 78 } : Room) s m args below meth c H locs 0 0 (MQ below (va_Qi (fun (r : Int32) S' => CX o S' ∧ dg_sm shX [(32, 3), (32, 4)] [33, 34, 35] S S' ∧ (1 ≤ (r).toInt ∧ (r).toInt ≤ 1600) ∧ (((a2).toInt < (r).toInt ∧ (r).toInt ≤ (le).toInt) ∧ t_en tb (le : Int32).toNatClampNeg (a2 : Int32).toNatClampNeg = (r : Int32).toNatClampNeg) ∧ (∃ y9 : Int32, S'.1 210 3 = .int y9 ∧ ((y9).toInt = (c0).toInt + 1)) ∧ (∃ y9 : Int32, S'.1 210 4 = .int y9 ∧ ((y9).toInt = (r).toInt)) ∧ (∃ k8 v8 : Int32, (k8.toInt = t_K tb (a2 : Int32).toNatClampNeg (r : Int32).toNatClampNeg (decide ((pe).toInt = (a2).toInt)) ∧ v8.toInt = t_V tb (a2 : Int32).toNatClampNeg (r : Int32).toNatClampNeg (decide ((pe).toInt = (a2).toInt))) ∧ S'.2.1 211 = upd (S.2.1 211) (c0 : Int32).toNatClampNeg k8 ∧ S'.2.1 213 = upd (S.2.1 213) (c0 : Int32).toNatClampNeg v8) ∧ True) (dg_B g D shX o rfX) A) args s 0 0 A) (F0 m 2 ls []) := by
    as_aux_lemma =>
      intro n
      induction n with
      | zero =>
        intro x_132 b_x_132 rel_0 rel_1 hmu H locs hP hS ls hl
        omega
      | succ n ih =>
        as_aux_lemma =>
          intro x_132 b_x_132 rel_0 rel_1 hmu H locs hP hS ls hl
          refine lv_iload_n hx hb dX9_addNumber_2 rfl (lv_at hl 0 rfl) ?_
          refine lv_aload_n hx hb dX9_addNumber_3 rfl (lv_at hl 2 rfl) ?_
          refine dg_get (C := RX8) (T := TX8) (N := 2) hx hb hts (fun w h => bw_mem (wU_X8 w h)) hown K hP sX_1 rfl 1 (dk_dq rfl) (hts _ (bw_mem wB_190)) (fun _ h9 => h9) (v := .int le) f_le dX9_addNumber_4 ?_
          refine lv_icmp_ge (tgt := 28) hx hb dX9_addNumber_7 (dk_dq rfl) (fun c_134 => ?_) (fun c_134 => ?_)
          · have jc_134 := dk_gec (k := (le).toInt) rfl c_134
            exact J_68 x_132 (by omega) (by omega) rel_1 (t_nm_ge (by have h8 := dk_clN le; have h9 := dk_clN x_132; omega)) _ _ hP hS _ (lv_sub hl [0, 1, 2, 3] rfl)
          · as_aux_lemma =>
              have jc_134 := dk_ngec (k := (le).toInt) rfl c_134
              refine lv_aload_n hx hb dX9_addNumber_10 rfl (lv_at hl 2 rfl) ?_
              refine dg_get (C := RX8) (T := TX8) (N := 2) hx hb hts (fun w h => bw_mem (wU_X8 w h)) hown K hP sX_1 rfl 0 (dk_dq rfl) (hts _ (bw_mem wB_189)) (fun _ h9 => h9) (v := .ref (o + 2)) (show S.1 1 0 = .ref (o + 2) from dg_I.rel (d := 1) I sX_1 (by decide +kernel)) dX9_addNumber_11 ?_
              refine lv_iload_n hx hb dX9_addNumber_14 rfl (lv_at hl 0 rfl) ?_
              have hin_135 : vp_in x_132 1600 := (dk_inv2 (by omega))
              refine dg_iald hx hb K hP sX_2 hin_135 dX9_addNumber_15 (fun x_136 ex_136 => ?_)
              have b_x_136 := dk_all_at (dg_I.row (lo := 0) (hi := 255) I sX_2 (by decide +kernel)) hin_135 ex_136
              have kx_136 : tb (x_132 : Int32).toNatClampNeg = x_136 := by rw [ex_136, htb]
              have hs_x_136 : (x_132).toInt = (a2).toInt → (x_136).toInt = (xs).toInt := fun h => by have h9 := Int32.toInt_inj.mp h; rw [ex_136, h9]; exact congrArg Int32.toInt f_xs
              refine dg_calli hS hA1 hA (va_runS (As := [.int x_136]) (rest := []) F (c_v_isDigit l g D o S x_136 I H.size) (va_cwS 1 hts (bw_S wB_205 wB_206 wB_188 wB_204) rfl rfl rfl (by decide +kernel) ⟨Nat.le_of_ble_eq_true rfl, Nat.le_of_ble_eq_true rfl⟩) (dg_preS K ST hP hS hA1 hA) rfl rfl hl.1 rfl (lv_room (Nat.le_of_ble_eq_true rfl)) dX9_addNumber_16 ⟨Nat.le_of_ble_eq_true rfl, Nat.le_of_ble_eq_true rfl⟩) (fun x_137 S_138 hw_138 H locs hP hS => ?_)
              rw [hw_138.1] at hP
              obtain ⟨hq_138, w_138_0, w_138_1, -⟩ := hw_138
              have w_138_0 : 0 ≤ (x_137).toInt ∧ (x_137).toInt ≤ 1 := w_138_0
              have w_138_1 : (x_137).toInt = 1 ↔ (48 ≤ (x_136).toInt ∧ (x_136).toInt ≤ 57) := w_138_1
              refine lv_if_eq (tgt := 28) hx hb dX9_addNumber_19 (dk_dq rfl) (fun c_139 => ?_) (fun c_139 => ?_)
              · have jc_139 := dk_eqc (k := 0) (by decide +kernel) c_139
                have qlw_138_1 : t_d x_136 = false := t_d_f (by omega)
                exact J_68 x_132 (by omega) (by omega) rel_1 (t_nm_no (by rw [kx_136]; exact qlw_138_1)) _ _ hP hS _ (lv_sub hl [0, 1, 2, 3] rfl)
              · have jc_139 := dk_neqc (k := 0) (by decide +kernel) c_139
                have qlw_138_1 : t_d x_136 = true := t_d_iff.mpr (by omega)
                obtain ⟨x_140, ex_140⟩ : ∃ z, z = x_132 + 1 := ⟨_, rfl⟩
                have jx_140 : (x_140).toInt = (x_132).toInt + 1 := by rw [ex_140]; exact dk_addT2 rfl (by decide +kernel) (by omega)
                refine lv_iinc (v := x_140) (lv' := [(3, .int x_140), (0, .ref (o + 210)), (1, .ref (o + 1)), (2, .int a2)]) hx hb dX9_addNumber_22 hl (k := 0) rfl (by rw [ex_140]; rfl) (dk_dq rfl) rfl (fun ls hl => ?_)
                refine lv_goto (tgt := 2) hx hb dX9_addNumber_25 (dk_dq rfl) ?_
                exact ih x_140 (by omega) (by omega) (tl_step rel_1 (by rw [kx_136]; exact qlw_138_1) (by omega) (by omega)) (by first | exact mu_lt hmu (by omega) (by omega) | omega) _ _ hP hS _ (lv_sub hl [0, 1, 2, 3] rfl)
  exact L_133 ((1601 - ((a2 : Int32)).toInt).toNat + 1) a2 (by omega) (by omega) tl_zero (by first | exact mu_lt hmu (by omega) (by omega) | omega) _ _ hP hS _ (lv_sub hl [0, 1, 2, 3] rfl)
