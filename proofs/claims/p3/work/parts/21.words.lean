/-! 21.words.lean.txt -/
theorem dX9_addWord_0 : decode cX9_addWord 0 = .ok (.iload_n 2, 1) := by decide +kernel
theorem dX9_addWord_1 : decode cX9_addWord 1 = .ok (.istore_n 3, 1) := by decide +kernel
theorem dX9_addWord_2 : decode cX9_addWord 2 = .ok (.iload_n 3, 1) := by decide +kernel
theorem dX9_addWord_3 : decode cX9_addWord 3 = .ok (.aload_n 1, 1) := by decide +kernel
theorem dX9_addWord_4 : decode cX9_addWord 4 = .ok (.getfield 28, 3) := by decide +kernel
theorem dX9_addWord_7 : decode cX9_addWord 7 = .ok (.if_icmp .ge 21, 3) := by decide +kernel
theorem dX9_addWord_10 : decode cX9_addWord 10 = .ok (.aload_n 1, 1) := by decide +kernel
theorem dX9_addWord_11 : decode cX9_addWord 11 = .ok (.getfield 33, 3) := by decide +kernel
theorem dX9_addWord_14 : decode cX9_addWord 14 = .ok (.iload_n 3, 1) := by decide +kernel
theorem dX9_addWord_15 : decode cX9_addWord 15 = .ok (.iaload, 1) := by decide +kernel
theorem dX9_addWord_16 : decode cX9_addWord 16 = .ok (.invokestatic 36, 3) := by decide +kernel
theorem dX9_addWord_19 : decode cX9_addWord 19 = .ok (.ifCond .eq 9, 3) := by decide +kernel
theorem dX9_addWord_22 : decode cX9_addWord 22 = .ok (.iinc 3 1, 3) := by decide +kernel
theorem dX9_addWord_25 : decode cX9_addWord 25 = .ok (.goto (-23), 3) := by decide +kernel
theorem dX9_addWord_28 : decode cX9_addWord 28 = .ok (.aload_n 0, 1) := by decide +kernel
theorem dX9_addWord_29 : decode cX9_addWord 29 = .ok (.iload_n 2, 1) := by decide +kernel
theorem dX9_addWord_30 : decode cX9_addWord 30 = .ok (.iload_n 3, 1) := by decide +kernel
theorem dX9_addWord_31 : decode cX9_addWord 31 = .ok (.bipush 6, 2) := by decide +kernel
theorem dX9_addWord_33 : decode cX9_addWord 33 = .ok (.invokevirtual 54, 3) := by decide +kernel
theorem dX9_addWord_36 : decode cX9_addWord 36 = .ok (.ifCond .ne 40, 3) := by decide +kernel
theorem dX9_addWord_39 : decode cX9_addWord 39 = .ok (.aload_n 1, 1) := by decide +kernel
theorem dX9_addWord_40 : decode cX9_addWord 40 = .ok (.iload_n 2, 1) := by decide +kernel
theorem dX9_addWord_41 : decode cX9_addWord 41 = .ok (.iload_n 3, 1) := by decide +kernel
theorem dX9_addWord_42 : decode cX9_addWord 42 = .ok (.invokestatic 58, 3) := by decide +kernel
theorem dX9_addWord_45 : decode cX9_addWord 45 = .ok (.istore 4, 2) := by decide +kernel
theorem dX9_addWord_47 : decode cX9_addWord 47 = .ok (.iload 4, 2) := by decide +kernel
theorem dX9_addWord_49 : decode cX9_addWord 49 = .ok (.iconst (-1), 1) := by decide +kernel
theorem dX9_addWord_50 : decode cX9_addWord 50 = .ok (.if_icmp .ne 18, 3) := by decide +kernel
theorem dX9_addWord_53 : decode cX9_addWord 53 = .ok (.aload_n 0, 1) := by decide +kernel
theorem dX9_addWord_54 : decode cX9_addWord 54 = .ok (.iconst 2, 1) := by decide +kernel
theorem dX9_addWord_55 : decode cX9_addWord 55 = .ok (.iload_n 2, 1) := by decide +kernel
theorem dX9_addWord_56 : decode cX9_addWord 56 = .ok (.aload_n 1, 1) := by decide +kernel
theorem dX9_addWord_57 : decode cX9_addWord 57 = .ok (.iload_n 2, 1) := by decide +kernel
theorem dX9_addWord_58 : decode cX9_addWord 58 = .ok (.iload_n 3, 1) := by decide +kernel
theorem dX9_addWord_59 : decode cX9_addWord 59 = .ok (.invokestatic 62, 3) := by decide +kernel
theorem dX9_addWord_62 : decode cX9_addWord 62 = .ok (.invokevirtual 50, 3) := by decide +kernel
theorem dX9_addWord_65 : decode cX9_addWord 65 = .ok (.goto 11, 3) := by decide +kernel
theorem dX9_addWord_68 : decode cX9_addWord 68 = .ok (.aload_n 0, 1) := by decide +kernel
theorem dX9_addWord_69 : decode cX9_addWord 69 = .ok (.iconst 1, 1) := by decide +kernel
theorem dX9_addWord_70 : decode cX9_addWord 70 = .ok (.iload_n 2, 1) := by decide +kernel
theorem dX9_addWord_71 : decode cX9_addWord 71 = .ok (.iload 4, 2) := by decide +kernel
theorem dX9_addWord_73 : decode cX9_addWord 73 = .ok (.invokevirtual 50, 3) := by decide +kernel
theorem dX9_addWord_76 : decode cX9_addWord 76 = .ok (.aload_n 0, 1) := by decide +kernel
theorem dX9_addWord_77 : decode cX9_addWord 77 = .ok (.iload_n 3, 1) := by decide +kernel
theorem dX9_addWord_78 : decode cX9_addWord 78 = .ok (.putfield 25, 3) := by decide +kernel
theorem dX9_addWord_81 : decode cX9_addWord 81 = .ok (.iload_n 3, 1) := by decide +kernel
theorem dX9_addWord_82 : decode cX9_addWord 82 = .ok (.ireturn, 1) := by decide +kernel
theorem dX9_addNumber_0 : decode cX9_addNumber 0 = .ok (.iload_n 2, 1) := by decide +kernel
theorem dX9_addNumber_1 : decode cX9_addNumber 1 = .ok (.istore_n 3, 1) := by decide +kernel
theorem dX9_addNumber_2 : decode cX9_addNumber 2 = .ok (.iload_n 3, 1) := by decide +kernel
theorem dX9_addNumber_3 : decode cX9_addNumber 3 = .ok (.aload_n 1, 1) := by decide +kernel
theorem dX9_addNumber_4 : decode cX9_addNumber 4 = .ok (.getfield 28, 3) := by decide +kernel
theorem dX9_addNumber_7 : decode cX9_addNumber 7 = .ok (.if_icmp .ge 21, 3) := by decide +kernel
theorem dX9_addNumber_10 : decode cX9_addNumber 10 = .ok (.aload_n 1, 1) := by decide +kernel
theorem dX9_addNumber_11 : decode cX9_addNumber 11 = .ok (.getfield 33, 3) := by decide +kernel
theorem dX9_addNumber_14 : decode cX9_addNumber 14 = .ok (.iload_n 3, 1) := by decide +kernel
theorem dX9_addNumber_15 : decode cX9_addNumber 15 = .ok (.iaload, 1) := by decide +kernel
theorem dX9_addNumber_16 : decode cX9_addNumber 16 = .ok (.invokestatic 44, 3) := by decide +kernel
theorem dX9_addNumber_19 : decode cX9_addNumber 19 = .ok (.ifCond .eq 9, 3) := by decide +kernel
theorem dX9_addNumber_22 : decode cX9_addNumber 22 = .ok (.iinc 3 1, 3) := by decide +kernel
theorem dX9_addNumber_25 : decode cX9_addNumber 25 = .ok (.goto (-23), 3) := by decide +kernel
theorem dX9_addNumber_28 : decode cX9_addNumber 28 = .ok (.aload_n 0, 1) := by decide +kernel
theorem dX9_addNumber_29 : decode cX9_addNumber 29 = .ok (.iload_n 2, 1) := by decide +kernel
theorem dX9_addNumber_30 : decode cX9_addNumber 30 = .ok (.iload_n 3, 1) := by decide +kernel
theorem dX9_addNumber_31 : decode cX9_addNumber 31 = .ok (.iconst 4, 1) := by decide +kernel
theorem dX9_addNumber_32 : decode cX9_addNumber 32 = .ok (.invokevirtual 54, 3) := by decide +kernel
theorem dX9_addNumber_35 : decode cX9_addNumber 35 = .ok (.ifCond .ne 47, 3) := by decide +kernel
theorem dX9_addNumber_38 : decode cX9_addNumber 38 = .ok (.iconst 0, 1) := by decide +kernel
theorem dX9_addNumber_39 : decode cX9_addNumber 39 = .ok (.istore 4, 2) := by decide +kernel
theorem dX9_addNumber_41 : decode cX9_addNumber 41 = .ok (.iload_n 2, 1) := by decide +kernel
theorem dX9_addNumber_42 : decode cX9_addNumber 42 = .ok (.istore 5, 2) := by decide +kernel
theorem dX9_addNumber_44 : decode cX9_addNumber 44 = .ok (.iload 5, 2) := by decide +kernel
theorem dX9_addNumber_46 : decode cX9_addNumber 46 = .ok (.iload_n 3, 1) := by decide +kernel
theorem dX9_addNumber_47 : decode cX9_addNumber 47 = .ok (.if_icmp .ge 27, 3) := by decide +kernel
theorem dX9_addNumber_50 : decode cX9_addNumber 50 = .ok (.bipush 10, 2) := by decide +kernel
theorem dX9_addNumber_52 : decode cX9_addNumber 52 = .ok (.iload 4, 2) := by decide +kernel
theorem dX9_addNumber_54 : decode cX9_addNumber 54 = .ok (.imul, 1) := by decide +kernel
theorem dX9_addNumber_55 : decode cX9_addNumber 55 = .ok (.aload_n 1, 1) := by decide +kernel
theorem dX9_addNumber_56 : decode cX9_addNumber 56 = .ok (.getfield 33, 3) := by decide +kernel
theorem dX9_addNumber_59 : decode cX9_addNumber 59 = .ok (.iload 5, 2) := by decide +kernel
theorem dX9_addNumber_61 : decode cX9_addNumber 61 = .ok (.iaload, 1) := by decide +kernel
theorem dX9_addNumber_62 : decode cX9_addNumber 62 = .ok (.iadd, 1) := by decide +kernel
theorem dX9_addNumber_63 : decode cX9_addNumber 63 = .ok (.bipush 48, 2) := by decide +kernel
theorem dX9_addNumber_65 : decode cX9_addNumber 65 = .ok (.isub, 1) := by decide +kernel
theorem dX9_addNumber_66 : decode cX9_addNumber 66 = .ok (.istore 4, 2) := by decide +kernel
theorem dX9_addNumber_68 : decode cX9_addNumber 68 = .ok (.iinc 5 1, 3) := by decide +kernel
theorem dX9_addNumber_71 : decode cX9_addNumber 71 = .ok (.goto (-27), 3) := by decide +kernel
theorem dX9_addNumber_74 : decode cX9_addNumber 74 = .ok (.aload_n 0, 1) := by decide +kernel
theorem dX9_addNumber_75 : decode cX9_addNumber 75 = .ok (.iconst 3, 1) := by decide +kernel
theorem dX9_addNumber_76 : decode cX9_addNumber 76 = .ok (.iload_n 2, 1) := by decide +kernel
theorem dX9_addNumber_77 : decode cX9_addNumber 77 = .ok (.iload 4, 2) := by decide +kernel
theorem dX9_addNumber_79 : decode cX9_addNumber 79 = .ok (.invokevirtual 50, 3) := by decide +kernel
theorem dX9_addNumber_82 : decode cX9_addNumber 82 = .ok (.aload_n 0, 1) := by decide +kernel
theorem dX9_addNumber_83 : decode cX9_addNumber 83 = .ok (.iload_n 3, 1) := by decide +kernel
theorem dX9_addNumber_84 : decode cX9_addNumber 84 = .ok (.putfield 25, 3) := by decide +kernel
theorem dX9_addNumber_87 : decode cX9_addNumber 87 = .ok (.iload_n 3, 1) := by decide +kernel
theorem dX9_addNumber_88 : decode cX9_addNumber 88 = .ok (.ireturn, 1) := by decide +kernel
theorem dX9_addIfWrong_0 : decode cX9_addIfWrong 0 = .ok (.iload_n 2, 1) := by decide +kernel
theorem dX9_addIfWrong_1 : decode cX9_addIfWrong 1 = .ok (.iload_n 1, 1) := by decide +kernel
theorem dX9_addIfWrong_2 : decode cX9_addIfWrong 2 = .ok (.isub, 1) := by decide +kernel
theorem dX9_addIfWrong_3 : decode cX9_addIfWrong 3 = .ok (.iload_n 3, 1) := by decide +kernel
theorem dX9_addIfWrong_4 : decode cX9_addIfWrong 4 = .ok (.if_icmp .le 14, 3) := by decide +kernel
theorem dX9_addIfWrong_7 : decode cX9_addIfWrong 7 = .ok (.aload_n 0, 1) := by decide +kernel
theorem dX9_addIfWrong_8 : decode cX9_addIfWrong 8 = .ok (.iconst 5, 1) := by decide +kernel
theorem dX9_addIfWrong_9 : decode cX9_addIfWrong 9 = .ok (.iload_n 1, 1) := by decide +kernel
theorem dX9_addIfWrong_10 : decode cX9_addIfWrong 10 = .ok (.iload_n 1, 1) := by decide +kernel
theorem dX9_addIfWrong_11 : decode cX9_addIfWrong 11 = .ok (.iload_n 3, 1) := by decide +kernel
theorem dX9_addIfWrong_12 : decode cX9_addIfWrong 12 = .ok (.iadd, 1) := by decide +kernel
theorem dX9_addIfWrong_13 : decode cX9_addIfWrong 13 = .ok (.invokevirtual 50, 3) := by decide +kernel
theorem dX9_addIfWrong_16 : decode cX9_addIfWrong 16 = .ok (.iconst 1, 1) := by decide +kernel
theorem dX9_addIfWrong_17 : decode cX9_addIfWrong 17 = .ok (.ireturn, 1) := by decide +kernel
theorem dX9_addIfWrong_18 : decode cX9_addIfWrong 18 = .ok (.iload_n 1, 1) := by decide +kernel
theorem dX9_addIfWrong_19 : decode cX9_addIfWrong 19 = .ok (.aload_n 0, 1) := by decide +kernel
theorem dX9_addIfWrong_20 : decode cX9_addIfWrong 20 = .ok (.getfield 25, 3) := by decide +kernel
theorem dX9_addIfWrong_23 : decode cX9_addIfWrong 23 = .ok (.if_icmp .ne 12, 3) := by decide +kernel
theorem dX9_addIfWrong_26 : decode cX9_addIfWrong 26 = .ok (.aload_n 0, 1) := by decide +kernel
theorem dX9_addIfWrong_27 : decode cX9_addIfWrong 27 = .ok (.iconst 5, 1) := by decide +kernel
theorem dX9_addIfWrong_28 : decode cX9_addIfWrong 28 = .ok (.iload_n 1, 1) := by decide +kernel
theorem dX9_addIfWrong_29 : decode cX9_addIfWrong 29 = .ok (.iload_n 1, 1) := by decide +kernel
theorem dX9_addIfWrong_30 : decode cX9_addIfWrong 30 = .ok (.invokevirtual 50, 3) := by decide +kernel
theorem dX9_addIfWrong_33 : decode cX9_addIfWrong 33 = .ok (.iconst 1, 1) := by decide +kernel
theorem dX9_addIfWrong_34 : decode cX9_addIfWrong 34 = .ok (.ireturn, 1) := by decide +kernel
theorem dX9_addIfWrong_35 : decode cX9_addIfWrong 35 = .ok (.iconst 0, 1) := by decide +kernel
theorem dX9_addIfWrong_36 : decode cX9_addIfWrong 36 = .ok (.ireturn, 1) := by decide +kernel
theorem dX9_add_0 : decode cX9_add 0 = .ok (.aload_n 0, 1) := by decide +kernel
theorem dX9_add_1 : decode cX9_add 1 = .ok (.getfield 21, 3) := by decide +kernel
theorem dX9_add_4 : decode cX9_add 4 = .ok (.sipush 1600, 3) := by decide +kernel
theorem dX9_add_7 : decode cX9_add 7 = .ok (.if_icmp .gt 43, 3) := by decide +kernel
theorem dX9_add_10 : decode cX9_add 10 = .ok (.aload_n 0, 1) := by decide +kernel
theorem dX9_add_11 : decode cX9_add 11 = .ok (.getfield 9, 3) := by decide +kernel
theorem dX9_add_14 : decode cX9_add 14 = .ok (.aload_n 0, 1) := by decide +kernel
theorem dX9_add_15 : decode cX9_add 15 = .ok (.getfield 21, 3) := by decide +kernel
theorem dX9_add_18 : decode cX9_add 18 = .ok (.iload_n 1, 1) := by decide +kernel
theorem dX9_add_19 : decode cX9_add 19 = .ok (.iastore, 1) := by decide +kernel
theorem dX9_add_20 : decode cX9_add 20 = .ok (.aload_n 0, 1) := by decide +kernel
theorem dX9_add_21 : decode cX9_add 21 = .ok (.getfield 15, 3) := by decide +kernel
theorem dX9_add_24 : decode cX9_add 24 = .ok (.aload_n 0, 1) := by decide +kernel
theorem dX9_add_25 : decode cX9_add 25 = .ok (.getfield 21, 3) := by decide +kernel
theorem dX9_add_28 : decode cX9_add 28 = .ok (.iload_n 2, 1) := by decide +kernel
theorem dX9_add_29 : decode cX9_add 29 = .ok (.iastore, 1) := by decide +kernel
theorem dX9_add_30 : decode cX9_add 30 = .ok (.aload_n 0, 1) := by decide +kernel
theorem dX9_add_31 : decode cX9_add 31 = .ok (.getfield 18, 3) := by decide +kernel
theorem dX9_add_34 : decode cX9_add 34 = .ok (.aload_n 0, 1) := by decide +kernel
theorem dX9_add_35 : decode cX9_add 35 = .ok (.getfield 21, 3) := by decide +kernel
theorem dX9_add_38 : decode cX9_add 38 = .ok (.iload_n 3, 1) := by decide +kernel
theorem dX9_add_39 : decode cX9_add 39 = .ok (.iastore, 1) := by decide +kernel
theorem dX9_add_40 : decode cX9_add 40 = .ok (.aload_n 0, 1) := by decide +kernel
theorem dX9_add_41 : decode cX9_add 41 = .ok (.dup, 1) := by decide +kernel
theorem dX9_add_42 : decode cX9_add 42 = .ok (.getfield 21, 3) := by decide +kernel
theorem dX9_add_45 : decode cX9_add 45 = .ok (.iconst 1, 1) := by decide +kernel
theorem dX9_add_46 : decode cX9_add 46 = .ok (.iadd, 1) := by decide +kernel
theorem dX9_add_47 : decode cX9_add 47 = .ok (.putfield 21, 3) := by decide +kernel
theorem dX9_add_50 : decode cX9_add 50 = .ok (.return_, 1) := by decide +kernel
theorem dX9_lettersOf_0 : decode cX9_lettersOf 0 = .ok (.iconst 0, 1) := by decide +kernel
theorem dX9_lettersOf_1 : decode cX9_lettersOf 1 = .ok (.istore_n 3, 1) := by decide +kernel
theorem dX9_lettersOf_2 : decode cX9_lettersOf 2 = .ok (.iconst 0, 1) := by decide +kernel
theorem dX9_lettersOf_3 : decode cX9_lettersOf 3 = .ok (.istore 4, 2) := by decide +kernel
theorem dX9_lettersOf_5 : decode cX9_lettersOf 5 = .ok (.iload 4, 2) := by decide +kernel
theorem dX9_lettersOf_7 : decode cX9_lettersOf 7 = .ok (.bipush 6, 2) := by decide +kernel
theorem dX9_lettersOf_9 : decode cX9_lettersOf 9 = .ok (.if_icmp .ge 45, 3) := by decide +kernel
theorem dX9_lettersOf_12 : decode cX9_lettersOf 12 = .ok (.iload_n 1, 1) := by decide +kernel
theorem dX9_lettersOf_13 : decode cX9_lettersOf 13 = .ok (.iload 4, 2) := by decide +kernel
theorem dX9_lettersOf_15 : decode cX9_lettersOf 15 = .ok (.iadd, 1) := by decide +kernel
theorem dX9_lettersOf_16 : decode cX9_lettersOf 16 = .ok (.iload_n 2, 1) := by decide +kernel
theorem dX9_lettersOf_17 : decode cX9_lettersOf 17 = .ok (.if_icmp .ge 20, 3) := by decide +kernel
theorem dX9_lettersOf_20 : decode cX9_lettersOf 20 = .ok (.aload_n 0, 1) := by decide +kernel
theorem dX9_lettersOf_21 : decode cX9_lettersOf 21 = .ok (.getfield 33, 3) := by decide +kernel
theorem dX9_lettersOf_24 : decode cX9_lettersOf 24 = .ok (.iload_n 1, 1) := by decide +kernel
theorem dX9_lettersOf_25 : decode cX9_lettersOf 25 = .ok (.iload 4, 2) := by decide +kernel
theorem dX9_lettersOf_27 : decode cX9_lettersOf 27 = .ok (.iadd, 1) := by decide +kernel
theorem dX9_lettersOf_28 : decode cX9_lettersOf 28 = .ok (.iaload, 1) := by decide +kernel
theorem dX9_lettersOf_29 : decode cX9_lettersOf 29 = .ok (.bipush 97, 2) := by decide +kernel
theorem dX9_lettersOf_31 : decode cX9_lettersOf 31 = .ok (.isub, 1) := by decide +kernel
theorem dX9_lettersOf_32 : decode cX9_lettersOf 32 = .ok (.iconst 1, 1) := by decide +kernel
theorem dX9_lettersOf_33 : decode cX9_lettersOf 33 = .ok (.iadd, 1) := by decide +kernel
theorem dX9_lettersOf_34 : decode cX9_lettersOf 34 = .ok (.goto 4, 3) := by decide +kernel
theorem dX9_lettersOf_37 : decode cX9_lettersOf 37 = .ok (.iconst 0, 1) := by decide +kernel
theorem dX9_lettersOf_38 : decode cX9_lettersOf 38 = .ok (.istore 5, 2) := by decide +kernel
theorem dX9_lettersOf_40 : decode cX9_lettersOf 40 = .ok (.bipush 27, 2) := by decide +kernel
theorem dX9_lettersOf_42 : decode cX9_lettersOf 42 = .ok (.iload_n 3, 1) := by decide +kernel
theorem dX9_lettersOf_43 : decode cX9_lettersOf 43 = .ok (.imul, 1) := by decide +kernel
theorem dX9_lettersOf_44 : decode cX9_lettersOf 44 = .ok (.iload 5, 2) := by decide +kernel
theorem dX9_lettersOf_46 : decode cX9_lettersOf 46 = .ok (.iadd, 1) := by decide +kernel
theorem dX9_lettersOf_47 : decode cX9_lettersOf 47 = .ok (.istore_n 3, 1) := by decide +kernel
theorem dX9_lettersOf_48 : decode cX9_lettersOf 48 = .ok (.iinc 4 1, 3) := by decide +kernel
theorem dX9_lettersOf_51 : decode cX9_lettersOf 51 = .ok (.goto (-46), 3) := by decide +kernel
theorem dX9_lettersOf_54 : decode cX9_lettersOf 54 = .ok (.iload_n 3, 1) := by decide +kernel
theorem dX9_lettersOf_55 : decode cX9_lettersOf 55 = .ok (.ireturn, 1) := by decide +kernel
theorem dX9_ownWord_0 : decode cX9_ownWord 0 = .ok (.iconst 0, 1) := by decide +kernel
theorem dX9_ownWord_1 : decode cX9_ownWord 1 = .ok (.istore_n 3, 1) := by decide +kernel
theorem dX9_ownWord_2 : decode cX9_ownWord 2 = .ok (.iload_n 3, 1) := by decide +kernel
theorem dX9_ownWord_3 : decode cX9_ownWord 3 = .ok (.bipush 27, 2) := by decide +kernel
theorem dX9_ownWord_5 : decode cX9_ownWord 5 = .ok (.if_icmp .ge 81, 3) := by decide +kernel
theorem dX9_ownWord_8 : decode cX9_ownWord 8 = .ok (.iconst 0, 1) := by decide +kernel
theorem dX9_ownWord_9 : decode cX9_ownWord 9 = .ok (.istore 4, 2) := by decide +kernel
theorem dX9_ownWord_11 : decode cX9_ownWord 11 = .ok (.iconst 0, 1) := by decide +kernel
theorem dX9_ownWord_12 : decode cX9_ownWord 12 = .ok (.istore 5, 2) := by decide +kernel
theorem dX9_ownWord_14 : decode cX9_ownWord 14 = .ok (.iload 5, 2) := by decide +kernel
theorem dX9_ownWord_16 : decode cX9_ownWord 16 = .ok (.bipush 6, 2) := by decide +kernel
theorem dX9_ownWord_18 : decode cX9_ownWord 18 = .ok (.if_icmp .ge 53, 3) := by decide +kernel
theorem dX9_ownWord_21 : decode cX9_ownWord 21 = .ok (.iload_n 1, 1) := by decide +kernel
theorem dX9_ownWord_22 : decode cX9_ownWord 22 = .ok (.iload 5, 2) := by decide +kernel
theorem dX9_ownWord_24 : decode cX9_ownWord 24 = .ok (.iadd, 1) := by decide +kernel
theorem dX9_ownWord_25 : decode cX9_ownWord 25 = .ok (.iload_n 2, 1) := by decide +kernel
theorem dX9_ownWord_26 : decode cX9_ownWord 26 = .ok (.if_icmp .ge 15, 3) := by decide +kernel
theorem dX9_ownWord_29 : decode cX9_ownWord 29 = .ok (.aload_n 0, 1) := by decide +kernel
theorem dX9_ownWord_30 : decode cX9_ownWord 30 = .ok (.getfield 33, 3) := by decide +kernel
theorem dX9_ownWord_33 : decode cX9_ownWord 33 = .ok (.iload_n 1, 1) := by decide +kernel
theorem dX9_ownWord_34 : decode cX9_ownWord 34 = .ok (.iload 5, 2) := by decide +kernel
theorem dX9_ownWord_36 : decode cX9_ownWord 36 = .ok (.iadd, 1) := by decide +kernel
theorem dX9_ownWord_37 : decode cX9_ownWord 37 = .ok (.iaload, 1) := by decide +kernel
theorem dX9_ownWord_38 : decode cX9_ownWord 38 = .ok (.goto 5, 3) := by decide +kernel
theorem dX9_ownWord_41 : decode cX9_ownWord 41 = .ok (.bipush 32, 2) := by decide +kernel
theorem dX9_ownWord_43 : decode cX9_ownWord 43 = .ok (.istore 6, 2) := by decide +kernel
theorem dX9_ownWord_45 : decode cX9_ownWord 45 = .ok (.iload 6, 2) := by decide +kernel
theorem dX9_ownWord_47 : decode cX9_ownWord 47 = .ok (.ldc 65, 2) := by decide +kernel
theorem dX9_ownWord_49 : decode cX9_ownWord 49 = .ok (.bipush 6, 2) := by decide +kernel
theorem dX9_ownWord_51 : decode cX9_ownWord 51 = .ok (.iload_n 3, 1) := by decide +kernel
theorem dX9_ownWord_52 : decode cX9_ownWord 52 = .ok (.imul, 1) := by decide +kernel
theorem dX9_ownWord_53 : decode cX9_ownWord 53 = .ok (.iload 5, 2) := by decide +kernel
theorem dX9_ownWord_55 : decode cX9_ownWord 55 = .ok (.iadd, 1) := by decide +kernel
theorem dX9_ownWord_56 : decode cX9_ownWord 56 = .ok (.invokevirtual 67, 3) := by decide +kernel
theorem dX9_ownWord_59 : decode cX9_ownWord 59 = .ok (.if_icmp .ne 6, 3) := by decide +kernel
theorem dX9_ownWord_62 : decode cX9_ownWord 62 = .ok (.iinc 4 1, 3) := by decide +kernel
theorem dX9_ownWord_65 : decode cX9_ownWord 65 = .ok (.iinc 5 1, 3) := by decide +kernel
theorem dX9_ownWord_68 : decode cX9_ownWord 68 = .ok (.goto (-54), 3) := by decide +kernel
theorem dX9_ownWord_71 : decode cX9_ownWord 71 = .ok (.iload 4, 2) := by decide +kernel
theorem dX9_ownWord_73 : decode cX9_ownWord 73 = .ok (.bipush 6, 2) := by decide +kernel
theorem dX9_ownWord_75 : decode cX9_ownWord 75 = .ok (.if_icmp .ne 5, 3) := by decide +kernel
theorem dX9_ownWord_78 : decode cX9_ownWord 78 = .ok (.iload_n 3, 1) := by decide +kernel
theorem dX9_ownWord_79 : decode cX9_ownWord 79 = .ok (.ireturn, 1) := by decide +kernel
theorem dX9_ownWord_80 : decode cX9_ownWord 80 = .ok (.iinc 3 1, 3) := by decide +kernel
theorem dX9_ownWord_83 : decode cX9_ownWord 83 = .ok (.goto (-81), 3) := by decide +kernel
theorem dX9_ownWord_86 : decode cX9_ownWord 86 = .ok (.iconst (-1), 1) := by decide +kernel
theorem dX9_ownWord_87 : decode cX9_ownWord 87 = .ok (.ireturn, 1) := by decide +kernel
theorem dX9_isLetter_0 : decode cX9_isLetter 0 = .ok (.iload_n 0, 1) := by decide +kernel
theorem dX9_isLetter_1 : decode cX9_isLetter 1 = .ok (.bipush 97, 2) := by decide +kernel
theorem dX9_isLetter_3 : decode cX9_isLetter 3 = .ok (.if_icmp .lt 13, 3) := by decide +kernel
theorem dX9_isLetter_6 : decode cX9_isLetter 6 = .ok (.iload_n 0, 1) := by decide +kernel
theorem dX9_isLetter_7 : decode cX9_isLetter 7 = .ok (.bipush 122, 2) := by decide +kernel
theorem dX9_isLetter_9 : decode cX9_isLetter 9 = .ok (.if_icmp .gt 7, 3) := by decide +kernel
theorem dX9_isLetter_12 : decode cX9_isLetter 12 = .ok (.iconst 1, 1) := by decide +kernel
theorem dX9_isLetter_13 : decode cX9_isLetter 13 = .ok (.goto 4, 3) := by decide +kernel
theorem dX9_isLetter_16 : decode cX9_isLetter 16 = .ok (.iconst 0, 1) := by decide +kernel
theorem dX9_isLetter_17 : decode cX9_isLetter 17 = .ok (.ireturn, 1) := by decide +kernel
theorem dX9_isDigit_0 : decode cX9_isDigit 0 = .ok (.iload_n 0, 1) := by decide +kernel
theorem dX9_isDigit_1 : decode cX9_isDigit 1 = .ok (.bipush 48, 2) := by decide +kernel
theorem dX9_isDigit_3 : decode cX9_isDigit 3 = .ok (.if_icmp .lt 13, 3) := by decide +kernel
theorem dX9_isDigit_6 : decode cX9_isDigit 6 = .ok (.iload_n 0, 1) := by decide +kernel
theorem dX9_isDigit_7 : decode cX9_isDigit 7 = .ok (.bipush 57, 2) := by decide +kernel
theorem dX9_isDigit_9 : decode cX9_isDigit 9 = .ok (.if_icmp .gt 7, 3) := by decide +kernel
theorem dX9_isDigit_12 : decode cX9_isDigit 12 = .ok (.iconst 1, 1) := by decide +kernel
theorem dX9_isDigit_13 : decode cX9_isDigit 13 = .ok (.goto 4, 3) := by decide +kernel
theorem dX9_isDigit_16 : decode cX9_isDigit 16 = .ok (.iconst 0, 1) := by decide +kernel
theorem dX9_isDigit_17 : decode cX9_isDigit 17 = .ok (.ireturn, 1) := by decide +kernel
theorem wB_637 : Cond.fieldLink RX9 21 "DarkMine$Words" "count" "I" ∈ dgB := List.mem_filter.mpr ⟨tbl_2 _ (List.mem_of_getElem? (i := 66) (by decide +kernel)), by decide +kernel⟩
theorem wB_638 : Cond.fieldLink RX9 9 "DarkMine$Words" "kinds" "[I" ∈ dgB := List.mem_filter.mpr ⟨tbl_2 _ (List.mem_of_getElem? (i := 60) (by decide +kernel)), by decide +kernel⟩
theorem wB_639 : Cond.fieldLink RX9 15 "DarkMine$Words" "starts" "[I" ∈ dgB := List.mem_filter.mpr ⟨tbl_2 _ (List.mem_of_getElem? (i := 62) (by decide +kernel)), by decide +kernel⟩
theorem wB_640 : Cond.fieldLink RX9 18 "DarkMine$Words" "values" "[I" ∈ dgB := List.mem_filter.mpr ⟨tbl_2 _ (List.mem_of_getElem? (i := 64) (by decide +kernel)), by decide +kernel⟩
theorem wB_641 : Cond.fieldLink RX9 25 "DarkMine$Words" "plainEnd" "I" ∈ dgB := List.mem_filter.mpr ⟨tbl_2 _ (List.mem_of_getElem? (i := 67) (by decide +kernel)), by decide +kernel⟩
theorem wB_642 : Cond.code yX9_add cX9_add 4 none ∈ dgB := List.mem_filter.mpr ⟨tbl_3 _ (List.mem_of_getElem? (i := 139) rfl), rfl⟩
theorem wB_643 : Cond.methodLink RX9 50 yX9_add ∈ dgB := List.mem_filter.mpr ⟨tbl_3 _ (List.mem_of_getElem? (i := 136) (by decide +kernel)), by decide +kernel⟩
theorem wB_644 : Cond.instanceMethod yX9_add ∈ dgB := List.mem_filter.mpr ⟨tbl_3 _ (List.mem_of_getElem? (i := 138) (by decide +kernel)), by decide +kernel⟩
theorem wB_645 : Cond.selects RX9 yX9_add yX9_add ∈ dgB := List.mem_filter.mpr ⟨List.mem_of_getElem? (i := 4) (by decide +kernel), by decide +kernel⟩
theorem wB_646 : Cond.initialized RX9 ∈ dgB := List.mem_filter.mpr ⟨tbl_1 _ (List.mem_of_getElem? (i := 8) (by decide +kernel)), by decide +kernel⟩
theorem wB_647 : Cond.fieldLink RX9 33 "DarkMine$Tape" "bytes" "[I" ∈ dgB := List.mem_filter.mpr ⟨tbl_1 _ (List.mem_of_getElem? (i := 37) (by decide +kernel)), by decide +kernel⟩
theorem wB_648 : Cond.fieldLink RX9 28 "DarkMine$Tape" "length" "I" ∈ dgB := List.mem_filter.mpr ⟨tbl_1 _ (List.mem_of_getElem? (i := 42) (by decide +kernel)), by decide +kernel⟩
theorem wB_649 : Cond.code yX9_isLetter cX9_isLetter 1 (some .boolean) ∈ dgB := List.mem_filter.mpr ⟨tbl_3 _ (List.mem_of_getElem? (i := 127) rfl), rfl⟩
theorem wB_650 : Cond.methodLink RX9 36 yX9_isLetter ∈ dgB := List.mem_filter.mpr ⟨tbl_3 _ (List.mem_of_getElem? (i := 125) (by decide +kernel)), by decide +kernel⟩
theorem wB_651 : Cond.static yX9_isLetter ∈ dgB := List.mem_filter.mpr ⟨tbl_3 _ (List.mem_of_getElem? (i := 126) (by decide +kernel)), by decide +kernel⟩
theorem wB_652 : Cond.code yX9_addIfWrong cX9_addIfWrong 4 (some .boolean) ∈ dgB := List.mem_filter.mpr ⟨tbl_3 _ (List.mem_of_getElem? (i := 135) rfl), rfl⟩
theorem wB_653 : Cond.methodLink RX9 54 yX9_addIfWrong ∈ dgB := List.mem_filter.mpr ⟨tbl_3 _ (List.mem_of_getElem? (i := 132) (by decide +kernel)), by decide +kernel⟩
theorem wB_654 : Cond.instanceMethod yX9_addIfWrong ∈ dgB := List.mem_filter.mpr ⟨tbl_3 _ (List.mem_of_getElem? (i := 134) (by decide +kernel)), by decide +kernel⟩
theorem wB_655 : Cond.selects RX9 yX9_addIfWrong yX9_addIfWrong ∈ dgB := List.mem_filter.mpr ⟨List.mem_of_getElem? (i := 3) (by decide +kernel), by decide +kernel⟩
theorem wB_656 : Cond.code yX9_ownWord cX9_ownWord 7 (some .int) ∈ dgB := List.mem_filter.mpr ⟨tbl_3 _ (List.mem_of_getElem? (i := 142) rfl), rfl⟩
theorem wB_657 : Cond.methodLink RX9 58 yX9_ownWord ∈ dgB := List.mem_filter.mpr ⟨tbl_3 _ (List.mem_of_getElem? (i := 140) (by decide +kernel)), by decide +kernel⟩
theorem wB_658 : Cond.static yX9_ownWord ∈ dgB := List.mem_filter.mpr ⟨tbl_3 _ (List.mem_of_getElem? (i := 141) (by decide +kernel)), by decide +kernel⟩
theorem wB_659 : Cond.code yX9_lettersOf cX9_lettersOf 6 (some .int) ∈ dgB := List.mem_filter.mpr ⟨tbl_3 _ (List.mem_of_getElem? (i := 186) rfl), rfl⟩
theorem wB_660 : Cond.methodLink RX9 62 yX9_lettersOf ∈ dgB := List.mem_filter.mpr ⟨tbl_3 _ (List.mem_of_getElem? (i := 184) (by decide +kernel)), by decide +kernel⟩
theorem wB_661 : Cond.static yX9_lettersOf ∈ dgB := List.mem_filter.mpr ⟨tbl_3 _ (List.mem_of_getElem? (i := 185) (by decide +kernel)), by decide +kernel⟩
theorem wB_662 : Cond.code yX9_isDigit cX9_isDigit 1 (some .boolean) ∈ dgB := List.mem_filter.mpr ⟨tbl_3 _ (List.mem_of_getElem? (i := 189) rfl), rfl⟩
theorem wB_663 : Cond.methodLink RX9 44 yX9_isDigit ∈ dgB := List.mem_filter.mpr ⟨tbl_3 _ (List.mem_of_getElem? (i := 187) (by decide +kernel)), by decide +kernel⟩
theorem wB_664 : Cond.static yX9_isDigit ∈ dgB := List.mem_filter.mpr ⟨tbl_3 _ (List.mem_of_getElem? (i := 188) (by decide +kernel)), by decide +kernel⟩
set_option maxHeartbeats 8000000 in
set_option maxRecDepth 100000 in
theorem c_v_isLetter (l : Launch) (g : Nat → ClassId) (D : va_G) (o : Nat) (S : dg_S) (a1 : Int32) (I : CX o S) (sz : Nat) : Met l yX9_isLetter (bw yX9_isLetter cX9_isLetter 1 (some .boolean)) ({ frames := 1, cells := 0, slots := 0, locals := 32 } : Room) (dk_Pc g D (dg_w g shX o rfX S) sz [.int a1]) (va_Qi (fun (r : Int32) S' => S' = S ∧ (0 ≤ (r).toInt ∧ (r).toInt ≤ 1) ∧ ((r).toInt = 1 ↔ (97 ≤ (a1).toInt ∧ (a1).toInt ≤ 122)) ∧ True) (dg_B g D shX o rfX) (dg_A o shX.length sz)) 0 0 (dg_A o shX.length sz) := by
  refine dg_met (cc := cX9_isLetter) (maxL := 1) (ret := (some .boolean)) (by decide) rfl (Nat.le_of_ble_eq_true rfl) ?_
  intro p e s m args below meth c A hAe harg hx hb hr hml hts hown hlocks hin hP K hS hA1 hA ST hsz ls hl
  rw [← hAe]
  have F : CallFix p m c cX9_isLetter 1 s args (bw yX9_isLetter cX9_isLetter 1 (some .boolean)) RX9 := ⟨hx, hb, hml, hown, hts⟩
  have hl : lv_has ls 1 [(0, .int a1)] := hl
  have M_0 : dg_sm shX [] [] S S := dg_sm.rf
  refine lv_iload_n hx hb dX9_isLetter_0 rfl (lv_at hl 0 rfl) ?_
  refine lv_bipush (v := 97) hx hb dX9_isLetter_1 (by decide +kernel) ?_
  refine lv_icmp_lt (tgt := 16) hx hb dX9_isLetter_3 (by decide) (fun c_1 => ?_) (fun c_1 => ?_)
  · have jc_1 := dk_ltc (k := 97) (by decide +kernel) c_1
    refine lv_iconst (v := 0) hx hb dX9_isLetter_16 (by decide +kernel) ?_
    have hz_2 : (0 : Int32).toInt = 0 := by decide +kernel
    have hz_3 : (0 : Int32).toInt = 0 := by decide +kernel
    refine W.widen (k := 0) (n := 0) (Nat.le_of_ble_eq_true rfl) (Nat.le_of_ble_eq_true rfl) ?_
    exact dg_iret hx hb hr hlocks (by decide +kernel) hP hS ⟨rfl, (by decide +kernel), (by omega), trivial⟩ dX9_isLetter_17
  · have jc_1 := dk_nltc (k := 97) (by decide +kernel) c_1
    refine lv_iload_n hx hb dX9_isLetter_6 rfl (lv_at hl 0 rfl) ?_
    refine lv_bipush (v := 122) hx hb dX9_isLetter_7 (by decide +kernel) ?_
    refine lv_icmp_gt (tgt := 16) hx hb dX9_isLetter_9 (by decide) (fun c_4 => ?_) (fun c_4 => ?_)
    · have jc_4 := dk_gtc (k := 122) (by decide +kernel) c_4
      refine lv_iconst (v := 0) hx hb dX9_isLetter_16 (by decide +kernel) ?_
      have hz_5 : (0 : Int32).toInt = 0 := by decide +kernel
      have hz_6 : (0 : Int32).toInt = 0 := by decide +kernel
      refine W.widen (k := 0) (n := 0) (Nat.le_of_ble_eq_true rfl) (Nat.le_of_ble_eq_true rfl) ?_
      exact dg_iret hx hb hr hlocks (by decide +kernel) hP hS ⟨rfl, (by decide +kernel), (by omega), trivial⟩ dX9_isLetter_17
    · have jc_4 := dk_ngtc (k := 122) (by decide +kernel) c_4
      refine lv_iconst (v := 1) hx hb dX9_isLetter_12 (by decide +kernel) ?_
      refine lv_goto (tgt := 17) hx hb dX9_isLetter_13 (by decide) ?_
      have hz_7 : (1 : Int32).toInt = 1 := by decide +kernel
      have hz_8 : (1 : Int32).toInt = 1 := by decide +kernel
      refine W.widen (k := 0) (n := 0) (Nat.le_of_ble_eq_true rfl) (Nat.le_of_ble_eq_true rfl) ?_
      exact dg_iret hx hb hr hlocks (by decide +kernel) hP hS ⟨rfl, (by decide +kernel), (by omega), trivial⟩ dX9_isLetter_17
set_option maxHeartbeats 8000000 in
set_option maxRecDepth 100000 in
theorem c_v_isDigit (l : Launch) (g : Nat → ClassId) (D : va_G) (o : Nat) (S : dg_S) (a1 : Int32) (I : CX o S) (sz : Nat) : Met l yX9_isDigit (bw yX9_isDigit cX9_isDigit 1 (some .boolean)) ({ frames := 1, cells := 0, slots := 0, locals := 32 } : Room) (dk_Pc g D (dg_w g shX o rfX S) sz [.int a1]) (va_Qi (fun (r : Int32) S' => S' = S ∧ (0 ≤ (r).toInt ∧ (r).toInt ≤ 1) ∧ ((r).toInt = 1 ↔ (48 ≤ (a1).toInt ∧ (a1).toInt ≤ 57)) ∧ True) (dg_B g D shX o rfX) (dg_A o shX.length sz)) 0 0 (dg_A o shX.length sz) := by
  refine dg_met (cc := cX9_isDigit) (maxL := 1) (ret := (some .boolean)) (by decide) rfl (Nat.le_of_ble_eq_true rfl) ?_
  intro p e s m args below meth c A hAe harg hx hb hr hml hts hown hlocks hin hP K hS hA1 hA ST hsz ls hl
  rw [← hAe]
  have F : CallFix p m c cX9_isDigit 1 s args (bw yX9_isDigit cX9_isDigit 1 (some .boolean)) RX9 := ⟨hx, hb, hml, hown, hts⟩
  have hl : lv_has ls 1 [(0, .int a1)] := hl
  have M_0 : dg_sm shX [] [] S S := dg_sm.rf
  refine lv_iload_n hx hb dX9_isDigit_0 rfl (lv_at hl 0 rfl) ?_
  refine lv_bipush (v := 48) hx hb dX9_isDigit_1 (by decide +kernel) ?_
  refine lv_icmp_lt (tgt := 16) hx hb dX9_isDigit_3 (by decide) (fun c_1 => ?_) (fun c_1 => ?_)
  · have jc_1 := dk_ltc (k := 48) (by decide +kernel) c_1
    refine lv_iconst (v := 0) hx hb dX9_isDigit_16 (by decide +kernel) ?_
    have hz_2 : (0 : Int32).toInt = 0 := by decide +kernel
    have hz_3 : (0 : Int32).toInt = 0 := by decide +kernel
    refine W.widen (k := 0) (n := 0) (Nat.le_of_ble_eq_true rfl) (Nat.le_of_ble_eq_true rfl) ?_
    exact dg_iret hx hb hr hlocks (by decide +kernel) hP hS ⟨rfl, (by decide +kernel), (by omega), trivial⟩ dX9_isDigit_17
  · have jc_1 := dk_nltc (k := 48) (by decide +kernel) c_1
    refine lv_iload_n hx hb dX9_isDigit_6 rfl (lv_at hl 0 rfl) ?_
    refine lv_bipush (v := 57) hx hb dX9_isDigit_7 (by decide +kernel) ?_
    refine lv_icmp_gt (tgt := 16) hx hb dX9_isDigit_9 (by decide) (fun c_4 => ?_) (fun c_4 => ?_)
    · have jc_4 := dk_gtc (k := 57) (by decide +kernel) c_4
      refine lv_iconst (v := 0) hx hb dX9_isDigit_16 (by decide +kernel) ?_
      have hz_5 : (0 : Int32).toInt = 0 := by decide +kernel
      have hz_6 : (0 : Int32).toInt = 0 := by decide +kernel
      refine W.widen (k := 0) (n := 0) (Nat.le_of_ble_eq_true rfl) (Nat.le_of_ble_eq_true rfl) ?_
      exact dg_iret hx hb hr hlocks (by decide +kernel) hP hS ⟨rfl, (by decide +kernel), (by omega), trivial⟩ dX9_isDigit_17
    · have jc_4 := dk_ngtc (k := 57) (by decide +kernel) c_4
      refine lv_iconst (v := 1) hx hb dX9_isDigit_12 (by decide +kernel) ?_
      refine lv_goto (tgt := 17) hx hb dX9_isDigit_13 (by decide) ?_
      have hz_7 : (1 : Int32).toInt = 1 := by decide +kernel
      have hz_8 : (1 : Int32).toInt = 1 := by decide +kernel
      refine W.widen (k := 0) (n := 0) (Nat.le_of_ble_eq_true rfl) (Nat.le_of_ble_eq_true rfl) ?_
      exact dg_iret hx hb hr hlocks (by decide +kernel) hP hS ⟨rfl, (by decide +kernel), (by omega), trivial⟩ dX9_isDigit_17
set_option maxHeartbeats 8000000 in
set_option maxRecDepth 100000 in
theorem c_v_add (l : Launch) (g : Nat → ClassId) (D : va_G) (o : Nat) (S : dg_S) (a1 : Int32) (a2 : Int32) (a3 : Int32) (c0 : Int32) (f_c0 : S.1 210 3 = .int c0) (b_c0 : 0 ≤ (c0).toInt ∧ (c0).toInt ≤ 1600) (I : CX o S) (sz : Nat) : Met l yX9_add (bw yX9_add cX9_add 4 none) ({ frames := 1, cells := 0, slots := 0, locals := 32 } : Room) (dk_Pc g D (dg_w g shX o rfX S) sz [.ref (o + 210), .int a1, .int a2, .int a3]) (va_Qv (fun S' => CX o S' ∧ dg_sm shX [(32, 3)] [33, 34, 35] S S' ∧ (∃ y9 : Int32, S'.1 210 3 = .int y9 ∧ ((y9).toInt = (c0).toInt + 1)) ∧ (∀ x9 : Int32, S'.2.1 211 (c0 : Int32).toNatClampNeg = x9 → ((x9).toInt = (a1).toInt)) ∧ True) (dg_B g D shX o rfX) (dg_A o shX.length sz)) 0 0 (dg_A o shX.length sz) := by
  refine dg_met (cc := cX9_add) (maxL := 4) (ret := none) (by decide) rfl (Nat.le_of_ble_eq_true rfl) ?_
  intro p e s m args below meth c A hAe harg hx hb hr hml hts hown hlocks hin hP K hS hA1 hA ST hsz ls hl
  rw [← hAe]
  have F : CallFix p m c cX9_add 4 s args (bw yX9_add cX9_add 4 none) RX9 := ⟨hx, hb, hml, hown, hts⟩
  have hl : lv_has ls 4 [(0, .ref (o + 210)), (1, .int a1), (2, .int a2), (3, .int a3)] := hl
  have M_0 : dg_sm shX [(32, 3)] [33, 34, 35] S S := dg_sm.rf
  refine lv_aload_n hx hb dX9_add_0 rfl (lv_at hl 0 rfl) ?_
  refine dg_get (C := RX9) (T := TX9) (N := 5) hx hb hts (fun w h => bw_mem (wU_X9 w h)) hown K hP sX_210 rfl 3 (by decide) (hts _ (bw_mem wB_637)) (fun _ h9 => h9) (v := .int c0) f_c0 dX9_add_1 ?_
  refine lv_sipush (v := 1600) hx hb dX9_add_4 (by decide +kernel) ?_
  refine lv_icmp_gt (tgt := 50) hx hb dX9_add_7 (by decide) (fun c => absurd c (fun z => absurd (dk_gtc (k := 1600) (by decide +kernel) z) (by omega))) (fun _ => ?_)
  refine lv_aload_n hx hb dX9_add_10 rfl (lv_at hl 0 rfl) ?_
  refine dg_get (C := RX9) (T := TX9) (N := 5) hx hb hts (fun w h => bw_mem (wU_X9 w h)) hown K hP sX_210 rfl 0 (by decide) (hts _ (bw_mem wB_638)) (fun _ h9 => h9) (v := .ref (o + 211)) (show S.1 210 0 = .ref (o + 211) from dg_I.rel (d := 1) I sX_210 (by decide +kernel)) dX9_add_11 ?_
  refine lv_aload_n hx hb dX9_add_14 rfl (lv_at hl 0 rfl) ?_
  refine dg_get (C := RX9) (T := TX9) (N := 5) hx hb hts (fun w h => bw_mem (wU_X9 w h)) hown K hP sX_210 rfl 3 (by decide) (hts _ (bw_mem wB_637)) (fun _ h9 => h9) (v := .int c0) f_c0 dX9_add_15 ?_
  refine lv_iload_n hx hb dX9_add_18 rfl (lv_at hl 1 rfl) ?_
  have hin_1 : vp_in c0 1601 := (dk_inv (by omega) (by omega))
  refine dg_iast hx hb K hP hS hA1 sX_211 hin_1 dX9_add_19 (fun S_2 e_2 H locs hP hS => ?_)
  have I_2 := dg_I.uf0 I e_2 sX_211 (by decide +kernel)
  have M_2 := dg_sm.uf M_0 e_2 sX_211 (by decide)
  refine lv_aload_n hx hb dX9_add_20 rfl (lv_at hl 0 rfl) ?_
  refine dg_get (C := RX9) (T := TX9) (N := 5) hx hb hts (fun w h => bw_mem (wU_X9 w h)) hown K hP sX_210 rfl 1 (by decide) (hts _ (bw_mem wB_639)) (fun _ h9 => h9) (v := .ref (o + 212)) (show S_2.1 210 1 = .ref (o + 212) from dg_I.rel (d := 2) I_2 sX_210 (by decide +kernel)) dX9_add_21 ?_
  refine lv_aload_n hx hb dX9_add_24 rfl (lv_at hl 0 rfl) ?_
  refine dg_get (C := RX9) (T := TX9) (N := 5) hx hb hts (fun w h => bw_mem (wU_X9 w h)) hown K hP sX_210 rfl 3 (by decide) (hts _ (bw_mem wB_637)) (fun _ h9 => h9) (v := .int c0) ((dg_uf_F e_2 210 3).trans f_c0) dX9_add_25 ?_
  refine lv_iload_n hx hb dX9_add_28 rfl (lv_at hl 2 rfl) ?_
  have hin_3 : vp_in c0 1601 := (dk_inv (by omega) (by omega))
  refine dg_iast hx hb K hP hS hA1 sX_212 hin_3 dX9_add_29 (fun S_4 e_4 H locs hP hS => ?_)
  have I_4 := dg_I.uf0 I_2 e_4 sX_212 (by decide +kernel)
  have M_4 := dg_sm.uf M_2 e_4 sX_212 (by decide)
  refine lv_aload_n hx hb dX9_add_30 rfl (lv_at hl 0 rfl) ?_
  refine dg_get (C := RX9) (T := TX9) (N := 5) hx hb hts (fun w h => bw_mem (wU_X9 w h)) hown K hP sX_210 rfl 2 (by decide) (hts _ (bw_mem wB_640)) (fun _ h9 => h9) (v := .ref (o + 213)) (show S_4.1 210 2 = .ref (o + 213) from dg_I.rel (d := 3) I_4 sX_210 (by decide +kernel)) dX9_add_31 ?_
  refine lv_aload_n hx hb dX9_add_34 rfl (lv_at hl 0 rfl) ?_
  refine dg_get (C := RX9) (T := TX9) (N := 5) hx hb hts (fun w h => bw_mem (wU_X9 w h)) hown K hP sX_210 rfl 3 (by decide) (hts _ (bw_mem wB_637)) (fun _ h9 => h9) (v := .int c0) (((dg_uf_F e_4 210 3).trans (dg_uf_F e_2 210 3)).trans f_c0) dX9_add_35 ?_
  refine lv_iload_n hx hb dX9_add_38 rfl (lv_at hl 3 rfl) ?_
  have hin_5 : vp_in c0 1601 := (dk_inv (by omega) (by omega))
  refine dg_iast hx hb K hP hS hA1 sX_213 hin_5 dX9_add_39 (fun S_6 e_6 H locs hP hS => ?_)
  have I_6 := dg_I.uf0 I_4 e_6 sX_213 (by decide +kernel)
  have M_6 := dg_sm.uf M_4 e_6 sX_213 (by decide)
  refine lv_aload_n hx hb dX9_add_40 rfl (lv_at hl 0 rfl) ?_
  refine lv_dup hx hb dX9_add_41 rfl ?_
  refine dg_get (C := RX9) (T := TX9) (N := 5) hx hb hts (fun w h => bw_mem (wU_X9 w h)) hown K hP sX_210 rfl 3 (by decide) (hts _ (bw_mem wB_637)) (fun _ h9 => h9) (v := .int c0) (((dg_uf_F e_6 210 3).trans ((dg_uf_F e_4 210 3).trans (dg_uf_F e_2 210 3))).trans f_c0) dX9_add_42 ?_
  refine lv_iconst (v := 1) hx hb dX9_add_45 (by decide +kernel) ?_
  refine lv_iadd hx hb dX9_add_46 ?_
  refine lv_topi (fun x_7 ex_7 => ?_)
  have jx_7 : (x_7).toInt = (c0).toInt + 1 := by rw [ex_7]; exact dk_addT rfl (by decide +kernel) (by omega) (by omega)
  refine dg_put (ci := 9) (v := .int x_7) (ty := tyX9 3) (C := RX9) (T := TX9) (N := 5) hx hb hts (fun w h => bw_mem (wU_X9 w h)) tyX9 tyX9_ok nmX9 hown K hP hS hA1 sX_210 rfl 3 (by decide) (hts _ (bw_mem wB_637)) (fun _ h9 => h9) rfl (by decide +kernel) rfl rfl dX9_add_47 (fun S_8 e_8 H locs hP hS => ?_)
  have I_8 := dg_I.uFi (lo := 0) (hi := 1601) I_6 e_8 sX_210 (by decide +kernel) (show 0 ≤ (x_7).toInt ∧ (x_7).toInt ≤ 1601 from (by omega))
  have M_8 := dg_sm.uF M_6 e_8 sX_210 (by decide)
  refine W.widen (k := 0) (n := 0) (Nat.le_of_ble_eq_true rfl) (Nat.le_of_ble_eq_true rfl) ?_
  exact dg_vret hx hb hr hlocks hP hS ⟨I_8, M_8, ⟨x_7, (dg_uF_at e_8), (by omega)⟩, (fun x9 h9 => by obtain rfl := (((congrFun ((dg_uF_f e_8 211).trans ((dg_uf_ne e_6 (by decide)).trans (dg_uf_ne e_4 (by decide)))) _).trans ((congrFun (dg_uf_at e_2) _).trans (dg_upd_at rfl)))).symm.trans h9; omega), trivial⟩ dX9_add_50
set_option maxHeartbeats 8000000 in
set_option maxRecDepth 100000 in
theorem c_v_addIfWrong (l : Launch) (g : Nat → ClassId) (D : va_G) (o : Nat) (S : dg_S) (a1 : Int32) (b_a1 : 0 ≤ (a1).toInt ∧ (a1).toInt ≤ 1600) (a2 : Int32) (b_a2 : 0 ≤ (a2).toInt ∧ (a2).toInt ≤ 1600) (a3 : Int32) (b_a3 : 0 ≤ (a3).toInt ∧ (a3).toInt ≤ 10) (c0 : Int32) (f_c0 : S.1 210 3 = .int c0) (b_c0 : 0 ≤ (c0).toInt ∧ (c0).toInt ≤ 1600) (I : CX o S) (sz : Nat) : Met l yX9_addIfWrong (bw yX9_addIfWrong cX9_addIfWrong 4 (some .boolean)) ({ frames := 2, cells := 0, slots := 0, locals := 55 } : Room) (dk_Pc g D (dg_w g shX o rfX S) sz [.ref (o + 210), .int a1, .int a2, .int a3]) (va_Qi (fun (r : Int32) S' => CX o S' ∧ dg_sm shX [(32, 3)] [33, 34, 35] S S' ∧ (0 ≤ (r).toInt ∧ (r).toInt ≤ 1) ∧ (∃ y9 : Int32, S'.1 210 3 = .int y9 ∧ ((y9).toInt = (c0).toInt + (r).toInt)) ∧ True) (dg_B g D shX o rfX) (dg_A o shX.length sz)) 0 0 (dg_A o shX.length sz) := by
  refine dg_met (cc := cX9_addIfWrong) (maxL := 4) (ret := (some .boolean)) (by decide) rfl (Nat.le_of_ble_eq_true rfl) ?_
  intro p e s m args below meth c A hAe harg hx hb hr hml hts hown hlocks hin hP K hS hA1 hA ST hsz ls hl
  rw [← hAe]
  have F : CallFix p m c cX9_addIfWrong 4 s args (bw yX9_addIfWrong cX9_addIfWrong 4 (some .boolean)) RX9 := ⟨hx, hb, hml, hown, hts⟩
  have hl : lv_has ls 4 [(0, .ref (o + 210)), (1, .int a1), (2, .int a2), (3, .int a3)] := hl
  have M_0 : dg_sm shX [(32, 3)] [33, 34, 35] S S := dg_sm.rf
  refine lv_iload_n hx hb dX9_addIfWrong_0 rfl (lv_at hl 2 rfl) ?_
  refine lv_iload_n hx hb dX9_addIfWrong_1 rfl (lv_at hl 1 rfl) ?_
  refine lv_isub hx hb dX9_addIfWrong_2 ?_
  refine lv_topi (fun x_1 ex_1 => ?_)
  have jx_1 : (x_1).toInt = (a2).toInt - (a1).toInt := by rw [ex_1]; exact dk_subT rfl rfl (by omega) (by omega)
  refine lv_iload_n hx hb dX9_addIfWrong_3 rfl (lv_at hl 3 rfl) ?_
  refine lv_icmp_le (tgt := 18) hx hb dX9_addIfWrong_4 (by decide) (fun c_2 => ?_) (fun c_2 => ?_)
  · have jc_2 := dk_lec (k := (a3).toInt) rfl c_2
    refine lv_iload_n hx hb dX9_addIfWrong_18 rfl (lv_at hl 1 rfl) ?_
    refine lv_aload_n hx hb dX9_addIfWrong_19 rfl (lv_at hl 0 rfl) ?_
    obtain ⟨x_3, f_x_3, b_x_3⟩ := dg_I.int (i := 210) (k := 4) (lo := (-2147483648)) (hi := 2147483647) I sX_210 (by decide +kernel)
    refine dg_get (C := RX9) (T := TX9) (N := 5) hx hb hts (fun w h => bw_mem (wU_X9 w h)) hown K hP sX_210 rfl 4 (by decide) (hts _ (bw_mem wB_641)) (fun _ h9 => h9) (v := .int x_3) f_x_3 dX9_addIfWrong_20 ?_
    refine lv_icmp_ne (tgt := 35) hx hb dX9_addIfWrong_23 (by decide) (fun c_4 => ?_) (fun c_4 => ?_)
    · have hf_4 := dk_full x_3
      have jc_4 := dk_neqc (k := (x_3).toInt) rfl c_4
      refine lv_iconst (v := 0) hx hb dX9_addIfWrong_35 (by decide +kernel) ?_
      have hz_6 : (0 : Int32).toInt = 0 := by decide +kernel
      have hz_7 : (0 : Int32).toInt = 0 := by decide +kernel
      refine W.widen (k := 0) (n := 0) (Nat.le_of_ble_eq_true rfl) (Nat.le_of_ble_eq_true rfl) ?_
      exact dg_iret hx hb hr hlocks (by decide +kernel) hP hS ⟨I, M_0, (by decide +kernel), ⟨c0, f_c0, (by omega)⟩, trivial⟩ dX9_addIfWrong_36
    · have hf_7 := dk_full x_3
      have jc_4 := dk_eqc (k := (x_3).toInt) rfl c_4
      refine lv_aload_n hx hb dX9_addIfWrong_26 rfl (lv_at hl 0 rfl) ?_
      refine lv_iconst (v := 5) hx hb dX9_addIfWrong_27 (by decide +kernel) ?_
      refine lv_iload_n hx hb dX9_addIfWrong_28 rfl (lv_at hl 1 rfl) ?_
      refine lv_iload_n hx hb dX9_addIfWrong_29 rfl (lv_at hl 1 rfl) ?_
      refine dg_callv hS hA1 hA (va_runV (As := [.int 5, .int a1, .int a1]) (rest := []) F (c_v_add l g D o S 5 a1 a1 c0 f_c0 (by omega) I s.heap.size) (cwV 3 hts (bw_V wB_643 wB_644 wB_645 wB_646 wB_642) rfl rfl rfl (by decide +kernel) ⟨Nat.le_of_ble_eq_true rfl, Nat.le_of_ble_eq_true rfl⟩) (dg_preV sX_210 rfl K ST hP hS hA1 hA) rfl rfl hl.1 rfl (lv_room (Nat.le_of_ble_eq_true rfl)) dX9_addIfWrong_30 ⟨Nat.le_of_ble_eq_true rfl, Nat.le_of_ble_eq_true rfl⟩) (fun S_9 hw_9 H locs hP hS => ?_)
      obtain ⟨I_9, m_9, w_9_0, w_9_1, -⟩ := hw_9
      have M_9 := dg_sm.tr M_0 m_9 (by decide) (by decide)
      have hz_10 : (5 : Int32).toInt = 5 := by decide +kernel
      obtain ⟨y_11, f_y_11, w_9_0⟩ := w_9_0
      have w_9_0 : (y_11).toInt = (c0).toInt + 1 := w_9_0
      have b_y_11 : 0 ≤ (y_11).toInt ∧ (y_11).toInt ≤ 1601 := dg_I.intb (lo := 0) (hi := 1601) I_9 sX_210 (by decide +kernel) f_y_11
      obtain ⟨x_12, f_x_12⟩ : ∃ x, S_9.2.1 211 (c0 : Int32).toNatClampNeg = x := ⟨_, rfl⟩
      have w_9_1 : (x_12).toInt = ((5 : Int32)).toInt := w_9_1 x_12 f_x_12
      refine lv_iconst (v := 1) hx hb dX9_addIfWrong_33 (by decide +kernel) ?_
      have hz_13 : (1 : Int32).toInt = 1 := by decide +kernel
      have hz_14 : (1 : Int32).toInt = 1 := by decide +kernel
      refine W.widen (k := 0) (n := 0) (Nat.le_of_ble_eq_true rfl) (Nat.le_of_ble_eq_true rfl) ?_
      exact dg_iret hx hb hr hlocks (by decide +kernel) hP hS ⟨I_9, M_9, (by decide +kernel), ⟨y_11, f_y_11, (by omega)⟩, trivial⟩ dX9_addIfWrong_34
  · have jc_2 := dk_nlec (k := (a3).toInt) rfl c_2
    refine lv_aload_n hx hb dX9_addIfWrong_7 rfl (lv_at hl 0 rfl) ?_
    refine lv_iconst (v := 5) hx hb dX9_addIfWrong_8 (by decide +kernel) ?_
    refine lv_iload_n hx hb dX9_addIfWrong_9 rfl (lv_at hl 1 rfl) ?_
    refine lv_iload_n hx hb dX9_addIfWrong_10 rfl (lv_at hl 1 rfl) ?_
    refine lv_iload_n hx hb dX9_addIfWrong_11 rfl (lv_at hl 3 rfl) ?_
    refine lv_iadd hx hb dX9_addIfWrong_12 ?_
    refine lv_topi (fun x_15 ex_15 => ?_)
    have jx_15 : (x_15).toInt = (a1).toInt + (a3).toInt := by rw [ex_15]; exact dk_addT rfl rfl (by omega) (by omega)
    refine dg_callv hS hA1 hA (va_runV (As := [.int 5, .int a1, .int x_15]) (rest := []) F (c_v_add l g D o S 5 a1 x_15 c0 f_c0 (by omega) I s.heap.size) (cwV 3 hts (bw_V wB_643 wB_644 wB_645 wB_646 wB_642) rfl rfl rfl (by decide +kernel) ⟨Nat.le_of_ble_eq_true rfl, Nat.le_of_ble_eq_true rfl⟩) (dg_preV sX_210 rfl K ST hP hS hA1 hA) rfl rfl hl.1 rfl (lv_room (Nat.le_of_ble_eq_true rfl)) dX9_addIfWrong_13 ⟨Nat.le_of_ble_eq_true rfl, Nat.le_of_ble_eq_true rfl⟩) (fun S_16 hw_16 H locs hP hS => ?_)
    obtain ⟨I_16, m_16, w_16_0, w_16_1, -⟩ := hw_16
    have M_16 := dg_sm.tr M_0 m_16 (by decide) (by decide)
    have hz_17 : (5 : Int32).toInt = 5 := by decide +kernel
    obtain ⟨y_18, f_y_18, w_16_0⟩ := w_16_0
    have w_16_0 : (y_18).toInt = (c0).toInt + 1 := w_16_0
    have b_y_18 : 0 ≤ (y_18).toInt ∧ (y_18).toInt ≤ 1601 := dg_I.intb (lo := 0) (hi := 1601) I_16 sX_210 (by decide +kernel) f_y_18
    obtain ⟨x_19, f_x_19⟩ : ∃ x, S_16.2.1 211 (c0 : Int32).toNatClampNeg = x := ⟨_, rfl⟩
    have w_16_1 : (x_19).toInt = ((5 : Int32)).toInt := w_16_1 x_19 f_x_19
    refine lv_iconst (v := 1) hx hb dX9_addIfWrong_16 (by decide +kernel) ?_
    have hz_20 : (1 : Int32).toInt = 1 := by decide +kernel
    have hz_21 : (1 : Int32).toInt = 1 := by decide +kernel
    refine W.widen (k := 0) (n := 0) (Nat.le_of_ble_eq_true rfl) (Nat.le_of_ble_eq_true rfl) ?_
    exact dg_iret hx hb hr hlocks (by decide +kernel) hP hS ⟨I_16, M_16, (by decide +kernel), ⟨y_18, f_y_18, (by omega)⟩, trivial⟩ dX9_addIfWrong_17
set_option maxHeartbeats 8000000 in
set_option maxRecDepth 100000 in
theorem c_v_lettersOf (l : Launch) (g : Nat → ClassId) (D : va_G) (o : Nat) (S : dg_S) (a1 : Int32) (b_a1 : 0 ≤ (a1).toInt ∧ (a1).toInt ≤ 1600) (a2 : Int32) (b_a2 : 0 ≤ (a2).toInt ∧ (a2).toInt ≤ 1600) (I : CX o S) (sz : Nat) : Met l yX9_lettersOf (bw yX9_lettersOf cX9_lettersOf 6 (some .int)) ({ frames := 1, cells := 0, slots := 0, locals := 32 } : Room) (dk_Pc g D (dg_w g shX o rfX S) sz [.ref (o + 1), .int a1, .int a2]) (va_Qi (fun (r : Int32) S' => S' = S ∧ True) (dg_B g D shX o rfX) (dg_A o shX.length sz)) 0 0 (dg_A o shX.length sz) := by
  refine dg_met (cc := cX9_lettersOf) (maxL := 6) (ret := (some .int)) (by decide) rfl (Nat.le_of_ble_eq_true rfl) ?_
  intro p e s m args below meth c A hAe harg hx hb hr hml hts hown hlocks hin hP K hS hA1 hA ST hsz ls hl
  rw [← hAe]
  have F : CallFix p m c cX9_lettersOf 6 s args (bw yX9_lettersOf cX9_lettersOf 6 (some .int)) RX9 := ⟨hx, hb, hml, hown, hts⟩
  have hl : lv_has ls 6 [(0, .ref (o + 1)), (1, .int a1), (2, .int a2)] := hl
  have M_0 : dg_sm shX [] [] S S := dg_sm.rf
  refine lv_iconst (v := 0) hx hb dX9_lettersOf_0 (by decide +kernel) ?_
  refine lv_istore_n (lv' := [(3, .int 0), (0, .ref (o + 1)), (1, .int a1), (2, .int a2)]) hx hb dX9_lettersOf_1 rfl hl (by decide) rfl (fun ls hl => ?_)
  refine lv_iconst (v := 0) hx hb dX9_lettersOf_2 (by decide +kernel) ?_
  refine lv_istore (lv' := [(4, .int 0), (3, .int 0), (0, .ref (o + 1)), (1, .int a1), (2, .int a2)]) hx hb dX9_lettersOf_3 hl (by decide) rfl (fun ls hl => ?_)
  have L_63 : ∀ (n : Nat) (x_61 : Int32) (x_62 : Int32), (0 ≤ (x_61).toInt ∧ (x_61).toInt ≤ 6) → ((7 - (x_61).toInt).toNat < n) → ∀ (H : Heap) (locs : List Loc), va_P D vwCl (dg_w g shX o rfX S) H → va_S A s.heap H locs → ∀ ls : Array Slot, lv_has ls 6 [(4, .int x_61), (3, .int x_62), (0, .ref (o + 1)), (1, .int a1), (2, .int a2)] → W p l e ({ frames := 1, cells := 0, slots := 0, locals := 32 } : Room) s m args below meth c H locs 0 0 (MQ below (va_Qi (fun (r : Int32) S' => S' = S ∧ True) (dg_B g D shX o rfX) A) args s 0 0 A) (F0 m 5 ls []) := by
    intro n
    induction n with
    | zero =>
      intro x_61 x_62 b_x_61 hmu H locs hP hS ls hl
      omega
    | succ n ih =>
      intro x_61 x_62 b_x_61 hmu H locs hP hS ls hl
      refine lv_iload hx hb dX9_lettersOf_5 (lv_at hl 0 rfl) ?_
      refine lv_bipush (v := 6) hx hb dX9_lettersOf_7 (by decide +kernel) ?_
      refine lv_icmp_ge (tgt := 54) hx hb dX9_lettersOf_9 (by decide) (fun c_64 => ?_) (fun c_64 => ?_)
      · have jc_64 := dk_gec (k := 6) (by decide +kernel) c_64
        refine lv_iload_n hx hb dX9_lettersOf_54 rfl (lv_at hl 1 rfl) ?_
        refine W.widen (k := 0) (n := 0) (Nat.le_of_ble_eq_true rfl) (Nat.le_of_ble_eq_true rfl) ?_
        exact dg_iret hx hb hr hlocks rfl hP hS ⟨rfl, trivial⟩ dX9_lettersOf_55
      · have jc_64 := dk_ngec (k := 6) (by decide +kernel) c_64
        refine lv_iload_n hx hb dX9_lettersOf_12 rfl (lv_at hl 3 rfl) ?_
        refine lv_iload hx hb dX9_lettersOf_13 (lv_at hl 0 rfl) ?_
        refine lv_iadd hx hb dX9_lettersOf_15 ?_
        refine lv_topi (fun x_65 ex_65 => ?_)
        have jx_65 : (x_65).toInt = (a1).toInt + (x_61).toInt := by rw [ex_65]; exact dk_addT rfl rfl (by omega) (by omega)
        refine lv_iload_n hx hb dX9_lettersOf_16 rfl (lv_at hl 4 rfl) ?_
        have J_76 : ∀ (x_72 : Int32), ((-96) ≤ (x_72).toInt ∧ (x_72).toInt ≤ 159) → ∀ (H : Heap) (locs : List Loc), va_P D vwCl (dg_w g shX o rfX S) H → va_S A s.heap H locs → ∀ ls : Array Slot, lv_has ls 6 [(4, .int x_61), (3, .int x_62), (0, .ref (o + 1)), (1, .int a1), (2, .int a2)] → W p l e ({ frames := 1, cells := 0, slots := 0, locals := 32 } : Room) s m args below meth c H locs 0 0 (MQ below (va_Qi (fun (r : Int32) S' => S' = S ∧ True) (dg_B g D shX o rfX) A) args s 0 0 A) (F0 m 38 ls [.int x_72]) := by
          intro x_72 b_x_72 H locs hP hS ls hl
          refine lv_istore (lv' := [(5, .int x_72), (4, .int x_61), (3, .int x_62), (0, .ref (o + 1)), (1, .int a1), (2, .int a2)]) hx hb dX9_lettersOf_38 hl (by decide) rfl (fun ls hl => ?_)
          refine lv_bipush (v := 27) hx hb dX9_lettersOf_40 (by decide +kernel) ?_
          refine lv_iload_n hx hb dX9_lettersOf_42 rfl (lv_at hl 2 rfl) ?_
          refine lv_imul hx hb dX9_lettersOf_43 ?_
          refine lv_topi (fun x_77 ex_77 => ?_)
          refine lv_iload hx hb dX9_lettersOf_44 (lv_at hl 0 rfl) ?_
          refine lv_iadd hx hb dX9_lettersOf_46 ?_
          refine lv_topi (fun x_78 ex_78 => ?_)
          refine lv_istore_n (lv' := [(3, .int x_78), (5, .int x_72), (4, .int x_61), (0, .ref (o + 1)), (1, .int a1), (2, .int a2)]) hx hb dX9_lettersOf_47 rfl hl (by decide) rfl (fun ls hl => ?_)
          obtain ⟨x_79, ex_79⟩ : ∃ z, z = x_61 + 1 := ⟨_, rfl⟩
          have jx_79 : (x_79).toInt = (x_61).toInt + 1 := by rw [ex_79]; exact dk_addT rfl (by decide +kernel) (by omega) (by omega)
          refine lv_iinc (v := x_79) (lv' := [(4, .int x_79), (3, .int x_78), (5, .int x_72), (0, .ref (o + 1)), (1, .int a1), (2, .int a2)]) hx hb dX9_lettersOf_48 hl (k := 2) rfl (by rw [ex_79]; rfl) (by decide) rfl (fun ls hl => ?_)
          refine lv_goto (tgt := 5) hx hb dX9_lettersOf_51 (by decide) ?_
          exact ih x_79 x_78 (by omega) (by omega) _ _ hP hS _ (lv_sub hl [0, 1, 3, 4, 5] rfl)
        refine lv_icmp_ge (tgt := 37) hx hb dX9_lettersOf_17 (by decide) (fun c_80 => ?_) (fun c_80 => ?_)
        · have jc_80 := dk_gec (k := (a2).toInt) rfl c_80
          refine lv_iconst (v := 0) hx hb dX9_lettersOf_37 (by decide +kernel) ?_
          have hz_81 : (0 : Int32).toInt = 0 := by decide +kernel
          exact J_76 0 (by decide +kernel) _ _ hP hS _ (lv_sub hl [0, 1, 2, 3, 4] rfl)
        · have jc_80 := dk_ngec (k := (a2).toInt) rfl c_80
          refine lv_aload_n hx hb dX9_lettersOf_20 rfl (lv_at hl 2 rfl) ?_
          refine dg_get (C := RX8) (T := TX8) (N := 2) hx hb hts (fun w h => bw_mem (wU_X8 w h)) hown K hP sX_1 rfl 0 (by decide) (hts _ (bw_mem wB_647)) (fun _ h9 => h9) (v := .ref (o + 2)) (show S.1 1 0 = .ref (o + 2) from dg_I.rel (d := 1) I sX_1 (by decide +kernel)) dX9_lettersOf_21 ?_
          refine lv_iload_n hx hb dX9_lettersOf_24 rfl (lv_at hl 3 rfl) ?_
          refine lv_iload hx hb dX9_lettersOf_25 (lv_at hl 0 rfl) ?_
          refine lv_iadd hx hb dX9_lettersOf_27 ?_
          refine lv_topi (fun x_82 ex_82 => ?_)
          have jx_82 : (x_82).toInt = (a1).toInt + (x_61).toInt := by rw [ex_82]; exact dk_addT rfl rfl (by omega) (by omega)
          have hin_83 : vp_in x_82 1600 := (dk_inv (by omega) (by omega))
          refine dg_iald hx hb K hP sX_2 hin_83 dX9_lettersOf_28 (fun x_84 ex_84 => ?_)
          have b_x_84 := dk_all_at (dg_I.row (lo := 0) (hi := 255) I sX_2 (by decide +kernel)) hin_83 ex_84
          refine lv_bipush (v := 97) hx hb dX9_lettersOf_29 (by decide +kernel) ?_
          refine lv_isub hx hb dX9_lettersOf_31 ?_
          refine lv_topi (fun x_85 ex_85 => ?_)
          have jx_85 : (x_85).toInt = (x_84).toInt - 97 := by rw [ex_85]; exact dk_subT rfl (by decide +kernel) (by omega) (by omega)
          refine lv_iconst (v := 1) hx hb dX9_lettersOf_32 (by decide +kernel) ?_
          refine lv_iadd hx hb dX9_lettersOf_33 ?_
          refine lv_topi (fun x_86 ex_86 => ?_)
          have jx_86 : (x_86).toInt = (x_85).toInt + 1 := by rw [ex_86]; exact dk_addT rfl (by decide +kernel) (by omega) (by omega)
          refine lv_goto (tgt := 38) hx hb dX9_lettersOf_34 (by decide) ?_
          exact J_76 x_86 (by omega) _ _ hP hS _ (lv_sub hl [0, 1, 2, 3, 4] rfl)
  have hz_87 : (0 : Int32).toInt = 0 := by decide +kernel
  have hz_88 : (0 : Int32).toInt = 0 := by decide +kernel
  have hz_89 : (0 : Int32).toInt = 0 := by decide +kernel
  exact L_63 ((7 - ((0 : Int32)).toInt).toNat + 1) 0 0 (by decide +kernel) (by omega) _ _ hP hS _ (lv_sub hl [0, 1, 2, 3, 4] rfl)
set_option maxHeartbeats 8000000 in
set_option maxRecDepth 100000 in
theorem c_v_ownWord (l : Launch) (g : Nat → ClassId) (D : va_G) (o : Nat) (S : dg_S) (a1 : Int32) (b_a1 : 0 ≤ (a1).toInt ∧ (a1).toInt ≤ 1600) (a2 : Int32) (b_a2 : 0 ≤ (a2).toInt ∧ (a2).toInt ≤ 1600) (I : CX o S) (sz : Nat) : Met l yX9_ownWord (bw yX9_ownWord cX9_ownWord 7 (some .int)) ({ frames := 6, cells := 0, slots := 0, locals := 300 } : Room) (dk_Pc g D (dg_w g shX o rfX S) sz [.ref (o + 1), .int a1, .int a2]) (va_Qi (fun (r : Int32) S' => S' = S ∧ ((-1) ≤ (r).toInt ∧ (r).toInt ≤ 26) ∧ True) (dg_B g D shX o rfX) (dg_A o shX.length sz)) 0 0 (dg_A o shX.length sz) := by
  refine dg_met (cc := cX9_ownWord) (maxL := 7) (ret := (some .int)) (by decide) rfl (Nat.le_of_ble_eq_true rfl) ?_
  intro p e s m args below meth c A hAe harg hx hb hr hml hts hown hlocks hin hP K hS hA1 hA ST hsz ls hl
  rw [← hAe]
  have F : CallFix p m c cX9_ownWord 7 s args (bw yX9_ownWord cX9_ownWord 7 (some .int)) RX9 := ⟨hx, hb, hml, hown, hts⟩
  have hl : lv_has ls 7 [(0, .ref (o + 1)), (1, .int a1), (2, .int a2)] := hl
  have M_0 : dg_sm shX [] [] S S := dg_sm.rf
  refine lv_iconst (v := 0) hx hb dX9_ownWord_0 (by decide +kernel) ?_
  refine lv_istore_n (lv' := [(3, .int 0), (0, .ref (o + 1)), (1, .int a1), (2, .int a2)]) hx hb dX9_ownWord_1 rfl hl (by decide) rfl (fun ls hl => ?_)
  have L_540 : ∀ (n : Nat) (x_539 : Int32), (0 ≤ (x_539).toInt ∧ (x_539).toInt ≤ 27) → ((28 - (x_539).toInt).toNat < n) → ∀ (H : Heap) (locs : List Loc), va_P D vwCl (dg_w g shX o rfX S) H → va_S A s.heap H locs → ∀ ls : Array Slot, lv_has ls 7 [(3, .int x_539), (0, .ref (o + 1)), (1, .int a1), (2, .int a2)] → W p l e ({ frames := 6, cells := 0, slots := 0, locals := 300 } : Room) s m args below meth c H locs 0 0 (MQ below (va_Qi (fun (r : Int32) S' => S' = S ∧ ((-1) ≤ (r).toInt ∧ (r).toInt ≤ 26) ∧ True) (dg_B g D shX o rfX) A) args s 0 0 A) (F0 m 2 ls []) := by
    intro n
    induction n with
    | zero =>
      intro x_539 b_x_539 hmu H locs hP hS ls hl
      omega
    | succ n ih =>
      intro x_539 b_x_539 hmu H locs hP hS ls hl
      refine lv_iload_n hx hb dX9_ownWord_2 rfl (lv_at hl 0 rfl) ?_
      refine lv_bipush (v := 27) hx hb dX9_ownWord_3 (by decide +kernel) ?_
      refine lv_icmp_ge (tgt := 86) hx hb dX9_ownWord_5 (by decide) (fun c_541 => ?_) (fun c_541 => ?_)
      · have jc_541 := dk_gec (k := 27) (by decide +kernel) c_541
        refine lv_iconst (v := (-1)) hx hb dX9_ownWord_86 (by decide +kernel) ?_
        have hz_542 : (-1 : Int32).toInt = (-1) := by decide +kernel
        refine W.widen (k := 0) (n := 0) (Nat.le_of_ble_eq_true rfl) (Nat.le_of_ble_eq_true rfl) ?_
        exact dg_iret hx hb hr hlocks rfl hP hS ⟨rfl, (by decide +kernel), trivial⟩ dX9_ownWord_87
      · have jc_541 := dk_ngec (k := 27) (by decide +kernel) c_541
        refine lv_iconst (v := 0) hx hb dX9_ownWord_8 (by decide +kernel) ?_
        refine lv_istore (lv' := [(4, .int 0), (3, .int x_539), (0, .ref (o + 1)), (1, .int a1), (2, .int a2)]) hx hb dX9_ownWord_9 hl (by decide) rfl (fun ls hl => ?_)
        refine lv_iconst (v := 0) hx hb dX9_ownWord_11 (by decide +kernel) ?_
        refine lv_istore (lv' := [(5, .int 0), (4, .int 0), (3, .int x_539), (0, .ref (o + 1)), (1, .int a1), (2, .int a2)]) hx hb dX9_ownWord_12 hl (by decide) rfl (fun ls hl => ?_)
        have J_651 : ∀ (x_647 : Int32) (x_648 : Int32), (6 ≤ (x_647).toInt ∧ (x_647).toInt ≤ 2147483647) → ∀ (H : Heap) (locs : List Loc), va_P D vwCl (dg_w g shX o rfX S) H → va_S A s.heap H locs → ∀ ls : Array Slot, lv_has ls 7 [(5, .int x_647), (4, .int x_648), (3, .int x_539), (0, .ref (o + 1)), (1, .int a1), (2, .int a2)] → W p l e ({ frames := 6, cells := 0, slots := 0, locals := 300 } : Room) s m args below meth c H locs 0 0 (MQ below (va_Qi (fun (r : Int32) S' => S' = S ∧ ((-1) ≤ (r).toInt ∧ (r).toInt ≤ 26) ∧ True) (dg_B g D shX o rfX) A) args s 0 0 A) (F0 m 71 ls []) := by
          intro x_647 x_648 b_x_647 H locs hP hS ls hl
          refine lv_iload hx hb dX9_ownWord_71 (lv_at hl 1 rfl) ?_
          refine lv_bipush (v := 6) hx hb dX9_ownWord_73 (by decide +kernel) ?_
          refine lv_icmp_ne (tgt := 80) hx hb dX9_ownWord_75 (by decide) (fun c_652 => ?_) (fun c_652 => ?_)
          · have jc_652 := dk_neqc (k := 6) (by decide +kernel) c_652
            obtain ⟨x_653, ex_653⟩ : ∃ z, z = x_539 + 1 := ⟨_, rfl⟩
            have jx_653 : (x_653).toInt = (x_539).toInt + 1 := by rw [ex_653]; exact dk_addT rfl (by decide +kernel) (by omega) (by omega)
            refine lv_iinc (v := x_653) (lv' := [(3, .int x_653), (5, .int x_647), (4, .int x_648), (0, .ref (o + 1)), (1, .int a1), (2, .int a2)]) hx hb dX9_ownWord_80 hl (k := 2) rfl (by rw [ex_653]; rfl) (by decide) rfl (fun ls hl => ?_)
            refine lv_goto (tgt := 2) hx hb dX9_ownWord_83 (by decide) ?_
            exact ih x_653 (by omega) (by omega) _ _ hP hS _ (lv_sub hl [0, 3, 4, 5] rfl)
          · have jc_652 := dk_eqc (k := 6) (by decide +kernel) c_652
            refine lv_iload_n hx hb dX9_ownWord_78 rfl (lv_at hl 2 rfl) ?_
            refine W.widen (k := 0) (n := 0) (Nat.le_of_ble_eq_true rfl) (Nat.le_of_ble_eq_true rfl) ?_
            exact dg_iret hx hb hr hlocks rfl hP hS ⟨rfl, (by omega), trivial⟩ dX9_ownWord_79
        have L_743 : ∀ (n : Nat) (x_741 : Int32) (x_742 : Int32), (0 ≤ (x_741).toInt ∧ (x_741).toInt ≤ 6) → ((7 - (x_741).toInt).toNat < n) → ∀ (H : Heap) (locs : List Loc), va_P D vwCl (dg_w g shX o rfX S) H → va_S A s.heap H locs → ∀ ls : Array Slot, lv_has ls 7 [(5, .int x_741), (4, .int x_742), (3, .int x_539), (0, .ref (o + 1)), (1, .int a1), (2, .int a2)] → W p l e ({ frames := 6, cells := 0, slots := 0, locals := 300 } : Room) s m args below meth c H locs 0 0 (MQ below (va_Qi (fun (r : Int32) S' => S' = S ∧ ((-1) ≤ (r).toInt ∧ (r).toInt ≤ 26) ∧ True) (dg_B g D shX o rfX) A) args s 0 0 A) (F0 m 14 ls []) := by
          intro n
          induction n with
          | zero =>
            intro x_741 x_742 b_x_741 hmu H locs hP hS ls hl
            omega
          | succ n ih =>
            intro x_741 x_742 b_x_741 hmu H locs hP hS ls hl
            refine lv_iload hx hb dX9_ownWord_14 (lv_at hl 0 rfl) ?_
            refine lv_bipush (v := 6) hx hb dX9_ownWord_16 (by decide +kernel) ?_
            refine lv_icmp_ge (tgt := 71) hx hb dX9_ownWord_18 (by decide) (fun c_744 => ?_) (fun c_744 => ?_)
            · have jc_744 := dk_gec (k := 6) (by decide +kernel) c_744
              have hf_744 := dk_full x_741
              exact J_651 x_741 x_742 (by omega) _ _ hP hS _ (lv_sub hl [0, 1, 2, 3, 4, 5] rfl)
            · have jc_744 := dk_ngec (k := 6) (by decide +kernel) c_744
              refine lv_iload_n hx hb dX9_ownWord_21 rfl (lv_at hl 4 rfl) ?_
              refine lv_iload hx hb dX9_ownWord_22 (lv_at hl 0 rfl) ?_
              refine lv_iadd hx hb dX9_ownWord_24 ?_
              refine lv_topi (fun x_746 ex_746 => ?_)
              have jx_746 : (x_746).toInt = (a1).toInt + (x_741).toInt := by rw [ex_746]; exact dk_addT rfl rfl (by omega) (by omega)
              refine lv_iload_n hx hb dX9_ownWord_25 rfl (lv_at hl 5 rfl) ?_
              have J_762 : ∀ (x_751 : Int32), (0 ≤ (x_751).toInt ∧ (x_751).toInt ≤ 255) → ∀ (H : Heap) (locs : List Loc), va_P D vwCl (dg_w g shX o rfX S) H → va_S A s.heap H locs → ∀ ls : Array Slot, lv_has ls 7 [(5, .int x_741), (4, .int x_742), (3, .int x_539), (0, .ref (o + 1)), (1, .int a1), (2, .int a2)] → W p l e ({ frames := 6, cells := 0, slots := 0, locals := 300 } : Room) s m args below meth c H locs 0 0 (MQ below (va_Qi (fun (r : Int32) S' => S' = S ∧ ((-1) ≤ (r).toInt ∧ (r).toInt ≤ 26) ∧ True) (dg_B g D shX o rfX) A) args s 0 0 A) (F0 m 43 ls [.int x_751]) := by
                intro x_751 b_x_751 H locs hP hS ls hl
                refine lv_istore (lv' := [(6, .int x_751), (5, .int x_741), (4, .int x_742), (3, .int x_539), (0, .ref (o + 1)), (1, .int a1), (2, .int a2)]) hx hb dX9_ownWord_43 hl (by decide) rfl (fun ls hl => ?_)
                refine lv_iload hx hb dX9_ownWord_45 (lv_at hl 0 rfl) ?_
                obtain ⟨-, -, -, sa_763, sa_763_v, sa_763_R, sa_763_S⟩ := id ST
                refine va_ldcS hx hb hown sa_763_R dX9_ownWord_47 ?_
                refine lv_bipush (v := 6) hx hb dX9_ownWord_49 (by decide +kernel) ?_
                refine lv_iload_n hx hb dX9_ownWord_51 rfl (lv_at hl 3 rfl) ?_
                refine lv_imul hx hb dX9_ownWord_52 ?_
                refine lv_topi (fun x_764 ex_764 => ?_)
                have jx_764 : (x_764).toInt = 6 * (x_539).toInt := by rw [ex_764]; exact dk_mulT (by decide +kernel) rfl (by omega) (by omega)
                refine lv_iload hx hb dX9_ownWord_53 (lv_at hl 1 rfl) ?_
                refine lv_iadd hx hb dX9_ownWord_55 ?_
                refine lv_topi (fun x_765 ex_765 => ?_)
                have jx_765 : (x_765).toInt = (x_764).toInt + (x_741).toInt := by rw [ex_765]; exact dk_addT rfl rfl (by omega) (by omega)
                refine dg_charAt F K ST sa_763_S hP hS  hA1 hA (by omega) hl.1 (Nat.le_of_ble_eq_true rfl) (Nat.le_of_ble_eq_true rfl) ⟨Nat.le_of_ble_eq_true rfl, Nat.le_of_ble_eq_true rfl⟩ (Nat.le_of_ble_eq_true rfl) dX9_ownWord_56 (fun x_766 H locs hP hS => ?_)
                have J_773 : ∀ (x_771 : Int32), ∀ (H : Heap) (locs : List Loc), va_P D vwCl (dg_w g shX o rfX S) H → va_S A s.heap H locs → ∀ ls : Array Slot, lv_has ls 7 [(6, .int x_751), (5, .int x_741), (4, .int x_771), (3, .int x_539), (0, .ref (o + 1)), (1, .int a1), (2, .int a2)] → W p l e ({ frames := 6, cells := 0, slots := 0, locals := 300 } : Room) s m args below meth c H locs 0 0 (MQ below (va_Qi (fun (r : Int32) S' => S' = S ∧ ((-1) ≤ (r).toInt ∧ (r).toInt ≤ 26) ∧ True) (dg_B g D shX o rfX) A) args s 0 0 A) (F0 m 65 ls []) := by
                  intro x_771 H locs hP hS ls hl
                  obtain ⟨x_774, ex_774⟩ : ∃ z, z = x_741 + 1 := ⟨_, rfl⟩
                  have jx_774 : (x_774).toInt = (x_741).toInt + 1 := by rw [ex_774]; exact dk_addT rfl (by decide +kernel) (by omega) (by omega)
                  refine lv_iinc (v := x_774) (lv' := [(5, .int x_774), (6, .int x_751), (4, .int x_771), (3, .int x_539), (0, .ref (o + 1)), (1, .int a1), (2, .int a2)]) hx hb dX9_ownWord_65 hl (k := 1) rfl (by rw [ex_774]; rfl) (by decide) rfl (fun ls hl => ?_)
                  refine lv_goto (tgt := 14) hx hb dX9_ownWord_68 (by decide) ?_
                  exact ih x_774 x_771 (by omega) (by omega) _ _ hP hS _ (lv_sub hl [0, 2, 3, 4, 5, 6] rfl)
                refine lv_icmp_ne (tgt := 65) hx hb dX9_ownWord_59 (by decide) (fun c_775 => ?_) (fun c_775 => ?_)
                · have hf_775 := dk_full x_766
                  have jc_775 := dk_neqc (k := (x_766).toInt) rfl c_775
                  exact J_773 x_742  _ _ hP hS _ (lv_sub hl [0, 1, 2, 3, 4, 5, 6] rfl)
                · have hf_776 := dk_full x_766
                  have jc_775 := dk_eqc (k := (x_766).toInt) rfl c_775
                  obtain ⟨x_778, ex_778⟩ : ∃ z, z = x_742 + 1 := ⟨_, rfl⟩
                  refine lv_iinc (v := x_778) (lv' := [(4, .int x_778), (6, .int x_751), (5, .int x_741), (3, .int x_539), (0, .ref (o + 1)), (1, .int a1), (2, .int a2)]) hx hb dX9_ownWord_62 hl (k := 2) rfl (by rw [ex_778]; rfl) (by decide) rfl (fun ls hl => ?_)
                  exact J_773 x_778  _ _ hP hS _ (lv_sub hl [1, 2, 0, 3, 4, 5, 6] rfl)
              refine lv_icmp_ge (tgt := 41) hx hb dX9_ownWord_26 (by decide) (fun c_779 => ?_) (fun c_779 => ?_)
              · have jc_779 := dk_gec (k := (a2).toInt) rfl c_779
                refine lv_bipush (v := 32) hx hb dX9_ownWord_41 (by decide +kernel) ?_
                have hz_780 : (32 : Int32).toInt = 32 := by decide +kernel
                exact J_762 32 (by decide +kernel) _ _ hP hS _ (lv_sub hl [0, 1, 2, 3, 4, 5] rfl)
              · have jc_779 := dk_ngec (k := (a2).toInt) rfl c_779
                refine lv_aload_n hx hb dX9_ownWord_29 rfl (lv_at hl 3 rfl) ?_
                refine dg_get (C := RX8) (T := TX8) (N := 2) hx hb hts (fun w h => bw_mem (wU_X8 w h)) hown K hP sX_1 rfl 0 (by decide) (hts _ (bw_mem wB_647)) (fun _ h9 => h9) (v := .ref (o + 2)) (show S.1 1 0 = .ref (o + 2) from dg_I.rel (d := 1) I sX_1 (by decide +kernel)) dX9_ownWord_30 ?_
                refine lv_iload_n hx hb dX9_ownWord_33 rfl (lv_at hl 4 rfl) ?_
                refine lv_iload hx hb dX9_ownWord_34 (lv_at hl 0 rfl) ?_
                refine lv_iadd hx hb dX9_ownWord_36 ?_
                refine lv_topi (fun x_781 ex_781 => ?_)
                have jx_781 : (x_781).toInt = (a1).toInt + (x_741).toInt := by rw [ex_781]; exact dk_addT rfl rfl (by omega) (by omega)
                have hin_782 : vp_in x_781 1600 := (dk_inv (by omega) (by omega))
                refine dg_iald hx hb K hP sX_2 hin_782 dX9_ownWord_37 (fun x_783 ex_783 => ?_)
                have b_x_783 := dk_all_at (dg_I.row (lo := 0) (hi := 255) I sX_2 (by decide +kernel)) hin_782 ex_783
                refine lv_goto (tgt := 43) hx hb dX9_ownWord_38 (by decide) ?_
                exact J_762 x_783 (by omega) _ _ hP hS _ (lv_sub hl [0, 1, 2, 3, 4, 5] rfl)
        have hz_784 : (0 : Int32).toInt = 0 := by decide +kernel
        have hz_785 : (0 : Int32).toInt = 0 := by decide +kernel
        have hz_786 : (0 : Int32).toInt = 0 := by decide +kernel
        exact L_743 ((7 - ((0 : Int32)).toInt).toNat + 1) 0 0 (by decide +kernel) (by omega) _ _ hP hS _ (lv_sub hl [0, 1, 2, 3, 4, 5] rfl)
  have hz_787 : (0 : Int32).toInt = 0 := by decide +kernel
  have hz_788 : (0 : Int32).toInt = 0 := by decide +kernel
  exact L_540 ((28 - ((0 : Int32)).toInt).toNat + 1) 0 (by decide +kernel) (by omega) _ _ hP hS _ (lv_sub hl [0, 1, 2, 3] rfl)
set_option maxHeartbeats 8000000 in
set_option maxRecDepth 100000 in
theorem c_v_addWord (l : Launch) (g : Nat → ClassId) (D : va_G) (o : Nat) (S : dg_S) (a2 : Int32) (b_a2 : 0 ≤ (a2).toInt ∧ (a2).toInt ≤ 1599) (c0 : Int32) (f_c0 : S.1 210 3 = .int c0) (b_c0 : 0 ≤ (c0).toInt ∧ (c0).toInt ≤ 1600) (le : Int32) (f_le : S.1 1 1 = .int le) (b_le : 0 ≤ (le).toInt ∧ (le).toInt ≤ 1600) (xs : Int32) (f_xs : S.2.1 2 (a2 : Int32).toNatClampNeg = xs) (b_xs : 97 ≤ (xs).toInt ∧ (xs).toInt ≤ 122) (hle : (a2).toInt < (le).toInt) (I : CX o S) (sz : Nat) : Met l yX9_addWord (bw yX9_addWord cX9_addWord 5 (some .int)) ({ frames := 7, cells := 0, slots := 0, locals := 326 } : Room) (dk_Pc g D (dg_w g shX o rfX S) sz [.ref (o + 210), .ref (o + 1), .int a2]) (va_Qi (fun (r : Int32) S' => CX o S' ∧ dg_sm shX [(32, 3), (32, 4)] [33, 34, 35] S S' ∧ (1 ≤ (r).toInt ∧ (r).toInt ≤ 1600) ∧ ((a2).toInt < (r).toInt ∧ (r).toInt ≤ (le).toInt) ∧ (∃ y9 : Int32, S'.1 210 3 = .int y9 ∧ ((y9).toInt = (c0).toInt + 1)) ∧ True) (dg_B g D shX o rfX) (dg_A o shX.length sz)) 0 0 (dg_A o shX.length sz) := by
  refine dg_met (cc := cX9_addWord) (maxL := 5) (ret := (some .int)) (by decide) rfl (Nat.le_of_ble_eq_true rfl) ?_
  intro p e s m args below meth c A hAe harg hx hb hr hml hts hown hlocks hin hP K hS hA1 hA ST hsz ls hl
  rw [← hAe]
  have F : CallFix p m c cX9_addWord 5 s args (bw yX9_addWord cX9_addWord 5 (some .int)) RX9 := ⟨hx, hb, hml, hown, hts⟩
  have hl : lv_has ls 5 [(0, .ref (o + 210)), (1, .ref (o + 1)), (2, .int a2)] := hl
  have M_0 : dg_sm shX [(32, 3), (32, 4)] [33, 34, 35] S S := dg_sm.rf
  refine lv_iload_n hx hb dX9_addWord_0 rfl (lv_at hl 2 rfl) ?_
  refine lv_istore_n (lv' := [(3, .int a2), (0, .ref (o + 210)), (1, .ref (o + 1)), (2, .int a2)]) hx hb dX9_addWord_1 rfl hl (by decide) rfl (fun ls hl => ?_)
  have J_47 : ∀ (x_24 : Int32), (0 ≤ (x_24).toInt ∧ (x_24).toInt ≤ 1600) → ((a2).toInt < (x_24).toInt ∧ (x_24).toInt ≤ (le).toInt) → ∀ (H : Heap) (locs : List Loc), va_P D vwCl (dg_w g shX o rfX S) H → va_S A s.heap H locs → ∀ ls : Array Slot, lv_has ls 5 [(3, .int x_24), (0, .ref (o + 210)), (1, .ref (o + 1)), (2, .int a2)] → W p l e ({ frames := 7, cells := 0, slots := 0, locals := 326 } : Room) s m args below meth c H locs 0 0 (MQ below (va_Qi (fun (r : Int32) S' => CX o S' ∧ dg_sm shX [(32, 3), (32, 4)] [33, 34, 35] S S' ∧ (1 ≤ (r).toInt ∧ (r).toInt ≤ 1600) ∧ ((a2).toInt < (r).toInt ∧ (r).toInt ≤ (le).toInt) ∧ (∃ y9 : Int32, S'.1 210 3 = .int y9 ∧ ((y9).toInt = (c0).toInt + 1)) ∧ True) (dg_B g D shX o rfX) A) args s 0 0 A) (F0 m 28 ls []) := by
    intro x_24 b_x_24 rel_0 H locs hP hS ls hl
    refine lv_aload_n hx hb dX9_addWord_28 rfl (lv_at hl 1 rfl) ?_
    refine lv_iload_n hx hb dX9_addWord_29 rfl (lv_at hl 3 rfl) ?_
    refine lv_iload_n hx hb dX9_addWord_30 rfl (lv_at hl 0 rfl) ?_
    refine lv_bipush (v := 6) hx hb dX9_addWord_31 (by decide +kernel) ?_
    have hz_48 : (6 : Int32).toInt = 6 := by decide +kernel
    refine dg_calli hS hA1 hA (va_runV (As := [.int a2, .int x_24, .int 6]) (rest := []) F (c_v_addIfWrong l g D o S a2 (by omega) x_24 (by omega) 6 (by decide +kernel) c0 f_c0 (by omega) I H.size) (cwV 3 hts (bw_V wB_653 wB_654 wB_655 wB_646 wB_652) rfl rfl rfl (by decide +kernel) ⟨Nat.le_of_ble_eq_true rfl, Nat.le_of_ble_eq_true rfl⟩) (dg_preV sX_210 rfl K ST hP hS hA1 hA) rfl rfl hl.1 rfl (lv_room (Nat.le_of_ble_eq_true rfl)) dX9_addWord_33 ⟨Nat.le_of_ble_eq_true rfl, Nat.le_of_ble_eq_true rfl⟩) (fun x_49 S_50 hw_50 H locs hP hS => ?_)
    obtain ⟨I_50, m_50, w_50_0, w_50_1, -⟩ := hw_50
    have M_50 := dg_sm.tr M_0 m_50 (by decide) (by decide)
    have hz_51 : (6 : Int32).toInt = 6 := by decide +kernel
    have w_50_0 : 0 ≤ (x_49).toInt ∧ (x_49).toInt ≤ 1 := w_50_0
    obtain ⟨y_52, f_y_52, w_50_1⟩ := w_50_1
    have w_50_1 : (y_52).toInt = (c0).toInt + (x_49).toInt := w_50_1
    have b_y_52 : 0 ≤ (y_52).toInt ∧ (y_52).toInt ≤ 1601 := dg_I.intb (lo := 0) (hi := 1601) I_50 sX_210 (by decide +kernel) f_y_52
    refine lv_if_ne (tgt := 76) hx hb dX9_addWord_36 (by decide) (fun c_53 => ?_) (fun c_53 => ?_)
    · have jc_53 := dk_neqc (k := 0) (by decide +kernel) c_53
      refine lv_aload_n hx hb dX9_addWord_76 rfl (lv_at hl 1 rfl) ?_
      refine lv_iload_n hx hb dX9_addWord_77 rfl (lv_at hl 0 rfl) ?_
      refine dg_put (ci := 9) (v := .int x_24) (ty := tyX9 4) (C := RX9) (T := TX9) (N := 5) hx hb hts (fun w h => bw_mem (wU_X9 w h)) tyX9 tyX9_ok nmX9 hown K hP hS hA1 sX_210 rfl 4 (by decide) (hts _ (bw_mem wB_641)) (fun _ h9 => h9) rfl (by decide +kernel) rfl rfl dX9_addWord_78 (fun S_54 e_54 H locs hP hS => ?_)
      have I_54 := dg_I.uFi (lo := (-2147483648)) (hi := 2147483647) I_50 e_54 sX_210 (by decide +kernel) (show (-2147483648) ≤ (x_24).toInt ∧ (x_24).toInt ≤ 2147483647 from (dk_full _))
      have M_54 := dg_sm.uF M_50 e_54 sX_210 (by decide)
      refine lv_iload_n hx hb dX9_addWord_81 rfl (lv_at hl 0 rfl) ?_
      refine W.widen (k := 0) (n := 0) (Nat.le_of_ble_eq_true rfl) (Nat.le_of_ble_eq_true rfl) ?_
      exact dg_iret hx hb hr hlocks rfl hP hS ⟨I_54, M_54, (by omega), (by omega), ⟨y_52, ((dg_uF_ne e_54 (fun z => absurd z.2 (by decide))).trans f_y_52), (by omega)⟩, trivial⟩ dX9_addWord_82
    · have jc_53 := dk_eqc (k := 0) (by decide +kernel) c_53
      refine lv_aload_n hx hb dX9_addWord_39 rfl (lv_at hl 2 rfl) ?_
      refine lv_iload_n hx hb dX9_addWord_40 rfl (lv_at hl 3 rfl) ?_
      refine lv_iload_n hx hb dX9_addWord_41 rfl (lv_at hl 0 rfl) ?_
      refine dg_calli hS hA1 hA (va_runS (As := [.ref (o + 1), .int a2, .int x_24]) (rest := []) F (c_v_ownWord l g D o S_50 a2 (by omega) x_24 (by omega) I_50 H.size) (va_cwS 3 hts (bw_S wB_657 wB_658 wB_646 wB_656) rfl rfl rfl (by decide +kernel) ⟨Nat.le_of_ble_eq_true rfl, Nat.le_of_ble_eq_true rfl⟩) (dg_preS K ST hP hS hA1 hA) rfl rfl hl.1 rfl (lv_room (Nat.le_of_ble_eq_true rfl)) dX9_addWord_42 ⟨Nat.le_of_ble_eq_true rfl, Nat.le_of_ble_eq_true rfl⟩) (fun x_55 S_56 hw_56 H locs hP hS => ?_)
      rw [hw_56.1] at hP
      obtain ⟨hq_56, w_56_0, -⟩ := hw_56
      have w_56_0 : (-1) ≤ (x_55).toInt ∧ (x_55).toInt ≤ 26 := w_56_0
      refine lv_istore (lv' := [(4, .int x_55), (3, .int x_24), (0, .ref (o + 210)), (1, .ref (o + 1)), (2, .int a2)]) hx hb dX9_addWord_45 hl (by decide) rfl (fun ls hl => ?_)
      refine lv_iload hx hb dX9_addWord_47 (lv_at hl 0 rfl) ?_
      refine lv_iconst (v := (-1)) hx hb dX9_addWord_49 (by decide +kernel) ?_
      refine lv_icmp_ne (tgt := 68) hx hb dX9_addWord_50 (by decide) (fun c_57 => ?_) (fun c_57 => ?_)
      · have jc_57 := dk_neqc (k := (-1)) (by decide +kernel) c_57
        refine lv_aload_n hx hb dX9_addWord_68 rfl (lv_at hl 2 rfl) ?_
        refine lv_iconst (v := 1) hx hb dX9_addWord_69 (by decide +kernel) ?_
        refine lv_iload_n hx hb dX9_addWord_70 rfl (lv_at hl 4 rfl) ?_
        refine lv_iload hx hb dX9_addWord_71 (lv_at hl 0 rfl) ?_
        refine dg_callv hS hA1 hA (va_runV (As := [.int 1, .int a2, .int x_55]) (rest := []) F (c_v_add l g D o S_50 1 a2 x_55 y_52 f_y_52 (by omega) I_50 H.size) (cwV 3 hts (bw_V wB_643 wB_644 wB_645 wB_646 wB_642) rfl rfl rfl (by decide +kernel) ⟨Nat.le_of_ble_eq_true rfl, Nat.le_of_ble_eq_true rfl⟩) (dg_preV sX_210 rfl K ST hP hS hA1 hA) rfl rfl hl.1 rfl (lv_room (Nat.le_of_ble_eq_true rfl)) dX9_addWord_73 ⟨Nat.le_of_ble_eq_true rfl, Nat.le_of_ble_eq_true rfl⟩) (fun S_58 hw_58 H locs hP hS => ?_)
        obtain ⟨I_58, m_58, w_58_0, w_58_1, -⟩ := hw_58
        have M_58 := dg_sm.tr M_50 m_58 (by decide) (by decide)
        have hz_59 : (1 : Int32).toInt = 1 := by decide +kernel
        obtain ⟨y_60, f_y_60, w_58_0⟩ := w_58_0
        have w_58_0 : (y_60).toInt = (y_52).toInt + 1 := w_58_0
        have b_y_60 : 0 ≤ (y_60).toInt ∧ (y_60).toInt ≤ 1601 := dg_I.intb (lo := 0) (hi := 1601) I_58 sX_210 (by decide +kernel) f_y_60
        obtain ⟨x_61, f_x_61⟩ : ∃ x, S_58.2.1 211 (y_52 : Int32).toNatClampNeg = x := ⟨_, rfl⟩
        have w_58_1 : (x_61).toInt = ((1 : Int32)).toInt := w_58_1 x_61 f_x_61
        refine lv_aload_n hx hb dX9_addWord_76 rfl (lv_at hl 2 rfl) ?_
        refine lv_iload_n hx hb dX9_addWord_77 rfl (lv_at hl 1 rfl) ?_
        refine dg_put (ci := 9) (v := .int x_24) (ty := tyX9 4) (C := RX9) (T := TX9) (N := 5) hx hb hts (fun w h => bw_mem (wU_X9 w h)) tyX9 tyX9_ok nmX9 hown K hP hS hA1 sX_210 rfl 4 (by decide) (hts _ (bw_mem wB_641)) (fun _ h9 => h9) rfl (by decide +kernel) rfl rfl dX9_addWord_78 (fun S_62 e_62 H locs hP hS => ?_)
        have I_62 := dg_I.uFi (lo := (-2147483648)) (hi := 2147483647) I_58 e_62 sX_210 (by decide +kernel) (show (-2147483648) ≤ (x_24).toInt ∧ (x_24).toInt ≤ 2147483647 from (dk_full _))
        have M_62 := dg_sm.uF M_58 e_62 sX_210 (by decide)
        refine lv_iload_n hx hb dX9_addWord_81 rfl (lv_at hl 1 rfl) ?_
        refine W.widen (k := 0) (n := 0) (Nat.le_of_ble_eq_true rfl) (Nat.le_of_ble_eq_true rfl) ?_
        exact dg_iret hx hb hr hlocks rfl hP hS ⟨I_62, M_62, (by omega), (by omega), ⟨y_60, ((dg_uF_ne e_62 (fun z => absurd z.2 (by decide))).trans f_y_60), (by omega)⟩, trivial⟩ dX9_addWord_82
      · have jc_57 := dk_eqc (k := (-1)) (by decide +kernel) c_57
        refine lv_aload_n hx hb dX9_addWord_53 rfl (lv_at hl 2 rfl) ?_
        refine lv_iconst (v := 2) hx hb dX9_addWord_54 (by decide +kernel) ?_
        refine lv_iload_n hx hb dX9_addWord_55 rfl (lv_at hl 4 rfl) ?_
        refine lv_aload_n hx hb dX9_addWord_56 rfl (lv_at hl 3 rfl) ?_
        refine lv_iload_n hx hb dX9_addWord_57 rfl (lv_at hl 4 rfl) ?_
        refine lv_iload_n hx hb dX9_addWord_58 rfl (lv_at hl 1 rfl) ?_
        refine dg_calli hS hA1 hA (va_runS (As := [.ref (o + 1), .int a2, .int x_24]) (rest := [.int a2, .int 2, .ref (o + 210)]) F (c_v_lettersOf l g D o S_50 a2 (by omega) x_24 (by omega) I_50 H.size) (va_cwS 3 hts (bw_S wB_660 wB_661 wB_646 wB_659) rfl rfl rfl (by decide +kernel) ⟨Nat.le_of_ble_eq_true rfl, Nat.le_of_ble_eq_true rfl⟩) (dg_preS K ST hP hS hA1 hA) rfl rfl hl.1 rfl (lv_room (Nat.le_of_ble_eq_true rfl)) dX9_addWord_59 ⟨Nat.le_of_ble_eq_true rfl, Nat.le_of_ble_eq_true rfl⟩) (fun x_63 S_64 hw_64 H locs hP hS => ?_)
        rw [hw_64.1] at hP
        refine dg_callv hS hA1 hA (va_runV (As := [.int 2, .int a2, .int x_63]) (rest := []) F (c_v_add l g D o S_50 2 a2 x_63 y_52 f_y_52 (by omega) I_50 H.size) (cwV 3 hts (bw_V wB_643 wB_644 wB_645 wB_646 wB_642) rfl rfl rfl (by decide +kernel) ⟨Nat.le_of_ble_eq_true rfl, Nat.le_of_ble_eq_true rfl⟩) (dg_preV sX_210 rfl K ST hP hS hA1 hA) rfl rfl hl.1 rfl (lv_room (Nat.le_of_ble_eq_true rfl)) dX9_addWord_62 ⟨Nat.le_of_ble_eq_true rfl, Nat.le_of_ble_eq_true rfl⟩) (fun S_65 hw_65 H locs hP hS => ?_)
        obtain ⟨I_65, m_65, w_65_0, w_65_1, -⟩ := hw_65
        have M_65 := dg_sm.tr M_50 m_65 (by decide) (by decide)
        have hz_66 : (2 : Int32).toInt = 2 := by decide +kernel
        obtain ⟨y_67, f_y_67, w_65_0⟩ := w_65_0
        have w_65_0 : (y_67).toInt = (y_52).toInt + 1 := w_65_0
        have b_y_67 : 0 ≤ (y_67).toInt ∧ (y_67).toInt ≤ 1601 := dg_I.intb (lo := 0) (hi := 1601) I_65 sX_210 (by decide +kernel) f_y_67
        obtain ⟨x_68, f_x_68⟩ : ∃ x, S_65.2.1 211 (y_52 : Int32).toNatClampNeg = x := ⟨_, rfl⟩
        have w_65_1 : (x_68).toInt = ((2 : Int32)).toInt := w_65_1 x_68 f_x_68
        refine lv_goto (tgt := 76) hx hb dX9_addWord_65 (by decide) ?_
        refine lv_aload_n hx hb dX9_addWord_76 rfl (lv_at hl 2 rfl) ?_
        refine lv_iload_n hx hb dX9_addWord_77 rfl (lv_at hl 1 rfl) ?_
        refine dg_put (ci := 9) (v := .int x_24) (ty := tyX9 4) (C := RX9) (T := TX9) (N := 5) hx hb hts (fun w h => bw_mem (wU_X9 w h)) tyX9 tyX9_ok nmX9 hown K hP hS hA1 sX_210 rfl 4 (by decide) (hts _ (bw_mem wB_641)) (fun _ h9 => h9) rfl (by decide +kernel) rfl rfl dX9_addWord_78 (fun S_69 e_69 H locs hP hS => ?_)
        have I_69 := dg_I.uFi (lo := (-2147483648)) (hi := 2147483647) I_65 e_69 sX_210 (by decide +kernel) (show (-2147483648) ≤ (x_24).toInt ∧ (x_24).toInt ≤ 2147483647 from (dk_full _))
        have M_69 := dg_sm.uF M_65 e_69 sX_210 (by decide)
        refine lv_iload_n hx hb dX9_addWord_81 rfl (lv_at hl 1 rfl) ?_
        refine W.widen (k := 0) (n := 0) (Nat.le_of_ble_eq_true rfl) (Nat.le_of_ble_eq_true rfl) ?_
        exact dg_iret hx hb hr hlocks rfl hP hS ⟨I_69, M_69, (by omega), (by omega), ⟨y_67, ((dg_uF_ne e_69 (fun z => absurd z.2 (by decide))).trans f_y_67), (by omega)⟩, trivial⟩ dX9_addWord_82
  have L_86 : ∀ (n : Nat) (x_85 : Int32), (0 ≤ (x_85).toInt ∧ (x_85).toInt ≤ 1600) → ((a2).toInt ≤ (x_85).toInt ∧ (x_85).toInt ≤ (le).toInt) → ((1601 - (x_85).toInt).toNat < n) → ∀ (H : Heap) (locs : List Loc), va_P D vwCl (dg_w g shX o rfX S) H → va_S A s.heap H locs → ∀ ls : Array Slot, lv_has ls 5 [(3, .int x_85), (0, .ref (o + 210)), (1, .ref (o + 1)), (2, .int a2)] → W p l e ({ frames := 7, cells := 0, slots := 0, locals := 326 } : Room) s m args below meth c H locs 0 0 (MQ below (va_Qi (fun (r : Int32) S' => CX o S' ∧ dg_sm shX [(32, 3), (32, 4)] [33, 34, 35] S S' ∧ (1 ≤ (r).toInt ∧ (r).toInt ≤ 1600) ∧ ((a2).toInt < (r).toInt ∧ (r).toInt ≤ (le).toInt) ∧ (∃ y9 : Int32, S'.1 210 3 = .int y9 ∧ ((y9).toInt = (c0).toInt + 1)) ∧ True) (dg_B g D shX o rfX) A) args s 0 0 A) (F0 m 2 ls []) := by
    intro n
    induction n with
    | zero =>
      intro x_85 b_x_85 rel_0 hmu H locs hP hS ls hl
      omega
    | succ n ih =>
      intro x_85 b_x_85 rel_0 hmu H locs hP hS ls hl
      refine lv_iload_n hx hb dX9_addWord_2 rfl (lv_at hl 0 rfl) ?_
      refine lv_aload_n hx hb dX9_addWord_3 rfl (lv_at hl 2 rfl) ?_
      refine dg_get (C := RX8) (T := TX8) (N := 2) hx hb hts (fun w h => bw_mem (wU_X8 w h)) hown K hP sX_1 rfl 1 (by decide) (hts _ (bw_mem wB_648)) (fun _ h9 => h9) (v := .int le) f_le dX9_addWord_4 ?_
      refine lv_icmp_ge (tgt := 28) hx hb dX9_addWord_7 (by decide) (fun c_87 => ?_) (fun c_87 => ?_)
      · have jc_87 := dk_gec (k := (le).toInt) rfl c_87
        exact J_47 x_85 (by omega) (by omega) _ _ hP hS _ (lv_sub hl [0, 1, 2, 3] rfl)
      · have jc_87 := dk_ngec (k := (le).toInt) rfl c_87
        refine lv_aload_n hx hb dX9_addWord_10 rfl (lv_at hl 2 rfl) ?_
        refine dg_get (C := RX8) (T := TX8) (N := 2) hx hb hts (fun w h => bw_mem (wU_X8 w h)) hown K hP sX_1 rfl 0 (by decide) (hts _ (bw_mem wB_647)) (fun _ h9 => h9) (v := .ref (o + 2)) (show S.1 1 0 = .ref (o + 2) from dg_I.rel (d := 1) I sX_1 (by decide +kernel)) dX9_addWord_11 ?_
        refine lv_iload_n hx hb dX9_addWord_14 rfl (lv_at hl 0 rfl) ?_
        have hin_88 : vp_in x_85 1600 := (dk_inv (by omega) (by omega))
        refine dg_iald hx hb K hP sX_2 hin_88 dX9_addWord_15 (fun x_89 ex_89 => ?_)
        have b_x_89 := dk_all_at (dg_I.row (lo := 0) (hi := 255) I sX_2 (by decide +kernel)) hin_88 ex_89
        have hs_x_89 : (x_85).toInt = (a2).toInt → (x_89).toInt = (xs).toInt := fun h => by have h9 := Int32.toInt_inj.mp h; rw [ex_89, h9]; exact congrArg Int32.toInt f_xs
        refine dg_calli hS hA1 hA (va_runS (As := [.int x_89]) (rest := []) F (c_v_isLetter l g D o S x_89 I H.size) (va_cwS 1 hts (bw_S wB_650 wB_651 wB_646 wB_649) rfl rfl rfl (by decide +kernel) ⟨Nat.le_of_ble_eq_true rfl, Nat.le_of_ble_eq_true rfl⟩) (dg_preS K ST hP hS hA1 hA) rfl rfl hl.1 rfl (lv_room (Nat.le_of_ble_eq_true rfl)) dX9_addWord_16 ⟨Nat.le_of_ble_eq_true rfl, Nat.le_of_ble_eq_true rfl⟩) (fun x_90 S_91 hw_91 H locs hP hS => ?_)
        rw [hw_91.1] at hP
        obtain ⟨hq_91, w_91_0, w_91_1, -⟩ := hw_91
        have w_91_0 : 0 ≤ (x_90).toInt ∧ (x_90).toInt ≤ 1 := w_91_0
        have w_91_1 : (x_90).toInt = 1 ↔ (97 ≤ (x_89).toInt ∧ (x_89).toInt ≤ 122) := w_91_1
        refine lv_if_eq (tgt := 28) hx hb dX9_addWord_19 (by decide) (fun c_92 => ?_) (fun c_92 => ?_)
        · have jc_92 := dk_eqc (k := 0) (by decide +kernel) c_92
          exact J_47 x_85 (by omega) (by omega) _ _ hP hS _ (lv_sub hl [0, 1, 2, 3] rfl)
        · have jc_92 := dk_neqc (k := 0) (by decide +kernel) c_92
          obtain ⟨x_93, ex_93⟩ : ∃ z, z = x_85 + 1 := ⟨_, rfl⟩
          have jx_93 : (x_93).toInt = (x_85).toInt + 1 := by rw [ex_93]; exact dk_addT rfl (by decide +kernel) (by omega) (by omega)
          refine lv_iinc (v := x_93) (lv' := [(3, .int x_93), (0, .ref (o + 210)), (1, .ref (o + 1)), (2, .int a2)]) hx hb dX9_addWord_22 hl (k := 0) rfl (by rw [ex_93]; rfl) (by decide) rfl (fun ls hl => ?_)
          refine lv_goto (tgt := 2) hx hb dX9_addWord_25 (by decide) ?_
          exact ih x_93 (by omega) (by omega) (by omega) _ _ hP hS _ (lv_sub hl [0, 1, 2, 3] rfl)
  exact L_86 ((1601 - ((a2 : Int32)).toInt).toNat + 1) a2 (by omega) (by omega) (by omega) _ _ hP hS _ (lv_sub hl [0, 1, 2, 3] rfl)
set_option maxHeartbeats 8000000 in
set_option maxRecDepth 100000 in
theorem c_v_addNumber (l : Launch) (g : Nat → ClassId) (D : va_G) (o : Nat) (S : dg_S) (a2 : Int32) (b_a2 : 0 ≤ (a2).toInt ∧ (a2).toInt ≤ 1599) (c0 : Int32) (f_c0 : S.1 210 3 = .int c0) (b_c0 : 0 ≤ (c0).toInt ∧ (c0).toInt ≤ 1600) (le : Int32) (f_le : S.1 1 1 = .int le) (b_le : 0 ≤ (le).toInt ∧ (le).toInt ≤ 1600) (xs : Int32) (f_xs : S.2.1 2 (a2 : Int32).toNatClampNeg = xs) (b_xs : 48 ≤ (xs).toInt ∧ (xs).toInt ≤ 57) (hle : (a2).toInt < (le).toInt) (I : CX o S) (sz : Nat) : Met l yX9_addNumber (bw yX9_addNumber cX9_addNumber 6 (some .int)) ({ frames := 3, cells := 0, slots := 0, locals := 78 } : Room) (dk_Pc g D (dg_w g shX o rfX S) sz [.ref (o + 210), .ref (o + 1), .int a2]) (va_Qi (fun (r : Int32) S' => CX o S' ∧ dg_sm shX [(32, 3), (32, 4)] [33, 34, 35] S S' ∧ (1 ≤ (r).toInt ∧ (r).toInt ≤ 1600) ∧ ((a2).toInt < (r).toInt ∧ (r).toInt ≤ (le).toInt) ∧ (∃ y9 : Int32, S'.1 210 3 = .int y9 ∧ ((y9).toInt = (c0).toInt + 1)) ∧ True) (dg_B g D shX o rfX) (dg_A o shX.length sz)) 0 0 (dg_A o shX.length sz) := by
  refine dg_met (cc := cX9_addNumber) (maxL := 6) (ret := (some .int)) (by decide) rfl (Nat.le_of_ble_eq_true rfl) ?_
  intro p e s m args below meth c A hAe harg hx hb hr hml hts hown hlocks hin hP K hS hA1 hA ST hsz ls hl
  rw [← hAe]
  have F : CallFix p m c cX9_addNumber 6 s args (bw yX9_addNumber cX9_addNumber 6 (some .int)) RX9 := ⟨hx, hb, hml, hown, hts⟩
  have hl : lv_has ls 6 [(0, .ref (o + 210)), (1, .ref (o + 1)), (2, .int a2)] := hl
  have M_0 : dg_sm shX [(32, 3), (32, 4)] [33, 34, 35] S S := dg_sm.rf
  refine lv_iload_n hx hb dX9_addNumber_0 rfl (lv_at hl 2 rfl) ?_
  refine lv_istore_n (lv' := [(3, .int a2), (0, .ref (o + 210)), (1, .ref (o + 1)), (2, .int a2)]) hx hb dX9_addNumber_1 rfl hl (by decide) rfl (fun ls hl => ?_)
  have J_80 : ∀ (x_24 : Int32), (0 ≤ (x_24).toInt ∧ (x_24).toInt ≤ 1600) → ((a2).toInt < (x_24).toInt ∧ (x_24).toInt ≤ (le).toInt) → ∀ (H : Heap) (locs : List Loc), va_P D vwCl (dg_w g shX o rfX S) H → va_S A s.heap H locs → ∀ ls : Array Slot, lv_has ls 6 [(3, .int x_24), (0, .ref (o + 210)), (1, .ref (o + 1)), (2, .int a2)] → W p l e ({ frames := 3, cells := 0, slots := 0, locals := 78 } : Room) s m args below meth c H locs 0 0 (MQ below (va_Qi (fun (r : Int32) S' => CX o S' ∧ dg_sm shX [(32, 3), (32, 4)] [33, 34, 35] S S' ∧ (1 ≤ (r).toInt ∧ (r).toInt ≤ 1600) ∧ ((a2).toInt < (r).toInt ∧ (r).toInt ≤ (le).toInt) ∧ (∃ y9 : Int32, S'.1 210 3 = .int y9 ∧ ((y9).toInt = (c0).toInt + 1)) ∧ True) (dg_B g D shX o rfX) A) args s 0 0 A) (F0 m 28 ls []) := by
    intro x_24 b_x_24 rel_0 H locs hP hS ls hl
    refine lv_aload_n hx hb dX9_addNumber_28 rfl (lv_at hl 1 rfl) ?_
    refine lv_iload_n hx hb dX9_addNumber_29 rfl (lv_at hl 3 rfl) ?_
    refine lv_iload_n hx hb dX9_addNumber_30 rfl (lv_at hl 0 rfl) ?_
    refine lv_iconst (v := 4) hx hb dX9_addNumber_31 (by decide +kernel) ?_
    have hz_81 : (4 : Int32).toInt = 4 := by decide +kernel
    refine dg_calli hS hA1 hA (va_runV (As := [.int a2, .int x_24, .int 4]) (rest := []) F (c_v_addIfWrong l g D o S a2 (by omega) x_24 (by omega) 4 (by decide +kernel) c0 f_c0 (by omega) I H.size) (cwV 3 hts (bw_V wB_653 wB_654 wB_655 wB_646 wB_652) rfl rfl rfl (by decide +kernel) ⟨Nat.le_of_ble_eq_true rfl, Nat.le_of_ble_eq_true rfl⟩) (dg_preV sX_210 rfl K ST hP hS hA1 hA) rfl rfl hl.1 rfl (lv_room (Nat.le_of_ble_eq_true rfl)) dX9_addNumber_32 ⟨Nat.le_of_ble_eq_true rfl, Nat.le_of_ble_eq_true rfl⟩) (fun x_82 S_83 hw_83 H locs hP hS => ?_)
    obtain ⟨I_83, m_83, w_83_0, w_83_1, -⟩ := hw_83
    have M_83 := dg_sm.tr M_0 m_83 (by decide) (by decide)
    have hz_84 : (4 : Int32).toInt = 4 := by decide +kernel
    have w_83_0 : 0 ≤ (x_82).toInt ∧ (x_82).toInt ≤ 1 := w_83_0
    obtain ⟨y_85, f_y_85, w_83_1⟩ := w_83_1
    have w_83_1 : (y_85).toInt = (c0).toInt + (x_82).toInt := w_83_1
    have b_y_85 : 0 ≤ (y_85).toInt ∧ (y_85).toInt ≤ 1601 := dg_I.intb (lo := 0) (hi := 1601) I_83 sX_210 (by decide +kernel) f_y_85
    refine lv_if_ne (tgt := 82) hx hb dX9_addNumber_35 (by decide) (fun c_86 => ?_) (fun c_86 => ?_)
    · have jc_86 := dk_neqc (k := 0) (by decide +kernel) c_86
      refine lv_aload_n hx hb dX9_addNumber_82 rfl (lv_at hl 1 rfl) ?_
      refine lv_iload_n hx hb dX9_addNumber_83 rfl (lv_at hl 0 rfl) ?_
      refine dg_put (ci := 9) (v := .int x_24) (ty := tyX9 4) (C := RX9) (T := TX9) (N := 5) hx hb hts (fun w h => bw_mem (wU_X9 w h)) tyX9 tyX9_ok nmX9 hown K hP hS hA1 sX_210 rfl 4 (by decide) (hts _ (bw_mem wB_641)) (fun _ h9 => h9) rfl (by decide +kernel) rfl rfl dX9_addNumber_84 (fun S_87 e_87 H locs hP hS => ?_)
      have I_87 := dg_I.uFi (lo := (-2147483648)) (hi := 2147483647) I_83 e_87 sX_210 (by decide +kernel) (show (-2147483648) ≤ (x_24).toInt ∧ (x_24).toInt ≤ 2147483647 from (dk_full _))
      have M_87 := dg_sm.uF M_83 e_87 sX_210 (by decide)
      refine lv_iload_n hx hb dX9_addNumber_87 rfl (lv_at hl 0 rfl) ?_
      refine W.widen (k := 0) (n := 0) (Nat.le_of_ble_eq_true rfl) (Nat.le_of_ble_eq_true rfl) ?_
      exact dg_iret hx hb hr hlocks rfl hP hS ⟨I_87, M_87, (by omega), (by omega), ⟨y_85, ((dg_uF_ne e_87 (fun z => absurd z.2 (by decide))).trans f_y_85), (by omega)⟩, trivial⟩ dX9_addNumber_88
    · have jc_86 := dk_eqc (k := 0) (by decide +kernel) c_86
      refine lv_iconst (v := 0) hx hb dX9_addNumber_38 (by decide +kernel) ?_
      refine lv_istore (lv' := [(4, .int 0), (3, .int x_24), (0, .ref (o + 210)), (1, .ref (o + 1)), (2, .int a2)]) hx hb dX9_addNumber_39 hl (by decide) rfl (fun ls hl => ?_)
      refine lv_iload_n hx hb dX9_addNumber_41 rfl (lv_at hl 4 rfl) ?_
      refine lv_istore (lv' := [(5, .int a2), (4, .int 0), (3, .int x_24), (0, .ref (o + 210)), (1, .ref (o + 1)), (2, .int a2)]) hx hb dX9_addNumber_42 hl (by decide) rfl (fun ls hl => ?_)
      have J_136 : ∀ (x_129 : Int32) (x_130 : Int32), (0 ≤ (x_129).toInt ∧ (x_129).toInt ≤ 1600) → ∀ (H : Heap) (locs : List Loc), va_P D vwCl (dg_w g shX o rfX S_83) H → va_S A s.heap H locs → ∀ ls : Array Slot, lv_has ls 6 [(5, .int x_129), (4, .int x_130), (3, .int x_24), (0, .ref (o + 210)), (1, .ref (o + 1)), (2, .int a2)] → W p l e ({ frames := 3, cells := 0, slots := 0, locals := 78 } : Room) s m args below meth c H locs 0 0 (MQ below (va_Qi (fun (r : Int32) S' => CX o S' ∧ dg_sm shX [(32, 3), (32, 4)] [33, 34, 35] S S' ∧ (1 ≤ (r).toInt ∧ (r).toInt ≤ 1600) ∧ ((a2).toInt < (r).toInt ∧ (r).toInt ≤ (le).toInt) ∧ (∃ y9 : Int32, S'.1 210 3 = .int y9 ∧ ((y9).toInt = (c0).toInt + 1)) ∧ True) (dg_B g D shX o rfX) A) args s 0 0 A) (F0 m 74 ls []) := by
        intro x_129 x_130 b_x_129 H locs hP hS ls hl
        refine lv_aload_n hx hb dX9_addNumber_74 rfl (lv_at hl 3 rfl) ?_
        refine lv_iconst (v := 3) hx hb dX9_addNumber_75 (by decide +kernel) ?_
        refine lv_iload_n hx hb dX9_addNumber_76 rfl (lv_at hl 5 rfl) ?_
        refine lv_iload hx hb dX9_addNumber_77 (lv_at hl 1 rfl) ?_
        refine dg_callv hS hA1 hA (va_runV (As := [.int 3, .int a2, .int x_130]) (rest := []) F (c_v_add l g D o S_83 3 a2 x_130 y_85 f_y_85 (by omega) I_83 H.size) (cwV 3 hts (bw_V wB_643 wB_644 wB_645 wB_646 wB_642) rfl rfl rfl (by decide +kernel) ⟨Nat.le_of_ble_eq_true rfl, Nat.le_of_ble_eq_true rfl⟩) (dg_preV sX_210 rfl K ST hP hS hA1 hA) rfl rfl hl.1 rfl (lv_room (Nat.le_of_ble_eq_true rfl)) dX9_addNumber_79 ⟨Nat.le_of_ble_eq_true rfl, Nat.le_of_ble_eq_true rfl⟩) (fun S_137 hw_137 H locs hP hS => ?_)
        obtain ⟨I_137, m_137, w_137_0, w_137_1, -⟩ := hw_137
        have M_137 := dg_sm.tr M_83 m_137 (by decide) (by decide)
        have hz_138 : (3 : Int32).toInt = 3 := by decide +kernel
        obtain ⟨y_139, f_y_139, w_137_0⟩ := w_137_0
        have w_137_0 : (y_139).toInt = (y_85).toInt + 1 := w_137_0
        have b_y_139 : 0 ≤ (y_139).toInt ∧ (y_139).toInt ≤ 1601 := dg_I.intb (lo := 0) (hi := 1601) I_137 sX_210 (by decide +kernel) f_y_139
        obtain ⟨x_140, f_x_140⟩ : ∃ x, S_137.2.1 211 (y_85 : Int32).toNatClampNeg = x := ⟨_, rfl⟩
        have w_137_1 : (x_140).toInt = ((3 : Int32)).toInt := w_137_1 x_140 f_x_140
        refine lv_aload_n hx hb dX9_addNumber_82 rfl (lv_at hl 3 rfl) ?_
        refine lv_iload_n hx hb dX9_addNumber_83 rfl (lv_at hl 2 rfl) ?_
        refine dg_put (ci := 9) (v := .int x_24) (ty := tyX9 4) (C := RX9) (T := TX9) (N := 5) hx hb hts (fun w h => bw_mem (wU_X9 w h)) tyX9 tyX9_ok nmX9 hown K hP hS hA1 sX_210 rfl 4 (by decide) (hts _ (bw_mem wB_641)) (fun _ h9 => h9) rfl (by decide +kernel) rfl rfl dX9_addNumber_84 (fun S_141 e_141 H locs hP hS => ?_)
        have I_141 := dg_I.uFi (lo := (-2147483648)) (hi := 2147483647) I_137 e_141 sX_210 (by decide +kernel) (show (-2147483648) ≤ (x_24).toInt ∧ (x_24).toInt ≤ 2147483647 from (dk_full _))
        have M_141 := dg_sm.uF M_137 e_141 sX_210 (by decide)
        refine lv_iload_n hx hb dX9_addNumber_87 rfl (lv_at hl 2 rfl) ?_
        refine W.widen (k := 0) (n := 0) (Nat.le_of_ble_eq_true rfl) (Nat.le_of_ble_eq_true rfl) ?_
        exact dg_iret hx hb hr hlocks rfl hP hS ⟨I_141, M_141, (by omega), (by omega), ⟨y_139, ((dg_uF_ne e_141 (fun z => absurd z.2 (by decide))).trans f_y_139), (by omega)⟩, trivial⟩ dX9_addNumber_88
      have L_176 : ∀ (n : Nat) (x_174 : Int32) (x_175 : Int32), (0 ≤ (x_174).toInt ∧ (x_174).toInt ≤ 1600) → ((1601 - (x_174).toInt).toNat < n) → ∀ (H : Heap) (locs : List Loc), va_P D vwCl (dg_w g shX o rfX S_83) H → va_S A s.heap H locs → ∀ ls : Array Slot, lv_has ls 6 [(5, .int x_174), (4, .int x_175), (3, .int x_24), (0, .ref (o + 210)), (1, .ref (o + 1)), (2, .int a2)] → W p l e ({ frames := 3, cells := 0, slots := 0, locals := 78 } : Room) s m args below meth c H locs 0 0 (MQ below (va_Qi (fun (r : Int32) S' => CX o S' ∧ dg_sm shX [(32, 3), (32, 4)] [33, 34, 35] S S' ∧ (1 ≤ (r).toInt ∧ (r).toInt ≤ 1600) ∧ ((a2).toInt < (r).toInt ∧ (r).toInt ≤ (le).toInt) ∧ (∃ y9 : Int32, S'.1 210 3 = .int y9 ∧ ((y9).toInt = (c0).toInt + 1)) ∧ True) (dg_B g D shX o rfX) A) args s 0 0 A) (F0 m 44 ls []) := by
        intro n
        induction n with
        | zero =>
          intro x_174 x_175 b_x_174 hmu H locs hP hS ls hl
          omega
        | succ n ih =>
          intro x_174 x_175 b_x_174 hmu H locs hP hS ls hl
          refine lv_iload hx hb dX9_addNumber_44 (lv_at hl 0 rfl) ?_
          refine lv_iload_n hx hb dX9_addNumber_46 rfl (lv_at hl 2 rfl) ?_
          refine lv_icmp_ge (tgt := 74) hx hb dX9_addNumber_47 (by decide) (fun c_177 => ?_) (fun c_177 => ?_)
          · have jc_177 := dk_gec (k := (x_24).toInt) rfl c_177
            exact J_136 x_174 x_175 (by omega) _ _ hP hS _ (lv_sub hl [0, 1, 2, 3, 4, 5] rfl)
          · have jc_177 := dk_ngec (k := (x_24).toInt) rfl c_177
            refine lv_bipush (v := 10) hx hb dX9_addNumber_50 (by decide +kernel) ?_
            refine lv_iload hx hb dX9_addNumber_52 (lv_at hl 1 rfl) ?_
            refine lv_imul hx hb dX9_addNumber_54 ?_
            refine lv_topi (fun x_178 ex_178 => ?_)
            refine lv_aload_n hx hb dX9_addNumber_55 rfl (lv_at hl 4 rfl) ?_
            refine dg_get (C := RX8) (T := TX8) (N := 2) hx hb hts (fun w h => bw_mem (wU_X8 w h)) hown K hP sX_1 rfl 0 (by decide) (hts _ (bw_mem wB_647)) (fun _ h9 => h9) (v := .ref (o + 2)) (show S_83.1 1 0 = .ref (o + 2) from dg_I.rel (d := 1) I_83 sX_1 (by decide +kernel)) dX9_addNumber_56 ?_
            refine lv_iload hx hb dX9_addNumber_59 (lv_at hl 0 rfl) ?_
            have hin_179 : vp_in x_174 1600 := (dk_inv (by omega) (by omega))
            refine dg_iald hx hb K hP sX_2 hin_179 dX9_addNumber_61 (fun x_180 ex_180 => ?_)
            have b_x_180 := dk_all_at (dg_I.row (lo := 0) (hi := 255) I_83 sX_2 (by decide +kernel)) hin_179 ex_180
            have hs_x_180 : (x_174).toInt = (a2).toInt → (x_180).toInt = (xs).toInt := fun h => by have h9 := Int32.toInt_inj.mp h; rw [ex_180, h9]; exact congrArg Int32.toInt ((congrFun (m_83.2 2 _ sX_2 (by decide)).1 _).trans f_xs)
            refine lv_iadd hx hb dX9_addNumber_62 ?_
            refine lv_topi (fun x_181 ex_181 => ?_)
            refine lv_bipush (v := 48) hx hb dX9_addNumber_63 (by decide +kernel) ?_
            refine lv_isub hx hb dX9_addNumber_65 ?_
            refine lv_topi (fun x_182 ex_182 => ?_)
            refine lv_istore (lv' := [(4, .int x_182), (5, .int x_174), (3, .int x_24), (0, .ref (o + 210)), (1, .ref (o + 1)), (2, .int a2)]) hx hb dX9_addNumber_66 hl (by decide) rfl (fun ls hl => ?_)
            obtain ⟨x_183, ex_183⟩ : ∃ z, z = x_174 + 1 := ⟨_, rfl⟩
            have jx_183 : (x_183).toInt = (x_174).toInt + 1 := by rw [ex_183]; exact dk_addT rfl (by decide +kernel) (by omega) (by omega)
            refine lv_iinc (v := x_183) (lv' := [(5, .int x_183), (4, .int x_182), (3, .int x_24), (0, .ref (o + 210)), (1, .ref (o + 1)), (2, .int a2)]) hx hb dX9_addNumber_68 hl (k := 1) rfl (by rw [ex_183]; rfl) (by decide) rfl (fun ls hl => ?_)
            refine lv_goto (tgt := 44) hx hb dX9_addNumber_71 (by decide) ?_
            exact ih x_183 x_182 (by omega) (by omega) _ _ hP hS _ (lv_sub hl [0, 1, 2, 3, 4, 5] rfl)
      have hz_184 : (0 : Int32).toInt = 0 := by decide +kernel
      exact L_176 ((1601 - ((a2 : Int32)).toInt).toNat + 1) a2 0 (by omega) (by omega) _ _ hP hS _ (lv_sub hl [0, 1, 2, 3, 4, 5] rfl)
  have L_201 : ∀ (n : Nat) (x_200 : Int32), (0 ≤ (x_200).toInt ∧ (x_200).toInt ≤ 1600) → ((a2).toInt ≤ (x_200).toInt ∧ (x_200).toInt ≤ (le).toInt) → ((1601 - (x_200).toInt).toNat < n) → ∀ (H : Heap) (locs : List Loc), va_P D vwCl (dg_w g shX o rfX S) H → va_S A s.heap H locs → ∀ ls : Array Slot, lv_has ls 6 [(3, .int x_200), (0, .ref (o + 210)), (1, .ref (o + 1)), (2, .int a2)] → W p l e ({ frames := 3, cells := 0, slots := 0, locals := 78 } : Room) s m args below meth c H locs 0 0 (MQ below (va_Qi (fun (r : Int32) S' => CX o S' ∧ dg_sm shX [(32, 3), (32, 4)] [33, 34, 35] S S' ∧ (1 ≤ (r).toInt ∧ (r).toInt ≤ 1600) ∧ ((a2).toInt < (r).toInt ∧ (r).toInt ≤ (le).toInt) ∧ (∃ y9 : Int32, S'.1 210 3 = .int y9 ∧ ((y9).toInt = (c0).toInt + 1)) ∧ True) (dg_B g D shX o rfX) A) args s 0 0 A) (F0 m 2 ls []) := by
    intro n
    induction n with
    | zero =>
      intro x_200 b_x_200 rel_0 hmu H locs hP hS ls hl
      omega
    | succ n ih =>
      intro x_200 b_x_200 rel_0 hmu H locs hP hS ls hl
      refine lv_iload_n hx hb dX9_addNumber_2 rfl (lv_at hl 0 rfl) ?_
      refine lv_aload_n hx hb dX9_addNumber_3 rfl (lv_at hl 2 rfl) ?_
      refine dg_get (C := RX8) (T := TX8) (N := 2) hx hb hts (fun w h => bw_mem (wU_X8 w h)) hown K hP sX_1 rfl 1 (by decide) (hts _ (bw_mem wB_648)) (fun _ h9 => h9) (v := .int le) f_le dX9_addNumber_4 ?_
      refine lv_icmp_ge (tgt := 28) hx hb dX9_addNumber_7 (by decide) (fun c_202 => ?_) (fun c_202 => ?_)
      · have jc_202 := dk_gec (k := (le).toInt) rfl c_202
        exact J_80 x_200 (by omega) (by omega) _ _ hP hS _ (lv_sub hl [0, 1, 2, 3] rfl)
      · have jc_202 := dk_ngec (k := (le).toInt) rfl c_202
        refine lv_aload_n hx hb dX9_addNumber_10 rfl (lv_at hl 2 rfl) ?_
        refine dg_get (C := RX8) (T := TX8) (N := 2) hx hb hts (fun w h => bw_mem (wU_X8 w h)) hown K hP sX_1 rfl 0 (by decide) (hts _ (bw_mem wB_647)) (fun _ h9 => h9) (v := .ref (o + 2)) (show S.1 1 0 = .ref (o + 2) from dg_I.rel (d := 1) I sX_1 (by decide +kernel)) dX9_addNumber_11 ?_
        refine lv_iload_n hx hb dX9_addNumber_14 rfl (lv_at hl 0 rfl) ?_
        have hin_203 : vp_in x_200 1600 := (dk_inv (by omega) (by omega))
        refine dg_iald hx hb K hP sX_2 hin_203 dX9_addNumber_15 (fun x_204 ex_204 => ?_)
        have b_x_204 := dk_all_at (dg_I.row (lo := 0) (hi := 255) I sX_2 (by decide +kernel)) hin_203 ex_204
        have hs_x_204 : (x_200).toInt = (a2).toInt → (x_204).toInt = (xs).toInt := fun h => by have h9 := Int32.toInt_inj.mp h; rw [ex_204, h9]; exact congrArg Int32.toInt f_xs
        refine dg_calli hS hA1 hA (va_runS (As := [.int x_204]) (rest := []) F (c_v_isDigit l g D o S x_204 I H.size) (va_cwS 1 hts (bw_S wB_663 wB_664 wB_646 wB_662) rfl rfl rfl (by decide +kernel) ⟨Nat.le_of_ble_eq_true rfl, Nat.le_of_ble_eq_true rfl⟩) (dg_preS K ST hP hS hA1 hA) rfl rfl hl.1 rfl (lv_room (Nat.le_of_ble_eq_true rfl)) dX9_addNumber_16 ⟨Nat.le_of_ble_eq_true rfl, Nat.le_of_ble_eq_true rfl⟩) (fun x_205 S_206 hw_206 H locs hP hS => ?_)
        rw [hw_206.1] at hP
        obtain ⟨hq_206, w_206_0, w_206_1, -⟩ := hw_206
        have w_206_0 : 0 ≤ (x_205).toInt ∧ (x_205).toInt ≤ 1 := w_206_0
        have w_206_1 : (x_205).toInt = 1 ↔ (48 ≤ (x_204).toInt ∧ (x_204).toInt ≤ 57) := w_206_1
        refine lv_if_eq (tgt := 28) hx hb dX9_addNumber_19 (by decide) (fun c_207 => ?_) (fun c_207 => ?_)
        · have jc_207 := dk_eqc (k := 0) (by decide +kernel) c_207
          exact J_80 x_200 (by omega) (by omega) _ _ hP hS _ (lv_sub hl [0, 1, 2, 3] rfl)
        · have jc_207 := dk_neqc (k := 0) (by decide +kernel) c_207
          obtain ⟨x_208, ex_208⟩ : ∃ z, z = x_200 + 1 := ⟨_, rfl⟩
          have jx_208 : (x_208).toInt = (x_200).toInt + 1 := by rw [ex_208]; exact dk_addT rfl (by decide +kernel) (by omega) (by omega)
          refine lv_iinc (v := x_208) (lv' := [(3, .int x_208), (0, .ref (o + 210)), (1, .ref (o + 1)), (2, .int a2)]) hx hb dX9_addNumber_22 hl (k := 0) rfl (by rw [ex_208]; rfl) (by decide) rfl (fun ls hl => ?_)
          refine lv_goto (tgt := 2) hx hb dX9_addNumber_25 (by decide) ?_
          exact ih x_208 (by omega) (by omega) (by omega) _ _ hP hS _ (lv_sub hl [0, 1, 2, 3] rfl)
  exact L_201 ((1601 - ((a2 : Int32)).toInt).toNat + 1) a2 (by omega) (by omega) (by omega) _ _ hP hS _ (lv_sub hl [0, 1, 2, 3] rfl)
