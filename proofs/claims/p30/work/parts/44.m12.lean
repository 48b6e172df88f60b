/-! 44.m12.lean.txt -/
theorem dX12_add_0 : decode cX12_add 0 = .ok (.aload_n 0, 1) := by decide +kernel
theorem dX12_add_1 : decode cX12_add 1 = .ok (.getfield 102, 3) := by decide +kernel
theorem dX12_add_4 : decode cX12_add 4 = .ok (.sipush 1600, 3) := by decide +kernel
theorem dX12_add_7 : decode cX12_add 7 = .ok (.aload_n 0, 1) := by decide +kernel
theorem dX12_add_8 : decode cX12_add 8 = .ok (.getfield 118, 3) := by decide +kernel
theorem dX12_add_11 : decode cX12_add 11 = .ok (.imul, 1) := by decide +kernel
theorem dX12_add_12 : decode cX12_add 12 = .ok (.aload_n 0, 1) := by decide +kernel
theorem dX12_add_13 : decode cX12_add 13 = .ok (.getfield 115, 3) := by decide +kernel
theorem dX12_add_16 : decode cX12_add 16 = .ok (.iadd, 1) := by decide +kernel
theorem dX12_add_17 : decode cX12_add 17 = .ok (.iload_n 1, 1) := by decide +kernel
theorem dX12_add_18 : decode cX12_add 18 = .ok (.iastore, 1) := by decide +kernel
theorem dX12_add_19 : decode cX12_add 19 = .ok (.aload_n 0, 1) := by decide +kernel
theorem dX12_add_20 : decode cX12_add 20 = .ok (.getfield 105, 3) := by decide +kernel
theorem dX12_add_23 : decode cX12_add 23 = .ok (.sipush 1600, 3) := by decide +kernel
theorem dX12_add_26 : decode cX12_add 26 = .ok (.aload_n 0, 1) := by decide +kernel
theorem dX12_add_27 : decode cX12_add 27 = .ok (.getfield 118, 3) := by decide +kernel
theorem dX12_add_30 : decode cX12_add 30 = .ok (.imul, 1) := by decide +kernel
theorem dX12_add_31 : decode cX12_add 31 = .ok (.aload_n 0, 1) := by decide +kernel
theorem dX12_add_32 : decode cX12_add 32 = .ok (.getfield 115, 3) := by decide +kernel
theorem dX12_add_35 : decode cX12_add 35 = .ok (.iadd, 1) := by decide +kernel
theorem dX12_add_36 : decode cX12_add 36 = .ok (.iload_n 2, 1) := by decide +kernel
theorem dX12_add_37 : decode cX12_add 37 = .ok (.iastore, 1) := by decide +kernel
theorem dX12_add_38 : decode cX12_add 38 = .ok (.aload_n 0, 1) := by decide +kernel
theorem dX12_add_39 : decode cX12_add 39 = .ok (.dup, 1) := by decide +kernel
theorem dX12_add_40 : decode cX12_add 40 = .ok (.getfield 115, 3) := by decide +kernel
theorem dX12_add_43 : decode cX12_add 43 = .ok (.iconst 1, 1) := by decide +kernel
theorem dX12_add_44 : decode cX12_add 44 = .ok (.iadd, 1) := by decide +kernel
theorem dX12_add_45 : decode cX12_add 45 = .ok (.putfield 115, 3) := by decide +kernel
theorem dX12_add_48 : decode cX12_add 48 = .ok (.return_, 1) := by decide +kernel
theorem dX12_rank_0 : decode cX12_rank 0 = .ok (.iload_n 0, 1) := by decide +kernel
theorem dX12_rank_1 : decode cX12_rank 1 = .ok (.bipush 42, 2) := by decide +kernel
theorem dX12_rank_3 : decode cX12_rank 3 = .ok (.if_icmp .ne 7, 3) := by decide +kernel
theorem dX12_rank_6 : decode cX12_rank 6 = .ok (.iconst 1, 1) := by decide +kernel
theorem dX12_rank_7 : decode cX12_rank 7 = .ok (.goto 63, 3) := by decide +kernel
theorem dX12_rank_10 : decode cX12_rank 10 = .ok (.iload_n 0, 1) := by decide +kernel
theorem dX12_rank_11 : decode cX12_rank 11 = .ok (.bipush 41, 2) := by decide +kernel
theorem dX12_rank_13 : decode cX12_rank 13 = .ok (.if_icmp .ne 7, 3) := by decide +kernel
theorem dX12_rank_16 : decode cX12_rank 16 = .ok (.iconst 2, 1) := by decide +kernel
theorem dX12_rank_17 : decode cX12_rank 17 = .ok (.goto 53, 3) := by decide +kernel
theorem dX12_rank_20 : decode cX12_rank 20 = .ok (.iload_n 0, 1) := by decide +kernel
theorem dX12_rank_21 : decode cX12_rank 21 = .ok (.bipush 43, 2) := by decide +kernel
theorem dX12_rank_23 : decode cX12_rank 23 = .ok (.if_icmp .ne 7, 3) := by decide +kernel
theorem dX12_rank_26 : decode cX12_rank 26 = .ok (.iconst 3, 1) := by decide +kernel
theorem dX12_rank_27 : decode cX12_rank 27 = .ok (.goto 43, 3) := by decide +kernel
theorem dX12_rank_30 : decode cX12_rank 30 = .ok (.iload_n 0, 1) := by decide +kernel
theorem dX12_rank_31 : decode cX12_rank 31 = .ok (.bipush 38, 2) := by decide +kernel
theorem dX12_rank_33 : decode cX12_rank 33 = .ok (.if_icmp .eq 15, 3) := by decide +kernel
theorem dX12_rank_36 : decode cX12_rank 36 = .ok (.iload_n 0, 1) := by decide +kernel
theorem dX12_rank_37 : decode cX12_rank 37 = .ok (.bipush 39, 2) := by decide +kernel
theorem dX12_rank_39 : decode cX12_rank 39 = .ok (.if_icmp .eq 9, 3) := by decide +kernel
theorem dX12_rank_42 : decode cX12_rank 42 = .ok (.iload_n 0, 1) := by decide +kernel
theorem dX12_rank_43 : decode cX12_rank 43 = .ok (.bipush 40, 2) := by decide +kernel
theorem dX12_rank_45 : decode cX12_rank 45 = .ok (.if_icmp .ne 7, 3) := by decide +kernel
theorem dX12_rank_48 : decode cX12_rank 48 = .ok (.iconst 4, 1) := by decide +kernel
theorem dX12_rank_49 : decode cX12_rank 49 = .ok (.goto 21, 3) := by decide +kernel
theorem dX12_rank_52 : decode cX12_rank 52 = .ok (.iload_n 0, 1) := by decide +kernel
theorem dX12_rank_53 : decode cX12_rank 53 = .ok (.bipush 31, 2) := by decide +kernel
theorem dX12_rank_55 : decode cX12_rank 55 = .ok (.if_icmp .eq 9, 3) := by decide +kernel
theorem dX12_rank_58 : decode cX12_rank 58 = .ok (.iload_n 0, 1) := by decide +kernel
theorem dX12_rank_59 : decode cX12_rank 59 = .ok (.bipush 32, 2) := by decide +kernel
theorem dX12_rank_61 : decode cX12_rank 61 = .ok (.if_icmp .ne 7, 3) := by decide +kernel
theorem dX12_rank_64 : decode cX12_rank 64 = .ok (.iconst 5, 1) := by decide +kernel
theorem dX12_rank_65 : decode cX12_rank 65 = .ok (.goto 5, 3) := by decide +kernel
theorem dX12_rank_68 : decode cX12_rank 68 = .ok (.bipush 6, 2) := by decide +kernel
theorem dX12_rank_70 : decode cX12_rank 70 = .ok (.ireturn, 1) := by decide +kernel
theorem dX12_joins_0 : decode cX12_joins 0 = .ok (.aload_n 0, 1) := by decide +kernel
theorem dX12_joins_1 : decode cX12_joins 1 = .ok (.getfield 149, 3) := by decide +kernel
theorem dX12_joins_4 : decode cX12_joins 4 = .ok (.aload_n 0, 1) := by decide +kernel
theorem dX12_joins_5 : decode cX12_joins 5 = .ok (.getfield 137, 3) := by decide +kernel
theorem dX12_joins_8 : decode cX12_joins 8 = .ok (.aload_n 0, 1) := by decide +kernel
theorem dX12_joins_9 : decode cX12_joins 9 = .ok (.getfield 140, 3) := by decide +kernel
theorem dX12_joins_12 : decode cX12_joins 12 = .ok (.iconst 1, 1) := by decide +kernel
theorem dX12_joins_13 : decode cX12_joins 13 = .ok (.isub, 1) := by decide +kernel
theorem dX12_joins_14 : decode cX12_joins 14 = .ok (.iaload, 1) := by decide +kernel
theorem dX12_joins_15 : decode cX12_joins 15 = .ok (.if_icmp .le 72, 3) := by decide +kernel
theorem dX12_joins_18 : decode cX12_joins 18 = .ok (.aload_n 0, 1) := by decide +kernel
theorem dX12_joins_19 : decode cX12_joins 19 = .ok (.getfield 146, 3) := by decide +kernel
theorem dX12_joins_22 : decode cX12_joins 22 = .ok (.aload_n 0, 1) := by decide +kernel
theorem dX12_joins_23 : decode cX12_joins 23 = .ok (.getfield 149, 3) := by decide +kernel
theorem dX12_joins_26 : decode cX12_joins 26 = .ok (.iconst 1, 1) := by decide +kernel
theorem dX12_joins_27 : decode cX12_joins 27 = .ok (.isub, 1) := by decide +kernel
theorem dX12_joins_28 : decode cX12_joins 28 = .ok (.iaload, 1) := by decide +kernel
theorem dX12_joins_29 : decode cX12_joins 29 = .ok (.invokestatic 337, 3) := by decide +kernel
theorem dX12_joins_32 : decode cX12_joins 32 = .ok (.iload_n 1, 1) := by decide +kernel
theorem dX12_joins_33 : decode cX12_joins 33 = .ok (.if_icmp .lt 54, 3) := by decide +kernel
theorem dX12_joins_36 : decode cX12_joins 36 = .ok (.aload_n 0, 1) := by decide +kernel
theorem dX12_joins_37 : decode cX12_joins 37 = .ok (.dup, 1) := by decide +kernel
theorem dX12_joins_38 : decode cX12_joins 38 = .ok (.getfield 149, 3) := by decide +kernel
theorem dX12_joins_41 : decode cX12_joins 41 = .ok (.iconst 1, 1) := by decide +kernel
theorem dX12_joins_42 : decode cX12_joins 42 = .ok (.isub, 1) := by decide +kernel
theorem dX12_joins_43 : decode cX12_joins 43 = .ok (.putfield 149, 3) := by decide +kernel
theorem dX12_joins_46 : decode cX12_joins 46 = .ok (.aload_n 0, 1) := by decide +kernel
theorem dX12_joins_47 : decode cX12_joins 47 = .ok (.aload_n 0, 1) := by decide +kernel
theorem dX12_joins_48 : decode cX12_joins 48 = .ok (.getfield 146, 3) := by decide +kernel
theorem dX12_joins_51 : decode cX12_joins 51 = .ok (.aload_n 0, 1) := by decide +kernel
theorem dX12_joins_52 : decode cX12_joins 52 = .ok (.getfield 149, 3) := by decide +kernel
theorem dX12_joins_55 : decode cX12_joins 55 = .ok (.iaload, 1) := by decide +kernel
theorem dX12_joins_56 : decode cX12_joins 56 = .ok (.iconst 0, 1) := by decide +kernel
theorem dX12_joins_57 : decode cX12_joins 57 = .ok (.invokevirtual 340, 3) := by decide +kernel
theorem dX12_joins_60 : decode cX12_joins 60 = .ok (.aload_n 0, 1) := by decide +kernel
theorem dX12_joins_61 : decode cX12_joins 61 = .ok (.getfield 146, 3) := by decide +kernel
theorem dX12_joins_64 : decode cX12_joins 64 = .ok (.aload_n 0, 1) := by decide +kernel
theorem dX12_joins_65 : decode cX12_joins 65 = .ok (.getfield 149, 3) := by decide +kernel
theorem dX12_joins_68 : decode cX12_joins 68 = .ok (.iaload, 1) := by decide +kernel
theorem dX12_joins_69 : decode cX12_joins 69 = .ok (.bipush 43, 2) := by decide +kernel
theorem dX12_joins_71 : decode cX12_joins 71 = .ok (.if_icmp .ne (-71), 3) := by decide +kernel
theorem dX12_joins_74 : decode cX12_joins 74 = .ok (.aload_n 0, 1) := by decide +kernel
theorem dX12_joins_75 : decode cX12_joins 75 = .ok (.dup, 1) := by decide +kernel
theorem dX12_joins_76 : decode cX12_joins 76 = .ok (.getfield 143, 3) := by decide +kernel
theorem dX12_joins_79 : decode cX12_joins 79 = .ok (.iconst 1, 1) := by decide +kernel
theorem dX12_joins_80 : decode cX12_joins 80 = .ok (.isub, 1) := by decide +kernel
theorem dX12_joins_81 : decode cX12_joins 81 = .ok (.putfield 143, 3) := by decide +kernel
theorem dX12_joins_84 : decode cX12_joins 84 = .ok (.goto (-84), 3) := by decide +kernel
theorem dX12_joins_87 : decode cX12_joins 87 = .ok (.return_, 1) := by decide +kernel
theorem dX12_holdsBack_0 : decode cX12_holdsBack 0 = .ok (.aload_n 0, 1) := by decide +kernel
theorem dX12_holdsBack_1 : decode cX12_holdsBack 1 = .ok (.getfield 146, 3) := by decide +kernel
theorem dX12_holdsBack_4 : decode cX12_holdsBack 4 = .ok (.aload_n 0, 1) := by decide +kernel
theorem dX12_holdsBack_5 : decode cX12_holdsBack 5 = .ok (.getfield 149, 3) := by decide +kernel
theorem dX12_holdsBack_8 : decode cX12_holdsBack 8 = .ok (.iload_n 1, 1) := by decide +kernel
theorem dX12_holdsBack_9 : decode cX12_holdsBack 9 = .ok (.iastore, 1) := by decide +kernel
theorem dX12_holdsBack_10 : decode cX12_holdsBack 10 = .ok (.aload_n 0, 1) := by decide +kernel
theorem dX12_holdsBack_11 : decode cX12_holdsBack 11 = .ok (.dup, 1) := by decide +kernel
theorem dX12_holdsBack_12 : decode cX12_holdsBack 12 = .ok (.getfield 149, 3) := by decide +kernel
theorem dX12_holdsBack_15 : decode cX12_holdsBack 15 = .ok (.iconst 1, 1) := by decide +kernel
theorem dX12_holdsBack_16 : decode cX12_holdsBack 16 = .ok (.iadd, 1) := by decide +kernel
theorem dX12_holdsBack_17 : decode cX12_holdsBack 17 = .ok (.putfield 149, 3) := by decide +kernel
theorem dX12_holdsBack_20 : decode cX12_holdsBack 20 = .ok (.return_, 1) := by decide +kernel
theorem dX12_pushes_0 : decode cX12_pushes 0 = .ok (.aload_n 0, 1) := by decide +kernel
theorem dX12_pushes_1 : decode cX12_pushes 1 = .ok (.getfield 124, 3) := by decide +kernel
theorem dX12_pushes_4 : decode cX12_pushes 4 = .ok (.aload_n 0, 1) := by decide +kernel
theorem dX12_pushes_5 : decode cX12_pushes 5 = .ok (.getfield 140, 3) := by decide +kernel
theorem dX12_pushes_8 : decode cX12_pushes 8 = .ok (.iload_n 1, 1) := by decide +kernel
theorem dX12_pushes_9 : decode cX12_pushes 9 = .ok (.iastore, 1) := by decide +kernel
theorem dX12_pushes_10 : decode cX12_pushes 10 = .ok (.aload_n 0, 1) := by decide +kernel
theorem dX12_pushes_11 : decode cX12_pushes 11 = .ok (.getfield 127, 3) := by decide +kernel
theorem dX12_pushes_14 : decode cX12_pushes 14 = .ok (.aload_n 0, 1) := by decide +kernel
theorem dX12_pushes_15 : decode cX12_pushes 15 = .ok (.getfield 140, 3) := by decide +kernel
theorem dX12_pushes_18 : decode cX12_pushes 18 = .ok (.iconst 0, 1) := by decide +kernel
theorem dX12_pushes_19 : decode cX12_pushes 19 = .ok (.iastore, 1) := by decide +kernel
theorem dX12_pushes_20 : decode cX12_pushes 20 = .ok (.aload_n 0, 1) := by decide +kernel
theorem dX12_pushes_21 : decode cX12_pushes 21 = .ok (.getfield 130, 3) := by decide +kernel
theorem dX12_pushes_24 : decode cX12_pushes 24 = .ok (.aload_n 0, 1) := by decide +kernel
theorem dX12_pushes_25 : decode cX12_pushes 25 = .ok (.getfield 140, 3) := by decide +kernel
theorem dX12_pushes_28 : decode cX12_pushes 28 = .ok (.iconst 1, 1) := by decide +kernel
theorem dX12_pushes_29 : decode cX12_pushes 29 = .ok (.bastore, 1) := by decide +kernel
theorem dX12_pushes_30 : decode cX12_pushes 30 = .ok (.aload_n 0, 1) := by decide +kernel
theorem dX12_pushes_31 : decode cX12_pushes 31 = .ok (.getfield 137, 3) := by decide +kernel
theorem dX12_pushes_34 : decode cX12_pushes 34 = .ok (.aload_n 0, 1) := by decide +kernel
theorem dX12_pushes_35 : decode cX12_pushes 35 = .ok (.getfield 140, 3) := by decide +kernel
theorem dX12_pushes_38 : decode cX12_pushes 38 = .ok (.aload_n 0, 1) := by decide +kernel
theorem dX12_pushes_39 : decode cX12_pushes 39 = .ok (.getfield 149, 3) := by decide +kernel
theorem dX12_pushes_42 : decode cX12_pushes 42 = .ok (.iastore, 1) := by decide +kernel
theorem dX12_pushes_43 : decode cX12_pushes 43 = .ok (.aload_n 0, 1) := by decide +kernel
theorem dX12_pushes_44 : decode cX12_pushes 44 = .ok (.dup, 1) := by decide +kernel
theorem dX12_pushes_45 : decode cX12_pushes 45 = .ok (.getfield 140, 3) := by decide +kernel
theorem dX12_pushes_48 : decode cX12_pushes 48 = .ok (.iconst 1, 1) := by decide +kernel
theorem dX12_pushes_49 : decode cX12_pushes 49 = .ok (.iadd, 1) := by decide +kernel
theorem dX12_pushes_50 : decode cX12_pushes 50 = .ok (.putfield 140, 3) := by decide +kernel
theorem dX12_pushes_53 : decode cX12_pushes 53 = .ok (.return_, 1) := by decide +kernel
theorem dX12_frames_0 : decode cX12_frames 0 = .ok (.aload_n 0, 1) := by decide +kernel
theorem dX12_frames_1 : decode cX12_frames 1 = .ok (.getfield 143, 3) := by decide +kernel
theorem dX12_frames_4 : decode cX12_frames 4 = .ok (.bipush 7, 2) := by decide +kernel
theorem dX12_frames_6 : decode cX12_frames 6 = .ok (.if_icmp .ne 12, 3) := by decide +kernel
theorem dX12_frames_9 : decode cX12_frames 9 = .ok (.aload_n 0, 1) := by decide +kernel
theorem dX12_frames_10 : decode cX12_frames 10 = .ok (.iconst 5, 1) := by decide +kernel
theorem dX12_frames_11 : decode cX12_frames 11 = .ok (.aload_n 0, 1) := by decide +kernel
theorem dX12_frames_12 : decode cX12_frames 12 = .ok (.getfield 23, 3) := by decide +kernel
theorem dX12_frames_15 : decode cX12_frames 15 = .ok (.invokevirtual 255, 3) := by decide +kernel
theorem dX12_frames_18 : decode cX12_frames 18 = .ok (.aload_n 0, 1) := by decide +kernel
theorem dX12_frames_19 : decode cX12_frames 19 = .ok (.getfield 36, 3) := by decide +kernel
theorem dX12_frames_22 : decode cX12_frames 22 = .ok (.ifCond .le 4, 3) := by decide +kernel
theorem dX12_frames_25 : decode cX12_frames 25 = .ok (.return_, 1) := by decide +kernel
theorem dX12_frames_26 : decode cX12_frames 26 = .ok (.aload_n 0, 1) := by decide +kernel
theorem dX12_frames_27 : decode cX12_frames 27 = .ok (.dup, 1) := by decide +kernel
theorem dX12_frames_28 : decode cX12_frames 28 = .ok (.getfield 143, 3) := by decide +kernel
theorem dX12_frames_31 : decode cX12_frames 31 = .ok (.iconst 1, 1) := by decide +kernel
theorem dX12_frames_32 : decode cX12_frames 32 = .ok (.iadd, 1) := by decide +kernel
theorem dX12_frames_33 : decode cX12_frames 33 = .ok (.putfield 143, 3) := by decide +kernel
theorem dX12_frames_36 : decode cX12_frames 36 = .ok (.aload_n 0, 1) := by decide +kernel
theorem dX12_frames_37 : decode cX12_frames 37 = .ok (.invokevirtual 272, 3) := by decide +kernel
theorem dX12_frames_40 : decode cX12_frames 40 = .ok (.aload_n 0, 1) := by decide +kernel
theorem dX12_frames_41 : decode cX12_frames 41 = .ok (.iload_n 1, 1) := by decide +kernel
theorem dX12_frames_42 : decode cX12_frames 42 = .ok (.invokevirtual 343, 3) := by decide +kernel
theorem dX12_frames_45 : decode cX12_frames 45 = .ok (.return_, 1) := by decide +kernel
theorem dX12_isTest_0 : decode cX12_isTest 0 = .ok (.iload_n 0, 1) := by decide +kernel
theorem dX12_isTest_1 : decode cX12_isTest 1 = .ok (.iconst 1, 1) := by decide +kernel
theorem dX12_isTest_2 : decode cX12_isTest 2 = .ok (.if_icmp .eq 14, 3) := by decide +kernel
theorem dX12_isTest_5 : decode cX12_isTest 5 = .ok (.iload_n 0, 1) := by decide +kernel
theorem dX12_isTest_6 : decode cX12_isTest 6 = .ok (.iconst 5, 1) := by decide +kernel
theorem dX12_isTest_7 : decode cX12_isTest 7 = .ok (.if_icmp .eq 9, 3) := by decide +kernel
theorem dX12_isTest_10 : decode cX12_isTest 10 = .ok (.iload_n 0, 1) := by decide +kernel
theorem dX12_isTest_11 : decode cX12_isTest 11 = .ok (.bipush 6, 2) := by decide +kernel
theorem dX12_isTest_13 : decode cX12_isTest 13 = .ok (.if_icmp .ne 7, 3) := by decide +kernel
theorem dX12_isTest_16 : decode cX12_isTest 16 = .ok (.iconst 1, 1) := by decide +kernel
theorem dX12_isTest_17 : decode cX12_isTest 17 = .ok (.goto 4, 3) := by decide +kernel
theorem dX12_isTest_20 : decode cX12_isTest 20 = .ok (.iconst 0, 1) := by decide +kernel
theorem dX12_isTest_21 : decode cX12_isTest 21 = .ok (.ireturn, 1) := by decide +kernel
theorem dX12_operand_0 : decode cX12_operand 0 = .ok (.aload_n 0, 1) := by decide +kernel
theorem dX12_operand_1 : decode cX12_operand 1 = .ok (.invokevirtual 266, 3) := by decide +kernel
theorem dX12_operand_4 : decode cX12_operand 4 = .ok (.aload_n 0, 1) := by decide +kernel
theorem dX12_operand_5 : decode cX12_operand 5 = .ok (.getfield 36, 3) := by decide +kernel
theorem dX12_operand_8 : decode cX12_operand 8 = .ok (.ifCond .le 5, 3) := by decide +kernel
theorem dX12_operand_11 : decode cX12_operand 11 = .ok (.iconst 1, 1) := by decide +kernel
theorem dX12_operand_12 : decode cX12_operand 12 = .ok (.ireturn, 1) := by decide +kernel
theorem dX12_operand_13 : decode cX12_operand 13 = .ok (.aload_n 0, 1) := by decide +kernel
theorem dX12_operand_14 : decode cX12_operand 14 = .ok (.getfield 140, 3) := by decide +kernel
theorem dX12_operand_17 : decode cX12_operand 17 = .ok (.iconst 1, 1) := by decide +kernel
theorem dX12_operand_18 : decode cX12_operand 18 = .ok (.isub, 1) := by decide +kernel
theorem dX12_operand_19 : decode cX12_operand 19 = .ok (.istore_n 1, 1) := by decide +kernel
theorem dX12_operand_20 : decode cX12_operand 20 = .ok (.aload_n 0, 1) := by decide +kernel
theorem dX12_operand_21 : decode cX12_operand 21 = .ok (.getfield 124, 3) := by decide +kernel
theorem dX12_operand_24 : decode cX12_operand 24 = .ok (.iload_n 1, 1) := by decide +kernel
theorem dX12_operand_25 : decode cX12_operand 25 = .ok (.iaload, 1) := by decide +kernel
theorem dX12_operand_26 : decode cX12_operand 26 = .ok (.invokestatic 346, 3) := by decide +kernel
theorem dX12_operand_29 : decode cX12_operand 29 = .ok (.ifCond .eq 16, 3) := by decide +kernel
theorem dX12_operand_32 : decode cX12_operand 32 = .ok (.aload_n 0, 1) := by decide +kernel
theorem dX12_operand_33 : decode cX12_operand 33 = .ok (.getfield 130, 3) := by decide +kernel
theorem dX12_operand_36 : decode cX12_operand 36 = .ok (.iload_n 1, 1) := by decide +kernel
theorem dX12_operand_37 : decode cX12_operand 37 = .ok (.baload, 1) := by decide +kernel
theorem dX12_operand_38 : decode cX12_operand 38 = .ok (.ifCond .eq 7, 3) := by decide +kernel
theorem dX12_operand_41 : decode cX12_operand 41 = .ok (.iconst 1, 1) := by decide +kernel
theorem dX12_operand_42 : decode cX12_operand 42 = .ok (.goto 4, 3) := by decide +kernel
theorem dX12_operand_45 : decode cX12_operand 45 = .ok (.iconst 0, 1) := by decide +kernel
theorem dX12_operand_46 : decode cX12_operand 46 = .ok (.istore_n 2, 1) := by decide +kernel
theorem dX12_operand_47 : decode cX12_operand 47 = .ok (.iload_n 2, 1) := by decide +kernel
theorem dX12_operand_48 : decode cX12_operand 48 = .ok (.ifCond .eq 62, 3) := by decide +kernel
theorem dX12_operand_51 : decode cX12_operand 51 = .ok (.aload_n 0, 1) := by decide +kernel
theorem dX12_operand_52 : decode cX12_operand 52 = .ok (.ldc2_w 321, 3) := by decide +kernel
theorem dX12_operand_55 : decode cX12_operand 55 = .ok (.invokevirtual 349, 3) := by decide +kernel
theorem dX12_operand_58 : decode cX12_operand 58 = .ok (.ifCond .eq 52, 3) := by decide +kernel
theorem dX12_operand_61 : decode cX12_operand 61 = .ok (.aload_n 0, 1) := by decide +kernel
theorem dX12_operand_62 : decode cX12_operand 62 = .ok (.getfield 143, 3) := by decide +kernel
theorem dX12_operand_65 : decode cX12_operand 65 = .ok (.bipush 7, 2) := by decide +kernel
theorem dX12_operand_67 : decode cX12_operand 67 = .ok (.if_icmp .ne 12, 3) := by decide +kernel
theorem dX12_operand_70 : decode cX12_operand 70 = .ok (.aload_n 0, 1) := by decide +kernel
theorem dX12_operand_71 : decode cX12_operand 71 = .ok (.iconst 5, 1) := by decide +kernel
theorem dX12_operand_72 : decode cX12_operand 72 = .ok (.aload_n 0, 1) := by decide +kernel
theorem dX12_operand_73 : decode cX12_operand 73 = .ok (.getfield 23, 3) := by decide +kernel
theorem dX12_operand_76 : decode cX12_operand 76 = .ok (.invokevirtual 255, 3) := by decide +kernel
theorem dX12_operand_79 : decode cX12_operand 79 = .ok (.aload_n 0, 1) := by decide +kernel
theorem dX12_operand_80 : decode cX12_operand 80 = .ok (.getfield 36, 3) := by decide +kernel
theorem dX12_operand_83 : decode cX12_operand 83 = .ok (.ifCond .le 5, 3) := by decide +kernel
theorem dX12_operand_86 : decode cX12_operand 86 = .ok (.iconst 1, 1) := by decide +kernel
theorem dX12_operand_87 : decode cX12_operand 87 = .ok (.ireturn, 1) := by decide +kernel
theorem dX12_operand_88 : decode cX12_operand 88 = .ok (.aload_n 0, 1) := by decide +kernel
theorem dX12_operand_89 : decode cX12_operand 89 = .ok (.dup, 1) := by decide +kernel
theorem dX12_operand_90 : decode cX12_operand 90 = .ok (.getfield 143, 3) := by decide +kernel
theorem dX12_operand_93 : decode cX12_operand 93 = .ok (.iconst 1, 1) := by decide +kernel
theorem dX12_operand_94 : decode cX12_operand 94 = .ok (.iadd, 1) := by decide +kernel
theorem dX12_operand_95 : decode cX12_operand 95 = .ok (.putfield 143, 3) := by decide +kernel
theorem dX12_operand_98 : decode cX12_operand 98 = .ok (.aload_n 0, 1) := by decide +kernel
theorem dX12_operand_99 : decode cX12_operand 99 = .ok (.bipush 43, 2) := by decide +kernel
theorem dX12_operand_101 : decode cX12_operand 101 = .ok (.invokevirtual 353, 3) := by decide +kernel
theorem dX12_operand_104 : decode cX12_operand 104 = .ok (.aload_n 0, 1) := by decide +kernel
theorem dX12_operand_105 : decode cX12_operand 105 = .ok (.invokevirtual 272, 3) := by decide +kernel
theorem dX12_operand_108 : decode cX12_operand 108 = .ok (.iconst 0, 1) := by decide +kernel
theorem dX12_operand_109 : decode cX12_operand 109 = .ok (.ireturn, 1) := by decide +kernel
theorem dX12_operand_110 : decode cX12_operand 110 = .ok (.aload_n 0, 1) := by decide +kernel
theorem dX12_operand_111 : decode cX12_operand 111 = .ok (.getfield 130, 3) := by decide +kernel
theorem dX12_operand_114 : decode cX12_operand 114 = .ok (.iload_n 1, 1) := by decide +kernel
theorem dX12_operand_115 : decode cX12_operand 115 = .ok (.iconst 0, 1) := by decide +kernel
theorem dX12_operand_116 : decode cX12_operand 116 = .ok (.bastore, 1) := by decide +kernel
theorem dX12_operand_117 : decode cX12_operand 117 = .ok (.iload_n 2, 1) := by decide +kernel
theorem dX12_operand_118 : decode cX12_operand 118 = .ok (.ifCond .eq 19, 3) := by decide +kernel
theorem dX12_operand_121 : decode cX12_operand 121 = .ok (.aload_n 0, 1) := by decide +kernel
theorem dX12_operand_122 : decode cX12_operand 122 = .ok (.bipush 91, 2) := by decide +kernel
theorem dX12_operand_124 : decode cX12_operand 124 = .ok (.invokevirtual 269, 3) := by decide +kernel
theorem dX12_operand_127 : decode cX12_operand 127 = .ok (.ifCond .eq 10, 3) := by decide +kernel
theorem dX12_operand_130 : decode cX12_operand 130 = .ok (.aload_n 0, 1) := by decide +kernel
theorem dX12_operand_131 : decode cX12_operand 131 = .ok (.iconst 5, 1) := by decide +kernel
theorem dX12_operand_132 : decode cX12_operand 132 = .ok (.invokevirtual 356, 3) := by decide +kernel
theorem dX12_operand_135 : decode cX12_operand 135 = .ok (.iconst 0, 1) := by decide +kernel
theorem dX12_operand_136 : decode cX12_operand 136 = .ok (.ireturn, 1) := by decide +kernel
theorem dX12_operand_137 : decode cX12_operand 137 = .ok (.iload_n 2, 1) := by decide +kernel
theorem dX12_operand_138 : decode cX12_operand 138 = .ok (.ifCond .eq 33, 3) := by decide +kernel
theorem dX12_operand_141 : decode cX12_operand 141 = .ok (.aload_n 0, 1) := by decide +kernel
theorem dX12_operand_142 : decode cX12_operand 142 = .ok (.ldc2_w 323, 3) := by decide +kernel
theorem dX12_operand_145 : decode cX12_operand 145 = .ok (.invokevirtual 349, 3) := by decide +kernel
theorem dX12_operand_148 : decode cX12_operand 148 = .ok (.ifCond .eq 23, 3) := by decide +kernel
theorem dX12_operand_151 : decode cX12_operand 151 = .ok (.aload_n 0, 1) := by decide +kernel
theorem dX12_operand_152 : decode cX12_operand 152 = .ok (.bipush 30, 2) := by decide +kernel
theorem dX12_operand_154 : decode cX12_operand 154 = .ok (.iconst 0, 1) := by decide +kernel
theorem dX12_operand_155 : decode cX12_operand 155 = .ok (.invokevirtual 340, 3) := by decide +kernel
theorem dX12_operand_158 : decode cX12_operand 158 = .ok (.aload_n 0, 1) := by decide +kernel
theorem dX12_operand_159 : decode cX12_operand 159 = .ok (.getfield 127, 3) := by decide +kernel
theorem dX12_operand_162 : decode cX12_operand 162 = .ok (.iload_n 1, 1) := by decide +kernel
theorem dX12_operand_163 : decode cX12_operand 163 = .ok (.iconst 2, 1) := by decide +kernel
theorem dX12_operand_164 : decode cX12_operand 164 = .ok (.iastore, 1) := by decide +kernel
theorem dX12_operand_165 : decode cX12_operand 165 = .ok (.aload_n 0, 1) := by decide +kernel
theorem dX12_operand_166 : decode cX12_operand 166 = .ok (.invokevirtual 272, 3) := by decide +kernel
theorem dX12_operand_169 : decode cX12_operand 169 = .ok (.iconst 1, 1) := by decide +kernel
theorem dX12_operand_170 : decode cX12_operand 170 = .ok (.ireturn, 1) := by decide +kernel
theorem dX12_operand_171 : decode cX12_operand 171 = .ok (.aload_n 0, 1) := by decide +kernel
theorem dX12_operand_172 : decode cX12_operand 172 = .ok (.bipush 40, 2) := by decide +kernel
theorem dX12_operand_174 : decode cX12_operand 174 = .ok (.invokevirtual 269, 3) := by decide +kernel
theorem dX12_operand_177 : decode cX12_operand 177 = .ok (.ifCond .eq 10, 3) := by decide +kernel
theorem dX12_operand_180 : decode cX12_operand 180 = .ok (.aload_n 0, 1) := by decide +kernel
theorem dX12_operand_181 : decode cX12_operand 181 = .ok (.iconst 2, 1) := by decide +kernel
theorem dX12_operand_182 : decode cX12_operand 182 = .ok (.invokevirtual 356, 3) := by decide +kernel
theorem dX12_operand_185 : decode cX12_operand 185 = .ok (.iconst 0, 1) := by decide +kernel
theorem dX12_operand_186 : decode cX12_operand 186 = .ok (.ireturn, 1) := by decide +kernel
theorem dX12_operand_187 : decode cX12_operand 187 = .ok (.aload_n 0, 1) := by decide +kernel
theorem dX12_operand_188 : decode cX12_operand 188 = .ok (.ldc2_w 325, 3) := by decide +kernel
theorem dX12_operand_191 : decode cX12_operand 191 = .ok (.invokevirtual 349, 3) := by decide +kernel
theorem dX12_operand_194 : decode cX12_operand 194 = .ok (.ifCond .ne 23, 3) := by decide +kernel
theorem dX12_operand_197 : decode cX12_operand 197 = .ok (.aload_n 0, 1) := by decide +kernel
theorem dX12_operand_198 : decode cX12_operand 198 = .ok (.ldc2_w 327, 3) := by decide +kernel
theorem dX12_operand_201 : decode cX12_operand 201 = .ok (.invokevirtual 349, 3) := by decide +kernel
theorem dX12_operand_204 : decode cX12_operand 204 = .ok (.ifCond .ne 13, 3) := by decide +kernel
theorem dX12_operand_207 : decode cX12_operand 207 = .ok (.aload_n 0, 1) := by decide +kernel
theorem dX12_operand_208 : decode cX12_operand 208 = .ok (.ldc2_w 315, 3) := by decide +kernel
theorem dX12_operand_211 : decode cX12_operand 211 = .ok (.invokevirtual 349, 3) := by decide +kernel
theorem dX12_operand_214 : decode cX12_operand 214 = .ok (.ifCond .eq 99, 3) := by decide +kernel
theorem dX12_operand_217 : decode cX12_operand 217 = .ok (.aload_n 0, 1) := by decide +kernel
theorem dX12_operand_218 : decode cX12_operand 218 = .ok (.ldc2_w 325, 3) := by decide +kernel
theorem dX12_operand_221 : decode cX12_operand 221 = .ok (.invokevirtual 349, 3) := by decide +kernel
theorem dX12_operand_224 : decode cX12_operand 224 = .ok (.ifCond .eq 8, 3) := by decide +kernel
theorem dX12_operand_227 : decode cX12_operand 227 = .ok (.bipush 36, 2) := by decide +kernel
theorem dX12_operand_229 : decode cX12_operand 229 = .ok (.goto 20, 3) := by decide +kernel
theorem dX12_operand_232 : decode cX12_operand 232 = .ok (.aload_n 0, 1) := by decide +kernel
theorem dX12_operand_233 : decode cX12_operand 233 = .ok (.ldc2_w 327, 3) := by decide +kernel
theorem dX12_operand_236 : decode cX12_operand 236 = .ok (.invokevirtual 349, 3) := by decide +kernel
theorem dX12_operand_239 : decode cX12_operand 239 = .ok (.ifCond .eq 8, 3) := by decide +kernel
theorem dX12_operand_242 : decode cX12_operand 242 = .ok (.bipush 37, 2) := by decide +kernel
theorem dX12_operand_244 : decode cX12_operand 244 = .ok (.goto 5, 3) := by decide +kernel
theorem dX12_operand_247 : decode cX12_operand 247 = .ok (.bipush 44, 2) := by decide +kernel
theorem dX12_operand_249 : decode cX12_operand 249 = .ok (.istore_n 3, 1) := by decide +kernel
theorem dX12_operand_250 : decode cX12_operand 250 = .ok (.aload_n 0, 1) := by decide +kernel
theorem dX12_operand_251 : decode cX12_operand 251 = .ok (.invokevirtual 272, 3) := by decide +kernel
theorem dX12_operand_254 : decode cX12_operand 254 = .ok (.aload_n 0, 1) := by decide +kernel
theorem dX12_operand_255 : decode cX12_operand 255 = .ok (.invokevirtual 266, 3) := by decide +kernel
theorem dX12_operand_258 : decode cX12_operand 258 = .ok (.aload_n 0, 1) := by decide +kernel
theorem dX12_operand_259 : decode cX12_operand 259 = .ok (.bipush 40, 2) := by decide +kernel
theorem dX12_operand_261 : decode cX12_operand 261 = .ok (.invokevirtual 269, 3) := by decide +kernel
theorem dX12_operand_264 : decode cX12_operand 264 = .ok (.ifCond .ne 12, 3) := by decide +kernel
theorem dX12_operand_267 : decode cX12_operand 267 = .ok (.aload_n 0, 1) := by decide +kernel
theorem dX12_operand_268 : decode cX12_operand 268 = .ok (.iconst 1, 1) := by decide +kernel
theorem dX12_operand_269 : decode cX12_operand 269 = .ok (.aload_n 0, 1) := by decide +kernel
theorem dX12_operand_270 : decode cX12_operand 270 = .ok (.getfield 23, 3) := by decide +kernel
theorem dX12_operand_273 : decode cX12_operand 273 = .ok (.invokevirtual 255, 3) := by decide +kernel
theorem dX12_operand_276 : decode cX12_operand 276 = .ok (.aload_n 0, 1) := by decide +kernel
theorem dX12_operand_277 : decode cX12_operand 277 = .ok (.iload_n 3, 1) := by decide +kernel
theorem dX12_operand_278 : decode cX12_operand 278 = .ok (.bipush 44, 2) := by decide +kernel
theorem dX12_operand_280 : decode cX12_operand 280 = .ok (.if_icmp .ne 8, 3) := by decide +kernel
theorem dX12_operand_283 : decode cX12_operand 283 = .ok (.bipush 6, 2) := by decide +kernel
theorem dX12_operand_285 : decode cX12_operand 285 = .ok (.goto 4, 3) := by decide +kernel
theorem dX12_operand_288 : decode cX12_operand 288 = .ok (.iconst 3, 1) := by decide +kernel
theorem dX12_operand_289 : decode cX12_operand 289 = .ok (.invokevirtual 356, 3) := by decide +kernel
theorem dX12_operand_292 : decode cX12_operand 292 = .ok (.aload_n 0, 1) := by decide +kernel
theorem dX12_operand_293 : decode cX12_operand 293 = .ok (.getfield 36, 3) := by decide +kernel
theorem dX12_operand_296 : decode cX12_operand 296 = .ok (.ifCond .ne 15, 3) := by decide +kernel
theorem dX12_operand_299 : decode cX12_operand 299 = .ok (.aload_n 0, 1) := by decide +kernel
theorem dX12_operand_300 : decode cX12_operand 300 = .ok (.getfield 134, 3) := by decide +kernel
theorem dX12_operand_303 : decode cX12_operand 303 = .ok (.aload_n 0, 1) := by decide +kernel
theorem dX12_operand_304 : decode cX12_operand 304 = .ok (.getfield 140, 3) := by decide +kernel
theorem dX12_operand_307 : decode cX12_operand 307 = .ok (.iconst 1, 1) := by decide +kernel
theorem dX12_operand_308 : decode cX12_operand 308 = .ok (.isub, 1) := by decide +kernel
theorem dX12_operand_309 : decode cX12_operand 309 = .ok (.iload_n 3, 1) := by decide +kernel
theorem dX12_operand_310 : decode cX12_operand 310 = .ok (.iastore, 1) := by decide +kernel
theorem dX12_operand_311 : decode cX12_operand 311 = .ok (.iconst 0, 1) := by decide +kernel
theorem dX12_operand_312 : decode cX12_operand 312 = .ok (.ireturn, 1) := by decide +kernel
theorem dX12_operand_313 : decode cX12_operand 313 = .ok (.aload_n 0, 1) := by decide +kernel
theorem dX12_operand_314 : decode cX12_operand 314 = .ok (.getfield 20, 3) := by decide +kernel
theorem dX12_operand_317 : decode cX12_operand 317 = .ok (.iconst 2, 1) := by decide +kernel
theorem dX12_operand_318 : decode cX12_operand 318 = .ok (.if_icmp .ne 7, 3) := by decide +kernel
theorem dX12_operand_321 : decode cX12_operand 321 = .ok (.iconst 0, 1) := by decide +kernel
theorem dX12_operand_322 : decode cX12_operand 322 = .ok (.goto 89, 3) := by decide +kernel
theorem dX12_operand_325 : decode cX12_operand 325 = .ok (.aload_n 0, 1) := by decide +kernel
theorem dX12_operand_326 : decode cX12_operand 326 = .ok (.ldc2_w 285, 3) := by decide +kernel
theorem dX12_operand_329 : decode cX12_operand 329 = .ok (.invokevirtual 349, 3) := by decide +kernel
theorem dX12_operand_332 : decode cX12_operand 332 = .ok (.ifCond .eq 7, 3) := by decide +kernel
theorem dX12_operand_335 : decode cX12_operand 335 = .ok (.iconst 1, 1) := by decide +kernel
theorem dX12_operand_336 : decode cX12_operand 336 = .ok (.goto 75, 3) := by decide +kernel
theorem dX12_operand_339 : decode cX12_operand 339 = .ok (.aload_n 0, 1) := by decide +kernel
theorem dX12_operand_340 : decode cX12_operand 340 = .ok (.ldc2_w 305, 3) := by decide +kernel
theorem dX12_operand_343 : decode cX12_operand 343 = .ok (.invokevirtual 349, 3) := by decide +kernel
theorem dX12_operand_346 : decode cX12_operand 346 = .ok (.ifCond .eq 7, 3) := by decide +kernel
theorem dX12_operand_349 : decode cX12_operand 349 = .ok (.iconst 2, 1) := by decide +kernel
theorem dX12_operand_350 : decode cX12_operand 350 = .ok (.goto 61, 3) := by decide +kernel
theorem dX12_operand_353 : decode cX12_operand 353 = .ok (.aload_n 0, 1) := by decide +kernel
theorem dX12_operand_354 : decode cX12_operand 354 = .ok (.ldc2_w 307, 3) := by decide +kernel
theorem dX12_operand_357 : decode cX12_operand 357 = .ok (.invokevirtual 349, 3) := by decide +kernel
theorem dX12_operand_360 : decode cX12_operand 360 = .ok (.ifCond .eq 7, 3) := by decide +kernel
theorem dX12_operand_363 : decode cX12_operand 363 = .ok (.iconst 3, 1) := by decide +kernel
theorem dX12_operand_364 : decode cX12_operand 364 = .ok (.goto 47, 3) := by decide +kernel
theorem dX12_operand_367 : decode cX12_operand 367 = .ok (.aload_n 0, 1) := by decide +kernel
theorem dX12_operand_368 : decode cX12_operand 368 = .ok (.ldc2_w 309, 3) := by decide +kernel
theorem dX12_operand_371 : decode cX12_operand 371 = .ok (.invokevirtual 349, 3) := by decide +kernel
theorem dX12_operand_374 : decode cX12_operand 374 = .ok (.ifCond .eq 7, 3) := by decide +kernel
theorem dX12_operand_377 : decode cX12_operand 377 = .ok (.iconst 4, 1) := by decide +kernel
theorem dX12_operand_378 : decode cX12_operand 378 = .ok (.goto 33, 3) := by decide +kernel
theorem dX12_operand_381 : decode cX12_operand 381 = .ok (.aload_n 0, 1) := by decide +kernel
theorem dX12_operand_382 : decode cX12_operand 382 = .ok (.ldc2_w 311, 3) := by decide +kernel
theorem dX12_operand_385 : decode cX12_operand 385 = .ok (.invokevirtual 349, 3) := by decide +kernel
theorem dX12_operand_388 : decode cX12_operand 388 = .ok (.ifCond .eq 7, 3) := by decide +kernel
theorem dX12_operand_391 : decode cX12_operand 391 = .ok (.iconst 5, 1) := by decide +kernel
theorem dX12_operand_392 : decode cX12_operand 392 = .ok (.goto 19, 3) := by decide +kernel
theorem dX12_operand_395 : decode cX12_operand 395 = .ok (.aload_n 0, 1) := by decide +kernel
theorem dX12_operand_396 : decode cX12_operand 396 = .ok (.ldc2_w 313, 3) := by decide +kernel
theorem dX12_operand_399 : decode cX12_operand 399 = .ok (.invokevirtual 349, 3) := by decide +kernel
theorem dX12_operand_402 : decode cX12_operand 402 = .ok (.ifCond .eq 8, 3) := by decide +kernel
theorem dX12_operand_405 : decode cX12_operand 405 = .ok (.bipush 6, 2) := by decide +kernel
theorem dX12_operand_407 : decode cX12_operand 407 = .ok (.goto 4, 3) := by decide +kernel
theorem dX12_operand_410 : decode cX12_operand 410 = .ok (.iconst (-1), 1) := by decide +kernel
theorem dX12_operand_411 : decode cX12_operand 411 = .ok (.istore_n 3, 1) := by decide +kernel
theorem dX12_operand_412 : decode cX12_operand 412 = .ok (.iload_n 3, 1) := by decide +kernel
theorem dX12_operand_413 : decode cX12_operand 413 = .ok (.iconst 4, 1) := by decide +kernel
theorem dX12_operand_414 : decode cX12_operand 414 = .ok (.if_icmp .lt 30, 3) := by decide +kernel
theorem dX12_operand_417 : decode cX12_operand 417 = .ok (.iload_n 3, 1) := by decide +kernel
theorem dX12_operand_418 : decode cX12_operand 418 = .ok (.iconst 4, 1) := by decide +kernel
theorem dX12_operand_419 : decode cX12_operand 419 = .ok (.if_icmp .ne 7, 3) := by decide +kernel
theorem dX12_operand_422 : decode cX12_operand 422 = .ok (.iconst 1, 1) := by decide +kernel
theorem dX12_operand_423 : decode cX12_operand 423 = .ok (.goto 4, 3) := by decide +kernel
theorem dX12_operand_426 : decode cX12_operand 426 = .ok (.iconst 0, 1) := by decide +kernel
theorem dX12_operand_427 : decode cX12_operand 427 = .ok (.aload_n 0, 1) := by decide +kernel
theorem dX12_operand_428 : decode cX12_operand 428 = .ok (.getfield 121, 3) := by decide +kernel
theorem dX12_operand_431 : decode cX12_operand 431 = .ok (.ifCond .ne 7, 3) := by decide +kernel
theorem dX12_operand_434 : decode cX12_operand 434 = .ok (.iconst 1, 1) := by decide +kernel
theorem dX12_operand_435 : decode cX12_operand 435 = .ok (.goto 4, 3) := by decide +kernel
theorem dX12_operand_438 : decode cX12_operand 438 = .ok (.iconst 0, 1) := by decide +kernel
theorem dX12_operand_439 : decode cX12_operand 439 = .ok (.if_icmp .eq 5, 3) := by decide +kernel
theorem dX12_operand_442 : decode cX12_operand 442 = .ok (.iconst (-1), 1) := by decide +kernel
theorem dX12_operand_443 : decode cX12_operand 443 = .ok (.istore_n 3, 1) := by decide +kernel
theorem dX12_operand_444 : decode cX12_operand 444 = .ok (.iload_n 3, 1) := by decide +kernel
theorem dX12_operand_445 : decode cX12_operand 445 = .ok (.iconst (-1), 1) := by decide +kernel
theorem dX12_operand_446 : decode cX12_operand 446 = .ok (.if_icmp .ne 12, 3) := by decide +kernel
theorem dX12_operand_449 : decode cX12_operand 449 = .ok (.aload_n 0, 1) := by decide +kernel
theorem dX12_operand_450 : decode cX12_operand 450 = .ok (.iconst 1, 1) := by decide +kernel
theorem dX12_operand_451 : decode cX12_operand 451 = .ok (.aload_n 0, 1) := by decide +kernel
theorem dX12_operand_452 : decode cX12_operand 452 = .ok (.getfield 23, 3) := by decide +kernel
theorem dX12_operand_455 : decode cX12_operand 455 = .ok (.invokevirtual 255, 3) := by decide +kernel
theorem dX12_operand_458 : decode cX12_operand 458 = .ok (.aload_n 0, 1) := by decide +kernel
theorem dX12_operand_459 : decode cX12_operand 459 = .ok (.getfield 36, 3) := by decide +kernel
theorem dX12_operand_462 : decode cX12_operand 462 = .ok (.ifCond .le 5, 3) := by decide +kernel
theorem dX12_operand_465 : decode cX12_operand 465 = .ok (.iconst 1, 1) := by decide +kernel
theorem dX12_operand_466 : decode cX12_operand 466 = .ok (.ireturn, 1) := by decide +kernel
theorem dX12_operand_467 : decode cX12_operand 467 = .ok (.aload_n 0, 1) := by decide +kernel
theorem dX12_operand_468 : decode cX12_operand 468 = .ok (.iload_n 3, 1) := by decide +kernel
theorem dX12_operand_469 : decode cX12_operand 469 = .ok (.aload_n 0, 1) := by decide +kernel
theorem dX12_operand_470 : decode cX12_operand 470 = .ok (.getfield 29, 3) := by decide +kernel
theorem dX12_operand_473 : decode cX12_operand 473 = .ok (.invokevirtual 340, 3) := by decide +kernel
theorem dX12_operand_476 : decode cX12_operand 476 = .ok (.aload_n 0, 1) := by decide +kernel
theorem dX12_operand_477 : decode cX12_operand 477 = .ok (.invokevirtual 272, 3) := by decide +kernel
theorem dX12_operand_480 : decode cX12_operand 480 = .ok (.iconst 1, 1) := by decide +kernel
theorem dX12_operand_481 : decode cX12_operand 481 = .ok (.ireturn, 1) := by decide +kernel
theorem wB_1176 : Cond.fieldLink RX12 115 "DarkMineModel" "codes" "I" ∈ dgB := List.mem_filter.mpr ⟨tbl_6 _ (List.mem_of_getElem? (i := 197) (by decide +kernel)), by decide +kernel⟩
theorem wB_1177 : Cond.fieldLink RX12 149 "DarkMineModel" "opMany" "I" ∈ dgB := List.mem_filter.mpr ⟨tbl_6 _ (List.mem_of_getElem? (i := 208) (by decide +kernel)), by decide +kernel⟩
theorem wB_1178 : Cond.fieldLink RX12 137 "DarkMineModel" "base" "[I" ∈ dgB := List.mem_filter.mpr ⟨tbl_6 _ (List.mem_of_getElem? (i := 204) (by decide +kernel)), by decide +kernel⟩
theorem wB_1179 : Cond.fieldLink RX12 140 "DarkMineModel" "deep" "I" ∈ dgB := List.mem_filter.mpr ⟨tbl_6 _ (List.mem_of_getElem? (i := 205) (by decide +kernel)), by decide +kernel⟩
theorem wB_1180 : Cond.fieldLink RX12 146 "DarkMineModel" "ops" "[I" ∈ dgB := List.mem_filter.mpr ⟨tbl_6 _ (List.mem_of_getElem? (i := 207) (by decide +kernel)), by decide +kernel⟩
theorem wB_1181 : Cond.code yX12_rank cX12_rank 1 (some .int) ∈ dgB := List.mem_filter.mpr ⟨tbl_8 _ (List.mem_of_getElem? (i := 102) rfl), rfl⟩
theorem wB_1182 : Cond.methodLink RX12 337 yX12_rank ∈ dgB := List.mem_filter.mpr ⟨tbl_8 _ (List.mem_of_getElem? (i := 100) (by decide +kernel)), by decide +kernel⟩
theorem wB_1183 : Cond.static yX12_rank ∈ dgB := List.mem_filter.mpr ⟨tbl_8 _ (List.mem_of_getElem? (i := 101) (by decide +kernel)), by decide +kernel⟩
theorem wB_1184 : Cond.code yX12_add cX12_add 3 none ∈ dgB := List.mem_filter.mpr ⟨tbl_8 _ (List.mem_of_getElem? (i := 91) rfl), rfl⟩
theorem wB_1185 : Cond.methodLink RX12 340 yX12_add ∈ dgB := List.mem_filter.mpr ⟨tbl_8 _ (List.mem_of_getElem? (i := 88) (by decide +kernel)), by decide +kernel⟩
theorem wB_1186 : Cond.instanceMethod yX12_add ∈ dgB := List.mem_filter.mpr ⟨tbl_8 _ (List.mem_of_getElem? (i := 90) (by decide +kernel)), by decide +kernel⟩
theorem wB_1187 : Cond.selects RX12 yX12_add yX12_add ∈ dgB := List.mem_filter.mpr ⟨List.mem_of_getElem? (i := 111) (by decide +kernel), by decide +kernel⟩
theorem wB_1188 : Cond.fieldLink RX12 143 "DarkMineModel" "open" "I" ∈ dgB := List.mem_filter.mpr ⟨tbl_6 _ (List.mem_of_getElem? (i := 206) (by decide +kernel)), by decide +kernel⟩
theorem wB_1189 : Cond.fieldLink RX12 124 "DarkMineModel" "frame" "[I" ∈ dgB := List.mem_filter.mpr ⟨tbl_6 _ (List.mem_of_getElem? (i := 200) (by decide +kernel)), by decide +kernel⟩
theorem wB_1190 : Cond.fieldLink RX12 127 "DarkMineModel" "phase" "[I" ∈ dgB := List.mem_filter.mpr ⟨tbl_6 _ (List.mem_of_getElem? (i := 201) (by decide +kernel)), by decide +kernel⟩
theorem wB_1191 : Cond.fieldLink RX12 130 "DarkMineModel" "begins" "[Z" ∈ dgB := List.mem_filter.mpr ⟨tbl_6 _ (List.mem_of_getElem? (i := 202) (by decide +kernel)), by decide +kernel⟩
theorem wB_1192 : Cond.code yX12_pushes cX12_pushes 2 none ∈ dgB := List.mem_filter.mpr ⟨tbl_8 _ (List.mem_of_getElem? (i := 72) rfl), rfl⟩
theorem wB_1193 : Cond.methodLink RX12 343 yX12_pushes ∈ dgB := List.mem_filter.mpr ⟨tbl_8 _ (List.mem_of_getElem? (i := 69) (by decide +kernel)), by decide +kernel⟩
theorem wB_1194 : Cond.instanceMethod yX12_pushes ∈ dgB := List.mem_filter.mpr ⟨tbl_8 _ (List.mem_of_getElem? (i := 71) (by decide +kernel)), by decide +kernel⟩
theorem wB_1195 : Cond.selects RX12 yX12_pushes yX12_pushes ∈ dgB := List.mem_filter.mpr ⟨List.mem_of_getElem? (i := 107) (by decide +kernel), by decide +kernel⟩
theorem wB_1196 : Cond.code yX12_isTest cX12_isTest 1 (some .boolean) ∈ dgB := List.mem_filter.mpr ⟨tbl_8 _ (List.mem_of_getElem? (i := 79) rfl), rfl⟩
theorem wB_1197 : Cond.methodLink RX12 346 yX12_isTest ∈ dgB := List.mem_filter.mpr ⟨tbl_8 _ (List.mem_of_getElem? (i := 77) (by decide +kernel)), by decide +kernel⟩
theorem wB_1198 : Cond.static yX12_isTest ∈ dgB := List.mem_filter.mpr ⟨tbl_8 _ (List.mem_of_getElem? (i := 78) (by decide +kernel)), by decide +kernel⟩
theorem wB_1199 : Cond.fieldLink RX12 121 "DarkMineModel" "law" "I" ∈ dgB := List.mem_filter.mpr ⟨tbl_6 _ (List.mem_of_getElem? (i := 199) (by decide +kernel)), by decide +kernel⟩
theorem wB_1200 : Cond.code yX12_frames cX12_frames 2 none ∈ dgB := List.mem_filter.mpr ⟨tbl_8 _ (List.mem_of_getElem? (i := 87) rfl), rfl⟩
theorem wB_1201 : Cond.methodLink RX12 356 yX12_frames ∈ dgB := List.mem_filter.mpr ⟨tbl_8 _ (List.mem_of_getElem? (i := 84) (by decide +kernel)), by decide +kernel⟩
theorem wB_1202 : Cond.instanceMethod yX12_frames ∈ dgB := List.mem_filter.mpr ⟨tbl_8 _ (List.mem_of_getElem? (i := 86) (by decide +kernel)), by decide +kernel⟩
theorem wB_1203 : Cond.selects RX12 yX12_frames yX12_frames ∈ dgB := List.mem_filter.mpr ⟨List.mem_of_getElem? (i := 110) (by decide +kernel), by decide +kernel⟩
theorem wB_1204 : Cond.fieldLink RX12 134 "DarkMineModel" "pair" "[I" ∈ dgB := List.mem_filter.mpr ⟨tbl_6 _ (List.mem_of_getElem? (i := 203) (by decide +kernel)), by decide +kernel⟩
theorem wB_1205 : Cond.code yX12_holdsBack cX12_holdsBack 2 none ∈ dgB := List.mem_filter.mpr ⟨tbl_8 _ (List.mem_of_getElem? (i := 83) rfl), rfl⟩
theorem wB_1206 : Cond.methodLink RX12 353 yX12_holdsBack ∈ dgB := List.mem_filter.mpr ⟨tbl_8 _ (List.mem_of_getElem? (i := 80) (by decide +kernel)), by decide +kernel⟩
theorem wB_1207 : Cond.instanceMethod yX12_holdsBack ∈ dgB := List.mem_filter.mpr ⟨tbl_8 _ (List.mem_of_getElem? (i := 82) (by decide +kernel)), by decide +kernel⟩
theorem wB_1208 : Cond.selects RX12 yX12_holdsBack yX12_holdsBack ∈ dgB := List.mem_filter.mpr ⟨List.mem_of_getElem? (i := 109) (by decide +kernel), by decide +kernel⟩
set_option maxHeartbeats 8000000 in
set_option maxRecDepth 100000 in
theorem c_m_add (l : Launch) (g : Nat → ClassId) (D : va_G) (o : Nat) (S : dg_S) (a1 : Int32) (b_a1 : 0 ≤ (a1).toInt ∧ (a1).toInt ≤ 44) (a2 : Int32) (cd : Int32) (f_cd : S.1 0 34 = .int cd) (b_cd : 0 ≤ (cd).toInt ∧ (cd).toInt ≤ 1599) (ZW : ZWM S) (ZK : ZKM S) (I : CM o S) (sz : Nat) : Met l yX12_add (bw yX12_add cX12_add 3 none) ({ frames := 1, cells := 0, slots := 0, locals := 32 } : Room) (dk_Pc g D (dg_w g shM o rfM S) sz [.ref (o + 0), .int a1, .int a2]) (va_Qv (fun S' => CM o S' ∧ dg_sm shM [(0, 34)] [18, 19] S S' ∧ (∃ y9 : Int32, S'.1 0 34 = .int y9 ∧ ((y9).toInt = (cd).toInt + 1)) ∧ (ADM S S' a1) ∧ ZWM S' ∧ True) (dg_B g D shM o rfM) (dg_A o shM.length sz)) 0 0 (dg_A o shM.length sz) := by
  refine dg_met (cc := cX12_add) (maxL := 3) (ret := none) (by decide) rfl (Nat.le_of_ble_eq_true rfl) ?_
  intro p e s m args below meth c A hAe harg hx hb hr hml hts hown hlocks hin hP K hS hA1 hA ST hsz ls hl
  rw [← hAe]
  have F : CallFix p m c cX12_add 3 s args (bw yX12_add cX12_add 3 none) RX12 := ⟨hx, hb, hml, hown, hts⟩
  have hl : lv_has ls 3 [(0, .ref (o + 0)), (1, .int a1), (2, .int a2)] := hl
  have M_0 : dg_sm shM [(0, 34)] [18, 19] S S := dg_sm.rf
  obtain ⟨x_1, f_x_1, b_x_1⟩ := dg_I.int (i := 0) (k := 13) (lo := 0) (hi := 1) I sM_0 (by decide +kernel)
  obtain ⟨x_2, f_x_2, b_x_2⟩ := dg_I.int (i := 0) (k := 35) (lo := 0) (hi := 1) I sM_0 (by decide +kernel)
  have hzk := ZK _ _ f_x_1 f_x_2
  refine lv_aload_n hx hb dX12_add_0 rfl (lv_at hl 0 rfl) ?_
  refine dg_get (C := RX12) (T := TX12) (N := 77) hx hb hts (fun w h => bw_mem (wU_X12 w h)) hown K hP sM_0 rfl 30 (by decide) (hts _ (bw_mem wB_934)) (fun _ h9 => h9) (v := .ref (o + 18)) (show S.1 0 30 = .ref (o + 18) from dg_I.rel (d := 18) I sM_0 (by decide +kernel)) dX12_add_1 ?_
  refine lv_sipush (v := 1600) hx hb dX12_add_4 (by decide +kernel) ?_
  refine lv_aload_n hx hb dX12_add_7 rfl (lv_at hl 0 rfl) ?_
  refine dg_get (C := RX12) (T := TX12) (N := 77) hx hb hts (fun w h => bw_mem (wU_X12 w h)) hown K hP sM_0 rfl 35 (by decide) (hts _ (bw_mem wB_1171)) (fun _ h9 => h9) (v := .int x_2) f_x_2 dX12_add_8 ?_
  refine lv_imul hx hb dX12_add_11 ?_
  refine lv_topi (fun x_3 ex_3 => ?_)
  have jx_3 : (x_3).toInt = 1600 * (x_2).toInt := by rw [ex_3]; exact dk_mulT (by decide +kernel) rfl (by omega) (by omega)
  refine lv_aload_n hx hb dX12_add_12 rfl (lv_at hl 0 rfl) ?_
  refine dg_get (C := RX12) (T := TX12) (N := 77) hx hb hts (fun w h => bw_mem (wU_X12 w h)) hown K hP sM_0 rfl 34 (by decide) (hts _ (bw_mem wB_1176)) (fun _ h9 => h9) (v := .int cd) f_cd dX12_add_13 ?_
  refine lv_iadd hx hb dX12_add_16 ?_
  refine lv_topi (fun x_4 ex_4 => ?_)
  have jx_4 : (x_4).toInt = (x_3).toInt + (cd).toInt := by rw [ex_4]; exact dk_addT rfl rfl (by omega) (by omega)
  refine lv_iload_n hx hb dX12_add_17 rfl (lv_at hl 1 rfl) ?_
  have hin_5 : vp_in x_4 3200 := (dk_inv (by omega) (by omega))
  refine dg_iast hx hb K hP hS hA1 sM_18 hin_5 dX12_add_18 (fun S_6 e_6 H locs hP hS => ?_)
  have I_6 := dg_I.ufu (lo := 0) (hi := 44) I e_6 sM_18 (by decide +kernel) (show 0 ≤ (a1).toInt ∧ (a1).toInt ≤ 44 from (by omega))
  have M_6 := dg_sm.uf M_0 e_6 sM_18 (by decide)
  have ZW_6 : ZWM S_6 := ZWM.up18 ZW f_x_1 (by omega) e_6 (by omega)
  refine lv_aload_n hx hb dX12_add_19 rfl (lv_at hl 0 rfl) ?_
  refine dg_get (C := RX12) (T := TX12) (N := 77) hx hb hts (fun w h => bw_mem (wU_X12 w h)) hown K hP sM_0 rfl 31 (by decide) (hts _ (bw_mem wB_938)) (fun _ h9 => h9) (v := .ref (o + 19)) (show S_6.1 0 31 = .ref (o + 19) from dg_I.rel (d := 19) I_6 sM_0 (by decide +kernel)) dX12_add_20 ?_
  refine lv_sipush (v := 1600) hx hb dX12_add_23 (by decide +kernel) ?_
  refine lv_aload_n hx hb dX12_add_26 rfl (lv_at hl 0 rfl) ?_
  refine dg_get (C := RX12) (T := TX12) (N := 77) hx hb hts (fun w h => bw_mem (wU_X12 w h)) hown K hP sM_0 rfl 35 (by decide) (hts _ (bw_mem wB_1171)) (fun _ h9 => h9) (v := .int x_2) ((dg_uf_F e_6 0 35).trans f_x_2) dX12_add_27 ?_
  refine lv_imul hx hb dX12_add_30 ?_
  refine lv_topi (fun x_7 ex_7 => ?_)
  have jx_7 : (x_7).toInt = 1600 * (x_2).toInt := by rw [ex_7]; exact dk_mulT (by decide +kernel) rfl (by omega) (by omega)
  refine lv_aload_n hx hb dX12_add_31 rfl (lv_at hl 0 rfl) ?_
  refine dg_get (C := RX12) (T := TX12) (N := 77) hx hb hts (fun w h => bw_mem (wU_X12 w h)) hown K hP sM_0 rfl 34 (by decide) (hts _ (bw_mem wB_1176)) (fun _ h9 => h9) (v := .int cd) ((dg_uf_F e_6 0 34).trans f_cd) dX12_add_32 ?_
  refine lv_iadd hx hb dX12_add_35 ?_
  refine lv_topi (fun x_8 ex_8 => ?_)
  have jx_8 : (x_8).toInt = (x_7).toInt + (cd).toInt := by rw [ex_8]; exact dk_addT rfl rfl (by omega) (by omega)
  refine lv_iload_n hx hb dX12_add_36 rfl (lv_at hl 2 rfl) ?_
  have hin_9 : vp_in x_8 3200 := (dk_inv (by omega) (by omega))
  refine dg_iast hx hb K hP hS hA1 sM_19 hin_9 dX12_add_37 (fun S_10 e_10 H locs hP hS => ?_)
  have I_10 := dg_I.uf0 I_6 e_10 sM_19 (by decide +kernel)
  have M_10 := dg_sm.uf M_6 e_10 sM_19 (by decide)
  refine lv_aload_n hx hb dX12_add_38 rfl (lv_at hl 0 rfl) ?_
  refine lv_dup hx hb dX12_add_39 rfl ?_
  refine dg_get (C := RX12) (T := TX12) (N := 77) hx hb hts (fun w h => bw_mem (wU_X12 w h)) hown K hP sM_0 rfl 34 (by decide) (hts _ (bw_mem wB_1176)) (fun _ h9 => h9) (v := .int cd) (((dg_uf_F e_10 0 34).trans (dg_uf_F e_6 0 34)).trans f_cd) dX12_add_40 ?_
  refine lv_iconst (v := 1) hx hb dX12_add_43 (by decide +kernel) ?_
  refine lv_iadd hx hb dX12_add_44 ?_
  refine lv_topi (fun x_11 ex_11 => ?_)
  have jx_11 : (x_11).toInt = (cd).toInt + 1 := by rw [ex_11]; exact dk_addT rfl (by decide +kernel) (by omega) (by omega)
  refine dg_put (ci := 12) (v := .int x_11) (ty := tyX12 34) (C := RX12) (T := TX12) (N := 77) hx hb hts (fun w h => bw_mem (wU_X12 w h)) tyX12 tyX12_ok nmX12 hown K hP hS hA1 sM_0 rfl 34 (by decide) (hts _ (bw_mem wB_1176)) (fun _ h9 => h9) rfl (by decide +kernel) rfl rfl dX12_add_45 (fun S_12 e_12 H locs hP hS => ?_)
  have I_12 := dg_I.uFi (lo := 0) (hi := 1600) I_10 e_12 sM_0 (by decide +kernel) (show 0 ≤ (x_11).toInt ∧ (x_11).toInt ≤ 1600 from (by omega))
  have M_12 := dg_sm.uF M_10 e_12 sM_0 (by decide)
  refine W.widen (k := 0) (n := 0) (Nat.le_of_ble_eq_true rfl) (Nat.le_of_ble_eq_true rfl) ?_
  exact dg_vret hx hb hr hlocks hP hS ⟨I_12, M_12, ⟨x_11, (dg_uF_at e_12), (by omega)⟩, (QSM.add f_x_2 f_cd (by omega) (by omega) e_6 (by omega) e_10 e_12 (by omega)), (ZWM.keep (ZWM.keep ZW_6 (dg_sm.uf (WF := []) (WA := [19]) dg_sm.rf e_10 sM_19 (by decide)) (by decide) (by decide) (by decide) (by decide)) (dg_sm.uF (WF := [(0, 34)]) (WA := []) dg_sm.rf e_12 sM_0 (by decide)) (by decide) (by decide) (by decide) (by decide)), trivial⟩ dX12_add_48
set_option maxHeartbeats 8000000 in
set_option maxRecDepth 100000 in
theorem c_m_rank (l : Launch) (g : Nat → ClassId) (D : va_G) (o : Nat) (S : dg_S) (a1 : Int32) (I : CM o S) (sz : Nat) : Met l yX12_rank (bw yX12_rank cX12_rank 1 (some .int)) ({ frames := 1, cells := 0, slots := 0, locals := 32 } : Room) (dk_Pc g D (dg_w g shM o rfM S) sz [.int a1]) (va_Qi (fun (r : Int32) S' => S' = S ∧ (1 ≤ (r).toInt ∧ (r).toInt ≤ 6) ∧ ((r).toInt = dk_rk (a1).toInt) ∧ True) (dg_B g D shM o rfM) (dg_A o shM.length sz)) 0 0 (dg_A o shM.length sz) := by
  refine dg_met (cc := cX12_rank) (maxL := 1) (ret := (some .int)) (by decide) rfl (Nat.le_of_ble_eq_true rfl) ?_
  intro p e s m args below meth c A hAe harg hx hb hr hml hts hown hlocks hin hP K hS hA1 hA ST hsz ls hl
  rw [← hAe]
  have F : CallFix p m c cX12_rank 1 s args (bw yX12_rank cX12_rank 1 (some .int)) RX12 := ⟨hx, hb, hml, hown, hts⟩
  have hl : lv_has ls 1 [(0, .int a1)] := hl
  have M_0 : dg_sm shM [] [] S S := dg_sm.rf
  refine lv_iload_n hx hb dX12_rank_0 rfl (lv_at hl 0 rfl) ?_
  refine lv_bipush (v := 42) hx hb dX12_rank_1 (by decide +kernel) ?_
  refine lv_icmp_ne (tgt := 10) hx hb dX12_rank_3 (by decide) (fun c_1 => ?_) (fun c_1 => ?_)
  · have jc_1 := dk_neqc (k := 42) (by decide +kernel) c_1
    refine lv_iload_n hx hb dX12_rank_10 rfl (lv_at hl 0 rfl) ?_
    refine lv_bipush (v := 41) hx hb dX12_rank_11 (by decide +kernel) ?_
    refine lv_icmp_ne (tgt := 20) hx hb dX12_rank_13 (by decide) (fun c_2 => ?_) (fun c_2 => ?_)
    · have jc_2 := dk_neqc (k := 41) (by decide +kernel) c_2
      refine lv_iload_n hx hb dX12_rank_20 rfl (lv_at hl 0 rfl) ?_
      refine lv_bipush (v := 43) hx hb dX12_rank_21 (by decide +kernel) ?_
      refine lv_icmp_ne (tgt := 30) hx hb dX12_rank_23 (by decide) (fun c_3 => ?_) (fun c_3 => ?_)
      · have jc_3 := dk_neqc (k := 43) (by decide +kernel) c_3
        refine lv_iload_n hx hb dX12_rank_30 rfl (lv_at hl 0 rfl) ?_
        refine lv_bipush (v := 38) hx hb dX12_rank_31 (by decide +kernel) ?_
        refine lv_icmp_eq (tgt := 48) hx hb dX12_rank_33 (by decide) (fun c_4 => ?_) (fun c_4 => ?_)
        · have jc_4 := dk_eqc (k := 38) (by decide +kernel) c_4
          refine lv_iconst (v := 4) hx hb dX12_rank_48 (by decide +kernel) ?_
          refine lv_goto (tgt := 70) hx hb dX12_rank_49 (by decide) ?_
          have hz_5 : (4 : Int32).toInt = 4 := by decide +kernel
          have hz_6 : (4 : Int32).toInt = 4 := by decide +kernel
          refine W.widen (k := 0) (n := 0) (Nat.le_of_ble_eq_true rfl) (Nat.le_of_ble_eq_true rfl) ?_
          exact dg_iret hx hb hr hlocks rfl hP hS ⟨rfl, (by decide +kernel), (by have h9 := dk_rl (a1).toInt; omega), trivial⟩ dX12_rank_70
        · have jc_4 := dk_neqc (k := 38) (by decide +kernel) c_4
          refine lv_iload_n hx hb dX12_rank_36 rfl (lv_at hl 0 rfl) ?_
          refine lv_bipush (v := 39) hx hb dX12_rank_37 (by decide +kernel) ?_
          refine lv_icmp_eq (tgt := 48) hx hb dX12_rank_39 (by decide) (fun c_7 => ?_) (fun c_7 => ?_)
          · have jc_7 := dk_eqc (k := 39) (by decide +kernel) c_7
            refine lv_iconst (v := 4) hx hb dX12_rank_48 (by decide +kernel) ?_
            refine lv_goto (tgt := 70) hx hb dX12_rank_49 (by decide) ?_
            have hz_8 : (4 : Int32).toInt = 4 := by decide +kernel
            have hz_9 : (4 : Int32).toInt = 4 := by decide +kernel
            refine W.widen (k := 0) (n := 0) (Nat.le_of_ble_eq_true rfl) (Nat.le_of_ble_eq_true rfl) ?_
            exact dg_iret hx hb hr hlocks rfl hP hS ⟨rfl, (by decide +kernel), (by have h9 := dk_rl (a1).toInt; omega), trivial⟩ dX12_rank_70
          · have jc_7 := dk_neqc (k := 39) (by decide +kernel) c_7
            refine lv_iload_n hx hb dX12_rank_42 rfl (lv_at hl 0 rfl) ?_
            refine lv_bipush (v := 40) hx hb dX12_rank_43 (by decide +kernel) ?_
            refine lv_icmp_ne (tgt := 52) hx hb dX12_rank_45 (by decide) (fun c_10 => ?_) (fun c_10 => ?_)
            · have jc_10 := dk_neqc (k := 40) (by decide +kernel) c_10
              refine lv_iload_n hx hb dX12_rank_52 rfl (lv_at hl 0 rfl) ?_
              refine lv_bipush (v := 31) hx hb dX12_rank_53 (by decide +kernel) ?_
              refine lv_icmp_eq (tgt := 64) hx hb dX12_rank_55 (by decide) (fun c_11 => ?_) (fun c_11 => ?_)
              · have jc_11 := dk_eqc (k := 31) (by decide +kernel) c_11
                refine lv_iconst (v := 5) hx hb dX12_rank_64 (by decide +kernel) ?_
                refine lv_goto (tgt := 70) hx hb dX12_rank_65 (by decide) ?_
                have hz_12 : (5 : Int32).toInt = 5 := by decide +kernel
                have hz_13 : (5 : Int32).toInt = 5 := by decide +kernel
                refine W.widen (k := 0) (n := 0) (Nat.le_of_ble_eq_true rfl) (Nat.le_of_ble_eq_true rfl) ?_
                exact dg_iret hx hb hr hlocks rfl hP hS ⟨rfl, (by decide +kernel), (by have h9 := dk_rl (a1).toInt; omega), trivial⟩ dX12_rank_70
              · have jc_11 := dk_neqc (k := 31) (by decide +kernel) c_11
                refine lv_iload_n hx hb dX12_rank_58 rfl (lv_at hl 0 rfl) ?_
                refine lv_bipush (v := 32) hx hb dX12_rank_59 (by decide +kernel) ?_
                refine lv_icmp_ne (tgt := 68) hx hb dX12_rank_61 (by decide) (fun c_14 => ?_) (fun c_14 => ?_)
                · have jc_14 := dk_neqc (k := 32) (by decide +kernel) c_14
                  refine lv_bipush (v := 6) hx hb dX12_rank_68 (by decide +kernel) ?_
                  have hz_15 : (6 : Int32).toInt = 6 := by decide +kernel
                  have hz_16 : (6 : Int32).toInt = 6 := by decide +kernel
                  refine W.widen (k := 0) (n := 0) (Nat.le_of_ble_eq_true rfl) (Nat.le_of_ble_eq_true rfl) ?_
                  exact dg_iret hx hb hr hlocks rfl hP hS ⟨rfl, (by decide +kernel), (by have h9 := dk_rl (a1).toInt; omega), trivial⟩ dX12_rank_70
                · have jc_14 := dk_eqc (k := 32) (by decide +kernel) c_14
                  refine lv_iconst (v := 5) hx hb dX12_rank_64 (by decide +kernel) ?_
                  refine lv_goto (tgt := 70) hx hb dX12_rank_65 (by decide) ?_
                  have hz_17 : (5 : Int32).toInt = 5 := by decide +kernel
                  have hz_18 : (5 : Int32).toInt = 5 := by decide +kernel
                  refine W.widen (k := 0) (n := 0) (Nat.le_of_ble_eq_true rfl) (Nat.le_of_ble_eq_true rfl) ?_
                  exact dg_iret hx hb hr hlocks rfl hP hS ⟨rfl, (by decide +kernel), (by have h9 := dk_rl (a1).toInt; omega), trivial⟩ dX12_rank_70
            · have jc_10 := dk_eqc (k := 40) (by decide +kernel) c_10
              refine lv_iconst (v := 4) hx hb dX12_rank_48 (by decide +kernel) ?_
              refine lv_goto (tgt := 70) hx hb dX12_rank_49 (by decide) ?_
              have hz_19 : (4 : Int32).toInt = 4 := by decide +kernel
              have hz_20 : (4 : Int32).toInt = 4 := by decide +kernel
              refine W.widen (k := 0) (n := 0) (Nat.le_of_ble_eq_true rfl) (Nat.le_of_ble_eq_true rfl) ?_
              exact dg_iret hx hb hr hlocks rfl hP hS ⟨rfl, (by decide +kernel), (by have h9 := dk_rl (a1).toInt; omega), trivial⟩ dX12_rank_70
      · have jc_3 := dk_eqc (k := 43) (by decide +kernel) c_3
        refine lv_iconst (v := 3) hx hb dX12_rank_26 (by decide +kernel) ?_
        refine lv_goto (tgt := 70) hx hb dX12_rank_27 (by decide) ?_
        have hz_21 : (3 : Int32).toInt = 3 := by decide +kernel
        have hz_22 : (3 : Int32).toInt = 3 := by decide +kernel
        refine W.widen (k := 0) (n := 0) (Nat.le_of_ble_eq_true rfl) (Nat.le_of_ble_eq_true rfl) ?_
        exact dg_iret hx hb hr hlocks rfl hP hS ⟨rfl, (by decide +kernel), (by have h9 := dk_rl (a1).toInt; omega), trivial⟩ dX12_rank_70
    · have jc_2 := dk_eqc (k := 41) (by decide +kernel) c_2
      refine lv_iconst (v := 2) hx hb dX12_rank_16 (by decide +kernel) ?_
      refine lv_goto (tgt := 70) hx hb dX12_rank_17 (by decide) ?_
      have hz_23 : (2 : Int32).toInt = 2 := by decide +kernel
      have hz_24 : (2 : Int32).toInt = 2 := by decide +kernel
      refine W.widen (k := 0) (n := 0) (Nat.le_of_ble_eq_true rfl) (Nat.le_of_ble_eq_true rfl) ?_
      exact dg_iret hx hb hr hlocks rfl hP hS ⟨rfl, (by decide +kernel), (by have h9 := dk_rl (a1).toInt; omega), trivial⟩ dX12_rank_70
  · have jc_1 := dk_eqc (k := 42) (by decide +kernel) c_1
    refine lv_iconst (v := 1) hx hb dX12_rank_6 (by decide +kernel) ?_
    refine lv_goto (tgt := 70) hx hb dX12_rank_7 (by decide) ?_
    have hz_25 : (1 : Int32).toInt = 1 := by decide +kernel
    have hz_26 : (1 : Int32).toInt = 1 := by decide +kernel
    refine W.widen (k := 0) (n := 0) (Nat.le_of_ble_eq_true rfl) (Nat.le_of_ble_eq_true rfl) ?_
    exact dg_iret hx hb hr hlocks rfl hP hS ⟨rfl, (by decide +kernel), (by have h9 := dk_rl (a1).toInt; omega), trivial⟩ dX12_rank_70
set_option maxHeartbeats 8000000 in
set_option maxRecDepth 100000 in
theorem c_m_isTest (l : Launch) (g : Nat → ClassId) (D : va_G) (o : Nat) (S : dg_S) (a1 : Int32) (I : CM o S) (sz : Nat) : Met l yX12_isTest (bw yX12_isTest cX12_isTest 1 (some .boolean)) ({ frames := 1, cells := 0, slots := 0, locals := 32 } : Room) (dk_Pc g D (dg_w g shM o rfM S) sz [.int a1]) (va_Qi (fun (r : Int32) S' => S' = S ∧ (0 ≤ (r).toInt ∧ (r).toInt ≤ 1) ∧ ((r).toInt = 1 ↔ ((a1).toInt = 1 ∨ (a1).toInt = 5 ∨ (a1).toInt = 6)) ∧ True) (dg_B g D shM o rfM) (dg_A o shM.length sz)) 0 0 (dg_A o shM.length sz) := by
  refine dg_met (cc := cX12_isTest) (maxL := 1) (ret := (some .boolean)) (by decide) rfl (Nat.le_of_ble_eq_true rfl) ?_
  intro p e s m args below meth c A hAe harg hx hb hr hml hts hown hlocks hin hP K hS hA1 hA ST hsz ls hl
  rw [← hAe]
  have F : CallFix p m c cX12_isTest 1 s args (bw yX12_isTest cX12_isTest 1 (some .boolean)) RX12 := ⟨hx, hb, hml, hown, hts⟩
  have hl : lv_has ls 1 [(0, .int a1)] := hl
  have M_0 : dg_sm shM [] [] S S := dg_sm.rf
  refine lv_iload_n hx hb dX12_isTest_0 rfl (lv_at hl 0 rfl) ?_
  refine lv_iconst (v := 1) hx hb dX12_isTest_1 (by decide +kernel) ?_
  refine lv_icmp_eq (tgt := 16) hx hb dX12_isTest_2 (by decide) (fun c_1 => ?_) (fun c_1 => ?_)
  · have jc_1 := dk_eqc (k := 1) (by decide +kernel) c_1
    refine lv_iconst (v := 1) hx hb dX12_isTest_16 (by decide +kernel) ?_
    refine lv_goto (tgt := 21) hx hb dX12_isTest_17 (by decide) ?_
    have hz_2 : (1 : Int32).toInt = 1 := by decide +kernel
    have hz_3 : (1 : Int32).toInt = 1 := by decide +kernel
    refine W.widen (k := 0) (n := 0) (Nat.le_of_ble_eq_true rfl) (Nat.le_of_ble_eq_true rfl) ?_
    exact dg_iret hx hb hr hlocks (by decide +kernel) hP hS ⟨rfl, (by decide +kernel), (by omega), trivial⟩ dX12_isTest_21
  · have jc_1 := dk_neqc (k := 1) (by decide +kernel) c_1
    refine lv_iload_n hx hb dX12_isTest_5 rfl (lv_at hl 0 rfl) ?_
    refine lv_iconst (v := 5) hx hb dX12_isTest_6 (by decide +kernel) ?_
    refine lv_icmp_eq (tgt := 16) hx hb dX12_isTest_7 (by decide) (fun c_4 => ?_) (fun c_4 => ?_)
    · have jc_4 := dk_eqc (k := 5) (by decide +kernel) c_4
      refine lv_iconst (v := 1) hx hb dX12_isTest_16 (by decide +kernel) ?_
      refine lv_goto (tgt := 21) hx hb dX12_isTest_17 (by decide) ?_
      have hz_5 : (1 : Int32).toInt = 1 := by decide +kernel
      have hz_6 : (1 : Int32).toInt = 1 := by decide +kernel
      refine W.widen (k := 0) (n := 0) (Nat.le_of_ble_eq_true rfl) (Nat.le_of_ble_eq_true rfl) ?_
      exact dg_iret hx hb hr hlocks (by decide +kernel) hP hS ⟨rfl, (by decide +kernel), (by omega), trivial⟩ dX12_isTest_21
    · have jc_4 := dk_neqc (k := 5) (by decide +kernel) c_4
      refine lv_iload_n hx hb dX12_isTest_10 rfl (lv_at hl 0 rfl) ?_
      refine lv_bipush (v := 6) hx hb dX12_isTest_11 (by decide +kernel) ?_
      refine lv_icmp_ne (tgt := 20) hx hb dX12_isTest_13 (by decide) (fun c_7 => ?_) (fun c_7 => ?_)
      · have jc_7 := dk_neqc (k := 6) (by decide +kernel) c_7
        refine lv_iconst (v := 0) hx hb dX12_isTest_20 (by decide +kernel) ?_
        have hz_8 : (0 : Int32).toInt = 0 := by decide +kernel
        have hz_9 : (0 : Int32).toInt = 0 := by decide +kernel
        refine W.widen (k := 0) (n := 0) (Nat.le_of_ble_eq_true rfl) (Nat.le_of_ble_eq_true rfl) ?_
        exact dg_iret hx hb hr hlocks (by decide +kernel) hP hS ⟨rfl, (by decide +kernel), (by omega), trivial⟩ dX12_isTest_21
      · have jc_7 := dk_eqc (k := 6) (by decide +kernel) c_7
        refine lv_iconst (v := 1) hx hb dX12_isTest_16 (by decide +kernel) ?_
        refine lv_goto (tgt := 21) hx hb dX12_isTest_17 (by decide) ?_
        have hz_10 : (1 : Int32).toInt = 1 := by decide +kernel
        have hz_11 : (1 : Int32).toInt = 1 := by decide +kernel
        refine W.widen (k := 0) (n := 0) (Nat.le_of_ble_eq_true rfl) (Nat.le_of_ble_eq_true rfl) ?_
        exact dg_iret hx hb hr hlocks (by decide +kernel) hP hS ⟨rfl, (by decide +kernel), (by omega), trivial⟩ dX12_isTest_21
set_option maxHeartbeats 8000000 in
set_option maxRecDepth 100000 in
theorem c_m_joins (l : Launch) (g : Nat → ClassId) (D : va_G) (o : Nat) (S : dg_S) (a1 : Int32) (b_a1 : 1 ≤ (a1).toInt ∧ (a1).toInt ≤ 6) (cd : Int32) (f_cd : S.1 0 34 = .int cd) (b_cd : 0 ≤ (cd).toInt ∧ (cd).toInt ≤ 1600) (om : Int32) (f_om : S.1 0 45 = .int om) (b_om : 0 ≤ (om).toInt ∧ (om).toInt ≤ 500) (hro : (cd).toInt + (om).toInt ≤ 1600) (ZW : ZWM S) (ZK : ZKM S) (P1 : P1M S) (I : CM o S) (sz : Nat) : Met l yX12_joins (bw yX12_joins cX12_joins 2 none) ({ frames := 2, cells := 0, slots := 0, locals := 54 } : Room) (dk_Pc g D (dg_w g shM o rfM S) sz [.ref (o + 0), .int a1]) (va_Qv (fun S' => CM o S' ∧ dg_sm shM [(0, 34), (0, 43), (0, 45)] [18, 19] S S' ∧ (∃ y9_34 y9_45 : Int32, S'.1 0 34 = .int y9_34 ∧ S'.1 0 45 = .int y9_45 ∧ ((y9_34).toInt + (y9_45).toInt = (cd).toInt + (om).toInt)) ∧ (TOPM S' a1) ∧ ZWM S' ∧ P1M S' ∧ True) (dg_B g D shM o rfM) (dg_A o shM.length sz)) 0 0 (dg_A o shM.length sz) := by
  refine dg_met (cc := cX12_joins) (maxL := 2) (ret := none) (by decide) rfl (Nat.le_of_ble_eq_true rfl) ?_
  intro p e s m args below meth c A hAe harg hx hb hr hml hts hown hlocks hin hP K hS hA1 hA ST hsz ls hl
  rw [← hAe]
  have F : CallFix p m c cX12_joins 2 s args (bw yX12_joins cX12_joins 2 none) RX12 := ⟨hx, hb, hml, hown, hts⟩
  have hl : lv_has ls 2 [(0, .ref (o + 0)), (1, .int a1)] := hl
  have M_0 : dg_sm shM [(0, 34), (0, 43), (0, 45)] [18, 19] S S := dg_sm.rf
  have L_57 : ∀ (n : Nat) (x_54 : Int32) (x_55 : Int32), (0 ≤ (x_54).toInt ∧ (x_54).toInt ≤ 1600) → (0 ≤ (x_55).toInt ∧ (x_55).toInt ≤ 500) → (((x_55).toInt).toNat < n) → ∀ S_56 : dg_S, CM o S_56 → dg_sm shM [(0, 34), (0, 43), (0, 45)] [18, 19] S S_56 → S_56.1 0 34 = .int x_54 → S_56.1 0 45 = .int x_55 → ZWM S_56 → P1M S_56 → ((x_54).toInt + (x_55).toInt = (cd).toInt + (om).toInt) → ∀ (H : Heap) (locs : List Loc), va_P D vwCl (dg_w g shM o rfM S_56) H → va_S A s.heap H locs → ∀ ls : Array Slot, lv_has ls 2 [(0, .ref (o + 0)), (1, .int a1)] → W p l e ({ frames := 2, cells := 0, slots := 0, locals := 54 } : Room) s m args below meth c H locs 0 0 (MQ below (va_Qv (fun S' => CM o S' ∧ dg_sm shM [(0, 34), (0, 43), (0, 45)] [18, 19] S S' ∧ (∃ y9_34 y9_45 : Int32, S'.1 0 34 = .int y9_34 ∧ S'.1 0 45 = .int y9_45 ∧ ((y9_34).toInt + (y9_45).toInt = (cd).toInt + (om).toInt)) ∧ (TOPM S' a1) ∧ ZWM S' ∧ P1M S' ∧ True) (dg_B g D shM o rfM) A) args s 0 0 A) (F0 m 0 ls []) := by
    intro n
    induction n with
    | zero =>
      intro x_54 x_55 b_x_54 b_x_55 hmu S_56 I_56 M_56 ff_56_34_0 ff_56_45_0 ZW_56 P1_56 srel_56_0 H locs hP hS ls hl
      omega
    | succ n ih =>
      intro x_54 x_55 b_x_54 b_x_55 hmu S_56 I_56 M_56 ff_56_34_0 ff_56_45_0 ZW_56 P1_56 srel_56_0 H locs hP hS ls hl
      obtain ⟨x_58, f_x_58, b_x_58⟩ := dg_I.int (i := 0) (k := 42) (lo := 0) (hi := 20) I sM_0 (by decide +kernel)
      obtain ⟨x_59, f_x_59, b_x_59⟩ := dg_I.int (i := 0) (k := 43) (lo := (-2147483648)) (hi := 2147483647) I_56 sM_0 (by decide +kernel)
      have hdm_59 := PSM.dims P1_56 ((M_56.1 0 42 _ sM_0 (by decide)).trans f_x_58) f_x_59 ff_56_45_0
      refine lv_aload_n hx hb dX12_joins_0 rfl (lv_at hl 0 rfl) ?_
      refine dg_get (C := RX12) (T := TX12) (N := 77) hx hb hts (fun w h => bw_mem (wU_X12 w h)) hown K hP sM_0 rfl 45 (by decide) (hts _ (bw_mem wB_1177)) (fun _ h9 => h9) (v := .int x_55) ff_56_45_0 dX12_joins_1 ?_
      refine lv_aload_n hx hb dX12_joins_4 rfl (lv_at hl 0 rfl) ?_
      refine dg_get (C := RX12) (T := TX12) (N := 77) hx hb hts (fun w h => bw_mem (wU_X12 w h)) hown K hP sM_0 rfl 41 (by decide) (hts _ (bw_mem wB_1178)) (fun _ h9 => h9) (v := .ref (o + 26)) (show S_56.1 0 41 = .ref (o + 26) from dg_I.rel (d := 26) I_56 sM_0 (by decide +kernel)) dX12_joins_5 ?_
      refine lv_aload_n hx hb dX12_joins_8 rfl (lv_at hl 0 rfl) ?_
      refine dg_get (C := RX12) (T := TX12) (N := 77) hx hb hts (fun w h => bw_mem (wU_X12 w h)) hown K hP sM_0 rfl 42 (by decide) (hts _ (bw_mem wB_1179)) (fun _ h9 => h9) (v := .int x_58) ((M_56.1 0 42 _ sM_0 (by decide)).trans f_x_58) dX12_joins_9 ?_
      refine lv_iconst (v := 1) hx hb dX12_joins_12 (by decide +kernel) ?_
      refine lv_isub hx hb dX12_joins_13 ?_
      refine lv_topi (fun x_61 ex_61 => ?_)
      have jx_61 : (x_61).toInt = (x_58).toInt - 1 := by rw [ex_61]; exact dk_subT rfl (by decide +kernel) (by omega) (by omega)
      have hin_62 : vp_in x_61 20 := (dk_inv (by omega) (by omega))
      refine dg_iald hx hb K hP sM_26 hin_62 dX12_joins_14 (fun x_63 ex_63 => ?_)
      have b_x_63 := dk_all_at (dg_I.row (lo := 0) (hi := 500) I_56 sM_26 (by decide +kernel)) hin_62 ex_63
      have hbt_x_63 : S_56.2.1 26 (x_61 : Int32).toNatClampNeg = x_63 := ex_63.symm
      refine lv_icmp_le (tgt := 87) hx hb dX12_joins_15 (by decide) (fun c_64 => ?_) (fun c_64 => ?_)
      · have jc_64 := dk_lec (k := (x_63).toInt) rfl c_64
        refine W.widen (k := 0) (n := 0) (Nat.le_of_ble_eq_true rfl) (Nat.le_of_ble_eq_true rfl) ?_
        exact dg_vret hx hb hr hlocks hP hS ⟨I_56, M_56, ⟨x_54, x_55, ff_56_34_0, ff_56_45_0, (by omega)⟩, (TOPM.l (fx := x_61) ((M_56.1 0 42 _ sM_0 (by decide)).trans f_x_58) ff_56_45_0 P1_56 f_x_59 (by omega) hbt_x_63 (by omega)), ZW_56, P1_56, trivial⟩ dX12_joins_87
      · have jc_64 := dk_nlec (k := (x_63).toInt) rfl c_64
        refine lv_aload_n hx hb dX12_joins_18 rfl (lv_at hl 0 rfl) ?_
        refine dg_get (C := RX12) (T := TX12) (N := 77) hx hb hts (fun w h => bw_mem (wU_X12 w h)) hown K hP sM_0 rfl 44 (by decide) (hts _ (bw_mem wB_1180)) (fun _ h9 => h9) (v := .ref (o + 27)) (show S_56.1 0 44 = .ref (o + 27) from dg_I.rel (d := 27) I_56 sM_0 (by decide +kernel)) dX12_joins_19 ?_
        refine lv_aload_n hx hb dX12_joins_22 rfl (lv_at hl 0 rfl) ?_
        refine dg_get (C := RX12) (T := TX12) (N := 77) hx hb hts (fun w h => bw_mem (wU_X12 w h)) hown K hP sM_0 rfl 45 (by decide) (hts _ (bw_mem wB_1177)) (fun _ h9 => h9) (v := .int x_55) ff_56_45_0 dX12_joins_23 ?_
        refine lv_iconst (v := 1) hx hb dX12_joins_26 (by decide +kernel) ?_
        refine lv_isub hx hb dX12_joins_27 ?_
        refine lv_topi (fun x_65 ex_65 => ?_)
        have jx_65 : (x_65).toInt = (x_55).toInt - 1 := by rw [ex_65]; exact dk_subT rfl (by decide +kernel) (by omega) (by omega)
        have hin_66 : vp_in x_65 500 := (dk_inv (by omega) (by omega))
        refine dg_iald hx hb K hP sM_27 hin_66 dX12_joins_28 (fun x_67 ex_67 => ?_)
        have htt_x_67 : S_56.2.1 27 (x_65 : Int32).toNatClampNeg = x_67 := ex_67.symm
        refine dg_calli hS hA1 hA (va_runS (As := [.int x_67]) (rest := []) F (c_m_rank l g D o S_56 x_67 I_56 H.size) (va_cwS 1 hts (bw_S wB_1182 wB_1183 wB_857 wB_1181) rfl rfl rfl (by decide +kernel) ⟨Nat.le_of_ble_eq_true rfl, Nat.le_of_ble_eq_true rfl⟩) (dg_preS K ST hP hS hA1 hA) rfl rfl hl.1 rfl (lv_room (Nat.le_of_ble_eq_true rfl)) dX12_joins_29 ⟨Nat.le_of_ble_eq_true rfl, Nat.le_of_ble_eq_true rfl⟩) (fun x_68 S_69 hw_69 H locs hP hS => ?_)
        rw [hw_69.1] at hP
        obtain ⟨hq_69, w_69_0, w_69_1, -⟩ := hw_69
        have w_69_0 : 1 ≤ (x_68).toInt ∧ (x_68).toInt ≤ 6 := w_69_0
        have w_69_1 : (x_68).toInt = dk_rk (x_67).toInt := w_69_1
        refine lv_iload_n hx hb dX12_joins_32 rfl (lv_at hl 1 rfl) ?_
        refine lv_icmp_lt (tgt := 87) hx hb dX12_joins_33 (by decide) (fun c_70 => ?_) (fun c_70 => ?_)
        · have jc_70 := dk_ltc (k := (a1).toInt) rfl c_70
          refine W.widen (k := 0) (n := 0) (Nat.le_of_ble_eq_true rfl) (Nat.le_of_ble_eq_true rfl) ?_
          exact dg_vret hx hb hr hlocks hP hS ⟨I_56, M_56, ⟨x_54, x_55, ff_56_34_0, ff_56_45_0, (by omega)⟩, (TOPM.r ((M_56.1 0 42 _ sM_0 (by decide)).trans f_x_58) ff_56_45_0 (g := x_65) (by omega) htt_x_67 (by omega)), ZW_56, P1_56, trivial⟩ dX12_joins_87
        · have jc_70 := dk_nltc (k := (a1).toInt) rfl c_70
          refine lv_aload_n hx hb dX12_joins_36 rfl (lv_at hl 0 rfl) ?_
          refine lv_dup hx hb dX12_joins_37 rfl ?_
          refine dg_get (C := RX12) (T := TX12) (N := 77) hx hb hts (fun w h => bw_mem (wU_X12 w h)) hown K hP sM_0 rfl 45 (by decide) (hts _ (bw_mem wB_1177)) (fun _ h9 => h9) (v := .int x_55) ff_56_45_0 dX12_joins_38 ?_
          refine lv_iconst (v := 1) hx hb dX12_joins_41 (by decide +kernel) ?_
          refine lv_isub hx hb dX12_joins_42 ?_
          refine lv_topi (fun x_71 ex_71 => ?_)
          have jx_71 : (x_71).toInt = (x_55).toInt - 1 := by rw [ex_71]; exact dk_subT rfl (by decide +kernel) (by omega) (by omega)
          refine dg_put (ci := 12) (v := .int x_71) (ty := tyX12 45) (C := RX12) (T := TX12) (N := 77) hx hb hts (fun w h => bw_mem (wU_X12 w h)) tyX12 tyX12_ok nmX12 hown K hP hS hA1 sM_0 rfl 45 (by decide) (hts _ (bw_mem wB_1177)) (fun _ h9 => h9) rfl (by decide +kernel) rfl rfl dX12_joins_43 (fun S_72 e_72 H locs hP hS => ?_)
          have I_72 := dg_I.uFi (lo := 0) (hi := 500) I_56 e_72 sM_0 (by decide +kernel) (show 0 ≤ (x_71).toInt ∧ (x_71).toInt ≤ 500 from (by omega))
          have M_72 := dg_sm.uF M_56 e_72 sM_0 (by decide)
          refine lv_aload_n hx hb dX12_joins_46 rfl (lv_at hl 0 rfl) ?_
          refine lv_aload_n hx hb dX12_joins_47 rfl (lv_at hl 0 rfl) ?_
          refine dg_get (C := RX12) (T := TX12) (N := 77) hx hb hts (fun w h => bw_mem (wU_X12 w h)) hown K hP sM_0 rfl 44 (by decide) (hts _ (bw_mem wB_1180)) (fun _ h9 => h9) (v := .ref (o + 27)) (show S_72.1 0 44 = .ref (o + 27) from dg_I.rel (d := 27) I_72 sM_0 (by decide +kernel)) dX12_joins_48 ?_
          refine lv_aload_n hx hb dX12_joins_51 rfl (lv_at hl 0 rfl) ?_
          refine dg_get (C := RX12) (T := TX12) (N := 77) hx hb hts (fun w h => bw_mem (wU_X12 w h)) hown K hP sM_0 rfl 45 (by decide) (hts _ (bw_mem wB_1177)) (fun _ h9 => h9) (v := .int x_71) (dg_uF_at e_72) dX12_joins_52 ?_
          have hin_73 : vp_in x_71 500 := (dk_inv (by omega) (by omega))
          refine dg_iald hx hb K hP sM_27 hin_73 dX12_joins_55 (fun x_74 ex_74 => ?_)
          have hvt_x_74 : S_56.2.1 27 (x_71 : Int32).toNatClampNeg = x_74 := by rw [ex_74, ((dg_uF_f e_72 27))]
          have hov_x_74 := P1M.opv (fy := x_58) P1_56 ((M_56.1 0 42 _ sM_0 (by decide)).trans f_x_58) f_x_59 ff_56_45_0 (fx := x_61) (by omega) hbt_x_63 (by omega) (om1 := x_71) (by omega) hvt_x_74
          refine lv_iconst (v := 0) hx hb dX12_joins_56 (by decide +kernel) ?_
          refine dg_callv hS hA1 hA (va_runV (As := [.int x_74, .int 0]) (rest := []) F (c_m_add l g D o S_72 x_74 (by omega) 0 x_54 ((dg_uF_ne e_72 (fun z => absurd z.2 (by decide))).trans ff_56_34_0) (by omega) (ZWM.keep ZW_56 (dg_sm.uF (WF := [(0, 45)]) (WA := []) dg_sm.rf e_72 sM_0 (by decide)) (by decide) (by decide) (by decide) (by decide)) (ZKM.keep (ZKM.keep ZK M_56 (by decide) (by decide)) (dg_sm.uF (WF := [(0, 45)]) (WA := []) dg_sm.rf e_72 sM_0 (by decide)) (by decide) (by decide)) I_72 H.size) (cwV 2 hts (bw_V wB_1185 wB_1186 wB_1187 wB_857 wB_1184) rfl rfl rfl (by decide +kernel) ⟨Nat.le_of_ble_eq_true rfl, Nat.le_of_ble_eq_true rfl⟩) (dg_preV sM_0 rfl K ST hP hS hA1 hA) rfl rfl hl.1 rfl (lv_room (Nat.le_of_ble_eq_true rfl)) dX12_joins_57 ⟨Nat.le_of_ble_eq_true rfl, Nat.le_of_ble_eq_true rfl⟩) (fun S_75 hw_75 H locs hP hS => ?_)
          obtain ⟨I_75, m_75, w_75_0, w_75_1, w_75_2, -⟩ := hw_75
          have M_75 := dg_sm.tr M_72 m_75 (by decide) (by decide)
          have hz_76 : (0 : Int32).toInt = 0 := by decide +kernel
          obtain ⟨y_77, f_y_77, w_75_0⟩ := w_75_0
          have w_75_0 : (y_77).toInt = (x_54).toInt + 1 := w_75_0
          have b_y_77 : 0 ≤ (y_77).toInt ∧ (y_77).toInt ≤ 1600 := dg_I.intb (lo := 0) (hi := 1600) I_75 sM_0 (by decide +kernel) f_y_77
          have w_75_1 : ADM S_72 S_75 x_74 := w_75_1
          refine lv_aload_n hx hb dX12_joins_60 rfl (lv_at hl 0 rfl) ?_
          refine dg_get (C := RX12) (T := TX12) (N := 77) hx hb hts (fun w h => bw_mem (wU_X12 w h)) hown K hP sM_0 rfl 44 (by decide) (hts _ (bw_mem wB_1180)) (fun _ h9 => h9) (v := .ref (o + 27)) (show S_75.1 0 44 = .ref (o + 27) from dg_I.rel (d := 27) I_75 sM_0 (by decide +kernel)) dX12_joins_61 ?_
          refine lv_aload_n hx hb dX12_joins_64 rfl (lv_at hl 0 rfl) ?_
          refine dg_get (C := RX12) (T := TX12) (N := 77) hx hb hts (fun w h => bw_mem (wU_X12 w h)) hown K hP sM_0 rfl 45 (by decide) (hts _ (bw_mem wB_1177)) (fun _ h9 => h9) (v := .int x_71) ((m_75.1 0 45 _ sM_0 (by decide)).trans (dg_uF_at e_72)) dX12_joins_65 ?_
          have hin_78 : vp_in x_71 500 := (dk_inv (by omega) (by omega))
          refine dg_iald hx hb K hP sM_27 hin_78 dX12_joins_68 (fun y_79 ey_79 => ?_)
          obtain rfl : x_74 = y_79 := ((ey_79.trans (congrFun (m_75.2 27 _ sM_27 (by decide)).1 _)).trans ex_74.symm).symm
          refine lv_bipush (v := 43) hx hb dX12_joins_69 (by decide +kernel) ?_
          refine lv_icmp_ne (tgt := 0) hx hb dX12_joins_71 (by decide) (fun c_80 => ?_) (fun c_80 => ?_)
          · have jc_80 := dk_neqc (k := 43) (by decide +kernel) c_80
            exact ih y_77 x_71 (by omega) (by omega) (by omega) S_75 I_75 M_75 f_y_77 ((m_75.1 0 45 _ sM_0 (by decide)).trans (dg_uF_at e_72)) w_75_2 (P1M.popb P1_56 ((M_56.1 0 42 _ sM_0 (by decide)).trans f_x_58) f_x_59 ff_56_45_0 (fx := x_61) (by omega) hbt_x_63 (by omega) e_72 (by omega) hvt_x_74 m_75 w_75_1 (by omega)) (by omega) _ _ hP hS _ (lv_sub hl [0, 1] rfl)
          · have jc_80 := dk_eqc (k := 43) (by decide +kernel) c_80
            refine lv_aload_n hx hb dX12_joins_74 rfl (lv_at hl 0 rfl) ?_
            refine lv_dup hx hb dX12_joins_75 rfl ?_
            refine dg_get (C := RX12) (T := TX12) (N := 77) hx hb hts (fun w h => bw_mem (wU_X12 w h)) hown K hP sM_0 rfl 43 (by decide) (hts _ (bw_mem wB_1188)) (fun _ h9 => h9) (v := .int x_59) (((m_75.1 0 43 _ sM_0 (by decide)).trans (dg_uF_ne e_72 (fun z => absurd z.2 (by decide)))).trans f_x_59) dX12_joins_76 ?_
            refine lv_iconst (v := 1) hx hb dX12_joins_79 (by decide +kernel) ?_
            refine lv_isub hx hb dX12_joins_80 ?_
            refine lv_topi (fun x_81 ex_81 => ?_)
            refine dg_put (ci := 12) (v := .int x_81) (ty := tyX12 43) (C := RX12) (T := TX12) (N := 77) hx hb hts (fun w h => bw_mem (wU_X12 w h)) tyX12 tyX12_ok nmX12 hown K hP hS hA1 sM_0 rfl 43 (by decide) (hts _ (bw_mem wB_1188)) (fun _ h9 => h9) rfl (by decide +kernel) rfl rfl dX12_joins_81 (fun S_82 e_82 H locs hP hS => ?_)
            have I_82 := dg_I.uFi (lo := (-2147483648)) (hi := 2147483647) I_75 e_82 sM_0 (by decide +kernel) (show (-2147483648) ≤ (x_81).toInt ∧ (x_81).toInt ≤ 2147483647 from (dk_full _))
            have M_82 := dg_sm.uF M_75 e_82 sM_0 (by decide)
            refine lv_goto (tgt := 0) hx hb dX12_joins_84 (by decide) ?_
            exact ih y_77 x_71 (by omega) (by omega) (by omega) S_82 I_82 M_82 ((dg_uF_ne e_82 (fun z => absurd z.2 (by decide))).trans f_y_77) (((dg_uF_ne e_82 (fun z => absurd z.2 (by decide))).trans (m_75.1 0 45 _ sM_0 (by decide))).trans (dg_uF_at e_72)) (ZWM.keep w_75_2 (dg_sm.uF (WF := [(0, 43)]) (WA := []) dg_sm.rf e_82 sM_0 (by decide)) (by decide) (by decide) (by decide) (by decide)) (P1M.popn P1_56 ((M_56.1 0 42 _ sM_0 (by decide)).trans f_x_58) f_x_59 ff_56_45_0 (fx := x_61) (by omega) hbt_x_63 (by omega) e_72 (by omega) hvt_x_74 m_75 w_75_1 (by omega) e_82 (by omega)) (by omega) _ _ hP hS _ (lv_sub hl [0, 1] rfl)
  exact L_57 ((((om : Int32)).toInt).toNat + 1) cd om (by omega) (by omega) (by omega) S I M_0 f_cd f_om ZW P1 (by omega) _ _ hP hS _ (lv_sub hl [0, 1] rfl)
set_option maxHeartbeats 8000000 in
set_option maxRecDepth 100000 in
theorem c_m_holdsBack (l : Launch) (g : Nat → ClassId) (D : va_G) (o : Nat) (S : dg_S) (a1 : Int32) (om : Int32) (f_om : S.1 0 45 = .int om) (b_om : 0 ≤ (om).toInt ∧ (om).toInt ≤ 499) (I : CM o S) (sz : Nat) : Met l yX12_holdsBack (bw yX12_holdsBack cX12_holdsBack 2 none) ({ frames := 1, cells := 0, slots := 0, locals := 32 } : Room) (dk_Pc g D (dg_w g shM o rfM S) sz [.ref (o + 0), .int a1]) (va_Qv (fun S' => CM o S' ∧ dg_sm shM [(0, 45)] [27] S S' ∧ (∃ y9 : Int32, S'.1 0 45 = .int y9 ∧ ((y9).toInt = (om).toInt + 1)) ∧ (HBM S S' a1) ∧ True) (dg_B g D shM o rfM) (dg_A o shM.length sz)) 0 0 (dg_A o shM.length sz) := by
  refine dg_met (cc := cX12_holdsBack) (maxL := 2) (ret := none) (by decide) rfl (Nat.le_of_ble_eq_true rfl) ?_
  intro p e s m args below meth c A hAe harg hx hb hr hml hts hown hlocks hin hP K hS hA1 hA ST hsz ls hl
  rw [← hAe]
  have F : CallFix p m c cX12_holdsBack 2 s args (bw yX12_holdsBack cX12_holdsBack 2 none) RX12 := ⟨hx, hb, hml, hown, hts⟩
  have hl : lv_has ls 2 [(0, .ref (o + 0)), (1, .int a1)] := hl
  have M_0 : dg_sm shM [(0, 45)] [27] S S := dg_sm.rf
  refine lv_aload_n hx hb dX12_holdsBack_0 rfl (lv_at hl 0 rfl) ?_
  refine dg_get (C := RX12) (T := TX12) (N := 77) hx hb hts (fun w h => bw_mem (wU_X12 w h)) hown K hP sM_0 rfl 44 (by decide) (hts _ (bw_mem wB_1180)) (fun _ h9 => h9) (v := .ref (o + 27)) (show S.1 0 44 = .ref (o + 27) from dg_I.rel (d := 27) I sM_0 (by decide +kernel)) dX12_holdsBack_1 ?_
  refine lv_aload_n hx hb dX12_holdsBack_4 rfl (lv_at hl 0 rfl) ?_
  refine dg_get (C := RX12) (T := TX12) (N := 77) hx hb hts (fun w h => bw_mem (wU_X12 w h)) hown K hP sM_0 rfl 45 (by decide) (hts _ (bw_mem wB_1177)) (fun _ h9 => h9) (v := .int om) f_om dX12_holdsBack_5 ?_
  refine lv_iload_n hx hb dX12_holdsBack_8 rfl (lv_at hl 1 rfl) ?_
  have hin_1 : vp_in om 500 := (dk_inv (by omega) (by omega))
  refine dg_iast hx hb K hP hS hA1 sM_27 hin_1 dX12_holdsBack_9 (fun S_2 e_2 H locs hP hS => ?_)
  have I_2 := dg_I.uf0 I e_2 sM_27 (by decide +kernel)
  have M_2 := dg_sm.uf M_0 e_2 sM_27 (by decide)
  refine lv_aload_n hx hb dX12_holdsBack_10 rfl (lv_at hl 0 rfl) ?_
  refine lv_dup hx hb dX12_holdsBack_11 rfl ?_
  refine dg_get (C := RX12) (T := TX12) (N := 77) hx hb hts (fun w h => bw_mem (wU_X12 w h)) hown K hP sM_0 rfl 45 (by decide) (hts _ (bw_mem wB_1177)) (fun _ h9 => h9) (v := .int om) ((dg_uf_F e_2 0 45).trans f_om) dX12_holdsBack_12 ?_
  refine lv_iconst (v := 1) hx hb dX12_holdsBack_15 (by decide +kernel) ?_
  refine lv_iadd hx hb dX12_holdsBack_16 ?_
  refine lv_topi (fun x_3 ex_3 => ?_)
  have jx_3 : (x_3).toInt = (om).toInt + 1 := by rw [ex_3]; exact dk_addT rfl (by decide +kernel) (by omega) (by omega)
  refine dg_put (ci := 12) (v := .int x_3) (ty := tyX12 45) (C := RX12) (T := TX12) (N := 77) hx hb hts (fun w h => bw_mem (wU_X12 w h)) tyX12 tyX12_ok nmX12 hown K hP hS hA1 sM_0 rfl 45 (by decide) (hts _ (bw_mem wB_1177)) (fun _ h9 => h9) rfl (by decide +kernel) rfl rfl dX12_holdsBack_17 (fun S_4 e_4 H locs hP hS => ?_)
  have I_4 := dg_I.uFi (lo := 0) (hi := 500) I_2 e_4 sM_0 (by decide +kernel) (show 0 ≤ (x_3).toInt ∧ (x_3).toInt ≤ 500 from (by omega))
  have M_4 := dg_sm.uF M_2 e_4 sM_0 (by decide)
  refine W.widen (k := 0) (n := 0) (Nat.le_of_ble_eq_true rfl) (Nat.le_of_ble_eq_true rfl) ?_
  exact dg_vret hx hb hr hlocks hP hS ⟨I_4, M_4, ⟨x_3, (dg_uF_at e_4), (by omega)⟩, (HBM.mk f_om e_2 e_4 (by omega)), trivial⟩ dX12_holdsBack_20
set_option maxHeartbeats 8000000 in
set_option maxRecDepth 100000 in
theorem c_m_pushes (l : Launch) (g : Nat → ClassId) (D : va_G) (o : Nat) (S : dg_S) (a1 : Int32) (b_a1 : 0 ≤ (a1).toInt ∧ (a1).toInt ≤ 6) (dp : Int32) (f_dp : S.1 0 42 = .int dp) (b_dp : 0 ≤ (dp).toInt ∧ (dp).toInt ≤ 19) (om : Int32) (f_om : S.1 0 45 = .int om) (b_om : 0 ≤ (om).toInt ∧ (om).toInt ≤ 500) (I : CM o S) (sz : Nat) : Met l yX12_pushes (bw yX12_pushes cX12_pushes 2 none) ({ frames := 1, cells := 0, slots := 0, locals := 32 } : Room) (dk_Pc g D (dg_w g shM o rfM S) sz [.ref (o + 0), .int a1]) (va_Qv (fun S' => CM o S' ∧ dg_sm shM [(0, 42)] [22, 23, 24, 26] S S' ∧ (∃ y9 : Int32, S'.1 0 42 = .int y9 ∧ ((y9).toInt = (dp).toInt + 1)) ∧ (PUM S S' a1) ∧ True) (dg_B g D shM o rfM) (dg_A o shM.length sz)) 0 0 (dg_A o shM.length sz) := by
  refine dg_met (cc := cX12_pushes) (maxL := 2) (ret := none) (by decide) rfl (Nat.le_of_ble_eq_true rfl) ?_
  intro p e s m args below meth c A hAe harg hx hb hr hml hts hown hlocks hin hP K hS hA1 hA ST hsz ls hl
  rw [← hAe]
  have F : CallFix p m c cX12_pushes 2 s args (bw yX12_pushes cX12_pushes 2 none) RX12 := ⟨hx, hb, hml, hown, hts⟩
  have hl : lv_has ls 2 [(0, .ref (o + 0)), (1, .int a1)] := hl
  have M_0 : dg_sm shM [(0, 42)] [22, 23, 24, 26] S S := dg_sm.rf
  refine lv_aload_n hx hb dX12_pushes_0 rfl (lv_at hl 0 rfl) ?_
  refine dg_get (C := RX12) (T := TX12) (N := 77) hx hb hts (fun w h => bw_mem (wU_X12 w h)) hown K hP sM_0 rfl 37 (by decide) (hts _ (bw_mem wB_1189)) (fun _ h9 => h9) (v := .ref (o + 22)) (show S.1 0 37 = .ref (o + 22) from dg_I.rel (d := 22) I sM_0 (by decide +kernel)) dX12_pushes_1 ?_
  refine lv_aload_n hx hb dX12_pushes_4 rfl (lv_at hl 0 rfl) ?_
  refine dg_get (C := RX12) (T := TX12) (N := 77) hx hb hts (fun w h => bw_mem (wU_X12 w h)) hown K hP sM_0 rfl 42 (by decide) (hts _ (bw_mem wB_1179)) (fun _ h9 => h9) (v := .int dp) f_dp dX12_pushes_5 ?_
  refine lv_iload_n hx hb dX12_pushes_8 rfl (lv_at hl 1 rfl) ?_
  have hin_1 : vp_in dp 20 := (dk_inv (by omega) (by omega))
  refine dg_iast hx hb K hP hS hA1 sM_22 hin_1 dX12_pushes_9 (fun S_2 e_2 H locs hP hS => ?_)
  have I_2 := dg_I.ufu (lo := 0) (hi := 6) I e_2 sM_22 (by decide +kernel) (show 0 ≤ (a1).toInt ∧ (a1).toInt ≤ 6 from (by omega))
  have M_2 := dg_sm.uf M_0 e_2 sM_22 (by decide)
  refine lv_aload_n hx hb dX12_pushes_10 rfl (lv_at hl 0 rfl) ?_
  refine dg_get (C := RX12) (T := TX12) (N := 77) hx hb hts (fun w h => bw_mem (wU_X12 w h)) hown K hP sM_0 rfl 38 (by decide) (hts _ (bw_mem wB_1190)) (fun _ h9 => h9) (v := .ref (o + 23)) (show S_2.1 0 38 = .ref (o + 23) from dg_I.rel (d := 23) I_2 sM_0 (by decide +kernel)) dX12_pushes_11 ?_
  refine lv_aload_n hx hb dX12_pushes_14 rfl (lv_at hl 0 rfl) ?_
  refine dg_get (C := RX12) (T := TX12) (N := 77) hx hb hts (fun w h => bw_mem (wU_X12 w h)) hown K hP sM_0 rfl 42 (by decide) (hts _ (bw_mem wB_1179)) (fun _ h9 => h9) (v := .int dp) ((dg_uf_F e_2 0 42).trans f_dp) dX12_pushes_15 ?_
  refine lv_iconst (v := 0) hx hb dX12_pushes_18 (by decide +kernel) ?_
  have hin_3 : vp_in dp 20 := (dk_inv (by omega) (by omega))
  have hz_5 : (0 : Int32).toInt = 0 := by decide +kernel
  refine dg_iast hx hb K hP hS hA1 sM_23 hin_3 dX12_pushes_19 (fun S_4 e_4 H locs hP hS => ?_)
  have I_4 := dg_I.ufu (lo := 0) (hi := 2) I_2 e_4 sM_23 (by decide +kernel) (show 0 ≤ ((0 : Int32)).toInt ∧ ((0 : Int32)).toInt ≤ 2 from (by decide +kernel))
  have M_4 := dg_sm.uf M_2 e_4 sM_23 (by decide)
  refine lv_aload_n hx hb dX12_pushes_20 rfl (lv_at hl 0 rfl) ?_
  refine dg_get (C := RX12) (T := TX12) (N := 77) hx hb hts (fun w h => bw_mem (wU_X12 w h)) hown K hP sM_0 rfl 39 (by decide) (hts _ (bw_mem wB_1191)) (fun _ h9 => h9) (v := .ref (o + 24)) (show S_4.1 0 39 = .ref (o + 24) from dg_I.rel (d := 24) I_4 sM_0 (by decide +kernel)) dX12_pushes_21 ?_
  refine lv_aload_n hx hb dX12_pushes_24 rfl (lv_at hl 0 rfl) ?_
  refine dg_get (C := RX12) (T := TX12) (N := 77) hx hb hts (fun w h => bw_mem (wU_X12 w h)) hown K hP sM_0 rfl 42 (by decide) (hts _ (bw_mem wB_1179)) (fun _ h9 => h9) (v := .int dp) (((dg_uf_F e_4 0 42).trans (dg_uf_F e_2 0 42)).trans f_dp) dX12_pushes_25 ?_
  refine lv_iconst (v := 1) hx hb dX12_pushes_28 (by decide +kernel) ?_
  have hin_6 : vp_in dp 20 := (dk_inv (by omega) (by omega))
  have hz_8 : (1 : Int32).toInt = 1 := by decide +kernel
  refine dg_zast hx hb K hP hS hA1 sM_24 hin_6 (by decide +kernel) dX12_pushes_29 (fun S_7 e_7 H locs hP hS => ?_)
  have I_7 := dg_I.ufu (lo := 0) (hi := 1) I_4 e_7 sM_24 (by decide +kernel) (show 0 ≤ ((1 : Int32)).toInt ∧ ((1 : Int32)).toInt ≤ 1 from (by decide +kernel))
  have M_7 := dg_sm.uf M_4 e_7 sM_24 (by decide)
  refine lv_aload_n hx hb dX12_pushes_30 rfl (lv_at hl 0 rfl) ?_
  refine dg_get (C := RX12) (T := TX12) (N := 77) hx hb hts (fun w h => bw_mem (wU_X12 w h)) hown K hP sM_0 rfl 41 (by decide) (hts _ (bw_mem wB_1178)) (fun _ h9 => h9) (v := .ref (o + 26)) (show S_7.1 0 41 = .ref (o + 26) from dg_I.rel (d := 26) I_7 sM_0 (by decide +kernel)) dX12_pushes_31 ?_
  refine lv_aload_n hx hb dX12_pushes_34 rfl (lv_at hl 0 rfl) ?_
  refine dg_get (C := RX12) (T := TX12) (N := 77) hx hb hts (fun w h => bw_mem (wU_X12 w h)) hown K hP sM_0 rfl 42 (by decide) (hts _ (bw_mem wB_1179)) (fun _ h9 => h9) (v := .int dp) (((dg_uf_F e_7 0 42).trans ((dg_uf_F e_4 0 42).trans (dg_uf_F e_2 0 42))).trans f_dp) dX12_pushes_35 ?_
  refine lv_aload_n hx hb dX12_pushes_38 rfl (lv_at hl 0 rfl) ?_
  refine dg_get (C := RX12) (T := TX12) (N := 77) hx hb hts (fun w h => bw_mem (wU_X12 w h)) hown K hP sM_0 rfl 45 (by decide) (hts _ (bw_mem wB_1177)) (fun _ h9 => h9) (v := .int om) (((dg_uf_F e_7 0 45).trans ((dg_uf_F e_4 0 45).trans (dg_uf_F e_2 0 45))).trans f_om) dX12_pushes_39 ?_
  have hin_9 : vp_in dp 20 := (dk_inv (by omega) (by omega))
  refine dg_iast hx hb K hP hS hA1 sM_26 hin_9 dX12_pushes_42 (fun S_10 e_10 H locs hP hS => ?_)
  have I_10 := dg_I.ufu (lo := 0) (hi := 500) I_7 e_10 sM_26 (by decide +kernel) (show 0 ≤ (om).toInt ∧ (om).toInt ≤ 500 from (by omega))
  have M_10 := dg_sm.uf M_7 e_10 sM_26 (by decide)
  refine lv_aload_n hx hb dX12_pushes_43 rfl (lv_at hl 0 rfl) ?_
  refine lv_dup hx hb dX12_pushes_44 rfl ?_
  refine dg_get (C := RX12) (T := TX12) (N := 77) hx hb hts (fun w h => bw_mem (wU_X12 w h)) hown K hP sM_0 rfl 42 (by decide) (hts _ (bw_mem wB_1179)) (fun _ h9 => h9) (v := .int dp) (((dg_uf_F e_10 0 42).trans ((dg_uf_F e_7 0 42).trans ((dg_uf_F e_4 0 42).trans (dg_uf_F e_2 0 42)))).trans f_dp) dX12_pushes_45 ?_
  refine lv_iconst (v := 1) hx hb dX12_pushes_48 (by decide +kernel) ?_
  refine lv_iadd hx hb dX12_pushes_49 ?_
  refine lv_topi (fun x_11 ex_11 => ?_)
  have jx_11 : (x_11).toInt = (dp).toInt + 1 := by rw [ex_11]; exact dk_addT rfl (by decide +kernel) (by omega) (by omega)
  refine dg_put (ci := 12) (v := .int x_11) (ty := tyX12 42) (C := RX12) (T := TX12) (N := 77) hx hb hts (fun w h => bw_mem (wU_X12 w h)) tyX12 tyX12_ok nmX12 hown K hP hS hA1 sM_0 rfl 42 (by decide) (hts _ (bw_mem wB_1179)) (fun _ h9 => h9) rfl (by decide +kernel) rfl rfl dX12_pushes_50 (fun S_12 e_12 H locs hP hS => ?_)
  have I_12 := dg_I.uFi (lo := 0) (hi := 20) I_10 e_12 sM_0 (by decide +kernel) (show 0 ≤ (x_11).toInt ∧ (x_11).toInt ≤ 20 from (by omega))
  have M_12 := dg_sm.uF M_10 e_12 sM_0 (by decide)
  refine W.widen (k := 0) (n := 0) (Nat.le_of_ble_eq_true rfl) (Nat.le_of_ble_eq_true rfl) ?_
  exact dg_vret hx hb hr hlocks hP hS ⟨I_12, M_12, ⟨x_11, (dg_uF_at e_12), (by omega)⟩, (PUM.mk f_dp f_om e_2 e_4 e_7 e_10 e_12 (by omega)), trivial⟩ dX12_pushes_53
set_option maxHeartbeats 8000000 in
set_option maxRecDepth 100000 in
theorem c_m_frames (l : Launch) (g : Nat → ClassId) (D : va_G) (o : Nat) (S : dg_S) (a1 : Int32) (b_a1 : 0 ≤ (a1).toInt ∧ (a1).toInt ≤ 6) (sg : Int32) (f_sg : S.1 0 3 = .int sg) (b_sg : 0 ≤ (sg).toInt ∧ (sg).toInt ≤ 3) (sa : Int32) (f_sa : S.1 0 4 = .int sa) (b_sa : 0 ≤ (sa).toInt ∧ (sa).toInt ≤ 1600) (se : Int32) (f_se : S.1 0 5 = .int se) (b_se : 0 ≤ (se).toInt ∧ (se).toInt ≤ 1600) (sl : Int32) (f_sl : S.1 0 2 = .int sl) (b_sl : 0 ≤ (sl).toInt ∧ (sl).toInt ≤ 1600) (fk : Int32) (f_fk : S.1 0 8 = .int fk) (b_fk : 0 ≤ (fk).toInt ∧ (fk).toInt ≤ 6) (dp : Int32) (f_dp : S.1 0 42 = .int dp) (b_dp : 0 ≤ (dp).toInt ∧ (dp).toInt ≤ 19) (om : Int32) (f_om : S.1 0 45 = .int om) (b_om : 0 ≤ (om).toInt ∧ (om).toInt ≤ 500) (on : Int32) (f_on : S.1 0 43 = .int on) (hlx : (sa).toInt ≤ (se).toInt ∧ (se).toInt ≤ (sl).toInt ∧ ((sg).toInt ≠ 0 → (sa).toInt + 1 ≤ (se).toInt)) (hsg : (sg).toInt ≠ 0 ∨ (fk).toInt ≠ 0) (I : CM o S) (sz : Nat) : Met l yX12_frames (bw yX12_frames cX12_frames 2 none) ({ frames := 3, cells := 0, slots := 0, locals := 77 } : Room) (dk_Pc g D (dg_w g shM o rfM S) sz [.ref (o + 0), .int a1]) (va_Qv (fun S' => CM o S' ∧ dg_sm shM [(0, 3), (0, 4), (0, 5), (0, 6), (0, 7), (0, 8), (0, 9), (0, 12), (0, 42), (0, 43)] [22, 23, 24, 26] S S' ∧ (∃ y9_3 y9_4 y9_5 y9_8 y9_42 : Int32, S'.1 0 3 = .int y9_3 ∧ S'.1 0 4 = .int y9_4 ∧ S'.1 0 5 = .int y9_5 ∧ S'.1 0 8 = .int y9_8 ∧ S'.1 0 42 = .int y9_42 ∧ (((y9_4).toInt ≤ (y9_5).toInt ∧ (y9_5).toInt ≤ (sl).toInt ∧ ((y9_3).toInt ≠ 0 → (y9_4).toInt + 1 ≤ (y9_5).toInt)) ∧ (sa).toInt ≤ (y9_4).toInt ∧ ((fk).toInt ≠ 0 → (y9_8).toInt ≠ 0) ∧ (((y9_8).toInt = 0 → ((sa).toInt + 1 ≤ (y9_4).toInt ∧ (y9_42).toInt = (dp).toInt + 1))))) ∧ (∀ k9 : Int32, S'.1 0 8 = .int k9 → k9.toInt = 0 → FRM S S' a1) ∧ True) (dg_B g D shM o rfM) (dg_A o shM.length sz)) 0 0 (dg_A o shM.length sz) := by
  refine dg_met (cc := cX12_frames) (maxL := 2) (ret := none) (by decide) rfl (Nat.le_of_ble_eq_true rfl) ?_
  intro p e s m args below meth c A hAe harg hx hb hr hml hts hown hlocks hin hP K hS hA1 hA ST hsz ls hl
  rw [← hAe]
  have F : CallFix p m c cX12_frames 2 s args (bw yX12_frames cX12_frames 2 none) RX12 := ⟨hx, hb, hml, hown, hts⟩
  have hl : lv_has ls 2 [(0, .ref (o + 0)), (1, .int a1)] := hl
  have M_0 : dg_sm shM [(0, 3), (0, 4), (0, 5), (0, 6), (0, 7), (0, 8), (0, 9), (0, 12), (0, 42), (0, 43)] [22, 23, 24, 26] S S := dg_sm.rf
  refine lv_aload_n hx hb dX12_frames_0 rfl (lv_at hl 0 rfl) ?_
  refine dg_get (C := RX12) (T := TX12) (N := 77) hx hb hts (fun w h => bw_mem (wU_X12 w h)) hown K hP sM_0 rfl 43 (by decide) (hts _ (bw_mem wB_1188)) (fun _ h9 => h9) (v := .int on) f_on dX12_frames_1 ?_
  refine lv_bipush (v := 7) hx hb dX12_frames_4 (by decide +kernel) ?_
  refine lv_icmp_ne (tgt := 18) hx hb dX12_frames_6 (by decide) (fun c_1 => ?_) (fun c_1 => ?_)
  · have jc_1 := dk_neqc (k := 7) (by decide +kernel) c_1
    refine lv_aload_n hx hb dX12_frames_18 rfl (lv_at hl 0 rfl) ?_
    refine dg_get (C := RX12) (T := TX12) (N := 77) hx hb hts (fun w h => bw_mem (wU_X12 w h)) hown K hP sM_0 rfl 8 (by decide) (hts _ (bw_mem wB_1109)) (fun _ h9 => h9) (v := .int fk) f_fk dX12_frames_19 ?_
    refine lv_if_le (tgt := 26) hx hb dX12_frames_22 (by decide) (fun c_2 => ?_) (fun c_2 => ?_)
    · have jc_2 := dk_lec (k := 0) (by decide +kernel) c_2
      refine lv_aload_n hx hb dX12_frames_26 rfl (lv_at hl 0 rfl) ?_
      refine lv_dup hx hb dX12_frames_27 rfl ?_
      refine dg_get (C := RX12) (T := TX12) (N := 77) hx hb hts (fun w h => bw_mem (wU_X12 w h)) hown K hP sM_0 rfl 43 (by decide) (hts _ (bw_mem wB_1188)) (fun _ h9 => h9) (v := .int on) f_on dX12_frames_28 ?_
      refine lv_iconst (v := 1) hx hb dX12_frames_31 (by decide +kernel) ?_
      refine lv_iadd hx hb dX12_frames_32 ?_
      refine lv_topi (fun x_3 ex_3 => ?_)
      refine dg_put (ci := 12) (v := .int x_3) (ty := tyX12 43) (C := RX12) (T := TX12) (N := 77) hx hb hts (fun w h => bw_mem (wU_X12 w h)) tyX12 tyX12_ok nmX12 hown K hP hS hA1 sM_0 rfl 43 (by decide) (hts _ (bw_mem wB_1188)) (fun _ h9 => h9) rfl (by decide +kernel) rfl rfl dX12_frames_33 (fun S_4 e_4 H locs hP hS => ?_)
      have I_4 := dg_I.uFi (lo := (-2147483648)) (hi := 2147483647) I e_4 sM_0 (by decide +kernel) (show (-2147483648) ≤ (x_3).toInt ∧ (x_3).toInt ≤ 2147483647 from (dk_full _))
      have M_4 := dg_sm.uF M_0 e_4 sM_0 (by decide)
      refine lv_aload_n hx hb dX12_frames_36 rfl (lv_at hl 0 rfl) ?_
      refine dg_callv hS hA1 hA (va_runV (As := []) (rest := []) F (c_m_ahead l g D o S_4 se ((dg_uF_ne e_4 (fun z => absurd z.2 (by decide))).trans f_se) (by omega) sl ((dg_uF_ne e_4 (fun z => absurd z.2 (by decide))).trans f_sl) (by omega) (by omega) I_4 H.size) (cwV 0 hts (bw_V wB_1137 wB_1138 wB_1139 wB_857 wB_1136) rfl rfl rfl (by decide +kernel) ⟨Nat.le_of_ble_eq_true rfl, Nat.le_of_ble_eq_true rfl⟩) (dg_preV sM_0 rfl K ST hP hS hA1 hA) rfl rfl hl.1 rfl (lv_room (Nat.le_of_ble_eq_true rfl)) dX12_frames_37 ⟨Nat.le_of_ble_eq_true rfl, Nat.le_of_ble_eq_true rfl⟩) (fun S_5 hw_5 H locs hP hS => ?_)
      obtain ⟨I_5, m_5, w_5_0, -⟩ := hw_5
      have M_5 := dg_sm.tr M_4 m_5 (by decide) (by decide)
      obtain ⟨y_6, y_7, y_8, f_y_6, f_y_7, f_y_8, w_5_0⟩ := w_5_0
      have w_5_0 : (se).toInt ≤ (y_7).toInt ∧ (y_7).toInt ≤ (y_8).toInt ∧ (y_8).toInt ≤ (sl).toInt ∧ ((y_6).toInt ≠ 0 → (y_7).toInt + 1 ≤ (y_8).toInt) := w_5_0
      have b_y_6 : 0 ≤ (y_6).toInt ∧ (y_6).toInt ≤ 3 := dg_I.intb (lo := 0) (hi := 3) I_5 sM_0 (by decide +kernel) f_y_6
      have b_y_7 : 0 ≤ (y_7).toInt ∧ (y_7).toInt ≤ 1600 := dg_I.intb (lo := 0) (hi := 1600) I_5 sM_0 (by decide +kernel) f_y_7
      have b_y_8 : 0 ≤ (y_8).toInt ∧ (y_8).toInt ≤ 1600 := dg_I.intb (lo := 0) (hi := 1600) I_5 sM_0 (by decide +kernel) f_y_8
      refine lv_aload_n hx hb dX12_frames_40 rfl (lv_at hl 0 rfl) ?_
      refine lv_iload_n hx hb dX12_frames_41 rfl (lv_at hl 1 rfl) ?_
      refine dg_callv hS hA1 hA (va_runV (As := [.int a1]) (rest := []) F (c_m_pushes l g D o S_5 a1 (by omega) dp (((m_5.1 0 42 _ sM_0 (by decide)).trans (dg_uF_ne e_4 (fun z => absurd z.2 (by decide)))).trans f_dp) (by omega) om (((m_5.1 0 45 _ sM_0 (by decide)).trans (dg_uF_ne e_4 (fun z => absurd z.2 (by decide)))).trans f_om) (by omega) I_5 H.size) (cwV 1 hts (bw_V wB_1193 wB_1194 wB_1195 wB_857 wB_1192) rfl rfl rfl (by decide +kernel) ⟨Nat.le_of_ble_eq_true rfl, Nat.le_of_ble_eq_true rfl⟩) (dg_preV sM_0 rfl K ST hP hS hA1 hA) rfl rfl hl.1 rfl (lv_room (Nat.le_of_ble_eq_true rfl)) dX12_frames_42 ⟨Nat.le_of_ble_eq_true rfl, Nat.le_of_ble_eq_true rfl⟩) (fun S_9 hw_9 H locs hP hS => ?_)
      obtain ⟨I_9, m_9, w_9_0, w_9_1, -⟩ := hw_9
      have M_9 := dg_sm.tr M_5 m_9 (by decide) (by decide)
      obtain ⟨y_10, f_y_10, w_9_0⟩ := w_9_0
      have w_9_0 : (y_10).toInt = (dp).toInt + 1 := w_9_0
      have b_y_10 : 0 ≤ (y_10).toInt ∧ (y_10).toInt ≤ 20 := dg_I.intb (lo := 0) (hi := 20) I_9 sM_0 (by decide +kernel) f_y_10
      have w_9_1 : PUM S_5 S_9 a1 := w_9_1
      refine W.widen (k := 0) (n := 0) (Nat.le_of_ble_eq_true rfl) (Nat.le_of_ble_eq_true rfl) ?_
      exact dg_vret hx hb hr hlocks hP hS ⟨I_9, M_9, ⟨y_6, y_7, y_8, fk, y_10, ((m_9.1 0 3 _ sM_0 (by decide)).trans f_y_6), ((m_9.1 0 4 _ sM_0 (by decide)).trans f_y_7), ((m_9.1 0 5 _ sM_0 (by decide)).trans f_y_8), (((m_9.1 0 8 _ sM_0 (by decide)).trans ((m_5.1 0 8 _ sM_0 (by decide)).trans (dg_uF_ne e_4 (fun z => absurd z.2 (by decide))))).trans f_fk), f_y_10, (by omega)⟩, (fun _ _ _ => FRM.mk f_on (by omega) e_4 (by omega) m_5 (by decide) (by decide) (by decide) w_9_1 m_9), trivial⟩ dX12_frames_45
    · have jc_2 := dk_nlec (k := 0) (by decide +kernel) c_2
      refine W.widen (k := 0) (n := 0) (Nat.le_of_ble_eq_true rfl) (Nat.le_of_ble_eq_true rfl) ?_
      exact dg_vret hx hb hr hlocks hP hS ⟨I, M_0, ⟨sg, sa, se, fk, dp, f_sg, f_sa, f_se, f_fk, f_dp, (by omega)⟩, (fun k9 hk9 hk0 => by have q9 := (f_fk).symm.trans hk9; cases q9; omega), trivial⟩ dX12_frames_25
  · have jc_1 := dk_eqc (k := 7) (by decide +kernel) c_1
    refine lv_aload_n hx hb dX12_frames_9 rfl (lv_at hl 0 rfl) ?_
    refine lv_iconst (v := 5) hx hb dX12_frames_10 (by decide +kernel) ?_
    refine lv_aload_n hx hb dX12_frames_11 rfl (lv_at hl 0 rfl) ?_
    refine dg_get (C := RX12) (T := TX12) (N := 77) hx hb hts (fun w h => bw_mem (wU_X12 w h)) hown K hP sM_0 rfl 4 (by decide) (hts _ (bw_mem wB_1121)) (fun _ h9 => h9) (v := .int sa) f_sa dX12_frames_12 ?_
    have hz_11 : (5 : Int32).toInt = 5 := by decide +kernel
    refine dg_callv hS hA1 hA (va_runV (As := [.int 5, .int sa]) (rest := []) F (c_m_blame l g D o S 5 (by decide +kernel) sa fk f_fk (by omega) I s.heap.size) (cwV 2 hts (bw_V wB_1113 wB_1114 wB_1115 wB_857 wB_1112) rfl rfl rfl (by decide +kernel) ⟨Nat.le_of_ble_eq_true rfl, Nat.le_of_ble_eq_true rfl⟩) (dg_preV sM_0 rfl K ST hP hS hA1 hA) rfl rfl hl.1 rfl (lv_room (Nat.le_of_ble_eq_true rfl)) dX12_frames_15 ⟨Nat.le_of_ble_eq_true rfl, Nat.le_of_ble_eq_true rfl⟩) (fun S_12 hw_12 H locs hP hS => ?_)
    obtain ⟨I_12, m_12, w_12_0, -⟩ := hw_12
    have M_12 := dg_sm.tr M_0 m_12 (by decide) (by decide)
    have hz_13 : (5 : Int32).toInt = 5 := by decide +kernel
    obtain ⟨y_14, f_y_14, w_12_0⟩ := w_12_0
    have w_12_0 : ((fk).toInt ≠ 0 → (y_14).toInt = (fk).toInt) ∧ ((fk).toInt = 0 → (y_14).toInt = ((5 : Int32)).toInt) := w_12_0
    have b_y_14 : 0 ≤ (y_14).toInt ∧ (y_14).toInt ≤ 6 := dg_I.intb (lo := 0) (hi := 6) I_12 sM_0 (by decide +kernel) f_y_14
    refine lv_aload_n hx hb dX12_frames_18 rfl (lv_at hl 0 rfl) ?_
    refine dg_get (C := RX12) (T := TX12) (N := 77) hx hb hts (fun w h => bw_mem (wU_X12 w h)) hown K hP sM_0 rfl 8 (by decide) (hts _ (bw_mem wB_1109)) (fun _ h9 => h9) (v := .int y_14) f_y_14 dX12_frames_19 ?_
    refine lv_if_le (tgt := 26) hx hb dX12_frames_22 (by decide) (fun c_15 => ?_) (fun c_15 => ?_)
    · have jc_15 := dk_lec (k := 0) (by decide +kernel) c_15
      refine lv_aload_n hx hb dX12_frames_26 rfl (lv_at hl 0 rfl) ?_
      refine lv_dup hx hb dX12_frames_27 rfl ?_
      refine dg_get (C := RX12) (T := TX12) (N := 77) hx hb hts (fun w h => bw_mem (wU_X12 w h)) hown K hP sM_0 rfl 43 (by decide) (hts _ (bw_mem wB_1188)) (fun _ h9 => h9) (v := .int on) ((m_12.1 0 43 _ sM_0 (by decide)).trans f_on) dX12_frames_28 ?_
      refine lv_iconst (v := 1) hx hb dX12_frames_31 (by decide +kernel) ?_
      refine lv_iadd hx hb dX12_frames_32 ?_
      refine lv_topi (fun x_16 ex_16 => ?_)
      have jx_16 : (x_16).toInt = (on).toInt + 1 := by rw [ex_16]; exact dk_addT rfl (by decide +kernel) (by omega) (by omega)
      refine dg_put (ci := 12) (v := .int x_16) (ty := tyX12 43) (C := RX12) (T := TX12) (N := 77) hx hb hts (fun w h => bw_mem (wU_X12 w h)) tyX12 tyX12_ok nmX12 hown K hP hS hA1 sM_0 rfl 43 (by decide) (hts _ (bw_mem wB_1188)) (fun _ h9 => h9) rfl (by decide +kernel) rfl rfl dX12_frames_33 (fun S_17 e_17 H locs hP hS => ?_)
      have I_17 := dg_I.uFi (lo := (-2147483648)) (hi := 2147483647) I_12 e_17 sM_0 (by decide +kernel) (show (-2147483648) ≤ (x_16).toInt ∧ (x_16).toInt ≤ 2147483647 from (dk_full _))
      have M_17 := dg_sm.uF M_12 e_17 sM_0 (by decide)
      refine lv_aload_n hx hb dX12_frames_36 rfl (lv_at hl 0 rfl) ?_
      refine dg_callv hS hA1 hA (va_runV (As := []) (rest := []) F (c_m_ahead l g D o S_17 se (((dg_uF_ne e_17 (fun z => absurd z.2 (by decide))).trans (m_12.1 0 5 _ sM_0 (by decide))).trans f_se) (by omega) sl (((dg_uF_ne e_17 (fun z => absurd z.2 (by decide))).trans (m_12.1 0 2 _ sM_0 (by decide))).trans f_sl) (by omega) (by omega) I_17 H.size) (cwV 0 hts (bw_V wB_1137 wB_1138 wB_1139 wB_857 wB_1136) rfl rfl rfl (by decide +kernel) ⟨Nat.le_of_ble_eq_true rfl, Nat.le_of_ble_eq_true rfl⟩) (dg_preV sM_0 rfl K ST hP hS hA1 hA) rfl rfl hl.1 rfl (lv_room (Nat.le_of_ble_eq_true rfl)) dX12_frames_37 ⟨Nat.le_of_ble_eq_true rfl, Nat.le_of_ble_eq_true rfl⟩) (fun S_18 hw_18 H locs hP hS => ?_)
      obtain ⟨I_18, m_18, w_18_0, -⟩ := hw_18
      have M_18 := dg_sm.tr M_17 m_18 (by decide) (by decide)
      obtain ⟨y_19, y_20, y_21, f_y_19, f_y_20, f_y_21, w_18_0⟩ := w_18_0
      have w_18_0 : (se).toInt ≤ (y_20).toInt ∧ (y_20).toInt ≤ (y_21).toInt ∧ (y_21).toInt ≤ (sl).toInt ∧ ((y_19).toInt ≠ 0 → (y_20).toInt + 1 ≤ (y_21).toInt) := w_18_0
      have b_y_19 : 0 ≤ (y_19).toInt ∧ (y_19).toInt ≤ 3 := dg_I.intb (lo := 0) (hi := 3) I_18 sM_0 (by decide +kernel) f_y_19
      have b_y_20 : 0 ≤ (y_20).toInt ∧ (y_20).toInt ≤ 1600 := dg_I.intb (lo := 0) (hi := 1600) I_18 sM_0 (by decide +kernel) f_y_20
      have b_y_21 : 0 ≤ (y_21).toInt ∧ (y_21).toInt ≤ 1600 := dg_I.intb (lo := 0) (hi := 1600) I_18 sM_0 (by decide +kernel) f_y_21
      refine lv_aload_n hx hb dX12_frames_40 rfl (lv_at hl 0 rfl) ?_
      refine lv_iload_n hx hb dX12_frames_41 rfl (lv_at hl 1 rfl) ?_
      refine dg_callv hS hA1 hA (va_runV (As := [.int a1]) (rest := []) F (c_m_pushes l g D o S_18 a1 (by omega) dp (((m_18.1 0 42 _ sM_0 (by decide)).trans ((dg_uF_ne e_17 (fun z => absurd z.2 (by decide))).trans (m_12.1 0 42 _ sM_0 (by decide)))).trans f_dp) (by omega) om (((m_18.1 0 45 _ sM_0 (by decide)).trans ((dg_uF_ne e_17 (fun z => absurd z.2 (by decide))).trans (m_12.1 0 45 _ sM_0 (by decide)))).trans f_om) (by omega) I_18 H.size) (cwV 1 hts (bw_V wB_1193 wB_1194 wB_1195 wB_857 wB_1192) rfl rfl rfl (by decide +kernel) ⟨Nat.le_of_ble_eq_true rfl, Nat.le_of_ble_eq_true rfl⟩) (dg_preV sM_0 rfl K ST hP hS hA1 hA) rfl rfl hl.1 rfl (lv_room (Nat.le_of_ble_eq_true rfl)) dX12_frames_42 ⟨Nat.le_of_ble_eq_true rfl, Nat.le_of_ble_eq_true rfl⟩) (fun S_22 hw_22 H locs hP hS => ?_)
      obtain ⟨I_22, m_22, w_22_0, w_22_1, -⟩ := hw_22
      have M_22 := dg_sm.tr M_18 m_22 (by decide) (by decide)
      obtain ⟨y_23, f_y_23, w_22_0⟩ := w_22_0
      have w_22_0 : (y_23).toInt = (dp).toInt + 1 := w_22_0
      have b_y_23 : 0 ≤ (y_23).toInt ∧ (y_23).toInt ≤ 20 := dg_I.intb (lo := 0) (hi := 20) I_22 sM_0 (by decide +kernel) f_y_23
      have w_22_1 : PUM S_18 S_22 a1 := w_22_1
      refine W.widen (k := 0) (n := 0) (Nat.le_of_ble_eq_true rfl) (Nat.le_of_ble_eq_true rfl) ?_
      exact dg_vret hx hb hr hlocks hP hS ⟨I_22, M_22, ⟨y_19, y_20, y_21, y_14, y_23, ((m_22.1 0 3 _ sM_0 (by decide)).trans f_y_19), ((m_22.1 0 4 _ sM_0 (by decide)).trans f_y_20), ((m_22.1 0 5 _ sM_0 (by decide)).trans f_y_21), (((m_22.1 0 8 _ sM_0 (by decide)).trans ((m_18.1 0 8 _ sM_0 (by decide)).trans (dg_uF_ne e_17 (fun z => absurd z.2 (by decide))))).trans f_y_14), f_y_23, (by omega)⟩, (fun _ _ _ => FRM.mk f_on (by omega) e_17 (by omega) m_18 (by decide) (by decide) (by decide) w_22_1 m_22), trivial⟩ dX12_frames_45
    · have jc_15 := dk_nlec (k := 0) (by decide +kernel) c_15
      refine W.widen (k := 0) (n := 0) (Nat.le_of_ble_eq_true rfl) (Nat.le_of_ble_eq_true rfl) ?_
      exact dg_vret hx hb hr hlocks hP hS ⟨I_12, M_12, ⟨sg, sa, se, y_14, dp, ((m_12.1 0 3 _ sM_0 (by decide)).trans f_sg), ((m_12.1 0 4 _ sM_0 (by decide)).trans f_sa), ((m_12.1 0 5 _ sM_0 (by decide)).trans f_se), f_y_14, ((m_12.1 0 42 _ sM_0 (by decide)).trans f_dp), (by omega)⟩, (fun k9 hk9 hk0 => by have q9 := (f_y_14).symm.trans hk9; cases q9; omega), trivial⟩ dX12_frames_25
set_option maxHeartbeats 8000000 in
set_option maxRecDepth 100000 in
theorem c_m_operand (l : Launch) (g : Nat → ClassId) (D : va_G) (o : Nat) (S : dg_S) (sg : Int32) (f_sg : S.1 0 3 = .int sg) (b_sg : 0 ≤ (sg).toInt ∧ (sg).toInt ≤ 3) (sa : Int32) (f_sa : S.1 0 4 = .int sa) (b_sa : 0 ≤ (sa).toInt ∧ (sa).toInt ≤ 1600) (se : Int32) (f_se : S.1 0 5 = .int se) (b_se : 0 ≤ (se).toInt ∧ (se).toInt ≤ 1600) (sl : Int32) (f_sl : S.1 0 2 = .int sl) (b_sl : 0 ≤ (sl).toInt ∧ (sl).toInt ≤ 1600) (va : Int32) (f_va : S.1 0 6 = .int va) (b_va : 0 ≤ (va).toInt ∧ (va).toInt ≤ 9999) (cd : Int32) (f_cd : S.1 0 34 = .int cd) (b_cd : 0 ≤ (cd).toInt ∧ (cd).toInt ≤ 1600) (dp : Int32) (f_dp : S.1 0 42 = .int dp) (b_dp : 0 ≤ (dp).toInt ∧ (dp).toInt ≤ 20) (on : Int32) (f_on : S.1 0 43 = .int on) (om : Int32) (f_om : S.1 0 45 = .int om) (b_om : 0 ≤ (om).toInt ∧ (om).toInt ≤ 500) (fk : Int32) (f_fk : S.1 0 8 = .int fk) (b_fk : 0 ≤ (fk).toInt ∧ (fk).toInt ≤ 6) (hlx : (sa).toInt ≤ (se).toInt ∧ (se).toInt ≤ (sl).toInt ∧ ((sg).toInt ≠ 0 → (sa).toInt + 1 ≤ (se).toInt)) (hro : (cd).toInt + (om).toInt + (dp).toInt ≤ (sa).toInt) (ZW : ZWM S) (ZK : ZKM S) (P0 : P0M S) (I : CM o S) (sz : Nat) : Met l yX12_operand (bw yX12_operand cX12_operand 4 (some .boolean)) ({ frames := 4, cells := 0, slots := 0, locals := 98 } : Room) (dk_Pc g D (dg_w g shM o rfM S) sz [.ref (o + 0)]) (va_Qi (fun (r : Int32) S' => CM o S' ∧ dg_sm shM [(0, 3), (0, 4), (0, 5), (0, 6), (0, 7), (0, 8), (0, 9), (0, 12), (0, 34), (0, 42), (0, 43), (0, 45)] [18, 19, 22, 23, 24, 25, 26, 27] S S' ∧ (0 ≤ (r).toInt ∧ (r).toInt ≤ 1) ∧ (∃ y9_3 y9_4 y9_5 y9_8 y9_34 y9_42 y9_45 : Int32, S'.1 0 3 = .int y9_3 ∧ S'.1 0 4 = .int y9_4 ∧ S'.1 0 5 = .int y9_5 ∧ S'.1 0 8 = .int y9_8 ∧ S'.1 0 34 = .int y9_34 ∧ S'.1 0 42 = .int y9_42 ∧ S'.1 0 45 = .int y9_45 ∧ (((y9_4).toInt ≤ (y9_5).toInt ∧ (y9_5).toInt ≤ (sl).toInt ∧ ((y9_3).toInt ≠ 0 → (y9_4).toInt + 1 ≤ (y9_5).toInt)) ∧ (sa).toInt ≤ (y9_4).toInt ∧ ((fk).toInt ≠ 0 → (y9_8).toInt ≠ 0) ∧ (((y9_8).toInt = 0 → (sa).toInt + 1 ≤ (y9_4).toInt) ∧ ((y9_8).toInt = 0 → (y9_34).toInt + (y9_45).toInt + (y9_42).toInt ≤ (y9_4).toInt)))) ∧ (∀ k9 : Int32, S'.1 0 8 = .int k9 → k9.toInt = 0 → ((r).toInt = 1 → P1M S') ∧ ((r).toInt = 0 → P0M S')) ∧ ZWM S' ∧ True) (dg_B g D shM o rfM) (dg_A o shM.length sz)) 0 0 (dg_A o shM.length sz) := by
  refine dg_met (cc := cX12_operand) (maxL := 4) (ret := (some .boolean)) (by decide) rfl (Nat.le_of_ble_eq_true rfl) ?_
  intro p e s m args below meth c A hAe harg hx hb hr hml hts hown hlocks hin hP K hS hA1 hA ST hsz ls hl
  rw [← hAe]
  have F : CallFix p m c cX12_operand 4 s args (bw yX12_operand cX12_operand 4 (some .boolean)) RX12 := ⟨hx, hb, hml, hown, hts⟩
  have hl : lv_has ls 4 [(0, .ref (o + 0))] := hl
  have M_0 : dg_sm shM [(0, 3), (0, 4), (0, 5), (0, 6), (0, 7), (0, 8), (0, 9), (0, 12), (0, 34), (0, 42), (0, 43), (0, 45)] [18, 19, 22, 23, 24, 25, 26, 27] S S := dg_sm.rf
  have hdm_0 := PSM.dims P0 f_dp f_on f_om
  refine lv_aload_n hx hb dX12_operand_0 rfl (lv_at hl 0 rfl) ?_
  refine dg_callv hS hA1 hA (va_runV (As := []) (rest := []) F (c_m_lex l g D o S fk f_fk (by omega) I s.heap.size) (cwV 0 hts (bw_V wB_1129 wB_1130 wB_1131 wB_857 wB_1128) rfl rfl rfl (by decide +kernel) ⟨Nat.le_of_ble_eq_true rfl, Nat.le_of_ble_eq_true rfl⟩) (dg_preV sM_0 rfl K ST hP hS hA1 hA) rfl rfl hl.1 rfl (lv_room (Nat.le_of_ble_eq_true rfl)) dX12_operand_1 ⟨Nat.le_of_ble_eq_true rfl, Nat.le_of_ble_eq_true rfl⟩) (fun S_2 hw_2 H locs hP hS => ?_)
  obtain ⟨I_2, m_2, w_2_0, -⟩ := hw_2
  have M_2 := dg_sm.tr M_0 m_2 (by decide) (by decide)
  obtain ⟨y_3, f_y_3, w_2_0⟩ := w_2_0
  have w_2_0 : (fk).toInt ≠ 0 → (y_3).toInt = (fk).toInt := w_2_0
  have b_y_3 : 0 ≤ (y_3).toInt ∧ (y_3).toInt ≤ 6 := dg_I.intb (lo := 0) (hi := 6) I_2 sM_0 (by decide +kernel) f_y_3
  refine lv_aload_n hx hb dX12_operand_4 rfl (lv_at hl 0 rfl) ?_
  refine dg_get (C := RX12) (T := TX12) (N := 77) hx hb hts (fun w h => bw_mem (wU_X12 w h)) hown K hP sM_0 rfl 8 (by decide) (hts _ (bw_mem wB_1109)) (fun _ h9 => h9) (v := .int y_3) f_y_3 dX12_operand_5 ?_
  refine lv_if_le (tgt := 13) hx hb dX12_operand_8 (by decide) (fun c_4 => ?_) (fun c_4 => ?_)
  · have jc_4 := dk_lec (k := 0) (by decide +kernel) c_4
    refine lv_aload_n hx hb dX12_operand_13 rfl (lv_at hl 0 rfl) ?_
    refine dg_get (C := RX12) (T := TX12) (N := 77) hx hb hts (fun w h => bw_mem (wU_X12 w h)) hown K hP sM_0 rfl 42 (by decide) (hts _ (bw_mem wB_1179)) (fun _ h9 => h9) (v := .int dp) ((m_2.1 0 42 _ sM_0 (by decide)).trans f_dp) dX12_operand_14 ?_
    refine lv_iconst (v := 1) hx hb dX12_operand_17 (by decide +kernel) ?_
    refine lv_isub hx hb dX12_operand_18 ?_
    refine lv_topi (fun x_5 ex_5 => ?_)
    have jx_5 : (x_5).toInt = (dp).toInt - 1 := by rw [ex_5]; exact dk_subT rfl (by decide +kernel) (by omega) (by omega)
    refine lv_istore_n (lv' := [(1, .int x_5), (0, .ref (o + 0))]) hx hb dX12_operand_19 rfl hl (by decide) rfl (fun ls hl => ?_)
    refine lv_aload_n hx hb dX12_operand_20 rfl (lv_at hl 1 rfl) ?_
    refine dg_get (C := RX12) (T := TX12) (N := 77) hx hb hts (fun w h => bw_mem (wU_X12 w h)) hown K hP sM_0 rfl 37 (by decide) (hts _ (bw_mem wB_1189)) (fun _ h9 => h9) (v := .ref (o + 22)) (show S_2.1 0 37 = .ref (o + 22) from dg_I.rel (d := 22) I_2 sM_0 (by decide +kernel)) dX12_operand_21 ?_
    refine lv_iload_n hx hb dX12_operand_24 rfl (lv_at hl 0 rfl) ?_
    have hin_6 : vp_in x_5 20 := (dk_inv (by omega) (by omega))
    refine dg_iald hx hb K hP sM_22 hin_6 dX12_operand_25 (fun x_7 ex_7 => ?_)
    have b_x_7 := dk_all_at (dg_I.row (lo := 0) (hi := 6) I_2 sM_22 (by decide +kernel)) hin_6 ex_7
    refine dg_calli hS hA1 hA (va_runS (As := [.int x_7]) (rest := []) F (c_m_isTest l g D o S_2 x_7 I_2 H.size) (va_cwS 1 hts (bw_S wB_1197 wB_1198 wB_857 wB_1196) rfl rfl rfl (by decide +kernel) ⟨Nat.le_of_ble_eq_true rfl, Nat.le_of_ble_eq_true rfl⟩) (dg_preS K ST hP hS hA1 hA) rfl rfl hl.1 rfl (lv_room (Nat.le_of_ble_eq_true rfl)) dX12_operand_26 ⟨Nat.le_of_ble_eq_true rfl, Nat.le_of_ble_eq_true rfl⟩) (fun x_8 S_9 hw_9 H locs hP hS => ?_)
    rw [hw_9.1] at hP
    obtain ⟨hq_9, w_9_0, w_9_1, -⟩ := hw_9
    have w_9_0 : 0 ≤ (x_8).toInt ∧ (x_8).toInt ≤ 1 := w_9_0
    have w_9_1 : (x_8).toInt = 1 ↔ ((x_7).toInt = 1 ∨ (x_7).toInt = 5 ∨ (x_7).toInt = 6) := w_9_1
    refine lv_if_eq (tgt := 45) hx hb dX12_operand_29 (by decide) (fun c_10 => ?_) (fun c_10 => ?_)
    · have jc_10 := dk_eqc (k := 0) (by decide +kernel) c_10
      refine lv_iconst (v := 0) hx hb dX12_operand_45 (by decide +kernel) ?_
      refine lv_istore_n (lv' := [(2, .int 0), (1, .int x_5), (0, .ref (o + 0))]) hx hb dX12_operand_46 rfl hl (by decide) rfl (fun ls hl => ?_)
      refine lv_iload_n hx hb dX12_operand_47 rfl (lv_at hl 0 rfl) ?_
      have J_276 : ∀ (H : Heap) (locs : List Loc), va_P D vwCl (dg_w g shM o rfM S_2) H → va_S A s.heap H locs → ∀ ls : Array Slot, lv_has ls 4 [(2, .int 0), (1, .int x_5), (0, .ref (o + 0))] → W p l e ({ frames := 4, cells := 0, slots := 0, locals := 98 } : Room) s m args below meth c H locs 0 0 (MQ below (va_Qi (fun (r : Int32) S' => CM o S' ∧ dg_sm shM [(0, 3), (0, 4), (0, 5), (0, 6), (0, 7), (0, 8), (0, 9), (0, 12), (0, 34), (0, 42), (0, 43), (0, 45)] [18, 19, 22, 23, 24, 25, 26, 27] S S' ∧ (0 ≤ (r).toInt ∧ (r).toInt ≤ 1) ∧ (∃ y9_3 y9_4 y9_5 y9_8 y9_34 y9_42 y9_45 : Int32, S'.1 0 3 = .int y9_3 ∧ S'.1 0 4 = .int y9_4 ∧ S'.1 0 5 = .int y9_5 ∧ S'.1 0 8 = .int y9_8 ∧ S'.1 0 34 = .int y9_34 ∧ S'.1 0 42 = .int y9_42 ∧ S'.1 0 45 = .int y9_45 ∧ (((y9_4).toInt ≤ (y9_5).toInt ∧ (y9_5).toInt ≤ (sl).toInt ∧ ((y9_3).toInt ≠ 0 → (y9_4).toInt + 1 ≤ (y9_5).toInt)) ∧ (sa).toInt ≤ (y9_4).toInt ∧ ((fk).toInt ≠ 0 → (y9_8).toInt ≠ 0) ∧ (((y9_8).toInt = 0 → (sa).toInt + 1 ≤ (y9_4).toInt) ∧ ((y9_8).toInt = 0 → (y9_34).toInt + (y9_45).toInt + (y9_42).toInt ≤ (y9_4).toInt)))) ∧ (∀ k9 : Int32, S'.1 0 8 = .int k9 → k9.toInt = 0 → ((r).toInt = 1 → P1M S') ∧ ((r).toInt = 0 → P0M S')) ∧ ZWM S' ∧ True) (dg_B g D shM o rfM) A) args s 0 0 A) (F0 m 110 ls []) := by
        intro H locs hP hS ls hl
        refine lv_aload_n hx hb dX12_operand_110 rfl (lv_at hl 2 rfl) ?_
        refine dg_get (C := RX12) (T := TX12) (N := 77) hx hb hts (fun w h => bw_mem (wU_X12 w h)) hown K hP sM_0 rfl 39 (by decide) (hts _ (bw_mem wB_1191)) (fun _ h9 => h9) (v := .ref (o + 24)) (show S_2.1 0 39 = .ref (o + 24) from dg_I.rel (d := 24) I_2 sM_0 (by decide +kernel)) dX12_operand_111 ?_
        refine lv_iload_n hx hb dX12_operand_114 rfl (lv_at hl 1 rfl) ?_
        refine lv_iconst (v := 0) hx hb dX12_operand_115 (by decide +kernel) ?_
        have hin_277 : vp_in x_5 20 := (dk_inv (by omega) (by omega))
        have hz_279 : (0 : Int32).toInt = 0 := by decide +kernel
        refine dg_zast hx hb K hP hS hA1 sM_24 hin_277 (by decide +kernel) dX12_operand_116 (fun S_278 e_278 H locs hP hS => ?_)
        have I_278 := dg_I.ufu (lo := 0) (hi := 1) I_2 e_278 sM_24 (by decide +kernel) (show 0 ≤ ((0 : Int32)).toInt ∧ ((0 : Int32)).toInt ≤ 1 from (by decide +kernel))
        have M_278 := dg_sm.uf M_2 e_278 sM_24 (by decide)
        have hz_280 : (0 : Int32).toInt = 0 := by decide +kernel
        have PB_278 : PBM S_278 := P0M.bg0 (P0M.keep P0 m_2 (by decide) (by decide) (by decide) (by decide) (by decide) (by decide) (by decide) (by decide) (by decide) (by decide) (by decide) (by decide) (by decide) (by decide) (by decide)) ((m_2.1 0 42 _ sM_0 (by decide)).trans f_dp) (by omega) (by omega) (by omega) e_278
        refine lv_iload_n hx hb dX12_operand_117 rfl (lv_at hl 0 rfl) ?_
        have J_542 : ∀ (H : Heap) (locs : List Loc), va_P D vwCl (dg_w g shM o rfM S_278) H → va_S A s.heap H locs → ∀ ls : Array Slot, lv_has ls 4 [(2, .int 0), (1, .int x_5), (0, .ref (o + 0))] → W p l e ({ frames := 4, cells := 0, slots := 0, locals := 98 } : Room) s m args below meth c H locs 0 0 (MQ below (va_Qi (fun (r : Int32) S' => CM o S' ∧ dg_sm shM [(0, 3), (0, 4), (0, 5), (0, 6), (0, 7), (0, 8), (0, 9), (0, 12), (0, 34), (0, 42), (0, 43), (0, 45)] [18, 19, 22, 23, 24, 25, 26, 27] S S' ∧ (0 ≤ (r).toInt ∧ (r).toInt ≤ 1) ∧ (∃ y9_3 y9_4 y9_5 y9_8 y9_34 y9_42 y9_45 : Int32, S'.1 0 3 = .int y9_3 ∧ S'.1 0 4 = .int y9_4 ∧ S'.1 0 5 = .int y9_5 ∧ S'.1 0 8 = .int y9_8 ∧ S'.1 0 34 = .int y9_34 ∧ S'.1 0 42 = .int y9_42 ∧ S'.1 0 45 = .int y9_45 ∧ (((y9_4).toInt ≤ (y9_5).toInt ∧ (y9_5).toInt ≤ (sl).toInt ∧ ((y9_3).toInt ≠ 0 → (y9_4).toInt + 1 ≤ (y9_5).toInt)) ∧ (sa).toInt ≤ (y9_4).toInt ∧ ((fk).toInt ≠ 0 → (y9_8).toInt ≠ 0) ∧ (((y9_8).toInt = 0 → (sa).toInt + 1 ≤ (y9_4).toInt) ∧ ((y9_8).toInt = 0 → (y9_34).toInt + (y9_45).toInt + (y9_42).toInt ≤ (y9_4).toInt)))) ∧ (∀ k9 : Int32, S'.1 0 8 = .int k9 → k9.toInt = 0 → ((r).toInt = 1 → P1M S') ∧ ((r).toInt = 0 → P0M S')) ∧ ZWM S' ∧ True) (dg_B g D shM o rfM) A) args s 0 0 A) (F0 m 137 ls []) := by
          intro H locs hP hS ls hl
          refine lv_iload_n hx hb dX12_operand_137 rfl (lv_at hl 0 rfl) ?_
          have J_804 : ∀ (H : Heap) (locs : List Loc), va_P D vwCl (dg_w g shM o rfM S_278) H → va_S A s.heap H locs → ∀ ls : Array Slot, lv_has ls 4 [(2, .int 0), (1, .int x_5), (0, .ref (o + 0))] → W p l e ({ frames := 4, cells := 0, slots := 0, locals := 98 } : Room) s m args below meth c H locs 0 0 (MQ below (va_Qi (fun (r : Int32) S' => CM o S' ∧ dg_sm shM [(0, 3), (0, 4), (0, 5), (0, 6), (0, 7), (0, 8), (0, 9), (0, 12), (0, 34), (0, 42), (0, 43), (0, 45)] [18, 19, 22, 23, 24, 25, 26, 27] S S' ∧ (0 ≤ (r).toInt ∧ (r).toInt ≤ 1) ∧ (∃ y9_3 y9_4 y9_5 y9_8 y9_34 y9_42 y9_45 : Int32, S'.1 0 3 = .int y9_3 ∧ S'.1 0 4 = .int y9_4 ∧ S'.1 0 5 = .int y9_5 ∧ S'.1 0 8 = .int y9_8 ∧ S'.1 0 34 = .int y9_34 ∧ S'.1 0 42 = .int y9_42 ∧ S'.1 0 45 = .int y9_45 ∧ (((y9_4).toInt ≤ (y9_5).toInt ∧ (y9_5).toInt ≤ (sl).toInt ∧ ((y9_3).toInt ≠ 0 → (y9_4).toInt + 1 ≤ (y9_5).toInt)) ∧ (sa).toInt ≤ (y9_4).toInt ∧ ((fk).toInt ≠ 0 → (y9_8).toInt ≠ 0) ∧ (((y9_8).toInt = 0 → (sa).toInt + 1 ≤ (y9_4).toInt) ∧ ((y9_8).toInt = 0 → (y9_34).toInt + (y9_45).toInt + (y9_42).toInt ≤ (y9_4).toInt)))) ∧ (∀ k9 : Int32, S'.1 0 8 = .int k9 → k9.toInt = 0 → ((r).toInt = 1 → P1M S') ∧ ((r).toInt = 0 → P0M S')) ∧ ZWM S' ∧ True) (dg_B g D shM o rfM) A) args s 0 0 A) (F0 m 171 ls []) := by
            intro H locs hP hS ls hl
            refine lv_aload_n hx hb dX12_operand_171 rfl (lv_at hl 2 rfl) ?_
            refine lv_bipush (v := 40) hx hb dX12_operand_172 (by decide +kernel) ?_
            refine dg_calli hS hA1 hA (va_runV (As := [.int 40]) (rest := []) F (c_m_isSign l g D o S_278 40 sg (((dg_uf_F e_278 0 3).trans (m_2.1 0 3 _ sM_0 (by decide))).trans f_sg) (by omega) va (((dg_uf_F e_278 0 6).trans (m_2.1 0 6 _ sM_0 (by decide))).trans f_va) (by omega) I_278 H.size) (cwV 1 hts (bw_V wB_1133 wB_1134 wB_1135 wB_857 wB_1132) rfl rfl rfl (by decide +kernel) ⟨Nat.le_of_ble_eq_true rfl, Nat.le_of_ble_eq_true rfl⟩) (dg_preV sM_0 rfl K ST hP hS hA1 hA) rfl rfl hl.1 rfl (lv_room (Nat.le_of_ble_eq_true rfl)) dX12_operand_174 ⟨Nat.le_of_ble_eq_true rfl, Nat.le_of_ble_eq_true rfl⟩) (fun x_805 S_806 hw_806 H locs hP hS => ?_)
            rw [hw_806.1] at hP
            obtain ⟨hq_806, w_806_0, w_806_1, -⟩ := hw_806
            have hz_807 : (40 : Int32).toInt = 40 := by decide +kernel
            have w_806_0 : 0 ≤ (x_805).toInt ∧ (x_805).toInt ≤ 1 := w_806_0
            have w_806_1 : (x_805).toInt = 1 ↔ ((sg).toInt = 3 ∧ (va).toInt = ((40 : Int32)).toInt) := w_806_1
            refine lv_if_eq (tgt := 187) hx hb dX12_operand_177 (by decide) (fun c_808 => ?_) (fun c_808 => ?_)
            · have jc_808 := dk_eqc (k := 0) (by decide +kernel) c_808
              refine lv_aload_n hx hb dX12_operand_187 rfl (lv_at hl 2 rfl) ?_
              refine lv_ldc2 hx hb hown (hts _ (bw_mem wB_1169)) dX12_operand_188 ?_
              refine dg_calli hS hA1 hA (va_runV (As := [.long 7170414]) (rest := []) F (c_m_isWord l g D o S_278 7170414 sg (((dg_uf_F e_278 0 3).trans (m_2.1 0 3 _ sM_0 (by decide))).trans f_sg) (by omega) I_278 H.size) (cwV 1 hts (bw_V wB_1141 wB_1142 wB_1143 wB_857 wB_1140) rfl rfl rfl (by decide +kernel) ⟨Nat.le_of_ble_eq_true rfl, Nat.le_of_ble_eq_true rfl⟩) (dg_preV sM_0 rfl K ST hP hS hA1 hA) rfl rfl hl.1 rfl (lv_room (Nat.le_of_ble_eq_true rfl)) dX12_operand_191 ⟨Nat.le_of_ble_eq_true rfl, Nat.le_of_ble_eq_true rfl⟩) (fun x_809 S_810 hw_810 H locs hP hS => ?_)
              rw [hw_810.1] at hP
              obtain ⟨hq_810, w_810_0, w_810_1, -⟩ := hw_810
              have w_810_0 : 0 ≤ (x_809).toInt ∧ (x_809).toInt ≤ 1 := w_810_0
              have w_810_1 : (x_809).toInt = 1 → (sg).toInt = 1 := w_810_1
              have J_1052 : ((sg).toInt = 1) → ∀ (H : Heap) (locs : List Loc), va_P D vwCl (dg_w g shM o rfM S_278) H → va_S A s.heap H locs → ∀ ls : Array Slot, lv_has ls 4 [(2, .int 0), (1, .int x_5), (0, .ref (o + 0))] → W p l e ({ frames := 4, cells := 0, slots := 0, locals := 98 } : Room) s m args below meth c H locs 0 0 (MQ below (va_Qi (fun (r : Int32) S' => CM o S' ∧ dg_sm shM [(0, 3), (0, 4), (0, 5), (0, 6), (0, 7), (0, 8), (0, 9), (0, 12), (0, 34), (0, 42), (0, 43), (0, 45)] [18, 19, 22, 23, 24, 25, 26, 27] S S' ∧ (0 ≤ (r).toInt ∧ (r).toInt ≤ 1) ∧ (∃ y9_3 y9_4 y9_5 y9_8 y9_34 y9_42 y9_45 : Int32, S'.1 0 3 = .int y9_3 ∧ S'.1 0 4 = .int y9_4 ∧ S'.1 0 5 = .int y9_5 ∧ S'.1 0 8 = .int y9_8 ∧ S'.1 0 34 = .int y9_34 ∧ S'.1 0 42 = .int y9_42 ∧ S'.1 0 45 = .int y9_45 ∧ (((y9_4).toInt ≤ (y9_5).toInt ∧ (y9_5).toInt ≤ (sl).toInt ∧ ((y9_3).toInt ≠ 0 → (y9_4).toInt + 1 ≤ (y9_5).toInt)) ∧ (sa).toInt ≤ (y9_4).toInt ∧ ((fk).toInt ≠ 0 → (y9_8).toInt ≠ 0) ∧ (((y9_8).toInt = 0 → (sa).toInt + 1 ≤ (y9_4).toInt) ∧ ((y9_8).toInt = 0 → (y9_34).toInt + (y9_45).toInt + (y9_42).toInt ≤ (y9_4).toInt)))) ∧ (∀ k9 : Int32, S'.1 0 8 = .int k9 → k9.toInt = 0 → ((r).toInt = 1 → P1M S') ∧ ((r).toInt = 0 → P0M S')) ∧ ZWM S' ∧ True) (dg_B g D shM o rfM) A) args s 0 0 A) (F0 m 217 ls []) := by
                intro rel_0 H locs hP hS ls hl
                refine lv_aload_n hx hb dX12_operand_217 rfl (lv_at hl 2 rfl) ?_
                refine lv_ldc2 hx hb hown (hts _ (bw_mem wB_1169)) dX12_operand_218 ?_
                refine dg_calli hS hA1 hA (va_runV (As := [.long 7170414]) (rest := []) F (c_m_isWord l g D o S_278 7170414 sg (((dg_uf_F e_278 0 3).trans (m_2.1 0 3 _ sM_0 (by decide))).trans f_sg) (by omega) I_278 H.size) (cwV 1 hts (bw_V wB_1141 wB_1142 wB_1143 wB_857 wB_1140) rfl rfl rfl (by decide +kernel) ⟨Nat.le_of_ble_eq_true rfl, Nat.le_of_ble_eq_true rfl⟩) (dg_preV sM_0 rfl K ST hP hS hA1 hA) rfl rfl hl.1 rfl (lv_room (Nat.le_of_ble_eq_true rfl)) dX12_operand_221 ⟨Nat.le_of_ble_eq_true rfl, Nat.le_of_ble_eq_true rfl⟩) (fun x_1053 S_1054 hw_1054 H locs hP hS => ?_)
                rw [hw_1054.1] at hP
                obtain ⟨hq_1054, w_1054_0, w_1054_1, -⟩ := hw_1054
                have w_1054_0 : 0 ≤ (x_1053).toInt ∧ (x_1053).toInt ≤ 1 := w_1054_0
                have w_1054_1 : (x_1053).toInt = 1 → (sg).toInt = 1 := w_1054_1
                have J_1169 : ∀ (x_1059 : Int32), (36 ≤ (x_1059).toInt ∧ (x_1059).toInt ≤ 44) → ((x_1059 : Int32).toInt = 36 ∨ (x_1059 : Int32).toInt = 37 ∨ (x_1059 : Int32).toInt = 44) → ∀ (H : Heap) (locs : List Loc), va_P D vwCl (dg_w g shM o rfM S_278) H → va_S A s.heap H locs → ∀ ls : Array Slot, lv_has ls 4 [(2, .int 0), (1, .int x_5), (0, .ref (o + 0))] → W p l e ({ frames := 4, cells := 0, slots := 0, locals := 98 } : Room) s m args below meth c H locs 0 0 (MQ below (va_Qi (fun (r : Int32) S' => CM o S' ∧ dg_sm shM [(0, 3), (0, 4), (0, 5), (0, 6), (0, 7), (0, 8), (0, 9), (0, 12), (0, 34), (0, 42), (0, 43), (0, 45)] [18, 19, 22, 23, 24, 25, 26, 27] S S' ∧ (0 ≤ (r).toInt ∧ (r).toInt ≤ 1) ∧ (∃ y9_3 y9_4 y9_5 y9_8 y9_34 y9_42 y9_45 : Int32, S'.1 0 3 = .int y9_3 ∧ S'.1 0 4 = .int y9_4 ∧ S'.1 0 5 = .int y9_5 ∧ S'.1 0 8 = .int y9_8 ∧ S'.1 0 34 = .int y9_34 ∧ S'.1 0 42 = .int y9_42 ∧ S'.1 0 45 = .int y9_45 ∧ (((y9_4).toInt ≤ (y9_5).toInt ∧ (y9_5).toInt ≤ (sl).toInt ∧ ((y9_3).toInt ≠ 0 → (y9_4).toInt + 1 ≤ (y9_5).toInt)) ∧ (sa).toInt ≤ (y9_4).toInt ∧ ((fk).toInt ≠ 0 → (y9_8).toInt ≠ 0) ∧ (((y9_8).toInt = 0 → (sa).toInt + 1 ≤ (y9_4).toInt) ∧ ((y9_8).toInt = 0 → (y9_34).toInt + (y9_45).toInt + (y9_42).toInt ≤ (y9_4).toInt)))) ∧ (∀ k9 : Int32, S'.1 0 8 = .int k9 → k9.toInt = 0 → ((r).toInt = 1 → P1M S') ∧ ((r).toInt = 0 → P0M S')) ∧ ZWM S' ∧ True) (dg_B g D shM o rfM) A) args s 0 0 A) (F0 m 249 ls [.int x_1059]) := by
                  intro x_1059 b_x_1059 rel_0 H locs hP hS ls hl
                  refine lv_istore_n (lv' := [(3, .int x_1059), (2, .int 0), (1, .int x_5), (0, .ref (o + 0))]) hx hb dX12_operand_249 rfl hl (by decide) rfl (fun ls hl => ?_)
                  refine lv_aload_n hx hb dX12_operand_250 rfl (lv_at hl 3 rfl) ?_
                  refine dg_callv hS hA1 hA (va_runV (As := []) (rest := []) F (c_m_ahead l g D o S_278 se (((dg_uf_F e_278 0 5).trans (m_2.1 0 5 _ sM_0 (by decide))).trans f_se) (by omega) sl (((dg_uf_F e_278 0 2).trans (m_2.1 0 2 _ sM_0 (by decide))).trans f_sl) (by omega) (by omega) I_278 H.size) (cwV 0 hts (bw_V wB_1137 wB_1138 wB_1139 wB_857 wB_1136) rfl rfl rfl (by decide +kernel) ⟨Nat.le_of_ble_eq_true rfl, Nat.le_of_ble_eq_true rfl⟩) (dg_preV sM_0 rfl K ST hP hS hA1 hA) rfl rfl hl.1 rfl (lv_room (Nat.le_of_ble_eq_true rfl)) dX12_operand_251 ⟨Nat.le_of_ble_eq_true rfl, Nat.le_of_ble_eq_true rfl⟩) (fun S_1170 hw_1170 H locs hP hS => ?_)
                  obtain ⟨I_1170, m_1170, w_1170_0, -⟩ := hw_1170
                  have M_1170 := dg_sm.tr M_278 m_1170 (by decide) (by decide)
                  obtain ⟨y_1171, y_1172, y_1173, f_y_1171, f_y_1172, f_y_1173, w_1170_0⟩ := w_1170_0
                  have w_1170_0 : (se).toInt ≤ (y_1172).toInt ∧ (y_1172).toInt ≤ (y_1173).toInt ∧ (y_1173).toInt ≤ (sl).toInt ∧ ((y_1171).toInt ≠ 0 → (y_1172).toInt + 1 ≤ (y_1173).toInt) := w_1170_0
                  have b_y_1171 : 0 ≤ (y_1171).toInt ∧ (y_1171).toInt ≤ 3 := dg_I.intb (lo := 0) (hi := 3) I_1170 sM_0 (by decide +kernel) f_y_1171
                  have b_y_1172 : 0 ≤ (y_1172).toInt ∧ (y_1172).toInt ≤ 1600 := dg_I.intb (lo := 0) (hi := 1600) I_1170 sM_0 (by decide +kernel) f_y_1172
                  have b_y_1173 : 0 ≤ (y_1173).toInt ∧ (y_1173).toInt ≤ 1600 := dg_I.intb (lo := 0) (hi := 1600) I_1170 sM_0 (by decide +kernel) f_y_1173
                  refine lv_aload_n hx hb dX12_operand_254 rfl (lv_at hl 3 rfl) ?_
                  refine dg_callv hS hA1 hA (va_runV (As := []) (rest := []) F (c_m_lex l g D o S_1170 y_3 (((m_1170.1 0 8 _ sM_0 (by decide)).trans (dg_uf_F e_278 0 8)).trans f_y_3) (by omega) I_1170 H.size) (cwV 0 hts (bw_V wB_1129 wB_1130 wB_1131 wB_857 wB_1128) rfl rfl rfl (by decide +kernel) ⟨Nat.le_of_ble_eq_true rfl, Nat.le_of_ble_eq_true rfl⟩) (dg_preV sM_0 rfl K ST hP hS hA1 hA) rfl rfl hl.1 rfl (lv_room (Nat.le_of_ble_eq_true rfl)) dX12_operand_255 ⟨Nat.le_of_ble_eq_true rfl, Nat.le_of_ble_eq_true rfl⟩) (fun S_1174 hw_1174 H locs hP hS => ?_)
                  obtain ⟨I_1174, m_1174, w_1174_0, -⟩ := hw_1174
                  have M_1174 := dg_sm.tr M_1170 m_1174 (by decide) (by decide)
                  obtain ⟨y_1175, f_y_1175, w_1174_0⟩ := w_1174_0
                  have w_1174_0 : (y_3).toInt ≠ 0 → (y_1175).toInt = (y_3).toInt := w_1174_0
                  have b_y_1175 : 0 ≤ (y_1175).toInt ∧ (y_1175).toInt ≤ 6 := dg_I.intb (lo := 0) (hi := 6) I_1174 sM_0 (by decide +kernel) f_y_1175
                  refine lv_aload_n hx hb dX12_operand_258 rfl (lv_at hl 3 rfl) ?_
                  refine lv_bipush (v := 40) hx hb dX12_operand_259 (by decide +kernel) ?_
                  obtain ⟨x_1176, f_x_1176, b_x_1176⟩ := dg_I.int (i := 0) (k := 6) (lo := 0) (hi := 9999) I_1174 sM_0 (by decide +kernel)
                  refine dg_calli hS hA1 hA (va_runV (As := [.int 40]) (rest := []) F (c_m_isSign l g D o S_1174 40 y_1171 ((m_1174.1 0 3 _ sM_0 (by decide)).trans f_y_1171) (by omega) x_1176 f_x_1176 (by omega) I_1174 H.size) (cwV 1 hts (bw_V wB_1133 wB_1134 wB_1135 wB_857 wB_1132) rfl rfl rfl (by decide +kernel) ⟨Nat.le_of_ble_eq_true rfl, Nat.le_of_ble_eq_true rfl⟩) (dg_preV sM_0 rfl K ST hP hS hA1 hA) rfl rfl hl.1 rfl (lv_room (Nat.le_of_ble_eq_true rfl)) dX12_operand_261 ⟨Nat.le_of_ble_eq_true rfl, Nat.le_of_ble_eq_true rfl⟩) (fun x_1177 S_1178 hw_1178 H locs hP hS => ?_)
                  rw [hw_1178.1] at hP
                  obtain ⟨hq_1178, w_1178_0, w_1178_1, -⟩ := hw_1178
                  have hz_1179 : (40 : Int32).toInt = 40 := by decide +kernel
                  have w_1178_0 : 0 ≤ (x_1177).toInt ∧ (x_1177).toInt ≤ 1 := w_1178_0
                  have w_1178_1 : (x_1177).toInt = 1 ↔ ((y_1171).toInt = 3 ∧ (x_1176).toInt = ((40 : Int32)).toInt) := w_1178_1
                  refine lv_if_ne (tgt := 276) hx hb dX12_operand_264 (by decide) (fun c_1180 => ?_) (fun c_1180 => ?_)
                  · have jc_1180 := dk_neqc (k := 0) (by decide +kernel) c_1180
                    refine lv_aload_n hx hb dX12_operand_276 rfl (lv_at hl 3 rfl) ?_
                    refine lv_iload_n hx hb dX12_operand_277 rfl (lv_at hl 0 rfl) ?_
                    refine lv_bipush (v := 44) hx hb dX12_operand_278 (by decide +kernel) ?_
                    refine lv_icmp_ne (tgt := 288) hx hb dX12_operand_280 (by decide) (fun c_1181 => ?_) (fun c_1181 => ?_)
                    · have jc_1181 := dk_neqc (k := 44) (by decide +kernel) c_1181
                      refine lv_iconst (v := 3) hx hb dX12_operand_288 (by decide +kernel) ?_
                      have hz_1182 : (3 : Int32).toInt = 3 := by decide +kernel
                      refine dg_callv hS hA1 hA (va_runV (As := [.int 3]) (rest := []) F (c_m_frames l g D o S_1174 3 (by decide +kernel) y_1171 ((m_1174.1 0 3 _ sM_0 (by decide)).trans f_y_1171) (by omega) y_1172 ((m_1174.1 0 4 _ sM_0 (by decide)).trans f_y_1172) (by omega) y_1173 ((m_1174.1 0 5 _ sM_0 (by decide)).trans f_y_1173) (by omega) sl (((m_1174.1 0 2 _ sM_0 (by decide)).trans ((m_1170.1 0 2 _ sM_0 (by decide)).trans ((dg_uf_F e_278 0 2).trans (m_2.1 0 2 _ sM_0 (by decide))))).trans f_sl) (by omega) y_1175 f_y_1175 (by omega) dp (((m_1174.1 0 42 _ sM_0 (by decide)).trans ((m_1170.1 0 42 _ sM_0 (by decide)).trans ((dg_uf_F e_278 0 42).trans (m_2.1 0 42 _ sM_0 (by decide))))).trans f_dp) (by omega) om (((m_1174.1 0 45 _ sM_0 (by decide)).trans ((m_1170.1 0 45 _ sM_0 (by decide)).trans ((dg_uf_F e_278 0 45).trans (m_2.1 0 45 _ sM_0 (by decide))))).trans f_om) (by omega) on (((m_1174.1 0 43 _ sM_0 (by decide)).trans ((m_1170.1 0 43 _ sM_0 (by decide)).trans ((dg_uf_F e_278 0 43).trans (m_2.1 0 43 _ sM_0 (by decide))))).trans f_on) (by omega) (by omega) I_1174 H.size) (cwV 1 hts (bw_V wB_1201 wB_1202 wB_1203 wB_857 wB_1200) rfl rfl rfl (by decide +kernel) ⟨Nat.le_of_ble_eq_true rfl, Nat.le_of_ble_eq_true rfl⟩) (dg_preV sM_0 rfl K ST hP hS hA1 hA) rfl rfl hl.1 rfl (lv_room (Nat.le_of_ble_eq_true rfl)) dX12_operand_289 ⟨Nat.le_of_ble_eq_true rfl, Nat.le_of_ble_eq_true rfl⟩) (fun S_1183 hw_1183 H locs hP hS => ?_)
                      obtain ⟨I_1183, m_1183, w_1183_0, w_1183_1, -⟩ := hw_1183
                      have M_1183 := dg_sm.tr M_1174 m_1183 (by decide) (by decide)
                      have hz_1184 : (3 : Int32).toInt = 3 := by decide +kernel
                      obtain ⟨y_1185, y_1186, y_1187, y_1188, y_1189, f_y_1185, f_y_1186, f_y_1187, f_y_1188, f_y_1189, w_1183_0⟩ := w_1183_0
                      have w_1183_0 : ((y_1186).toInt ≤ (y_1187).toInt ∧ (y_1187).toInt ≤ (sl).toInt ∧ ((y_1185).toInt ≠ 0 → (y_1186).toInt + 1 ≤ (y_1187).toInt)) ∧ (y_1172).toInt ≤ (y_1186).toInt ∧ ((y_1175).toInt ≠ 0 → (y_1188).toInt ≠ 0) ∧ (((y_1188).toInt = 0 → ((y_1172).toInt + 1 ≤ (y_1186).toInt ∧ (y_1189).toInt = (dp).toInt + 1))) := w_1183_0
                      have b_y_1185 : 0 ≤ (y_1185).toInt ∧ (y_1185).toInt ≤ 3 := dg_I.intb (lo := 0) (hi := 3) I_1183 sM_0 (by decide +kernel) f_y_1185
                      have b_y_1186 : 0 ≤ (y_1186).toInt ∧ (y_1186).toInt ≤ 1600 := dg_I.intb (lo := 0) (hi := 1600) I_1183 sM_0 (by decide +kernel) f_y_1186
                      have b_y_1187 : 0 ≤ (y_1187).toInt ∧ (y_1187).toInt ≤ 1600 := dg_I.intb (lo := 0) (hi := 1600) I_1183 sM_0 (by decide +kernel) f_y_1187
                      have b_y_1188 : 0 ≤ (y_1188).toInt ∧ (y_1188).toInt ≤ 6 := dg_I.intb (lo := 0) (hi := 6) I_1183 sM_0 (by decide +kernel) f_y_1188
                      have b_y_1189 : 0 ≤ (y_1189).toInt ∧ (y_1189).toInt ≤ 20 := dg_I.intb (lo := 0) (hi := 20) I_1183 sM_0 (by decide +kernel) f_y_1189
                      have w_1183_1 : ∀ k9 : Int32, S_1183.1 0 8 = .int k9 → k9.toInt = 0 → FRM S_1174 S_1183 (3 : Int32) := w_1183_1
                      obtain ⟨x_1190, f_x_1190, b_x_1190⟩ := dg_I.int (i := 0) (k := 42) (lo := 0) (hi := 20) I_1174 sM_0 (by decide +kernel)
                      refine lv_aload_n hx hb dX12_operand_292 rfl (lv_at hl 3 rfl) ?_
                      refine dg_get (C := RX12) (T := TX12) (N := 77) hx hb hts (fun w h => bw_mem (wU_X12 w h)) hown K hP sM_0 rfl 8 (by decide) (hts _ (bw_mem wB_1109)) (fun _ h9 => h9) (v := .int y_1188) f_y_1188 dX12_operand_293 ?_
                      refine lv_if_ne (tgt := 311) hx hb dX12_operand_296 (by decide) (fun c_1191 => ?_) (fun c_1191 => ?_)
                      · have jc_1191 := dk_neqc (k := 0) (by decide +kernel) c_1191
                        refine lv_iconst (v := 0) hx hb dX12_operand_311 (by decide +kernel) ?_
                        have hz_1192 : (0 : Int32).toInt = 0 := by decide +kernel
                        have hz_1193 : (0 : Int32).toInt = 0 := by decide +kernel
                        obtain ⟨x_1194, f_x_1194, b_x_1194⟩ := dg_I.int (i := 0) (k := 42) (lo := 0) (hi := 20) I_1183 sM_0 (by decide +kernel)
                        have hz_1195 : (0 : Int32).toInt = 0 := by decide +kernel
                        have hz_1196 : (0 : Int32).toInt = 0 := by decide +kernel
                        refine W.widen (k := 0) (n := 0) (Nat.le_of_ble_eq_true rfl) (Nat.le_of_ble_eq_true rfl) ?_
                        exact dg_iret hx hb hr hlocks (by decide +kernel) hP hS ⟨I_1183, M_1183, (by decide +kernel), ⟨y_1185, y_1186, y_1187, y_1188, cd, x_1194, om, f_y_1185, f_y_1186, f_y_1187, f_y_1188, (((m_1183.1 0 34 _ sM_0 (by decide)).trans ((m_1174.1 0 34 _ sM_0 (by decide)).trans ((m_1170.1 0 34 _ sM_0 (by decide)).trans ((dg_uf_F e_278 0 34).trans (m_2.1 0 34 _ sM_0 (by decide)))))).trans f_cd), f_x_1194, (((m_1183.1 0 45 _ sM_0 (by decide)).trans ((m_1174.1 0 45 _ sM_0 (by decide)).trans ((m_1170.1 0 45 _ sM_0 (by decide)).trans ((dg_uf_F e_278 0 45).trans (m_2.1 0 45 _ sM_0 (by decide)))))).trans f_om), (by omega)⟩, (fun k9 hk9 hk0 => by have q9 := (f_y_1188).symm.trans hk9; cases q9; omega), (ZWM.keep (ZWM.keep (ZWM.keep (ZWM.keep (ZWM.keep ZW m_2 (by decide) (by decide) (by decide) (by decide)) (dg_sm.uf (WF := []) (WA := [24]) dg_sm.rf e_278 sM_24 (by decide)) (by decide) (by decide) (by decide) (by decide)) m_1170 (by decide) (by decide) (by decide) (by decide)) m_1174 (by decide) (by decide) (by decide) (by decide)) m_1183 (by decide) (by decide) (by decide) (by decide)), trivial⟩ dX12_operand_312
                      · have jc_1191 := dk_eqc (k := 0) (by decide +kernel) c_1191
                        refine lv_aload_n hx hb dX12_operand_299 rfl (lv_at hl 3 rfl) ?_
                        refine dg_get (C := RX12) (T := TX12) (N := 77) hx hb hts (fun w h => bw_mem (wU_X12 w h)) hown K hP sM_0 rfl 40 (by decide) (hts _ (bw_mem wB_1204)) (fun _ h9 => h9) (v := .ref (o + 25)) (show S_1183.1 0 40 = .ref (o + 25) from dg_I.rel (d := 25) I_1183 sM_0 (by decide +kernel)) dX12_operand_300 ?_
                        refine lv_aload_n hx hb dX12_operand_303 rfl (lv_at hl 3 rfl) ?_
                        obtain ⟨x_1197, f_x_1197, b_x_1197⟩ := dg_I.int (i := 0) (k := 42) (lo := 0) (hi := 20) I_1183 sM_0 (by decide +kernel)
                        refine dg_get (C := RX12) (T := TX12) (N := 77) hx hb hts (fun w h => bw_mem (wU_X12 w h)) hown K hP sM_0 rfl 42 (by decide) (hts _ (bw_mem wB_1179)) (fun _ h9 => h9) (v := .int x_1197) f_x_1197 dX12_operand_304 ?_
                        refine lv_iconst (v := 1) hx hb dX12_operand_307 (by decide +kernel) ?_
                        refine lv_isub hx hb dX12_operand_308 ?_
                        refine lv_topi (fun x_1198 ex_1198 => ?_)
                        have jx_1198 : (x_1198).toInt = (x_1197).toInt - 1 := by rw [ex_1198]; exact dk_subT rfl (by decide +kernel) (by omega) (by omega)
                        refine lv_iload_n hx hb dX12_operand_309 rfl (lv_at hl 0 rfl) ?_
                        have hin_1199 : vp_in x_1198 20 := (dk_inv (by omega) (by omega))
                        refine dg_iast hx hb K hP hS hA1 sM_25 hin_1199 dX12_operand_310 (fun S_1200 e_1200 H locs hP hS => ?_)
                        have I_1200 := dg_I.uf0 I_1183 e_1200 sM_25 (by decide +kernel)
                        have M_1200 := dg_sm.uf M_1183 e_1200 sM_25 (by decide)
                        have P0_1200 : P0M S_1200 := PBM.openp (PBM.keep (PBM.keep PB_278 m_1170 (by decide) (by decide) (by decide) (by decide) (by decide) (by decide) (by decide) (by decide) (by decide) (by decide) (by decide) (by decide) (by decide) (by decide) (by decide)) m_1174 (by decide) (by decide) (by decide) (by decide) (by decide) (by decide) (by decide) (by decide) (by decide) (by decide) (by decide) (by decide) (by decide) (by decide) (by decide)) f_x_1190 (((m_1174.1 0 43 _ sM_0 (by decide)).trans ((m_1170.1 0 43 _ sM_0 (by decide)).trans ((dg_uf_F e_278 0 43).trans (m_2.1 0 43 _ sM_0 (by decide))))).trans f_on) (((m_1174.1 0 45 _ sM_0 (by decide)).trans ((m_1170.1 0 45 _ sM_0 (by decide)).trans ((dg_uf_F e_278 0 45).trans (m_2.1 0 45 _ sM_0 (by decide))))).trans f_om) (w_1183_1 _ f_y_1188 (by omega)) m_1183 (by decide) (by decide) (by decide) (by decide) (by omega) f_x_1197 (by omega) e_1200
                        refine lv_iconst (v := 0) hx hb dX12_operand_311 (by decide +kernel) ?_
                        have hz_1201 : (0 : Int32).toInt = 0 := by decide +kernel
                        have hz_1202 : (0 : Int32).toInt = 0 := by decide +kernel
                        have hz_1203 : (0 : Int32).toInt = 0 := by decide +kernel
                        have hz_1204 : (0 : Int32).toInt = 0 := by decide +kernel
                        refine W.widen (k := 0) (n := 0) (Nat.le_of_ble_eq_true rfl) (Nat.le_of_ble_eq_true rfl) ?_
                        exact dg_iret hx hb hr hlocks (by decide +kernel) hP hS ⟨I_1200, M_1200, (by decide +kernel), ⟨y_1185, y_1186, y_1187, y_1188, cd, x_1197, om, ((dg_uf_F e_1200 0 3).trans f_y_1185), ((dg_uf_F e_1200 0 4).trans f_y_1186), ((dg_uf_F e_1200 0 5).trans f_y_1187), ((dg_uf_F e_1200 0 8).trans f_y_1188), (((dg_uf_F e_1200 0 34).trans ((m_1183.1 0 34 _ sM_0 (by decide)).trans ((m_1174.1 0 34 _ sM_0 (by decide)).trans ((m_1170.1 0 34 _ sM_0 (by decide)).trans ((dg_uf_F e_278 0 34).trans (m_2.1 0 34 _ sM_0 (by decide))))))).trans f_cd), ((dg_uf_F e_1200 0 42).trans f_x_1197), (((dg_uf_F e_1200 0 45).trans ((m_1183.1 0 45 _ sM_0 (by decide)).trans ((m_1174.1 0 45 _ sM_0 (by decide)).trans ((m_1170.1 0 45 _ sM_0 (by decide)).trans ((dg_uf_F e_278 0 45).trans (m_2.1 0 45 _ sM_0 (by decide))))))).trans f_om), (by omega)⟩, (fun k9 hk9 hk0 => ⟨fun h9 => absurd h9 (by decide +kernel), fun _ => P0_1200⟩), (ZWM.keep (ZWM.keep (ZWM.keep (ZWM.keep (ZWM.keep (ZWM.keep ZW m_2 (by decide) (by decide) (by decide) (by decide)) (dg_sm.uf (WF := []) (WA := [24]) dg_sm.rf e_278 sM_24 (by decide)) (by decide) (by decide) (by decide) (by decide)) m_1170 (by decide) (by decide) (by decide) (by decide)) m_1174 (by decide) (by decide) (by decide) (by decide)) m_1183 (by decide) (by decide) (by decide) (by decide)) (dg_sm.uf (WF := []) (WA := [25]) dg_sm.rf e_1200 sM_25 (by decide)) (by decide) (by decide) (by decide) (by decide)), trivial⟩ dX12_operand_312
                    · have jc_1181 := dk_eqc (k := 44) (by decide +kernel) c_1181
                      refine lv_bipush (v := 6) hx hb dX12_operand_283 (by decide +kernel) ?_
                      refine lv_goto (tgt := 289) hx hb dX12_operand_285 (by decide) ?_
                      have hz_1205 : (6 : Int32).toInt = 6 := by decide +kernel
                      refine dg_callv hS hA1 hA (va_runV (As := [.int 6]) (rest := []) F (c_m_frames l g D o S_1174 6 (by decide +kernel) y_1171 ((m_1174.1 0 3 _ sM_0 (by decide)).trans f_y_1171) (by omega) y_1172 ((m_1174.1 0 4 _ sM_0 (by decide)).trans f_y_1172) (by omega) y_1173 ((m_1174.1 0 5 _ sM_0 (by decide)).trans f_y_1173) (by omega) sl (((m_1174.1 0 2 _ sM_0 (by decide)).trans ((m_1170.1 0 2 _ sM_0 (by decide)).trans ((dg_uf_F e_278 0 2).trans (m_2.1 0 2 _ sM_0 (by decide))))).trans f_sl) (by omega) y_1175 f_y_1175 (by omega) dp (((m_1174.1 0 42 _ sM_0 (by decide)).trans ((m_1170.1 0 42 _ sM_0 (by decide)).trans ((dg_uf_F e_278 0 42).trans (m_2.1 0 42 _ sM_0 (by decide))))).trans f_dp) (by omega) om (((m_1174.1 0 45 _ sM_0 (by decide)).trans ((m_1170.1 0 45 _ sM_0 (by decide)).trans ((dg_uf_F e_278 0 45).trans (m_2.1 0 45 _ sM_0 (by decide))))).trans f_om) (by omega) on (((m_1174.1 0 43 _ sM_0 (by decide)).trans ((m_1170.1 0 43 _ sM_0 (by decide)).trans ((dg_uf_F e_278 0 43).trans (m_2.1 0 43 _ sM_0 (by decide))))).trans f_on) (by omega) (by omega) I_1174 H.size) (cwV 1 hts (bw_V wB_1201 wB_1202 wB_1203 wB_857 wB_1200) rfl rfl rfl (by decide +kernel) ⟨Nat.le_of_ble_eq_true rfl, Nat.le_of_ble_eq_true rfl⟩) (dg_preV sM_0 rfl K ST hP hS hA1 hA) rfl rfl hl.1 rfl (lv_room (Nat.le_of_ble_eq_true rfl)) dX12_operand_289 ⟨Nat.le_of_ble_eq_true rfl, Nat.le_of_ble_eq_true rfl⟩) (fun S_1206 hw_1206 H locs hP hS => ?_)
                      obtain ⟨I_1206, m_1206, w_1206_0, w_1206_1, -⟩ := hw_1206
                      have M_1206 := dg_sm.tr M_1174 m_1206 (by decide) (by decide)
                      have hz_1207 : (6 : Int32).toInt = 6 := by decide +kernel
                      obtain ⟨y_1208, y_1209, y_1210, y_1211, y_1212, f_y_1208, f_y_1209, f_y_1210, f_y_1211, f_y_1212, w_1206_0⟩ := w_1206_0
                      have w_1206_0 : ((y_1209).toInt ≤ (y_1210).toInt ∧ (y_1210).toInt ≤ (sl).toInt ∧ ((y_1208).toInt ≠ 0 → (y_1209).toInt + 1 ≤ (y_1210).toInt)) ∧ (y_1172).toInt ≤ (y_1209).toInt ∧ ((y_1175).toInt ≠ 0 → (y_1211).toInt ≠ 0) ∧ (((y_1211).toInt = 0 → ((y_1172).toInt + 1 ≤ (y_1209).toInt ∧ (y_1212).toInt = (dp).toInt + 1))) := w_1206_0
                      have b_y_1208 : 0 ≤ (y_1208).toInt ∧ (y_1208).toInt ≤ 3 := dg_I.intb (lo := 0) (hi := 3) I_1206 sM_0 (by decide +kernel) f_y_1208
                      have b_y_1209 : 0 ≤ (y_1209).toInt ∧ (y_1209).toInt ≤ 1600 := dg_I.intb (lo := 0) (hi := 1600) I_1206 sM_0 (by decide +kernel) f_y_1209
                      have b_y_1210 : 0 ≤ (y_1210).toInt ∧ (y_1210).toInt ≤ 1600 := dg_I.intb (lo := 0) (hi := 1600) I_1206 sM_0 (by decide +kernel) f_y_1210
                      have b_y_1211 : 0 ≤ (y_1211).toInt ∧ (y_1211).toInt ≤ 6 := dg_I.intb (lo := 0) (hi := 6) I_1206 sM_0 (by decide +kernel) f_y_1211
                      have b_y_1212 : 0 ≤ (y_1212).toInt ∧ (y_1212).toInt ≤ 20 := dg_I.intb (lo := 0) (hi := 20) I_1206 sM_0 (by decide +kernel) f_y_1212
                      have w_1206_1 : ∀ k9 : Int32, S_1206.1 0 8 = .int k9 → k9.toInt = 0 → FRM S_1174 S_1206 (6 : Int32) := w_1206_1
                      obtain ⟨x_1213, f_x_1213, b_x_1213⟩ := dg_I.int (i := 0) (k := 42) (lo := 0) (hi := 20) I_1174 sM_0 (by decide +kernel)
                      refine lv_aload_n hx hb dX12_operand_292 rfl (lv_at hl 3 rfl) ?_
                      refine dg_get (C := RX12) (T := TX12) (N := 77) hx hb hts (fun w h => bw_mem (wU_X12 w h)) hown K hP sM_0 rfl 8 (by decide) (hts _ (bw_mem wB_1109)) (fun _ h9 => h9) (v := .int y_1211) f_y_1211 dX12_operand_293 ?_
                      refine lv_if_ne (tgt := 311) hx hb dX12_operand_296 (by decide) (fun c_1214 => ?_) (fun c_1214 => ?_)
                      · have jc_1214 := dk_neqc (k := 0) (by decide +kernel) c_1214
                        refine lv_iconst (v := 0) hx hb dX12_operand_311 (by decide +kernel) ?_
                        have hz_1215 : (0 : Int32).toInt = 0 := by decide +kernel
                        have hz_1216 : (0 : Int32).toInt = 0 := by decide +kernel
                        obtain ⟨x_1217, f_x_1217, b_x_1217⟩ := dg_I.int (i := 0) (k := 42) (lo := 0) (hi := 20) I_1206 sM_0 (by decide +kernel)
                        have hz_1218 : (0 : Int32).toInt = 0 := by decide +kernel
                        have hz_1219 : (0 : Int32).toInt = 0 := by decide +kernel
                        refine W.widen (k := 0) (n := 0) (Nat.le_of_ble_eq_true rfl) (Nat.le_of_ble_eq_true rfl) ?_
                        exact dg_iret hx hb hr hlocks (by decide +kernel) hP hS ⟨I_1206, M_1206, (by decide +kernel), ⟨y_1208, y_1209, y_1210, y_1211, cd, x_1217, om, f_y_1208, f_y_1209, f_y_1210, f_y_1211, (((m_1206.1 0 34 _ sM_0 (by decide)).trans ((m_1174.1 0 34 _ sM_0 (by decide)).trans ((m_1170.1 0 34 _ sM_0 (by decide)).trans ((dg_uf_F e_278 0 34).trans (m_2.1 0 34 _ sM_0 (by decide)))))).trans f_cd), f_x_1217, (((m_1206.1 0 45 _ sM_0 (by decide)).trans ((m_1174.1 0 45 _ sM_0 (by decide)).trans ((m_1170.1 0 45 _ sM_0 (by decide)).trans ((dg_uf_F e_278 0 45).trans (m_2.1 0 45 _ sM_0 (by decide)))))).trans f_om), (by omega)⟩, (fun k9 hk9 hk0 => by have q9 := (f_y_1211).symm.trans hk9; cases q9; omega), (ZWM.keep (ZWM.keep (ZWM.keep (ZWM.keep (ZWM.keep ZW m_2 (by decide) (by decide) (by decide) (by decide)) (dg_sm.uf (WF := []) (WA := [24]) dg_sm.rf e_278 sM_24 (by decide)) (by decide) (by decide) (by decide) (by decide)) m_1170 (by decide) (by decide) (by decide) (by decide)) m_1174 (by decide) (by decide) (by decide) (by decide)) m_1206 (by decide) (by decide) (by decide) (by decide)), trivial⟩ dX12_operand_312
                      · have jc_1214 := dk_eqc (k := 0) (by decide +kernel) c_1214
                        refine lv_aload_n hx hb dX12_operand_299 rfl (lv_at hl 3 rfl) ?_
                        refine dg_get (C := RX12) (T := TX12) (N := 77) hx hb hts (fun w h => bw_mem (wU_X12 w h)) hown K hP sM_0 rfl 40 (by decide) (hts _ (bw_mem wB_1204)) (fun _ h9 => h9) (v := .ref (o + 25)) (show S_1206.1 0 40 = .ref (o + 25) from dg_I.rel (d := 25) I_1206 sM_0 (by decide +kernel)) dX12_operand_300 ?_
                        refine lv_aload_n hx hb dX12_operand_303 rfl (lv_at hl 3 rfl) ?_
                        obtain ⟨x_1220, f_x_1220, b_x_1220⟩ := dg_I.int (i := 0) (k := 42) (lo := 0) (hi := 20) I_1206 sM_0 (by decide +kernel)
                        refine dg_get (C := RX12) (T := TX12) (N := 77) hx hb hts (fun w h => bw_mem (wU_X12 w h)) hown K hP sM_0 rfl 42 (by decide) (hts _ (bw_mem wB_1179)) (fun _ h9 => h9) (v := .int x_1220) f_x_1220 dX12_operand_304 ?_
                        refine lv_iconst (v := 1) hx hb dX12_operand_307 (by decide +kernel) ?_
                        refine lv_isub hx hb dX12_operand_308 ?_
                        refine lv_topi (fun x_1221 ex_1221 => ?_)
                        have jx_1221 : (x_1221).toInt = (x_1220).toInt - 1 := by rw [ex_1221]; exact dk_subT rfl (by decide +kernel) (by omega) (by omega)
                        refine lv_iload_n hx hb dX12_operand_309 rfl (lv_at hl 0 rfl) ?_
                        have hin_1222 : vp_in x_1221 20 := (dk_inv (by omega) (by omega))
                        refine dg_iast hx hb K hP hS hA1 sM_25 hin_1222 dX12_operand_310 (fun S_1223 e_1223 H locs hP hS => ?_)
                        have I_1223 := dg_I.uf0 I_1206 e_1223 sM_25 (by decide +kernel)
                        have M_1223 := dg_sm.uf M_1206 e_1223 sM_25 (by decide)
                        have P0_1223 : P0M S_1223 := PBM.openp (PBM.keep (PBM.keep PB_278 m_1170 (by decide) (by decide) (by decide) (by decide) (by decide) (by decide) (by decide) (by decide) (by decide) (by decide) (by decide) (by decide) (by decide) (by decide) (by decide)) m_1174 (by decide) (by decide) (by decide) (by decide) (by decide) (by decide) (by decide) (by decide) (by decide) (by decide) (by decide) (by decide) (by decide) (by decide) (by decide)) f_x_1213 (((m_1174.1 0 43 _ sM_0 (by decide)).trans ((m_1170.1 0 43 _ sM_0 (by decide)).trans ((dg_uf_F e_278 0 43).trans (m_2.1 0 43 _ sM_0 (by decide))))).trans f_on) (((m_1174.1 0 45 _ sM_0 (by decide)).trans ((m_1170.1 0 45 _ sM_0 (by decide)).trans ((dg_uf_F e_278 0 45).trans (m_2.1 0 45 _ sM_0 (by decide))))).trans f_om) (w_1206_1 _ f_y_1211 (by omega)) m_1206 (by decide) (by decide) (by decide) (by decide) (by omega) f_x_1220 (by omega) e_1223
                        refine lv_iconst (v := 0) hx hb dX12_operand_311 (by decide +kernel) ?_
                        have hz_1224 : (0 : Int32).toInt = 0 := by decide +kernel
                        have hz_1225 : (0 : Int32).toInt = 0 := by decide +kernel
                        have hz_1226 : (0 : Int32).toInt = 0 := by decide +kernel
                        have hz_1227 : (0 : Int32).toInt = 0 := by decide +kernel
                        refine W.widen (k := 0) (n := 0) (Nat.le_of_ble_eq_true rfl) (Nat.le_of_ble_eq_true rfl) ?_
                        exact dg_iret hx hb hr hlocks (by decide +kernel) hP hS ⟨I_1223, M_1223, (by decide +kernel), ⟨y_1208, y_1209, y_1210, y_1211, cd, x_1220, om, ((dg_uf_F e_1223 0 3).trans f_y_1208), ((dg_uf_F e_1223 0 4).trans f_y_1209), ((dg_uf_F e_1223 0 5).trans f_y_1210), ((dg_uf_F e_1223 0 8).trans f_y_1211), (((dg_uf_F e_1223 0 34).trans ((m_1206.1 0 34 _ sM_0 (by decide)).trans ((m_1174.1 0 34 _ sM_0 (by decide)).trans ((m_1170.1 0 34 _ sM_0 (by decide)).trans ((dg_uf_F e_278 0 34).trans (m_2.1 0 34 _ sM_0 (by decide))))))).trans f_cd), ((dg_uf_F e_1223 0 42).trans f_x_1220), (((dg_uf_F e_1223 0 45).trans ((m_1206.1 0 45 _ sM_0 (by decide)).trans ((m_1174.1 0 45 _ sM_0 (by decide)).trans ((m_1170.1 0 45 _ sM_0 (by decide)).trans ((dg_uf_F e_278 0 45).trans (m_2.1 0 45 _ sM_0 (by decide))))))).trans f_om), (by omega)⟩, (fun k9 hk9 hk0 => ⟨fun h9 => absurd h9 (by decide +kernel), fun _ => P0_1223⟩), (ZWM.keep (ZWM.keep (ZWM.keep (ZWM.keep (ZWM.keep (ZWM.keep ZW m_2 (by decide) (by decide) (by decide) (by decide)) (dg_sm.uf (WF := []) (WA := [24]) dg_sm.rf e_278 sM_24 (by decide)) (by decide) (by decide) (by decide) (by decide)) m_1170 (by decide) (by decide) (by decide) (by decide)) m_1174 (by decide) (by decide) (by decide) (by decide)) m_1206 (by decide) (by decide) (by decide) (by decide)) (dg_sm.uf (WF := []) (WA := [25]) dg_sm.rf e_1223 sM_25 (by decide)) (by decide) (by decide) (by decide) (by decide)), trivial⟩ dX12_operand_312
                  · have jc_1180 := dk_eqc (k := 0) (by decide +kernel) c_1180
                    refine lv_aload_n hx hb dX12_operand_267 rfl (lv_at hl 3 rfl) ?_
                    refine lv_iconst (v := 1) hx hb dX12_operand_268 (by decide +kernel) ?_
                    refine lv_aload_n hx hb dX12_operand_269 rfl (lv_at hl 3 rfl) ?_
                    refine dg_get (C := RX12) (T := TX12) (N := 77) hx hb hts (fun w h => bw_mem (wU_X12 w h)) hown K hP sM_0 rfl 4 (by decide) (hts _ (bw_mem wB_1121)) (fun _ h9 => h9) (v := .int y_1172) ((m_1174.1 0 4 _ sM_0 (by decide)).trans f_y_1172) dX12_operand_270 ?_
                    have hz_1228 : (1 : Int32).toInt = 1 := by decide +kernel
                    refine dg_callv hS hA1 hA (va_runV (As := [.int 1, .int y_1172]) (rest := []) F (c_m_blame l g D o S_1174 1 (by decide +kernel) y_1172 y_1175 f_y_1175 (by omega) I_1174 H.size) (cwV 2 hts (bw_V wB_1113 wB_1114 wB_1115 wB_857 wB_1112) rfl rfl rfl (by decide +kernel) ⟨Nat.le_of_ble_eq_true rfl, Nat.le_of_ble_eq_true rfl⟩) (dg_preV sM_0 rfl K ST hP hS hA1 hA) rfl rfl hl.1 rfl (lv_room (Nat.le_of_ble_eq_true rfl)) dX12_operand_273 ⟨Nat.le_of_ble_eq_true rfl, Nat.le_of_ble_eq_true rfl⟩) (fun S_1229 hw_1229 H locs hP hS => ?_)
                    obtain ⟨I_1229, m_1229, w_1229_0, -⟩ := hw_1229
                    have M_1229 := dg_sm.tr M_1174 m_1229 (by decide) (by decide)
                    have hz_1230 : (1 : Int32).toInt = 1 := by decide +kernel
                    obtain ⟨y_1231, f_y_1231, w_1229_0⟩ := w_1229_0
                    have w_1229_0 : ((y_1175).toInt ≠ 0 → (y_1231).toInt = (y_1175).toInt) ∧ ((y_1175).toInt = 0 → (y_1231).toInt = ((1 : Int32)).toInt) := w_1229_0
                    have b_y_1231 : 0 ≤ (y_1231).toInt ∧ (y_1231).toInt ≤ 6 := dg_I.intb (lo := 0) (hi := 6) I_1229 sM_0 (by decide +kernel) f_y_1231
                    refine lv_aload_n hx hb dX12_operand_276 rfl (lv_at hl 3 rfl) ?_
                    refine lv_iload_n hx hb dX12_operand_277 rfl (lv_at hl 0 rfl) ?_
                    refine lv_bipush (v := 44) hx hb dX12_operand_278 (by decide +kernel) ?_
                    refine lv_icmp_ne (tgt := 288) hx hb dX12_operand_280 (by decide) (fun c_1232 => ?_) (fun c_1232 => ?_)
                    · have jc_1232 := dk_neqc (k := 44) (by decide +kernel) c_1232
                      refine lv_iconst (v := 3) hx hb dX12_operand_288 (by decide +kernel) ?_
                      have hz_1233 : (3 : Int32).toInt = 3 := by decide +kernel
                      refine dg_callv hS hA1 hA (va_runV (As := [.int 3]) (rest := []) F (c_m_frames l g D o S_1229 3 (by decide +kernel) y_1171 (((m_1229.1 0 3 _ sM_0 (by decide)).trans (m_1174.1 0 3 _ sM_0 (by decide))).trans f_y_1171) (by omega) y_1172 (((m_1229.1 0 4 _ sM_0 (by decide)).trans (m_1174.1 0 4 _ sM_0 (by decide))).trans f_y_1172) (by omega) y_1173 (((m_1229.1 0 5 _ sM_0 (by decide)).trans (m_1174.1 0 5 _ sM_0 (by decide))).trans f_y_1173) (by omega) sl (((m_1229.1 0 2 _ sM_0 (by decide)).trans ((m_1174.1 0 2 _ sM_0 (by decide)).trans ((m_1170.1 0 2 _ sM_0 (by decide)).trans ((dg_uf_F e_278 0 2).trans (m_2.1 0 2 _ sM_0 (by decide)))))).trans f_sl) (by omega) y_1231 f_y_1231 (by omega) dp (((m_1229.1 0 42 _ sM_0 (by decide)).trans ((m_1174.1 0 42 _ sM_0 (by decide)).trans ((m_1170.1 0 42 _ sM_0 (by decide)).trans ((dg_uf_F e_278 0 42).trans (m_2.1 0 42 _ sM_0 (by decide)))))).trans f_dp) (by omega) om (((m_1229.1 0 45 _ sM_0 (by decide)).trans ((m_1174.1 0 45 _ sM_0 (by decide)).trans ((m_1170.1 0 45 _ sM_0 (by decide)).trans ((dg_uf_F e_278 0 45).trans (m_2.1 0 45 _ sM_0 (by decide)))))).trans f_om) (by omega) on (((m_1229.1 0 43 _ sM_0 (by decide)).trans ((m_1174.1 0 43 _ sM_0 (by decide)).trans ((m_1170.1 0 43 _ sM_0 (by decide)).trans ((dg_uf_F e_278 0 43).trans (m_2.1 0 43 _ sM_0 (by decide)))))).trans f_on) (by omega) (by omega) I_1229 H.size) (cwV 1 hts (bw_V wB_1201 wB_1202 wB_1203 wB_857 wB_1200) rfl rfl rfl (by decide +kernel) ⟨Nat.le_of_ble_eq_true rfl, Nat.le_of_ble_eq_true rfl⟩) (dg_preV sM_0 rfl K ST hP hS hA1 hA) rfl rfl hl.1 rfl (lv_room (Nat.le_of_ble_eq_true rfl)) dX12_operand_289 ⟨Nat.le_of_ble_eq_true rfl, Nat.le_of_ble_eq_true rfl⟩) (fun S_1234 hw_1234 H locs hP hS => ?_)
                      obtain ⟨I_1234, m_1234, w_1234_0, w_1234_1, -⟩ := hw_1234
                      have M_1234 := dg_sm.tr M_1229 m_1234 (by decide) (by decide)
                      have hz_1235 : (3 : Int32).toInt = 3 := by decide +kernel
                      obtain ⟨y_1236, y_1237, y_1238, y_1239, y_1240, f_y_1236, f_y_1237, f_y_1238, f_y_1239, f_y_1240, w_1234_0⟩ := w_1234_0
                      have w_1234_0 : ((y_1237).toInt ≤ (y_1238).toInt ∧ (y_1238).toInt ≤ (sl).toInt ∧ ((y_1236).toInt ≠ 0 → (y_1237).toInt + 1 ≤ (y_1238).toInt)) ∧ (y_1172).toInt ≤ (y_1237).toInt ∧ ((y_1231).toInt ≠ 0 → (y_1239).toInt ≠ 0) ∧ (((y_1239).toInt = 0 → ((y_1172).toInt + 1 ≤ (y_1237).toInt ∧ (y_1240).toInt = (dp).toInt + 1))) := w_1234_0
                      have b_y_1236 : 0 ≤ (y_1236).toInt ∧ (y_1236).toInt ≤ 3 := dg_I.intb (lo := 0) (hi := 3) I_1234 sM_0 (by decide +kernel) f_y_1236
                      have b_y_1237 : 0 ≤ (y_1237).toInt ∧ (y_1237).toInt ≤ 1600 := dg_I.intb (lo := 0) (hi := 1600) I_1234 sM_0 (by decide +kernel) f_y_1237
                      have b_y_1238 : 0 ≤ (y_1238).toInt ∧ (y_1238).toInt ≤ 1600 := dg_I.intb (lo := 0) (hi := 1600) I_1234 sM_0 (by decide +kernel) f_y_1238
                      have b_y_1239 : 0 ≤ (y_1239).toInt ∧ (y_1239).toInt ≤ 6 := dg_I.intb (lo := 0) (hi := 6) I_1234 sM_0 (by decide +kernel) f_y_1239
                      have b_y_1240 : 0 ≤ (y_1240).toInt ∧ (y_1240).toInt ≤ 20 := dg_I.intb (lo := 0) (hi := 20) I_1234 sM_0 (by decide +kernel) f_y_1240
                      have w_1234_1 : ∀ k9 : Int32, S_1234.1 0 8 = .int k9 → k9.toInt = 0 → FRM S_1229 S_1234 (3 : Int32) := w_1234_1
                      obtain ⟨x_1241, f_x_1241, b_x_1241⟩ := dg_I.int (i := 0) (k := 42) (lo := 0) (hi := 20) I_1229 sM_0 (by decide +kernel)
                      refine lv_aload_n hx hb dX12_operand_292 rfl (lv_at hl 3 rfl) ?_
                      refine dg_get (C := RX12) (T := TX12) (N := 77) hx hb hts (fun w h => bw_mem (wU_X12 w h)) hown K hP sM_0 rfl 8 (by decide) (hts _ (bw_mem wB_1109)) (fun _ h9 => h9) (v := .int y_1239) f_y_1239 dX12_operand_293 ?_
                      refine lv_if_ne (tgt := 311) hx hb dX12_operand_296 (by decide) (fun c_1242 => ?_) (fun c_1242 => ?_)
                      · have jc_1242 := dk_neqc (k := 0) (by decide +kernel) c_1242
                        refine lv_iconst (v := 0) hx hb dX12_operand_311 (by decide +kernel) ?_
                        have hz_1243 : (0 : Int32).toInt = 0 := by decide +kernel
                        have hz_1244 : (0 : Int32).toInt = 0 := by decide +kernel
                        obtain ⟨x_1245, f_x_1245, b_x_1245⟩ := dg_I.int (i := 0) (k := 42) (lo := 0) (hi := 20) I_1234 sM_0 (by decide +kernel)
                        have hz_1246 : (0 : Int32).toInt = 0 := by decide +kernel
                        have hz_1247 : (0 : Int32).toInt = 0 := by decide +kernel
                        refine W.widen (k := 0) (n := 0) (Nat.le_of_ble_eq_true rfl) (Nat.le_of_ble_eq_true rfl) ?_
                        exact dg_iret hx hb hr hlocks (by decide +kernel) hP hS ⟨I_1234, M_1234, (by decide +kernel), ⟨y_1236, y_1237, y_1238, y_1239, cd, x_1245, om, f_y_1236, f_y_1237, f_y_1238, f_y_1239, (((m_1234.1 0 34 _ sM_0 (by decide)).trans ((m_1229.1 0 34 _ sM_0 (by decide)).trans ((m_1174.1 0 34 _ sM_0 (by decide)).trans ((m_1170.1 0 34 _ sM_0 (by decide)).trans ((dg_uf_F e_278 0 34).trans (m_2.1 0 34 _ sM_0 (by decide))))))).trans f_cd), f_x_1245, (((m_1234.1 0 45 _ sM_0 (by decide)).trans ((m_1229.1 0 45 _ sM_0 (by decide)).trans ((m_1174.1 0 45 _ sM_0 (by decide)).trans ((m_1170.1 0 45 _ sM_0 (by decide)).trans ((dg_uf_F e_278 0 45).trans (m_2.1 0 45 _ sM_0 (by decide))))))).trans f_om), (by omega)⟩, (fun k9 hk9 hk0 => by have q9 := (f_y_1239).symm.trans hk9; cases q9; omega), (ZWM.keep (ZWM.keep (ZWM.keep (ZWM.keep (ZWM.keep (ZWM.keep ZW m_2 (by decide) (by decide) (by decide) (by decide)) (dg_sm.uf (WF := []) (WA := [24]) dg_sm.rf e_278 sM_24 (by decide)) (by decide) (by decide) (by decide) (by decide)) m_1170 (by decide) (by decide) (by decide) (by decide)) m_1174 (by decide) (by decide) (by decide) (by decide)) m_1229 (by decide) (by decide) (by decide) (by decide)) m_1234 (by decide) (by decide) (by decide) (by decide)), trivial⟩ dX12_operand_312
                      · have jc_1242 := dk_eqc (k := 0) (by decide +kernel) c_1242
                        refine lv_aload_n hx hb dX12_operand_299 rfl (lv_at hl 3 rfl) ?_
                        refine dg_get (C := RX12) (T := TX12) (N := 77) hx hb hts (fun w h => bw_mem (wU_X12 w h)) hown K hP sM_0 rfl 40 (by decide) (hts _ (bw_mem wB_1204)) (fun _ h9 => h9) (v := .ref (o + 25)) (show S_1234.1 0 40 = .ref (o + 25) from dg_I.rel (d := 25) I_1234 sM_0 (by decide +kernel)) dX12_operand_300 ?_
                        refine lv_aload_n hx hb dX12_operand_303 rfl (lv_at hl 3 rfl) ?_
                        obtain ⟨x_1248, f_x_1248, b_x_1248⟩ := dg_I.int (i := 0) (k := 42) (lo := 0) (hi := 20) I_1234 sM_0 (by decide +kernel)
                        refine dg_get (C := RX12) (T := TX12) (N := 77) hx hb hts (fun w h => bw_mem (wU_X12 w h)) hown K hP sM_0 rfl 42 (by decide) (hts _ (bw_mem wB_1179)) (fun _ h9 => h9) (v := .int x_1248) f_x_1248 dX12_operand_304 ?_
                        refine lv_iconst (v := 1) hx hb dX12_operand_307 (by decide +kernel) ?_
                        refine lv_isub hx hb dX12_operand_308 ?_
                        refine lv_topi (fun x_1249 ex_1249 => ?_)
                        have jx_1249 : (x_1249).toInt = (x_1248).toInt - 1 := by rw [ex_1249]; exact dk_subT rfl (by decide +kernel) (by omega) (by omega)
                        refine lv_iload_n hx hb dX12_operand_309 rfl (lv_at hl 0 rfl) ?_
                        have hin_1250 : vp_in x_1249 20 := (dk_inv (by omega) (by omega))
                        refine dg_iast hx hb K hP hS hA1 sM_25 hin_1250 dX12_operand_310 (fun S_1251 e_1251 H locs hP hS => ?_)
                        have I_1251 := dg_I.uf0 I_1234 e_1251 sM_25 (by decide +kernel)
                        have M_1251 := dg_sm.uf M_1234 e_1251 sM_25 (by decide)
                        have P0_1251 : P0M S_1251 := PBM.openp (PBM.keep (PBM.keep (PBM.keep PB_278 m_1170 (by decide) (by decide) (by decide) (by decide) (by decide) (by decide) (by decide) (by decide) (by decide) (by decide) (by decide) (by decide) (by decide) (by decide) (by decide)) m_1174 (by decide) (by decide) (by decide) (by decide) (by decide) (by decide) (by decide) (by decide) (by decide) (by decide) (by decide) (by decide) (by decide) (by decide) (by decide)) m_1229 (by decide) (by decide) (by decide) (by decide) (by decide) (by decide) (by decide) (by decide) (by decide) (by decide) (by decide) (by decide) (by decide) (by decide) (by decide)) f_x_1241 (((m_1229.1 0 43 _ sM_0 (by decide)).trans ((m_1174.1 0 43 _ sM_0 (by decide)).trans ((m_1170.1 0 43 _ sM_0 (by decide)).trans ((dg_uf_F e_278 0 43).trans (m_2.1 0 43 _ sM_0 (by decide)))))).trans f_on) (((m_1229.1 0 45 _ sM_0 (by decide)).trans ((m_1174.1 0 45 _ sM_0 (by decide)).trans ((m_1170.1 0 45 _ sM_0 (by decide)).trans ((dg_uf_F e_278 0 45).trans (m_2.1 0 45 _ sM_0 (by decide)))))).trans f_om) (w_1234_1 _ f_y_1239 (by omega)) m_1234 (by decide) (by decide) (by decide) (by decide) (by omega) f_x_1248 (by omega) e_1251
                        refine lv_iconst (v := 0) hx hb dX12_operand_311 (by decide +kernel) ?_
                        have hz_1252 : (0 : Int32).toInt = 0 := by decide +kernel
                        have hz_1253 : (0 : Int32).toInt = 0 := by decide +kernel
                        have hz_1254 : (0 : Int32).toInt = 0 := by decide +kernel
                        have hz_1255 : (0 : Int32).toInt = 0 := by decide +kernel
                        refine W.widen (k := 0) (n := 0) (Nat.le_of_ble_eq_true rfl) (Nat.le_of_ble_eq_true rfl) ?_
                        exact dg_iret hx hb hr hlocks (by decide +kernel) hP hS ⟨I_1251, M_1251, (by decide +kernel), ⟨y_1236, y_1237, y_1238, y_1239, cd, x_1248, om, ((dg_uf_F e_1251 0 3).trans f_y_1236), ((dg_uf_F e_1251 0 4).trans f_y_1237), ((dg_uf_F e_1251 0 5).trans f_y_1238), ((dg_uf_F e_1251 0 8).trans f_y_1239), (((dg_uf_F e_1251 0 34).trans ((m_1234.1 0 34 _ sM_0 (by decide)).trans ((m_1229.1 0 34 _ sM_0 (by decide)).trans ((m_1174.1 0 34 _ sM_0 (by decide)).trans ((m_1170.1 0 34 _ sM_0 (by decide)).trans ((dg_uf_F e_278 0 34).trans (m_2.1 0 34 _ sM_0 (by decide)))))))).trans f_cd), ((dg_uf_F e_1251 0 42).trans f_x_1248), (((dg_uf_F e_1251 0 45).trans ((m_1234.1 0 45 _ sM_0 (by decide)).trans ((m_1229.1 0 45 _ sM_0 (by decide)).trans ((m_1174.1 0 45 _ sM_0 (by decide)).trans ((m_1170.1 0 45 _ sM_0 (by decide)).trans ((dg_uf_F e_278 0 45).trans (m_2.1 0 45 _ sM_0 (by decide)))))))).trans f_om), (by omega)⟩, (fun k9 hk9 hk0 => ⟨fun h9 => absurd h9 (by decide +kernel), fun _ => P0_1251⟩), (ZWM.keep (ZWM.keep (ZWM.keep (ZWM.keep (ZWM.keep (ZWM.keep (ZWM.keep ZW m_2 (by decide) (by decide) (by decide) (by decide)) (dg_sm.uf (WF := []) (WA := [24]) dg_sm.rf e_278 sM_24 (by decide)) (by decide) (by decide) (by decide) (by decide)) m_1170 (by decide) (by decide) (by decide) (by decide)) m_1174 (by decide) (by decide) (by decide) (by decide)) m_1229 (by decide) (by decide) (by decide) (by decide)) m_1234 (by decide) (by decide) (by decide) (by decide)) (dg_sm.uf (WF := []) (WA := [25]) dg_sm.rf e_1251 sM_25 (by decide)) (by decide) (by decide) (by decide) (by decide)), trivial⟩ dX12_operand_312
                    · have jc_1232 := dk_eqc (k := 44) (by decide +kernel) c_1232
                      refine lv_bipush (v := 6) hx hb dX12_operand_283 (by decide +kernel) ?_
                      refine lv_goto (tgt := 289) hx hb dX12_operand_285 (by decide) ?_
                      have hz_1256 : (6 : Int32).toInt = 6 := by decide +kernel
                      refine dg_callv hS hA1 hA (va_runV (As := [.int 6]) (rest := []) F (c_m_frames l g D o S_1229 6 (by decide +kernel) y_1171 (((m_1229.1 0 3 _ sM_0 (by decide)).trans (m_1174.1 0 3 _ sM_0 (by decide))).trans f_y_1171) (by omega) y_1172 (((m_1229.1 0 4 _ sM_0 (by decide)).trans (m_1174.1 0 4 _ sM_0 (by decide))).trans f_y_1172) (by omega) y_1173 (((m_1229.1 0 5 _ sM_0 (by decide)).trans (m_1174.1 0 5 _ sM_0 (by decide))).trans f_y_1173) (by omega) sl (((m_1229.1 0 2 _ sM_0 (by decide)).trans ((m_1174.1 0 2 _ sM_0 (by decide)).trans ((m_1170.1 0 2 _ sM_0 (by decide)).trans ((dg_uf_F e_278 0 2).trans (m_2.1 0 2 _ sM_0 (by decide)))))).trans f_sl) (by omega) y_1231 f_y_1231 (by omega) dp (((m_1229.1 0 42 _ sM_0 (by decide)).trans ((m_1174.1 0 42 _ sM_0 (by decide)).trans ((m_1170.1 0 42 _ sM_0 (by decide)).trans ((dg_uf_F e_278 0 42).trans (m_2.1 0 42 _ sM_0 (by decide)))))).trans f_dp) (by omega) om (((m_1229.1 0 45 _ sM_0 (by decide)).trans ((m_1174.1 0 45 _ sM_0 (by decide)).trans ((m_1170.1 0 45 _ sM_0 (by decide)).trans ((dg_uf_F e_278 0 45).trans (m_2.1 0 45 _ sM_0 (by decide)))))).trans f_om) (by omega) on (((m_1229.1 0 43 _ sM_0 (by decide)).trans ((m_1174.1 0 43 _ sM_0 (by decide)).trans ((m_1170.1 0 43 _ sM_0 (by decide)).trans ((dg_uf_F e_278 0 43).trans (m_2.1 0 43 _ sM_0 (by decide)))))).trans f_on) (by omega) (by omega) I_1229 H.size) (cwV 1 hts (bw_V wB_1201 wB_1202 wB_1203 wB_857 wB_1200) rfl rfl rfl (by decide +kernel) ⟨Nat.le_of_ble_eq_true rfl, Nat.le_of_ble_eq_true rfl⟩) (dg_preV sM_0 rfl K ST hP hS hA1 hA) rfl rfl hl.1 rfl (lv_room (Nat.le_of_ble_eq_true rfl)) dX12_operand_289 ⟨Nat.le_of_ble_eq_true rfl, Nat.le_of_ble_eq_true rfl⟩) (fun S_1257 hw_1257 H locs hP hS => ?_)
                      obtain ⟨I_1257, m_1257, w_1257_0, w_1257_1, -⟩ := hw_1257
                      have M_1257 := dg_sm.tr M_1229 m_1257 (by decide) (by decide)
                      have hz_1258 : (6 : Int32).toInt = 6 := by decide +kernel
                      obtain ⟨y_1259, y_1260, y_1261, y_1262, y_1263, f_y_1259, f_y_1260, f_y_1261, f_y_1262, f_y_1263, w_1257_0⟩ := w_1257_0
                      have w_1257_0 : ((y_1260).toInt ≤ (y_1261).toInt ∧ (y_1261).toInt ≤ (sl).toInt ∧ ((y_1259).toInt ≠ 0 → (y_1260).toInt + 1 ≤ (y_1261).toInt)) ∧ (y_1172).toInt ≤ (y_1260).toInt ∧ ((y_1231).toInt ≠ 0 → (y_1262).toInt ≠ 0) ∧ (((y_1262).toInt = 0 → ((y_1172).toInt + 1 ≤ (y_1260).toInt ∧ (y_1263).toInt = (dp).toInt + 1))) := w_1257_0
                      have b_y_1259 : 0 ≤ (y_1259).toInt ∧ (y_1259).toInt ≤ 3 := dg_I.intb (lo := 0) (hi := 3) I_1257 sM_0 (by decide +kernel) f_y_1259
                      have b_y_1260 : 0 ≤ (y_1260).toInt ∧ (y_1260).toInt ≤ 1600 := dg_I.intb (lo := 0) (hi := 1600) I_1257 sM_0 (by decide +kernel) f_y_1260
                      have b_y_1261 : 0 ≤ (y_1261).toInt ∧ (y_1261).toInt ≤ 1600 := dg_I.intb (lo := 0) (hi := 1600) I_1257 sM_0 (by decide +kernel) f_y_1261
                      have b_y_1262 : 0 ≤ (y_1262).toInt ∧ (y_1262).toInt ≤ 6 := dg_I.intb (lo := 0) (hi := 6) I_1257 sM_0 (by decide +kernel) f_y_1262
                      have b_y_1263 : 0 ≤ (y_1263).toInt ∧ (y_1263).toInt ≤ 20 := dg_I.intb (lo := 0) (hi := 20) I_1257 sM_0 (by decide +kernel) f_y_1263
                      have w_1257_1 : ∀ k9 : Int32, S_1257.1 0 8 = .int k9 → k9.toInt = 0 → FRM S_1229 S_1257 (6 : Int32) := w_1257_1
                      obtain ⟨x_1264, f_x_1264, b_x_1264⟩ := dg_I.int (i := 0) (k := 42) (lo := 0) (hi := 20) I_1229 sM_0 (by decide +kernel)
                      refine lv_aload_n hx hb dX12_operand_292 rfl (lv_at hl 3 rfl) ?_
                      refine dg_get (C := RX12) (T := TX12) (N := 77) hx hb hts (fun w h => bw_mem (wU_X12 w h)) hown K hP sM_0 rfl 8 (by decide) (hts _ (bw_mem wB_1109)) (fun _ h9 => h9) (v := .int y_1262) f_y_1262 dX12_operand_293 ?_
                      refine lv_if_ne (tgt := 311) hx hb dX12_operand_296 (by decide) (fun c_1265 => ?_) (fun c_1265 => ?_)
                      · have jc_1265 := dk_neqc (k := 0) (by decide +kernel) c_1265
                        refine lv_iconst (v := 0) hx hb dX12_operand_311 (by decide +kernel) ?_
                        have hz_1266 : (0 : Int32).toInt = 0 := by decide +kernel
                        have hz_1267 : (0 : Int32).toInt = 0 := by decide +kernel
                        obtain ⟨x_1268, f_x_1268, b_x_1268⟩ := dg_I.int (i := 0) (k := 42) (lo := 0) (hi := 20) I_1257 sM_0 (by decide +kernel)
                        have hz_1269 : (0 : Int32).toInt = 0 := by decide +kernel
                        have hz_1270 : (0 : Int32).toInt = 0 := by decide +kernel
                        refine W.widen (k := 0) (n := 0) (Nat.le_of_ble_eq_true rfl) (Nat.le_of_ble_eq_true rfl) ?_
                        exact dg_iret hx hb hr hlocks (by decide +kernel) hP hS ⟨I_1257, M_1257, (by decide +kernel), ⟨y_1259, y_1260, y_1261, y_1262, cd, x_1268, om, f_y_1259, f_y_1260, f_y_1261, f_y_1262, (((m_1257.1 0 34 _ sM_0 (by decide)).trans ((m_1229.1 0 34 _ sM_0 (by decide)).trans ((m_1174.1 0 34 _ sM_0 (by decide)).trans ((m_1170.1 0 34 _ sM_0 (by decide)).trans ((dg_uf_F e_278 0 34).trans (m_2.1 0 34 _ sM_0 (by decide))))))).trans f_cd), f_x_1268, (((m_1257.1 0 45 _ sM_0 (by decide)).trans ((m_1229.1 0 45 _ sM_0 (by decide)).trans ((m_1174.1 0 45 _ sM_0 (by decide)).trans ((m_1170.1 0 45 _ sM_0 (by decide)).trans ((dg_uf_F e_278 0 45).trans (m_2.1 0 45 _ sM_0 (by decide))))))).trans f_om), (by omega)⟩, (fun k9 hk9 hk0 => by have q9 := (f_y_1262).symm.trans hk9; cases q9; omega), (ZWM.keep (ZWM.keep (ZWM.keep (ZWM.keep (ZWM.keep (ZWM.keep ZW m_2 (by decide) (by decide) (by decide) (by decide)) (dg_sm.uf (WF := []) (WA := [24]) dg_sm.rf e_278 sM_24 (by decide)) (by decide) (by decide) (by decide) (by decide)) m_1170 (by decide) (by decide) (by decide) (by decide)) m_1174 (by decide) (by decide) (by decide) (by decide)) m_1229 (by decide) (by decide) (by decide) (by decide)) m_1257 (by decide) (by decide) (by decide) (by decide)), trivial⟩ dX12_operand_312
                      · have jc_1265 := dk_eqc (k := 0) (by decide +kernel) c_1265
                        refine lv_aload_n hx hb dX12_operand_299 rfl (lv_at hl 3 rfl) ?_
                        refine dg_get (C := RX12) (T := TX12) (N := 77) hx hb hts (fun w h => bw_mem (wU_X12 w h)) hown K hP sM_0 rfl 40 (by decide) (hts _ (bw_mem wB_1204)) (fun _ h9 => h9) (v := .ref (o + 25)) (show S_1257.1 0 40 = .ref (o + 25) from dg_I.rel (d := 25) I_1257 sM_0 (by decide +kernel)) dX12_operand_300 ?_
                        refine lv_aload_n hx hb dX12_operand_303 rfl (lv_at hl 3 rfl) ?_
                        obtain ⟨x_1271, f_x_1271, b_x_1271⟩ := dg_I.int (i := 0) (k := 42) (lo := 0) (hi := 20) I_1257 sM_0 (by decide +kernel)
                        refine dg_get (C := RX12) (T := TX12) (N := 77) hx hb hts (fun w h => bw_mem (wU_X12 w h)) hown K hP sM_0 rfl 42 (by decide) (hts _ (bw_mem wB_1179)) (fun _ h9 => h9) (v := .int x_1271) f_x_1271 dX12_operand_304 ?_
                        refine lv_iconst (v := 1) hx hb dX12_operand_307 (by decide +kernel) ?_
                        refine lv_isub hx hb dX12_operand_308 ?_
                        refine lv_topi (fun x_1272 ex_1272 => ?_)
                        have jx_1272 : (x_1272).toInt = (x_1271).toInt - 1 := by rw [ex_1272]; exact dk_subT rfl (by decide +kernel) (by omega) (by omega)
                        refine lv_iload_n hx hb dX12_operand_309 rfl (lv_at hl 0 rfl) ?_
                        have hin_1273 : vp_in x_1272 20 := (dk_inv (by omega) (by omega))
                        refine dg_iast hx hb K hP hS hA1 sM_25 hin_1273 dX12_operand_310 (fun S_1274 e_1274 H locs hP hS => ?_)
                        have I_1274 := dg_I.uf0 I_1257 e_1274 sM_25 (by decide +kernel)
                        have M_1274 := dg_sm.uf M_1257 e_1274 sM_25 (by decide)
                        have P0_1274 : P0M S_1274 := PBM.openp (PBM.keep (PBM.keep (PBM.keep PB_278 m_1170 (by decide) (by decide) (by decide) (by decide) (by decide) (by decide) (by decide) (by decide) (by decide) (by decide) (by decide) (by decide) (by decide) (by decide) (by decide)) m_1174 (by decide) (by decide) (by decide) (by decide) (by decide) (by decide) (by decide) (by decide) (by decide) (by decide) (by decide) (by decide) (by decide) (by decide) (by decide)) m_1229 (by decide) (by decide) (by decide) (by decide) (by decide) (by decide) (by decide) (by decide) (by decide) (by decide) (by decide) (by decide) (by decide) (by decide) (by decide)) f_x_1264 (((m_1229.1 0 43 _ sM_0 (by decide)).trans ((m_1174.1 0 43 _ sM_0 (by decide)).trans ((m_1170.1 0 43 _ sM_0 (by decide)).trans ((dg_uf_F e_278 0 43).trans (m_2.1 0 43 _ sM_0 (by decide)))))).trans f_on) (((m_1229.1 0 45 _ sM_0 (by decide)).trans ((m_1174.1 0 45 _ sM_0 (by decide)).trans ((m_1170.1 0 45 _ sM_0 (by decide)).trans ((dg_uf_F e_278 0 45).trans (m_2.1 0 45 _ sM_0 (by decide)))))).trans f_om) (w_1257_1 _ f_y_1262 (by omega)) m_1257 (by decide) (by decide) (by decide) (by decide) (by omega) f_x_1271 (by omega) e_1274
                        refine lv_iconst (v := 0) hx hb dX12_operand_311 (by decide +kernel) ?_
                        have hz_1275 : (0 : Int32).toInt = 0 := by decide +kernel
                        have hz_1276 : (0 : Int32).toInt = 0 := by decide +kernel
                        have hz_1277 : (0 : Int32).toInt = 0 := by decide +kernel
                        have hz_1278 : (0 : Int32).toInt = 0 := by decide +kernel
                        refine W.widen (k := 0) (n := 0) (Nat.le_of_ble_eq_true rfl) (Nat.le_of_ble_eq_true rfl) ?_
                        exact dg_iret hx hb hr hlocks (by decide +kernel) hP hS ⟨I_1274, M_1274, (by decide +kernel), ⟨y_1259, y_1260, y_1261, y_1262, cd, x_1271, om, ((dg_uf_F e_1274 0 3).trans f_y_1259), ((dg_uf_F e_1274 0 4).trans f_y_1260), ((dg_uf_F e_1274 0 5).trans f_y_1261), ((dg_uf_F e_1274 0 8).trans f_y_1262), (((dg_uf_F e_1274 0 34).trans ((m_1257.1 0 34 _ sM_0 (by decide)).trans ((m_1229.1 0 34 _ sM_0 (by decide)).trans ((m_1174.1 0 34 _ sM_0 (by decide)).trans ((m_1170.1 0 34 _ sM_0 (by decide)).trans ((dg_uf_F e_278 0 34).trans (m_2.1 0 34 _ sM_0 (by decide)))))))).trans f_cd), ((dg_uf_F e_1274 0 42).trans f_x_1271), (((dg_uf_F e_1274 0 45).trans ((m_1257.1 0 45 _ sM_0 (by decide)).trans ((m_1229.1 0 45 _ sM_0 (by decide)).trans ((m_1174.1 0 45 _ sM_0 (by decide)).trans ((m_1170.1 0 45 _ sM_0 (by decide)).trans ((dg_uf_F e_278 0 45).trans (m_2.1 0 45 _ sM_0 (by decide)))))))).trans f_om), (by omega)⟩, (fun k9 hk9 hk0 => ⟨fun h9 => absurd h9 (by decide +kernel), fun _ => P0_1274⟩), (ZWM.keep (ZWM.keep (ZWM.keep (ZWM.keep (ZWM.keep (ZWM.keep (ZWM.keep ZW m_2 (by decide) (by decide) (by decide) (by decide)) (dg_sm.uf (WF := []) (WA := [24]) dg_sm.rf e_278 sM_24 (by decide)) (by decide) (by decide) (by decide) (by decide)) m_1170 (by decide) (by decide) (by decide) (by decide)) m_1174 (by decide) (by decide) (by decide) (by decide)) m_1229 (by decide) (by decide) (by decide) (by decide)) m_1257 (by decide) (by decide) (by decide) (by decide)) (dg_sm.uf (WF := []) (WA := [25]) dg_sm.rf e_1274 sM_25 (by decide)) (by decide) (by decide) (by decide) (by decide)), trivial⟩ dX12_operand_312
                refine lv_if_eq (tgt := 232) hx hb dX12_operand_224 (by decide) (fun c_1279 => ?_) (fun c_1279 => ?_)
                · have jc_1279 := dk_eqc (k := 0) (by decide +kernel) c_1279
                  refine lv_aload_n hx hb dX12_operand_232 rfl (lv_at hl 2 rfl) ?_
                  refine lv_ldc2 hx hb hown (hts _ (bw_mem wB_1170)) dX12_operand_233 ?_
                  refine dg_calli hS hA1 hA (va_runV (As := [.long 7168376]) (rest := []) F (c_m_isWord l g D o S_278 7168376 sg (((dg_uf_F e_278 0 3).trans (m_2.1 0 3 _ sM_0 (by decide))).trans f_sg) (by omega) I_278 H.size) (cwV 1 hts (bw_V wB_1141 wB_1142 wB_1143 wB_857 wB_1140) rfl rfl rfl (by decide +kernel) ⟨Nat.le_of_ble_eq_true rfl, Nat.le_of_ble_eq_true rfl⟩) (dg_preV sM_0 rfl K ST hP hS hA1 hA) rfl rfl hl.1 rfl (lv_room (Nat.le_of_ble_eq_true rfl)) dX12_operand_236 ⟨Nat.le_of_ble_eq_true rfl, Nat.le_of_ble_eq_true rfl⟩) (fun x_1280 S_1281 hw_1281 H locs hP hS => ?_)
                  rw [hw_1281.1] at hP
                  obtain ⟨hq_1281, w_1281_0, w_1281_1, -⟩ := hw_1281
                  have w_1281_0 : 0 ≤ (x_1280).toInt ∧ (x_1280).toInt ≤ 1 := w_1281_0
                  have w_1281_1 : (x_1280).toInt = 1 → (sg).toInt = 1 := w_1281_1
                  refine lv_if_eq (tgt := 247) hx hb dX12_operand_239 (by decide) (fun c_1282 => ?_) (fun c_1282 => ?_)
                  · have jc_1282 := dk_eqc (k := 0) (by decide +kernel) c_1282
                    refine lv_bipush (v := 44) hx hb dX12_operand_247 (by decide +kernel) ?_
                    have hz_1283 : (44 : Int32).toInt = 44 := by decide +kernel
                    have hz_1284 : (44 : Int32).toInt = 44 := by decide +kernel
                    exact J_1169 44 (by decide +kernel) (by omega) _ _ hP hS _ (lv_sub hl [0, 1, 2] rfl)
                  · have jc_1282 := dk_neqc (k := 0) (by decide +kernel) c_1282
                    refine lv_bipush (v := 37) hx hb dX12_operand_242 (by decide +kernel) ?_
                    refine lv_goto (tgt := 249) hx hb dX12_operand_244 (by decide) ?_
                    have hz_1285 : (37 : Int32).toInt = 37 := by decide +kernel
                    have hz_1286 : (37 : Int32).toInt = 37 := by decide +kernel
                    exact J_1169 37 (by decide +kernel) (by omega) _ _ hP hS _ (lv_sub hl [0, 1, 2] rfl)
                · have jc_1279 := dk_neqc (k := 0) (by decide +kernel) c_1279
                  refine lv_bipush (v := 36) hx hb dX12_operand_227 (by decide +kernel) ?_
                  refine lv_goto (tgt := 249) hx hb dX12_operand_229 (by decide) ?_
                  have hz_1287 : (36 : Int32).toInt = 36 := by decide +kernel
                  have hz_1288 : (36 : Int32).toInt = 36 := by decide +kernel
                  exact J_1169 36 (by decide +kernel) (by omega) _ _ hP hS _ (lv_sub hl [0, 1, 2] rfl)
              refine lv_if_ne (tgt := 217) hx hb dX12_operand_194 (by decide) (fun c_1289 => ?_) (fun c_1289 => ?_)
              · have jc_1289 := dk_neqc (k := 0) (by decide +kernel) c_1289
                exact J_1052  (by omega) _ _ hP hS _ (lv_sub hl [0, 1, 2] rfl)
              · have jc_1289 := dk_eqc (k := 0) (by decide +kernel) c_1289
                refine lv_aload_n hx hb dX12_operand_197 rfl (lv_at hl 2 rfl) ?_
                refine lv_ldc2 hx hb hown (hts _ (bw_mem wB_1170)) dX12_operand_198 ?_
                refine dg_calli hS hA1 hA (va_runV (As := [.long 7168376]) (rest := []) F (c_m_isWord l g D o S_278 7168376 sg (((dg_uf_F e_278 0 3).trans (m_2.1 0 3 _ sM_0 (by decide))).trans f_sg) (by omega) I_278 H.size) (cwV 1 hts (bw_V wB_1141 wB_1142 wB_1143 wB_857 wB_1140) rfl rfl rfl (by decide +kernel) ⟨Nat.le_of_ble_eq_true rfl, Nat.le_of_ble_eq_true rfl⟩) (dg_preV sM_0 rfl K ST hP hS hA1 hA) rfl rfl hl.1 rfl (lv_room (Nat.le_of_ble_eq_true rfl)) dX12_operand_201 ⟨Nat.le_of_ble_eq_true rfl, Nat.le_of_ble_eq_true rfl⟩) (fun x_1290 S_1291 hw_1291 H locs hP hS => ?_)
                rw [hw_1291.1] at hP
                obtain ⟨hq_1291, w_1291_0, w_1291_1, -⟩ := hw_1291
                have w_1291_0 : 0 ≤ (x_1290).toInt ∧ (x_1290).toInt ≤ 1 := w_1291_0
                have w_1291_1 : (x_1290).toInt = 1 → (sg).toInt = 1 := w_1291_1
                refine lv_if_ne (tgt := 217) hx hb dX12_operand_204 (by decide) (fun c_1292 => ?_) (fun c_1292 => ?_)
                · have jc_1292 := dk_neqc (k := 0) (by decide +kernel) c_1292
                  exact J_1052  (by omega) _ _ hP hS _ (lv_sub hl [0, 1, 2] rfl)
                · have jc_1292 := dk_eqc (k := 0) (by decide +kernel) c_1292
                  refine lv_aload_n hx hb dX12_operand_207 rfl (lv_at hl 2 rfl) ?_
                  refine lv_ldc2 hx hb hown (hts _ (bw_mem wB_1164)) dX12_operand_208 ?_
                  refine dg_calli hS hA1 hA (va_runV (As := [.long 26982]) (rest := []) F (c_m_isWord l g D o S_278 26982 sg (((dg_uf_F e_278 0 3).trans (m_2.1 0 3 _ sM_0 (by decide))).trans f_sg) (by omega) I_278 H.size) (cwV 1 hts (bw_V wB_1141 wB_1142 wB_1143 wB_857 wB_1140) rfl rfl rfl (by decide +kernel) ⟨Nat.le_of_ble_eq_true rfl, Nat.le_of_ble_eq_true rfl⟩) (dg_preV sM_0 rfl K ST hP hS hA1 hA) rfl rfl hl.1 rfl (lv_room (Nat.le_of_ble_eq_true rfl)) dX12_operand_211 ⟨Nat.le_of_ble_eq_true rfl, Nat.le_of_ble_eq_true rfl⟩) (fun x_1293 S_1294 hw_1294 H locs hP hS => ?_)
                  rw [hw_1294.1] at hP
                  obtain ⟨hq_1294, w_1294_0, w_1294_1, -⟩ := hw_1294
                  have w_1294_0 : 0 ≤ (x_1293).toInt ∧ (x_1293).toInt ≤ 1 := w_1294_0
                  have w_1294_1 : (x_1293).toInt = 1 → (sg).toInt = 1 := w_1294_1
                  refine lv_if_eq (tgt := 313) hx hb dX12_operand_214 (by decide) (fun c_1295 => ?_) (fun c_1295 => ?_)
                  · have jc_1295 := dk_eqc (k := 0) (by decide +kernel) c_1295
                    refine lv_aload_n hx hb dX12_operand_313 rfl (lv_at hl 2 rfl) ?_
                    refine dg_get (C := RX12) (T := TX12) (N := 77) hx hb hts (fun w h => bw_mem (wU_X12 w h)) hown K hP sM_0 rfl 3 (by decide) (hts _ (bw_mem wB_1116)) (fun _ h9 => h9) (v := .int sg) (((dg_uf_F e_278 0 3).trans (m_2.1 0 3 _ sM_0 (by decide))).trans f_sg) dX12_operand_314 ?_
                    refine lv_iconst (v := 2) hx hb dX12_operand_317 (by decide +kernel) ?_
                    have J_1414 : ∀ (x_1315 : Int32), ((-1) ≤ (x_1315).toInt ∧ (x_1315).toInt ≤ 6) → ((x_1315 : Int32).toInt ≠ -1 → (sg).toInt ≠ 0) → ∀ (H : Heap) (locs : List Loc), va_P D vwCl (dg_w g shM o rfM S_278) H → va_S A s.heap H locs → ∀ ls : Array Slot, lv_has ls 4 [(2, .int 0), (1, .int x_5), (0, .ref (o + 0))] → W p l e ({ frames := 4, cells := 0, slots := 0, locals := 98 } : Room) s m args below meth c H locs 0 0 (MQ below (va_Qi (fun (r : Int32) S' => CM o S' ∧ dg_sm shM [(0, 3), (0, 4), (0, 5), (0, 6), (0, 7), (0, 8), (0, 9), (0, 12), (0, 34), (0, 42), (0, 43), (0, 45)] [18, 19, 22, 23, 24, 25, 26, 27] S S' ∧ (0 ≤ (r).toInt ∧ (r).toInt ≤ 1) ∧ (∃ y9_3 y9_4 y9_5 y9_8 y9_34 y9_42 y9_45 : Int32, S'.1 0 3 = .int y9_3 ∧ S'.1 0 4 = .int y9_4 ∧ S'.1 0 5 = .int y9_5 ∧ S'.1 0 8 = .int y9_8 ∧ S'.1 0 34 = .int y9_34 ∧ S'.1 0 42 = .int y9_42 ∧ S'.1 0 45 = .int y9_45 ∧ (((y9_4).toInt ≤ (y9_5).toInt ∧ (y9_5).toInt ≤ (sl).toInt ∧ ((y9_3).toInt ≠ 0 → (y9_4).toInt + 1 ≤ (y9_5).toInt)) ∧ (sa).toInt ≤ (y9_4).toInt ∧ ((fk).toInt ≠ 0 → (y9_8).toInt ≠ 0) ∧ (((y9_8).toInt = 0 → (sa).toInt + 1 ≤ (y9_4).toInt) ∧ ((y9_8).toInt = 0 → (y9_34).toInt + (y9_45).toInt + (y9_42).toInt ≤ (y9_4).toInt)))) ∧ (∀ k9 : Int32, S'.1 0 8 = .int k9 → k9.toInt = 0 → ((r).toInt = 1 → P1M S') ∧ ((r).toInt = 0 → P0M S')) ∧ ZWM S' ∧ True) (dg_B g D shM o rfM) A) args s 0 0 A) (F0 m 411 ls [.int x_1315]) := by
                      intro x_1315 b_x_1315 rel_0 H locs hP hS ls hl
                      refine lv_istore_n (lv' := [(3, .int x_1315), (2, .int 0), (1, .int x_5), (0, .ref (o + 0))]) hx hb dX12_operand_411 rfl hl (by decide) rfl (fun ls hl => ?_)
                      refine lv_iload_n hx hb dX12_operand_412 rfl (lv_at hl 0 rfl) ?_
                      refine lv_iconst (v := 4) hx hb dX12_operand_413 (by decide +kernel) ?_
                      refine lv_icmp_lt (tgt := 444) hx hb dX12_operand_414 (by decide) (fun c_1415 => ?_) (fun c_1415 => ?_)
                      · have jc_1415 := dk_ltc (k := 4) (by decide +kernel) c_1415
                        refine lv_iload_n hx hb dX12_operand_444 rfl (lv_at hl 0 rfl) ?_
                        refine lv_iconst (v := (-1)) hx hb dX12_operand_445 (by decide +kernel) ?_
                        refine lv_icmp_ne (tgt := 458) hx hb dX12_operand_446 (by decide) (fun c_1416 => ?_) (fun c_1416 => ?_)
                        · have jc_1416 := dk_neqc (k := (-1)) (by decide +kernel) c_1416
                          refine lv_aload_n hx hb dX12_operand_458 rfl (lv_at hl 3 rfl) ?_
                          refine dg_get (C := RX12) (T := TX12) (N := 77) hx hb hts (fun w h => bw_mem (wU_X12 w h)) hown K hP sM_0 rfl 8 (by decide) (hts _ (bw_mem wB_1109)) (fun _ h9 => h9) (v := .int y_3) ((dg_uf_F e_278 0 8).trans f_y_3) dX12_operand_459 ?_
                          refine lv_if_le (tgt := 467) hx hb dX12_operand_462 (by decide) (fun _ => ?_) (fun c => absurd (dk_lep (k := 0) (by decide +kernel) (by omega)) c)
                          refine lv_aload_n hx hb dX12_operand_467 rfl (lv_at hl 3 rfl) ?_
                          refine lv_iload_n hx hb dX12_operand_468 rfl (lv_at hl 0 rfl) ?_
                          refine lv_aload_n hx hb dX12_operand_469 rfl (lv_at hl 3 rfl) ?_
                          refine dg_get (C := RX12) (T := TX12) (N := 77) hx hb hts (fun w h => bw_mem (wU_X12 w h)) hown K hP sM_0 rfl 6 (by decide) (hts _ (bw_mem wB_1117)) (fun _ h9 => h9) (v := .int va) (((dg_uf_F e_278 0 6).trans (m_2.1 0 6 _ sM_0 (by decide))).trans f_va) dX12_operand_470 ?_
                          refine dg_callv hS hA1 hA (va_runV (As := [.int x_1315, .int va]) (rest := []) F (c_m_add l g D o S_278 x_1315 (by omega) va cd (((dg_uf_F e_278 0 34).trans (m_2.1 0 34 _ sM_0 (by decide))).trans f_cd) (by omega) (ZWM.keep (ZWM.keep ZW m_2 (by decide) (by decide) (by decide) (by decide)) (dg_sm.uf (WF := []) (WA := [24]) dg_sm.rf e_278 sM_24 (by decide)) (by decide) (by decide) (by decide) (by decide)) (ZKM.keep (ZKM.keep ZK m_2 (by decide) (by decide)) (dg_sm.uf (WF := []) (WA := [24]) dg_sm.rf e_278 sM_24 (by decide)) (by decide) (by decide)) I_278 H.size) (cwV 2 hts (bw_V wB_1185 wB_1186 wB_1187 wB_857 wB_1184) rfl rfl rfl (by decide +kernel) ⟨Nat.le_of_ble_eq_true rfl, Nat.le_of_ble_eq_true rfl⟩) (dg_preV sM_0 rfl K ST hP hS hA1 hA) rfl rfl hl.1 rfl (lv_room (Nat.le_of_ble_eq_true rfl)) dX12_operand_473 ⟨Nat.le_of_ble_eq_true rfl, Nat.le_of_ble_eq_true rfl⟩) (fun S_1417 hw_1417 H locs hP hS => ?_)
                          obtain ⟨I_1417, m_1417, w_1417_0, w_1417_1, w_1417_2, -⟩ := hw_1417
                          have M_1417 := dg_sm.tr M_278 m_1417 (by decide) (by decide)
                          obtain ⟨y_1418, f_y_1418, w_1417_0⟩ := w_1417_0
                          have w_1417_0 : (y_1418).toInt = (cd).toInt + 1 := w_1417_0
                          have b_y_1418 : 0 ≤ (y_1418).toInt ∧ (y_1418).toInt ≤ 1600 := dg_I.intb (lo := 0) (hi := 1600) I_1417 sM_0 (by decide +kernel) f_y_1418
                          have w_1417_1 : ADM S_278 S_1417 x_1315 := w_1417_1
                          have P1_1417 : P1M S_1417 := PBM.leaf PB_278 (((dg_uf_F e_278 0 42).trans (m_2.1 0 42 _ sM_0 (by decide))).trans f_dp) (((dg_uf_F e_278 0 43).trans (m_2.1 0 43 _ sM_0 (by decide))).trans f_on) (((dg_uf_F e_278 0 45).trans (m_2.1 0 45 _ sM_0 (by decide))).trans f_om) m_1417 w_1417_1 (by omega)
                          refine lv_aload_n hx hb dX12_operand_476 rfl (lv_at hl 3 rfl) ?_
                          refine dg_callv hS hA1 hA (va_runV (As := []) (rest := []) F (c_m_ahead l g D o S_1417 se (((m_1417.1 0 5 _ sM_0 (by decide)).trans ((dg_uf_F e_278 0 5).trans (m_2.1 0 5 _ sM_0 (by decide)))).trans f_se) (by omega) sl (((m_1417.1 0 2 _ sM_0 (by decide)).trans ((dg_uf_F e_278 0 2).trans (m_2.1 0 2 _ sM_0 (by decide)))).trans f_sl) (by omega) (by omega) I_1417 H.size) (cwV 0 hts (bw_V wB_1137 wB_1138 wB_1139 wB_857 wB_1136) rfl rfl rfl (by decide +kernel) ⟨Nat.le_of_ble_eq_true rfl, Nat.le_of_ble_eq_true rfl⟩) (dg_preV sM_0 rfl K ST hP hS hA1 hA) rfl rfl hl.1 rfl (lv_room (Nat.le_of_ble_eq_true rfl)) dX12_operand_477 ⟨Nat.le_of_ble_eq_true rfl, Nat.le_of_ble_eq_true rfl⟩) (fun S_1419 hw_1419 H locs hP hS => ?_)
                          obtain ⟨I_1419, m_1419, w_1419_0, -⟩ := hw_1419
                          have M_1419 := dg_sm.tr M_1417 m_1419 (by decide) (by decide)
                          obtain ⟨y_1420, y_1421, y_1422, f_y_1420, f_y_1421, f_y_1422, w_1419_0⟩ := w_1419_0
                          have w_1419_0 : (se).toInt ≤ (y_1421).toInt ∧ (y_1421).toInt ≤ (y_1422).toInt ∧ (y_1422).toInt ≤ (sl).toInt ∧ ((y_1420).toInt ≠ 0 → (y_1421).toInt + 1 ≤ (y_1422).toInt) := w_1419_0
                          have b_y_1420 : 0 ≤ (y_1420).toInt ∧ (y_1420).toInt ≤ 3 := dg_I.intb (lo := 0) (hi := 3) I_1419 sM_0 (by decide +kernel) f_y_1420
                          have b_y_1421 : 0 ≤ (y_1421).toInt ∧ (y_1421).toInt ≤ 1600 := dg_I.intb (lo := 0) (hi := 1600) I_1419 sM_0 (by decide +kernel) f_y_1421
                          have b_y_1422 : 0 ≤ (y_1422).toInt ∧ (y_1422).toInt ≤ 1600 := dg_I.intb (lo := 0) (hi := 1600) I_1419 sM_0 (by decide +kernel) f_y_1422
                          refine lv_iconst (v := 1) hx hb dX12_operand_480 (by decide +kernel) ?_
                          have hz_1423 : (1 : Int32).toInt = 1 := by decide +kernel
                          have hz_1424 : (1 : Int32).toInt = 1 := by decide +kernel
                          have hz_1425 : (1 : Int32).toInt = 1 := by decide +kernel
                          have hz_1426 : (1 : Int32).toInt = 1 := by decide +kernel
                          refine W.widen (k := 0) (n := 0) (Nat.le_of_ble_eq_true rfl) (Nat.le_of_ble_eq_true rfl) ?_
                          exact dg_iret hx hb hr hlocks (by decide +kernel) hP hS ⟨I_1419, M_1419, (by decide +kernel), ⟨y_1420, y_1421, y_1422, y_3, y_1418, dp, om, f_y_1420, f_y_1421, f_y_1422, (((m_1419.1 0 8 _ sM_0 (by decide)).trans ((m_1417.1 0 8 _ sM_0 (by decide)).trans (dg_uf_F e_278 0 8))).trans f_y_3), ((m_1419.1 0 34 _ sM_0 (by decide)).trans f_y_1418), (((m_1419.1 0 42 _ sM_0 (by decide)).trans ((m_1417.1 0 42 _ sM_0 (by decide)).trans ((dg_uf_F e_278 0 42).trans (m_2.1 0 42 _ sM_0 (by decide))))).trans f_dp), (((m_1419.1 0 45 _ sM_0 (by decide)).trans ((m_1417.1 0 45 _ sM_0 (by decide)).trans ((dg_uf_F e_278 0 45).trans (m_2.1 0 45 _ sM_0 (by decide))))).trans f_om), (by omega)⟩, (fun k9 hk9 hk0 => ⟨fun _ => (P1M.keep P1_1417 m_1419 (by decide) (by decide) (by decide) (by decide) (by decide) (by decide) (by decide) (by decide) (by decide) (by decide) (by decide) (by decide) (by decide) (by decide) (by decide)), fun h9 => absurd h9 (by decide +kernel)⟩), (ZWM.keep w_1417_2 m_1419 (by decide) (by decide) (by decide) (by decide)), trivial⟩ dX12_operand_481
                        · have jc_1416 := dk_eqc (k := (-1)) (by decide +kernel) c_1416
                          refine lv_aload_n hx hb dX12_operand_449 rfl (lv_at hl 3 rfl) ?_
                          refine lv_iconst (v := 1) hx hb dX12_operand_450 (by decide +kernel) ?_
                          refine lv_aload_n hx hb dX12_operand_451 rfl (lv_at hl 3 rfl) ?_
                          refine dg_get (C := RX12) (T := TX12) (N := 77) hx hb hts (fun w h => bw_mem (wU_X12 w h)) hown K hP sM_0 rfl 4 (by decide) (hts _ (bw_mem wB_1121)) (fun _ h9 => h9) (v := .int sa) (((dg_uf_F e_278 0 4).trans (m_2.1 0 4 _ sM_0 (by decide))).trans f_sa) dX12_operand_452 ?_
                          have hz_1427 : (1 : Int32).toInt = 1 := by decide +kernel
                          refine dg_callv hS hA1 hA (va_runV (As := [.int 1, .int sa]) (rest := []) F (c_m_blame l g D o S_278 1 (by decide +kernel) sa y_3 ((dg_uf_F e_278 0 8).trans f_y_3) (by omega) I_278 H.size) (cwV 2 hts (bw_V wB_1113 wB_1114 wB_1115 wB_857 wB_1112) rfl rfl rfl (by decide +kernel) ⟨Nat.le_of_ble_eq_true rfl, Nat.le_of_ble_eq_true rfl⟩) (dg_preV sM_0 rfl K ST hP hS hA1 hA) rfl rfl hl.1 rfl (lv_room (Nat.le_of_ble_eq_true rfl)) dX12_operand_455 ⟨Nat.le_of_ble_eq_true rfl, Nat.le_of_ble_eq_true rfl⟩) (fun S_1428 hw_1428 H locs hP hS => ?_)
                          obtain ⟨I_1428, m_1428, w_1428_0, -⟩ := hw_1428
                          have M_1428 := dg_sm.tr M_278 m_1428 (by decide) (by decide)
                          have hz_1429 : (1 : Int32).toInt = 1 := by decide +kernel
                          obtain ⟨y_1430, f_y_1430, w_1428_0⟩ := w_1428_0
                          have w_1428_0 : ((y_3).toInt ≠ 0 → (y_1430).toInt = (y_3).toInt) ∧ ((y_3).toInt = 0 → (y_1430).toInt = ((1 : Int32)).toInt) := w_1428_0
                          have b_y_1430 : 0 ≤ (y_1430).toInt ∧ (y_1430).toInt ≤ 6 := dg_I.intb (lo := 0) (hi := 6) I_1428 sM_0 (by decide +kernel) f_y_1430
                          refine lv_aload_n hx hb dX12_operand_458 rfl (lv_at hl 3 rfl) ?_
                          refine dg_get (C := RX12) (T := TX12) (N := 77) hx hb hts (fun w h => bw_mem (wU_X12 w h)) hown K hP sM_0 rfl 8 (by decide) (hts _ (bw_mem wB_1109)) (fun _ h9 => h9) (v := .int y_1430) f_y_1430 dX12_operand_459 ?_
                          refine lv_if_le (tgt := 467) hx hb dX12_operand_462 (by decide) (fun c_1431 => ?_) (fun c_1431 => ?_)
                          · have jc_1431 := dk_lec (k := 0) (by decide +kernel) c_1431
                            refine lv_aload_n hx hb dX12_operand_467 rfl (lv_at hl 3 rfl) ?_
                            refine lv_iload_n hx hb dX12_operand_468 rfl (lv_at hl 0 rfl) ?_
                            refine lv_aload_n hx hb dX12_operand_469 rfl (lv_at hl 3 rfl) ?_
                            refine dg_get (C := RX12) (T := TX12) (N := 77) hx hb hts (fun w h => bw_mem (wU_X12 w h)) hown K hP sM_0 rfl 6 (by decide) (hts _ (bw_mem wB_1117)) (fun _ h9 => h9) (v := .int va) (((m_1428.1 0 6 _ sM_0 (by decide)).trans ((dg_uf_F e_278 0 6).trans (m_2.1 0 6 _ sM_0 (by decide)))).trans f_va) dX12_operand_470 ?_
                            refine dg_callv hS hA1 hA (va_runV (As := [.int x_1315, .int va]) (rest := []) F (c_m_add l g D o S_1428 x_1315 (by omega) va cd (((m_1428.1 0 34 _ sM_0 (by decide)).trans ((dg_uf_F e_278 0 34).trans (m_2.1 0 34 _ sM_0 (by decide)))).trans f_cd) (by omega) (ZWM.keep (ZWM.keep (ZWM.keep ZW m_2 (by decide) (by decide) (by decide) (by decide)) (dg_sm.uf (WF := []) (WA := [24]) dg_sm.rf e_278 sM_24 (by decide)) (by decide) (by decide) (by decide) (by decide)) m_1428 (by decide) (by decide) (by decide) (by decide)) (ZKM.keep (ZKM.keep (ZKM.keep ZK m_2 (by decide) (by decide)) (dg_sm.uf (WF := []) (WA := [24]) dg_sm.rf e_278 sM_24 (by decide)) (by decide) (by decide)) m_1428 (by decide) (by decide)) I_1428 H.size) (cwV 2 hts (bw_V wB_1185 wB_1186 wB_1187 wB_857 wB_1184) rfl rfl rfl (by decide +kernel) ⟨Nat.le_of_ble_eq_true rfl, Nat.le_of_ble_eq_true rfl⟩) (dg_preV sM_0 rfl K ST hP hS hA1 hA) rfl rfl hl.1 rfl (lv_room (Nat.le_of_ble_eq_true rfl)) dX12_operand_473 ⟨Nat.le_of_ble_eq_true rfl, Nat.le_of_ble_eq_true rfl⟩) (fun S_1432 hw_1432 H locs hP hS => ?_)
                            obtain ⟨I_1432, m_1432, w_1432_0, w_1432_1, w_1432_2, -⟩ := hw_1432
                            have M_1432 := dg_sm.tr M_1428 m_1432 (by decide) (by decide)
                            obtain ⟨y_1433, f_y_1433, w_1432_0⟩ := w_1432_0
                            have w_1432_0 : (y_1433).toInt = (cd).toInt + 1 := w_1432_0
                            have b_y_1433 : 0 ≤ (y_1433).toInt ∧ (y_1433).toInt ≤ 1600 := dg_I.intb (lo := 0) (hi := 1600) I_1432 sM_0 (by decide +kernel) f_y_1433
                            have w_1432_1 : ADM S_1428 S_1432 x_1315 := w_1432_1
                            have P1_1432 : P1M S_1432 := PBM.leaf (PBM.keep PB_278 m_1428 (by decide) (by decide) (by decide) (by decide) (by decide) (by decide) (by decide) (by decide) (by decide) (by decide) (by decide) (by decide) (by decide) (by decide) (by decide)) (((m_1428.1 0 42 _ sM_0 (by decide)).trans ((dg_uf_F e_278 0 42).trans (m_2.1 0 42 _ sM_0 (by decide)))).trans f_dp) (((m_1428.1 0 43 _ sM_0 (by decide)).trans ((dg_uf_F e_278 0 43).trans (m_2.1 0 43 _ sM_0 (by decide)))).trans f_on) (((m_1428.1 0 45 _ sM_0 (by decide)).trans ((dg_uf_F e_278 0 45).trans (m_2.1 0 45 _ sM_0 (by decide)))).trans f_om) m_1432 w_1432_1 (by omega)
                            refine lv_aload_n hx hb dX12_operand_476 rfl (lv_at hl 3 rfl) ?_
                            refine dg_callv hS hA1 hA (va_runV (As := []) (rest := []) F (c_m_ahead l g D o S_1432 se (((m_1432.1 0 5 _ sM_0 (by decide)).trans ((m_1428.1 0 5 _ sM_0 (by decide)).trans ((dg_uf_F e_278 0 5).trans (m_2.1 0 5 _ sM_0 (by decide))))).trans f_se) (by omega) sl (((m_1432.1 0 2 _ sM_0 (by decide)).trans ((m_1428.1 0 2 _ sM_0 (by decide)).trans ((dg_uf_F e_278 0 2).trans (m_2.1 0 2 _ sM_0 (by decide))))).trans f_sl) (by omega) (by omega) I_1432 H.size) (cwV 0 hts (bw_V wB_1137 wB_1138 wB_1139 wB_857 wB_1136) rfl rfl rfl (by decide +kernel) ⟨Nat.le_of_ble_eq_true rfl, Nat.le_of_ble_eq_true rfl⟩) (dg_preV sM_0 rfl K ST hP hS hA1 hA) rfl rfl hl.1 rfl (lv_room (Nat.le_of_ble_eq_true rfl)) dX12_operand_477 ⟨Nat.le_of_ble_eq_true rfl, Nat.le_of_ble_eq_true rfl⟩) (fun S_1434 hw_1434 H locs hP hS => ?_)
                            obtain ⟨I_1434, m_1434, w_1434_0, -⟩ := hw_1434
                            have M_1434 := dg_sm.tr M_1432 m_1434 (by decide) (by decide)
                            obtain ⟨y_1435, y_1436, y_1437, f_y_1435, f_y_1436, f_y_1437, w_1434_0⟩ := w_1434_0
                            have w_1434_0 : (se).toInt ≤ (y_1436).toInt ∧ (y_1436).toInt ≤ (y_1437).toInt ∧ (y_1437).toInt ≤ (sl).toInt ∧ ((y_1435).toInt ≠ 0 → (y_1436).toInt + 1 ≤ (y_1437).toInt) := w_1434_0
                            have b_y_1435 : 0 ≤ (y_1435).toInt ∧ (y_1435).toInt ≤ 3 := dg_I.intb (lo := 0) (hi := 3) I_1434 sM_0 (by decide +kernel) f_y_1435
                            have b_y_1436 : 0 ≤ (y_1436).toInt ∧ (y_1436).toInt ≤ 1600 := dg_I.intb (lo := 0) (hi := 1600) I_1434 sM_0 (by decide +kernel) f_y_1436
                            have b_y_1437 : 0 ≤ (y_1437).toInt ∧ (y_1437).toInt ≤ 1600 := dg_I.intb (lo := 0) (hi := 1600) I_1434 sM_0 (by decide +kernel) f_y_1437
                            refine lv_iconst (v := 1) hx hb dX12_operand_480 (by decide +kernel) ?_
                            have hz_1438 : (1 : Int32).toInt = 1 := by decide +kernel
                            have hz_1439 : (1 : Int32).toInt = 1 := by decide +kernel
                            have hz_1440 : (1 : Int32).toInt = 1 := by decide +kernel
                            have hz_1441 : (1 : Int32).toInt = 1 := by decide +kernel
                            refine W.widen (k := 0) (n := 0) (Nat.le_of_ble_eq_true rfl) (Nat.le_of_ble_eq_true rfl) ?_
                            exact dg_iret hx hb hr hlocks (by decide +kernel) hP hS ⟨I_1434, M_1434, (by decide +kernel), ⟨y_1435, y_1436, y_1437, y_1430, y_1433, dp, om, f_y_1435, f_y_1436, f_y_1437, (((m_1434.1 0 8 _ sM_0 (by decide)).trans (m_1432.1 0 8 _ sM_0 (by decide))).trans f_y_1430), ((m_1434.1 0 34 _ sM_0 (by decide)).trans f_y_1433), (((m_1434.1 0 42 _ sM_0 (by decide)).trans ((m_1432.1 0 42 _ sM_0 (by decide)).trans ((m_1428.1 0 42 _ sM_0 (by decide)).trans ((dg_uf_F e_278 0 42).trans (m_2.1 0 42 _ sM_0 (by decide)))))).trans f_dp), (((m_1434.1 0 45 _ sM_0 (by decide)).trans ((m_1432.1 0 45 _ sM_0 (by decide)).trans ((m_1428.1 0 45 _ sM_0 (by decide)).trans ((dg_uf_F e_278 0 45).trans (m_2.1 0 45 _ sM_0 (by decide)))))).trans f_om), (by omega)⟩, (fun k9 hk9 hk0 => ⟨fun _ => (P1M.keep P1_1432 m_1434 (by decide) (by decide) (by decide) (by decide) (by decide) (by decide) (by decide) (by decide) (by decide) (by decide) (by decide) (by decide) (by decide) (by decide) (by decide)), fun h9 => absurd h9 (by decide +kernel)⟩), (ZWM.keep w_1432_2 m_1434 (by decide) (by decide) (by decide) (by decide)), trivial⟩ dX12_operand_481
                          · have jc_1431 := dk_nlec (k := 0) (by decide +kernel) c_1431
                            refine lv_iconst (v := 1) hx hb dX12_operand_465 (by decide +kernel) ?_
                            have hz_1442 : (1 : Int32).toInt = 1 := by decide +kernel
                            have hz_1443 : (1 : Int32).toInt = 1 := by decide +kernel
                            have hz_1444 : (1 : Int32).toInt = 1 := by decide +kernel
                            have hz_1445 : (1 : Int32).toInt = 1 := by decide +kernel
                            refine W.widen (k := 0) (n := 0) (Nat.le_of_ble_eq_true rfl) (Nat.le_of_ble_eq_true rfl) ?_
                            exact dg_iret hx hb hr hlocks (by decide +kernel) hP hS ⟨I_1428, M_1428, (by decide +kernel), ⟨sg, sa, se, y_1430, cd, dp, om, (((m_1428.1 0 3 _ sM_0 (by decide)).trans ((dg_uf_F e_278 0 3).trans (m_2.1 0 3 _ sM_0 (by decide)))).trans f_sg), (((m_1428.1 0 4 _ sM_0 (by decide)).trans ((dg_uf_F e_278 0 4).trans (m_2.1 0 4 _ sM_0 (by decide)))).trans f_sa), (((m_1428.1 0 5 _ sM_0 (by decide)).trans ((dg_uf_F e_278 0 5).trans (m_2.1 0 5 _ sM_0 (by decide)))).trans f_se), f_y_1430, (((m_1428.1 0 34 _ sM_0 (by decide)).trans ((dg_uf_F e_278 0 34).trans (m_2.1 0 34 _ sM_0 (by decide)))).trans f_cd), (((m_1428.1 0 42 _ sM_0 (by decide)).trans ((dg_uf_F e_278 0 42).trans (m_2.1 0 42 _ sM_0 (by decide)))).trans f_dp), (((m_1428.1 0 45 _ sM_0 (by decide)).trans ((dg_uf_F e_278 0 45).trans (m_2.1 0 45 _ sM_0 (by decide)))).trans f_om), (by omega)⟩, (fun k9 hk9 hk0 => by have q9 := (f_y_1430).symm.trans hk9; cases q9; omega), (ZWM.keep (ZWM.keep (ZWM.keep ZW m_2 (by decide) (by decide) (by decide) (by decide)) (dg_sm.uf (WF := []) (WA := [24]) dg_sm.rf e_278 sM_24 (by decide)) (by decide) (by decide) (by decide) (by decide)) m_1428 (by decide) (by decide) (by decide) (by decide)), trivial⟩ dX12_operand_466
                      · have jc_1415 := dk_nltc (k := 4) (by decide +kernel) c_1415
                        refine lv_iload_n hx hb dX12_operand_417 rfl (lv_at hl 0 rfl) ?_
                        refine lv_iconst (v := 4) hx hb dX12_operand_418 (by decide +kernel) ?_
                        refine lv_icmp_ne (tgt := 426) hx hb dX12_operand_419 (by decide) (fun c_1446 => ?_) (fun c_1446 => ?_)
                        · have jc_1446 := dk_neqc (k := 4) (by decide +kernel) c_1446
                          refine lv_iconst (v := 0) hx hb dX12_operand_426 (by decide +kernel) ?_
                          refine lv_aload_n hx hb dX12_operand_427 rfl (lv_at hl 3 rfl) ?_
                          obtain ⟨x_1447, f_x_1447, b_x_1447⟩ := dg_I.int (i := 0) (k := 36) (lo := 0) (hi := 2) I sM_0 (by decide +kernel)
                          refine dg_get (C := RX12) (T := TX12) (N := 77) hx hb hts (fun w h => bw_mem (wU_X12 w h)) hown K hP sM_0 rfl 36 (by decide) (hts _ (bw_mem wB_1199)) (fun _ h9 => h9) (v := .int x_1447) (((dg_uf_F e_278 0 36).trans (m_2.1 0 36 _ sM_0 (by decide))).trans f_x_1447) dX12_operand_428 ?_
                          refine lv_if_ne (tgt := 438) hx hb dX12_operand_431 (by decide) (fun c_1448 => ?_) (fun c_1448 => ?_)
                          · have jc_1448 := dk_neqc (k := 0) (by decide +kernel) c_1448
                            refine lv_iconst (v := 0) hx hb dX12_operand_438 (by decide +kernel) ?_
                            refine lv_icmp_eq (tgt := 444) hx hb dX12_operand_439 (by decide) (fun _ => ?_) (fun c => absurd (by decide +kernel) c)
                            refine lv_iload_n hx hb dX12_operand_444 rfl (lv_at hl 0 rfl) ?_
                            refine lv_iconst (v := (-1)) hx hb dX12_operand_445 (by decide +kernel) ?_
                            refine lv_icmp_ne (tgt := 458) hx hb dX12_operand_446 (by decide) (fun _ => ?_) (fun c => absurd c (fun z => absurd (dk_eqc (k := (-1)) (by decide +kernel) z) (by omega)))
                            refine lv_aload_n hx hb dX12_operand_458 rfl (lv_at hl 3 rfl) ?_
                            refine dg_get (C := RX12) (T := TX12) (N := 77) hx hb hts (fun w h => bw_mem (wU_X12 w h)) hown K hP sM_0 rfl 8 (by decide) (hts _ (bw_mem wB_1109)) (fun _ h9 => h9) (v := .int y_3) ((dg_uf_F e_278 0 8).trans f_y_3) dX12_operand_459 ?_
                            refine lv_if_le (tgt := 467) hx hb dX12_operand_462 (by decide) (fun _ => ?_) (fun c => absurd (dk_lep (k := 0) (by decide +kernel) (by omega)) c)
                            refine lv_aload_n hx hb dX12_operand_467 rfl (lv_at hl 3 rfl) ?_
                            refine lv_iload_n hx hb dX12_operand_468 rfl (lv_at hl 0 rfl) ?_
                            refine lv_aload_n hx hb dX12_operand_469 rfl (lv_at hl 3 rfl) ?_
                            refine dg_get (C := RX12) (T := TX12) (N := 77) hx hb hts (fun w h => bw_mem (wU_X12 w h)) hown K hP sM_0 rfl 6 (by decide) (hts _ (bw_mem wB_1117)) (fun _ h9 => h9) (v := .int va) (((dg_uf_F e_278 0 6).trans (m_2.1 0 6 _ sM_0 (by decide))).trans f_va) dX12_operand_470 ?_
                            refine dg_callv hS hA1 hA (va_runV (As := [.int x_1315, .int va]) (rest := []) F (c_m_add l g D o S_278 x_1315 (by omega) va cd (((dg_uf_F e_278 0 34).trans (m_2.1 0 34 _ sM_0 (by decide))).trans f_cd) (by omega) (ZWM.keep (ZWM.keep ZW m_2 (by decide) (by decide) (by decide) (by decide)) (dg_sm.uf (WF := []) (WA := [24]) dg_sm.rf e_278 sM_24 (by decide)) (by decide) (by decide) (by decide) (by decide)) (ZKM.keep (ZKM.keep ZK m_2 (by decide) (by decide)) (dg_sm.uf (WF := []) (WA := [24]) dg_sm.rf e_278 sM_24 (by decide)) (by decide) (by decide)) I_278 H.size) (cwV 2 hts (bw_V wB_1185 wB_1186 wB_1187 wB_857 wB_1184) rfl rfl rfl (by decide +kernel) ⟨Nat.le_of_ble_eq_true rfl, Nat.le_of_ble_eq_true rfl⟩) (dg_preV sM_0 rfl K ST hP hS hA1 hA) rfl rfl hl.1 rfl (lv_room (Nat.le_of_ble_eq_true rfl)) dX12_operand_473 ⟨Nat.le_of_ble_eq_true rfl, Nat.le_of_ble_eq_true rfl⟩) (fun S_1449 hw_1449 H locs hP hS => ?_)
                            obtain ⟨I_1449, m_1449, w_1449_0, w_1449_1, w_1449_2, -⟩ := hw_1449
                            have M_1449 := dg_sm.tr M_278 m_1449 (by decide) (by decide)
                            obtain ⟨y_1450, f_y_1450, w_1449_0⟩ := w_1449_0
                            have w_1449_0 : (y_1450).toInt = (cd).toInt + 1 := w_1449_0
                            have b_y_1450 : 0 ≤ (y_1450).toInt ∧ (y_1450).toInt ≤ 1600 := dg_I.intb (lo := 0) (hi := 1600) I_1449 sM_0 (by decide +kernel) f_y_1450
                            have w_1449_1 : ADM S_278 S_1449 x_1315 := w_1449_1
                            have P1_1449 : P1M S_1449 := PBM.leaf PB_278 (((dg_uf_F e_278 0 42).trans (m_2.1 0 42 _ sM_0 (by decide))).trans f_dp) (((dg_uf_F e_278 0 43).trans (m_2.1 0 43 _ sM_0 (by decide))).trans f_on) (((dg_uf_F e_278 0 45).trans (m_2.1 0 45 _ sM_0 (by decide))).trans f_om) m_1449 w_1449_1 (by omega)
                            refine lv_aload_n hx hb dX12_operand_476 rfl (lv_at hl 3 rfl) ?_
                            refine dg_callv hS hA1 hA (va_runV (As := []) (rest := []) F (c_m_ahead l g D o S_1449 se (((m_1449.1 0 5 _ sM_0 (by decide)).trans ((dg_uf_F e_278 0 5).trans (m_2.1 0 5 _ sM_0 (by decide)))).trans f_se) (by omega) sl (((m_1449.1 0 2 _ sM_0 (by decide)).trans ((dg_uf_F e_278 0 2).trans (m_2.1 0 2 _ sM_0 (by decide)))).trans f_sl) (by omega) (by omega) I_1449 H.size) (cwV 0 hts (bw_V wB_1137 wB_1138 wB_1139 wB_857 wB_1136) rfl rfl rfl (by decide +kernel) ⟨Nat.le_of_ble_eq_true rfl, Nat.le_of_ble_eq_true rfl⟩) (dg_preV sM_0 rfl K ST hP hS hA1 hA) rfl rfl hl.1 rfl (lv_room (Nat.le_of_ble_eq_true rfl)) dX12_operand_477 ⟨Nat.le_of_ble_eq_true rfl, Nat.le_of_ble_eq_true rfl⟩) (fun S_1451 hw_1451 H locs hP hS => ?_)
                            obtain ⟨I_1451, m_1451, w_1451_0, -⟩ := hw_1451
                            have M_1451 := dg_sm.tr M_1449 m_1451 (by decide) (by decide)
                            obtain ⟨y_1452, y_1453, y_1454, f_y_1452, f_y_1453, f_y_1454, w_1451_0⟩ := w_1451_0
                            have w_1451_0 : (se).toInt ≤ (y_1453).toInt ∧ (y_1453).toInt ≤ (y_1454).toInt ∧ (y_1454).toInt ≤ (sl).toInt ∧ ((y_1452).toInt ≠ 0 → (y_1453).toInt + 1 ≤ (y_1454).toInt) := w_1451_0
                            have b_y_1452 : 0 ≤ (y_1452).toInt ∧ (y_1452).toInt ≤ 3 := dg_I.intb (lo := 0) (hi := 3) I_1451 sM_0 (by decide +kernel) f_y_1452
                            have b_y_1453 : 0 ≤ (y_1453).toInt ∧ (y_1453).toInt ≤ 1600 := dg_I.intb (lo := 0) (hi := 1600) I_1451 sM_0 (by decide +kernel) f_y_1453
                            have b_y_1454 : 0 ≤ (y_1454).toInt ∧ (y_1454).toInt ≤ 1600 := dg_I.intb (lo := 0) (hi := 1600) I_1451 sM_0 (by decide +kernel) f_y_1454
                            refine lv_iconst (v := 1) hx hb dX12_operand_480 (by decide +kernel) ?_
                            have hz_1455 : (1 : Int32).toInt = 1 := by decide +kernel
                            have hz_1456 : (1 : Int32).toInt = 1 := by decide +kernel
                            have hz_1457 : (1 : Int32).toInt = 1 := by decide +kernel
                            have hz_1458 : (1 : Int32).toInt = 1 := by decide +kernel
                            refine W.widen (k := 0) (n := 0) (Nat.le_of_ble_eq_true rfl) (Nat.le_of_ble_eq_true rfl) ?_
                            exact dg_iret hx hb hr hlocks (by decide +kernel) hP hS ⟨I_1451, M_1451, (by decide +kernel), ⟨y_1452, y_1453, y_1454, y_3, y_1450, dp, om, f_y_1452, f_y_1453, f_y_1454, (((m_1451.1 0 8 _ sM_0 (by decide)).trans ((m_1449.1 0 8 _ sM_0 (by decide)).trans (dg_uf_F e_278 0 8))).trans f_y_3), ((m_1451.1 0 34 _ sM_0 (by decide)).trans f_y_1450), (((m_1451.1 0 42 _ sM_0 (by decide)).trans ((m_1449.1 0 42 _ sM_0 (by decide)).trans ((dg_uf_F e_278 0 42).trans (m_2.1 0 42 _ sM_0 (by decide))))).trans f_dp), (((m_1451.1 0 45 _ sM_0 (by decide)).trans ((m_1449.1 0 45 _ sM_0 (by decide)).trans ((dg_uf_F e_278 0 45).trans (m_2.1 0 45 _ sM_0 (by decide))))).trans f_om), (by omega)⟩, (fun k9 hk9 hk0 => ⟨fun _ => (P1M.keep P1_1449 m_1451 (by decide) (by decide) (by decide) (by decide) (by decide) (by decide) (by decide) (by decide) (by decide) (by decide) (by decide) (by decide) (by decide) (by decide) (by decide)), fun h9 => absurd h9 (by decide +kernel)⟩), (ZWM.keep w_1449_2 m_1451 (by decide) (by decide) (by decide) (by decide)), trivial⟩ dX12_operand_481
                          · have jc_1448 := dk_eqc (k := 0) (by decide +kernel) c_1448
                            refine lv_iconst (v := 1) hx hb dX12_operand_434 (by decide +kernel) ?_
                            refine lv_goto (tgt := 439) hx hb dX12_operand_435 (by decide) ?_
                            refine lv_icmp_eq (tgt := 444) hx hb dX12_operand_439 (by decide) (fun c => absurd c (by decide +kernel)) (fun _ => ?_)
                            refine lv_iconst (v := (-1)) hx hb dX12_operand_442 (by decide +kernel) ?_
                            refine lv_istore_n (lv' := [(3, .int (-1)), (2, .int 0), (1, .int x_5), (0, .ref (o + 0))]) hx hb dX12_operand_443 rfl hl (by decide) rfl (fun ls hl => ?_)
                            refine lv_iload_n hx hb dX12_operand_444 rfl (lv_at hl 0 rfl) ?_
                            refine lv_iconst (v := (-1)) hx hb dX12_operand_445 (by decide +kernel) ?_
                            refine lv_icmp_ne (tgt := 458) hx hb dX12_operand_446 (by decide) (fun c => absurd (by decide +kernel) c) (fun _ => ?_)
                            refine lv_aload_n hx hb dX12_operand_449 rfl (lv_at hl 3 rfl) ?_
                            refine lv_iconst (v := 1) hx hb dX12_operand_450 (by decide +kernel) ?_
                            refine lv_aload_n hx hb dX12_operand_451 rfl (lv_at hl 3 rfl) ?_
                            refine dg_get (C := RX12) (T := TX12) (N := 77) hx hb hts (fun w h => bw_mem (wU_X12 w h)) hown K hP sM_0 rfl 4 (by decide) (hts _ (bw_mem wB_1121)) (fun _ h9 => h9) (v := .int sa) (((dg_uf_F e_278 0 4).trans (m_2.1 0 4 _ sM_0 (by decide))).trans f_sa) dX12_operand_452 ?_
                            have hz_1459 : (1 : Int32).toInt = 1 := by decide +kernel
                            refine dg_callv hS hA1 hA (va_runV (As := [.int 1, .int sa]) (rest := []) F (c_m_blame l g D o S_278 1 (by decide +kernel) sa y_3 ((dg_uf_F e_278 0 8).trans f_y_3) (by omega) I_278 H.size) (cwV 2 hts (bw_V wB_1113 wB_1114 wB_1115 wB_857 wB_1112) rfl rfl rfl (by decide +kernel) ⟨Nat.le_of_ble_eq_true rfl, Nat.le_of_ble_eq_true rfl⟩) (dg_preV sM_0 rfl K ST hP hS hA1 hA) rfl rfl hl.1 rfl (lv_room (Nat.le_of_ble_eq_true rfl)) dX12_operand_455 ⟨Nat.le_of_ble_eq_true rfl, Nat.le_of_ble_eq_true rfl⟩) (fun S_1460 hw_1460 H locs hP hS => ?_)
                            obtain ⟨I_1460, m_1460, w_1460_0, -⟩ := hw_1460
                            have M_1460 := dg_sm.tr M_278 m_1460 (by decide) (by decide)
                            have hz_1461 : (1 : Int32).toInt = 1 := by decide +kernel
                            obtain ⟨y_1462, f_y_1462, w_1460_0⟩ := w_1460_0
                            have w_1460_0 : ((y_3).toInt ≠ 0 → (y_1462).toInt = (y_3).toInt) ∧ ((y_3).toInt = 0 → (y_1462).toInt = ((1 : Int32)).toInt) := w_1460_0
                            have b_y_1462 : 0 ≤ (y_1462).toInt ∧ (y_1462).toInt ≤ 6 := dg_I.intb (lo := 0) (hi := 6) I_1460 sM_0 (by decide +kernel) f_y_1462
                            refine lv_aload_n hx hb dX12_operand_458 rfl (lv_at hl 3 rfl) ?_
                            refine dg_get (C := RX12) (T := TX12) (N := 77) hx hb hts (fun w h => bw_mem (wU_X12 w h)) hown K hP sM_0 rfl 8 (by decide) (hts _ (bw_mem wB_1109)) (fun _ h9 => h9) (v := .int y_1462) f_y_1462 dX12_operand_459 ?_
                            refine lv_if_le (tgt := 467) hx hb dX12_operand_462 (by decide) (fun c_1463 => ?_) (fun c_1463 => ?_)
                            · have jc_1463 := dk_lec (k := 0) (by decide +kernel) c_1463
                              refine lv_aload_n hx hb dX12_operand_467 rfl (lv_at hl 3 rfl) ?_
                              refine lv_iload_n hx hb dX12_operand_468 rfl (lv_at hl 0 rfl) ?_
                              refine lv_aload_n hx hb dX12_operand_469 rfl (lv_at hl 3 rfl) ?_
                              refine dg_get (C := RX12) (T := TX12) (N := 77) hx hb hts (fun w h => bw_mem (wU_X12 w h)) hown K hP sM_0 rfl 6 (by decide) (hts _ (bw_mem wB_1117)) (fun _ h9 => h9) (v := .int va) (((m_1460.1 0 6 _ sM_0 (by decide)).trans ((dg_uf_F e_278 0 6).trans (m_2.1 0 6 _ sM_0 (by decide)))).trans f_va) dX12_operand_470 ?_
                              have hz_1464 : (-1 : Int32).toInt = (-1) := by decide +kernel
                              refine dg_callv hS hA1 hA (va_runV (As := [.int (-1), .int va]) (rest := []) F (c_m_add l g D o S_1460 (-1) (by decide +kernel) va cd (((m_1460.1 0 34 _ sM_0 (by decide)).trans ((dg_uf_F e_278 0 34).trans (m_2.1 0 34 _ sM_0 (by decide)))).trans f_cd) (by omega) (ZWM.keep (ZWM.keep (ZWM.keep ZW m_2 (by decide) (by decide) (by decide) (by decide)) (dg_sm.uf (WF := []) (WA := [24]) dg_sm.rf e_278 sM_24 (by decide)) (by decide) (by decide) (by decide) (by decide)) m_1460 (by decide) (by decide) (by decide) (by decide)) (ZKM.keep (ZKM.keep (ZKM.keep ZK m_2 (by decide) (by decide)) (dg_sm.uf (WF := []) (WA := [24]) dg_sm.rf e_278 sM_24 (by decide)) (by decide) (by decide)) m_1460 (by decide) (by decide)) I_1460 H.size) (cwV 2 hts (bw_V wB_1185 wB_1186 wB_1187 wB_857 wB_1184) rfl rfl rfl (by decide +kernel) ⟨Nat.le_of_ble_eq_true rfl, Nat.le_of_ble_eq_true rfl⟩) (dg_preV sM_0 rfl K ST hP hS hA1 hA) rfl rfl hl.1 rfl (lv_room (Nat.le_of_ble_eq_true rfl)) dX12_operand_473 ⟨Nat.le_of_ble_eq_true rfl, Nat.le_of_ble_eq_true rfl⟩) (fun S_1465 hw_1465 H locs hP hS => ?_)
                              obtain ⟨I_1465, m_1465, w_1465_0, w_1465_1, w_1465_2, -⟩ := hw_1465
                              have M_1465 := dg_sm.tr M_1460 m_1465 (by decide) (by decide)
                              have hz_1466 : (-1 : Int32).toInt = (-1) := by decide +kernel
                              obtain ⟨y_1467, f_y_1467, w_1465_0⟩ := w_1465_0
                              have w_1465_0 : (y_1467).toInt = (cd).toInt + 1 := w_1465_0
                              have b_y_1467 : 0 ≤ (y_1467).toInt ∧ (y_1467).toInt ≤ 1600 := dg_I.intb (lo := 0) (hi := 1600) I_1465 sM_0 (by decide +kernel) f_y_1467
                              have w_1465_1 : ADM S_1460 S_1465 (-1 : Int32) := w_1465_1
                              have P1_1465 : P1M S_1465 := PBM.leaf (PBM.keep PB_278 m_1460 (by decide) (by decide) (by decide) (by decide) (by decide) (by decide) (by decide) (by decide) (by decide) (by decide) (by decide) (by decide) (by decide) (by decide) (by decide)) (((m_1460.1 0 42 _ sM_0 (by decide)).trans ((dg_uf_F e_278 0 42).trans (m_2.1 0 42 _ sM_0 (by decide)))).trans f_dp) (((m_1460.1 0 43 _ sM_0 (by decide)).trans ((dg_uf_F e_278 0 43).trans (m_2.1 0 43 _ sM_0 (by decide)))).trans f_on) (((m_1460.1 0 45 _ sM_0 (by decide)).trans ((dg_uf_F e_278 0 45).trans (m_2.1 0 45 _ sM_0 (by decide)))).trans f_om) m_1465 w_1465_1 (by omega)
                              refine lv_aload_n hx hb dX12_operand_476 rfl (lv_at hl 3 rfl) ?_
                              refine dg_callv hS hA1 hA (va_runV (As := []) (rest := []) F (c_m_ahead l g D o S_1465 se (((m_1465.1 0 5 _ sM_0 (by decide)).trans ((m_1460.1 0 5 _ sM_0 (by decide)).trans ((dg_uf_F e_278 0 5).trans (m_2.1 0 5 _ sM_0 (by decide))))).trans f_se) (by omega) sl (((m_1465.1 0 2 _ sM_0 (by decide)).trans ((m_1460.1 0 2 _ sM_0 (by decide)).trans ((dg_uf_F e_278 0 2).trans (m_2.1 0 2 _ sM_0 (by decide))))).trans f_sl) (by omega) (by omega) I_1465 H.size) (cwV 0 hts (bw_V wB_1137 wB_1138 wB_1139 wB_857 wB_1136) rfl rfl rfl (by decide +kernel) ⟨Nat.le_of_ble_eq_true rfl, Nat.le_of_ble_eq_true rfl⟩) (dg_preV sM_0 rfl K ST hP hS hA1 hA) rfl rfl hl.1 rfl (lv_room (Nat.le_of_ble_eq_true rfl)) dX12_operand_477 ⟨Nat.le_of_ble_eq_true rfl, Nat.le_of_ble_eq_true rfl⟩) (fun S_1468 hw_1468 H locs hP hS => ?_)
                              obtain ⟨I_1468, m_1468, w_1468_0, -⟩ := hw_1468
                              have M_1468 := dg_sm.tr M_1465 m_1468 (by decide) (by decide)
                              obtain ⟨y_1469, y_1470, y_1471, f_y_1469, f_y_1470, f_y_1471, w_1468_0⟩ := w_1468_0
                              have w_1468_0 : (se).toInt ≤ (y_1470).toInt ∧ (y_1470).toInt ≤ (y_1471).toInt ∧ (y_1471).toInt ≤ (sl).toInt ∧ ((y_1469).toInt ≠ 0 → (y_1470).toInt + 1 ≤ (y_1471).toInt) := w_1468_0
                              have b_y_1469 : 0 ≤ (y_1469).toInt ∧ (y_1469).toInt ≤ 3 := dg_I.intb (lo := 0) (hi := 3) I_1468 sM_0 (by decide +kernel) f_y_1469
                              have b_y_1470 : 0 ≤ (y_1470).toInt ∧ (y_1470).toInt ≤ 1600 := dg_I.intb (lo := 0) (hi := 1600) I_1468 sM_0 (by decide +kernel) f_y_1470
                              have b_y_1471 : 0 ≤ (y_1471).toInt ∧ (y_1471).toInt ≤ 1600 := dg_I.intb (lo := 0) (hi := 1600) I_1468 sM_0 (by decide +kernel) f_y_1471
                              refine lv_iconst (v := 1) hx hb dX12_operand_480 (by decide +kernel) ?_
                              have hz_1472 : (1 : Int32).toInt = 1 := by decide +kernel
                              have hz_1473 : (1 : Int32).toInt = 1 := by decide +kernel
                              have hz_1474 : (1 : Int32).toInt = 1 := by decide +kernel
                              have hz_1475 : (1 : Int32).toInt = 1 := by decide +kernel
                              refine W.widen (k := 0) (n := 0) (Nat.le_of_ble_eq_true rfl) (Nat.le_of_ble_eq_true rfl) ?_
                              exact dg_iret hx hb hr hlocks (by decide +kernel) hP hS ⟨I_1468, M_1468, (by decide +kernel), ⟨y_1469, y_1470, y_1471, y_1462, y_1467, dp, om, f_y_1469, f_y_1470, f_y_1471, (((m_1468.1 0 8 _ sM_0 (by decide)).trans (m_1465.1 0 8 _ sM_0 (by decide))).trans f_y_1462), ((m_1468.1 0 34 _ sM_0 (by decide)).trans f_y_1467), (((m_1468.1 0 42 _ sM_0 (by decide)).trans ((m_1465.1 0 42 _ sM_0 (by decide)).trans ((m_1460.1 0 42 _ sM_0 (by decide)).trans ((dg_uf_F e_278 0 42).trans (m_2.1 0 42 _ sM_0 (by decide)))))).trans f_dp), (((m_1468.1 0 45 _ sM_0 (by decide)).trans ((m_1465.1 0 45 _ sM_0 (by decide)).trans ((m_1460.1 0 45 _ sM_0 (by decide)).trans ((dg_uf_F e_278 0 45).trans (m_2.1 0 45 _ sM_0 (by decide)))))).trans f_om), (by omega)⟩, (fun k9 hk9 hk0 => ⟨fun _ => (P1M.keep P1_1465 m_1468 (by decide) (by decide) (by decide) (by decide) (by decide) (by decide) (by decide) (by decide) (by decide) (by decide) (by decide) (by decide) (by decide) (by decide) (by decide)), fun h9 => absurd h9 (by decide +kernel)⟩), (ZWM.keep w_1465_2 m_1468 (by decide) (by decide) (by decide) (by decide)), trivial⟩ dX12_operand_481
                            · have jc_1463 := dk_nlec (k := 0) (by decide +kernel) c_1463
                              refine lv_iconst (v := 1) hx hb dX12_operand_465 (by decide +kernel) ?_
                              have hz_1476 : (1 : Int32).toInt = 1 := by decide +kernel
                              have hz_1477 : (1 : Int32).toInt = 1 := by decide +kernel
                              have hz_1478 : (1 : Int32).toInt = 1 := by decide +kernel
                              have hz_1479 : (1 : Int32).toInt = 1 := by decide +kernel
                              refine W.widen (k := 0) (n := 0) (Nat.le_of_ble_eq_true rfl) (Nat.le_of_ble_eq_true rfl) ?_
                              exact dg_iret hx hb hr hlocks (by decide +kernel) hP hS ⟨I_1460, M_1460, (by decide +kernel), ⟨sg, sa, se, y_1462, cd, dp, om, (((m_1460.1 0 3 _ sM_0 (by decide)).trans ((dg_uf_F e_278 0 3).trans (m_2.1 0 3 _ sM_0 (by decide)))).trans f_sg), (((m_1460.1 0 4 _ sM_0 (by decide)).trans ((dg_uf_F e_278 0 4).trans (m_2.1 0 4 _ sM_0 (by decide)))).trans f_sa), (((m_1460.1 0 5 _ sM_0 (by decide)).trans ((dg_uf_F e_278 0 5).trans (m_2.1 0 5 _ sM_0 (by decide)))).trans f_se), f_y_1462, (((m_1460.1 0 34 _ sM_0 (by decide)).trans ((dg_uf_F e_278 0 34).trans (m_2.1 0 34 _ sM_0 (by decide)))).trans f_cd), (((m_1460.1 0 42 _ sM_0 (by decide)).trans ((dg_uf_F e_278 0 42).trans (m_2.1 0 42 _ sM_0 (by decide)))).trans f_dp), (((m_1460.1 0 45 _ sM_0 (by decide)).trans ((dg_uf_F e_278 0 45).trans (m_2.1 0 45 _ sM_0 (by decide)))).trans f_om), (by omega)⟩, (fun k9 hk9 hk0 => by have q9 := (f_y_1462).symm.trans hk9; cases q9; omega), (ZWM.keep (ZWM.keep (ZWM.keep ZW m_2 (by decide) (by decide) (by decide) (by decide)) (dg_sm.uf (WF := []) (WA := [24]) dg_sm.rf e_278 sM_24 (by decide)) (by decide) (by decide) (by decide) (by decide)) m_1460 (by decide) (by decide) (by decide) (by decide)), trivial⟩ dX12_operand_466
                        · have jc_1446 := dk_eqc (k := 4) (by decide +kernel) c_1446
                          refine lv_iconst (v := 1) hx hb dX12_operand_422 (by decide +kernel) ?_
                          refine lv_goto (tgt := 427) hx hb dX12_operand_423 (by decide) ?_
                          refine lv_aload_n hx hb dX12_operand_427 rfl (lv_at hl 3 rfl) ?_
                          obtain ⟨x_1480, f_x_1480, b_x_1480⟩ := dg_I.int (i := 0) (k := 36) (lo := 0) (hi := 2) I sM_0 (by decide +kernel)
                          refine dg_get (C := RX12) (T := TX12) (N := 77) hx hb hts (fun w h => bw_mem (wU_X12 w h)) hown K hP sM_0 rfl 36 (by decide) (hts _ (bw_mem wB_1199)) (fun _ h9 => h9) (v := .int x_1480) (((dg_uf_F e_278 0 36).trans (m_2.1 0 36 _ sM_0 (by decide))).trans f_x_1480) dX12_operand_428 ?_
                          refine lv_if_ne (tgt := 438) hx hb dX12_operand_431 (by decide) (fun c_1481 => ?_) (fun c_1481 => ?_)
                          · have jc_1481 := dk_neqc (k := 0) (by decide +kernel) c_1481
                            refine lv_iconst (v := 0) hx hb dX12_operand_438 (by decide +kernel) ?_
                            refine lv_icmp_eq (tgt := 444) hx hb dX12_operand_439 (by decide) (fun c => absurd c (by decide +kernel)) (fun _ => ?_)
                            refine lv_iconst (v := (-1)) hx hb dX12_operand_442 (by decide +kernel) ?_
                            refine lv_istore_n (lv' := [(3, .int (-1)), (2, .int 0), (1, .int x_5), (0, .ref (o + 0))]) hx hb dX12_operand_443 rfl hl (by decide) rfl (fun ls hl => ?_)
                            refine lv_iload_n hx hb dX12_operand_444 rfl (lv_at hl 0 rfl) ?_
                            refine lv_iconst (v := (-1)) hx hb dX12_operand_445 (by decide +kernel) ?_
                            refine lv_icmp_ne (tgt := 458) hx hb dX12_operand_446 (by decide) (fun c => absurd (by decide +kernel) c) (fun _ => ?_)
                            refine lv_aload_n hx hb dX12_operand_449 rfl (lv_at hl 3 rfl) ?_
                            refine lv_iconst (v := 1) hx hb dX12_operand_450 (by decide +kernel) ?_
                            refine lv_aload_n hx hb dX12_operand_451 rfl (lv_at hl 3 rfl) ?_
                            refine dg_get (C := RX12) (T := TX12) (N := 77) hx hb hts (fun w h => bw_mem (wU_X12 w h)) hown K hP sM_0 rfl 4 (by decide) (hts _ (bw_mem wB_1121)) (fun _ h9 => h9) (v := .int sa) (((dg_uf_F e_278 0 4).trans (m_2.1 0 4 _ sM_0 (by decide))).trans f_sa) dX12_operand_452 ?_
                            have hz_1482 : (1 : Int32).toInt = 1 := by decide +kernel
                            refine dg_callv hS hA1 hA (va_runV (As := [.int 1, .int sa]) (rest := []) F (c_m_blame l g D o S_278 1 (by decide +kernel) sa y_3 ((dg_uf_F e_278 0 8).trans f_y_3) (by omega) I_278 H.size) (cwV 2 hts (bw_V wB_1113 wB_1114 wB_1115 wB_857 wB_1112) rfl rfl rfl (by decide +kernel) ⟨Nat.le_of_ble_eq_true rfl, Nat.le_of_ble_eq_true rfl⟩) (dg_preV sM_0 rfl K ST hP hS hA1 hA) rfl rfl hl.1 rfl (lv_room (Nat.le_of_ble_eq_true rfl)) dX12_operand_455 ⟨Nat.le_of_ble_eq_true rfl, Nat.le_of_ble_eq_true rfl⟩) (fun S_1483 hw_1483 H locs hP hS => ?_)
                            obtain ⟨I_1483, m_1483, w_1483_0, -⟩ := hw_1483
                            have M_1483 := dg_sm.tr M_278 m_1483 (by decide) (by decide)
                            have hz_1484 : (1 : Int32).toInt = 1 := by decide +kernel
                            obtain ⟨y_1485, f_y_1485, w_1483_0⟩ := w_1483_0
                            have w_1483_0 : ((y_3).toInt ≠ 0 → (y_1485).toInt = (y_3).toInt) ∧ ((y_3).toInt = 0 → (y_1485).toInt = ((1 : Int32)).toInt) := w_1483_0
                            have b_y_1485 : 0 ≤ (y_1485).toInt ∧ (y_1485).toInt ≤ 6 := dg_I.intb (lo := 0) (hi := 6) I_1483 sM_0 (by decide +kernel) f_y_1485
                            refine lv_aload_n hx hb dX12_operand_458 rfl (lv_at hl 3 rfl) ?_
                            refine dg_get (C := RX12) (T := TX12) (N := 77) hx hb hts (fun w h => bw_mem (wU_X12 w h)) hown K hP sM_0 rfl 8 (by decide) (hts _ (bw_mem wB_1109)) (fun _ h9 => h9) (v := .int y_1485) f_y_1485 dX12_operand_459 ?_
                            refine lv_if_le (tgt := 467) hx hb dX12_operand_462 (by decide) (fun c_1486 => ?_) (fun c_1486 => ?_)
                            · have jc_1486 := dk_lec (k := 0) (by decide +kernel) c_1486
                              refine lv_aload_n hx hb dX12_operand_467 rfl (lv_at hl 3 rfl) ?_
                              refine lv_iload_n hx hb dX12_operand_468 rfl (lv_at hl 0 rfl) ?_
                              refine lv_aload_n hx hb dX12_operand_469 rfl (lv_at hl 3 rfl) ?_
                              refine dg_get (C := RX12) (T := TX12) (N := 77) hx hb hts (fun w h => bw_mem (wU_X12 w h)) hown K hP sM_0 rfl 6 (by decide) (hts _ (bw_mem wB_1117)) (fun _ h9 => h9) (v := .int va) (((m_1483.1 0 6 _ sM_0 (by decide)).trans ((dg_uf_F e_278 0 6).trans (m_2.1 0 6 _ sM_0 (by decide)))).trans f_va) dX12_operand_470 ?_
                              have hz_1487 : (-1 : Int32).toInt = (-1) := by decide +kernel
                              refine dg_callv hS hA1 hA (va_runV (As := [.int (-1), .int va]) (rest := []) F (c_m_add l g D o S_1483 (-1) (by decide +kernel) va cd (((m_1483.1 0 34 _ sM_0 (by decide)).trans ((dg_uf_F e_278 0 34).trans (m_2.1 0 34 _ sM_0 (by decide)))).trans f_cd) (by omega) (ZWM.keep (ZWM.keep (ZWM.keep ZW m_2 (by decide) (by decide) (by decide) (by decide)) (dg_sm.uf (WF := []) (WA := [24]) dg_sm.rf e_278 sM_24 (by decide)) (by decide) (by decide) (by decide) (by decide)) m_1483 (by decide) (by decide) (by decide) (by decide)) (ZKM.keep (ZKM.keep (ZKM.keep ZK m_2 (by decide) (by decide)) (dg_sm.uf (WF := []) (WA := [24]) dg_sm.rf e_278 sM_24 (by decide)) (by decide) (by decide)) m_1483 (by decide) (by decide)) I_1483 H.size) (cwV 2 hts (bw_V wB_1185 wB_1186 wB_1187 wB_857 wB_1184) rfl rfl rfl (by decide +kernel) ⟨Nat.le_of_ble_eq_true rfl, Nat.le_of_ble_eq_true rfl⟩) (dg_preV sM_0 rfl K ST hP hS hA1 hA) rfl rfl hl.1 rfl (lv_room (Nat.le_of_ble_eq_true rfl)) dX12_operand_473 ⟨Nat.le_of_ble_eq_true rfl, Nat.le_of_ble_eq_true rfl⟩) (fun S_1488 hw_1488 H locs hP hS => ?_)
                              obtain ⟨I_1488, m_1488, w_1488_0, w_1488_1, w_1488_2, -⟩ := hw_1488
                              have M_1488 := dg_sm.tr M_1483 m_1488 (by decide) (by decide)
                              have hz_1489 : (-1 : Int32).toInt = (-1) := by decide +kernel
                              obtain ⟨y_1490, f_y_1490, w_1488_0⟩ := w_1488_0
                              have w_1488_0 : (y_1490).toInt = (cd).toInt + 1 := w_1488_0
                              have b_y_1490 : 0 ≤ (y_1490).toInt ∧ (y_1490).toInt ≤ 1600 := dg_I.intb (lo := 0) (hi := 1600) I_1488 sM_0 (by decide +kernel) f_y_1490
                              have w_1488_1 : ADM S_1483 S_1488 (-1 : Int32) := w_1488_1
                              have P1_1488 : P1M S_1488 := PBM.leaf (PBM.keep PB_278 m_1483 (by decide) (by decide) (by decide) (by decide) (by decide) (by decide) (by decide) (by decide) (by decide) (by decide) (by decide) (by decide) (by decide) (by decide) (by decide)) (((m_1483.1 0 42 _ sM_0 (by decide)).trans ((dg_uf_F e_278 0 42).trans (m_2.1 0 42 _ sM_0 (by decide)))).trans f_dp) (((m_1483.1 0 43 _ sM_0 (by decide)).trans ((dg_uf_F e_278 0 43).trans (m_2.1 0 43 _ sM_0 (by decide)))).trans f_on) (((m_1483.1 0 45 _ sM_0 (by decide)).trans ((dg_uf_F e_278 0 45).trans (m_2.1 0 45 _ sM_0 (by decide)))).trans f_om) m_1488 w_1488_1 (by omega)
                              refine lv_aload_n hx hb dX12_operand_476 rfl (lv_at hl 3 rfl) ?_
                              refine dg_callv hS hA1 hA (va_runV (As := []) (rest := []) F (c_m_ahead l g D o S_1488 se (((m_1488.1 0 5 _ sM_0 (by decide)).trans ((m_1483.1 0 5 _ sM_0 (by decide)).trans ((dg_uf_F e_278 0 5).trans (m_2.1 0 5 _ sM_0 (by decide))))).trans f_se) (by omega) sl (((m_1488.1 0 2 _ sM_0 (by decide)).trans ((m_1483.1 0 2 _ sM_0 (by decide)).trans ((dg_uf_F e_278 0 2).trans (m_2.1 0 2 _ sM_0 (by decide))))).trans f_sl) (by omega) (by omega) I_1488 H.size) (cwV 0 hts (bw_V wB_1137 wB_1138 wB_1139 wB_857 wB_1136) rfl rfl rfl (by decide +kernel) ⟨Nat.le_of_ble_eq_true rfl, Nat.le_of_ble_eq_true rfl⟩) (dg_preV sM_0 rfl K ST hP hS hA1 hA) rfl rfl hl.1 rfl (lv_room (Nat.le_of_ble_eq_true rfl)) dX12_operand_477 ⟨Nat.le_of_ble_eq_true rfl, Nat.le_of_ble_eq_true rfl⟩) (fun S_1491 hw_1491 H locs hP hS => ?_)
                              obtain ⟨I_1491, m_1491, w_1491_0, -⟩ := hw_1491
                              have M_1491 := dg_sm.tr M_1488 m_1491 (by decide) (by decide)
                              obtain ⟨y_1492, y_1493, y_1494, f_y_1492, f_y_1493, f_y_1494, w_1491_0⟩ := w_1491_0
                              have w_1491_0 : (se).toInt ≤ (y_1493).toInt ∧ (y_1493).toInt ≤ (y_1494).toInt ∧ (y_1494).toInt ≤ (sl).toInt ∧ ((y_1492).toInt ≠ 0 → (y_1493).toInt + 1 ≤ (y_1494).toInt) := w_1491_0
                              have b_y_1492 : 0 ≤ (y_1492).toInt ∧ (y_1492).toInt ≤ 3 := dg_I.intb (lo := 0) (hi := 3) I_1491 sM_0 (by decide +kernel) f_y_1492
                              have b_y_1493 : 0 ≤ (y_1493).toInt ∧ (y_1493).toInt ≤ 1600 := dg_I.intb (lo := 0) (hi := 1600) I_1491 sM_0 (by decide +kernel) f_y_1493
                              have b_y_1494 : 0 ≤ (y_1494).toInt ∧ (y_1494).toInt ≤ 1600 := dg_I.intb (lo := 0) (hi := 1600) I_1491 sM_0 (by decide +kernel) f_y_1494
                              refine lv_iconst (v := 1) hx hb dX12_operand_480 (by decide +kernel) ?_
                              have hz_1495 : (1 : Int32).toInt = 1 := by decide +kernel
                              have hz_1496 : (1 : Int32).toInt = 1 := by decide +kernel
                              have hz_1497 : (1 : Int32).toInt = 1 := by decide +kernel
                              have hz_1498 : (1 : Int32).toInt = 1 := by decide +kernel
                              refine W.widen (k := 0) (n := 0) (Nat.le_of_ble_eq_true rfl) (Nat.le_of_ble_eq_true rfl) ?_
                              exact dg_iret hx hb hr hlocks (by decide +kernel) hP hS ⟨I_1491, M_1491, (by decide +kernel), ⟨y_1492, y_1493, y_1494, y_1485, y_1490, dp, om, f_y_1492, f_y_1493, f_y_1494, (((m_1491.1 0 8 _ sM_0 (by decide)).trans (m_1488.1 0 8 _ sM_0 (by decide))).trans f_y_1485), ((m_1491.1 0 34 _ sM_0 (by decide)).trans f_y_1490), (((m_1491.1 0 42 _ sM_0 (by decide)).trans ((m_1488.1 0 42 _ sM_0 (by decide)).trans ((m_1483.1 0 42 _ sM_0 (by decide)).trans ((dg_uf_F e_278 0 42).trans (m_2.1 0 42 _ sM_0 (by decide)))))).trans f_dp), (((m_1491.1 0 45 _ sM_0 (by decide)).trans ((m_1488.1 0 45 _ sM_0 (by decide)).trans ((m_1483.1 0 45 _ sM_0 (by decide)).trans ((dg_uf_F e_278 0 45).trans (m_2.1 0 45 _ sM_0 (by decide)))))).trans f_om), (by omega)⟩, (fun k9 hk9 hk0 => ⟨fun _ => (P1M.keep P1_1488 m_1491 (by decide) (by decide) (by decide) (by decide) (by decide) (by decide) (by decide) (by decide) (by decide) (by decide) (by decide) (by decide) (by decide) (by decide) (by decide)), fun h9 => absurd h9 (by decide +kernel)⟩), (ZWM.keep w_1488_2 m_1491 (by decide) (by decide) (by decide) (by decide)), trivial⟩ dX12_operand_481
                            · have jc_1486 := dk_nlec (k := 0) (by decide +kernel) c_1486
                              refine lv_iconst (v := 1) hx hb dX12_operand_465 (by decide +kernel) ?_
                              have hz_1499 : (1 : Int32).toInt = 1 := by decide +kernel
                              have hz_1500 : (1 : Int32).toInt = 1 := by decide +kernel
                              have hz_1501 : (1 : Int32).toInt = 1 := by decide +kernel
                              have hz_1502 : (1 : Int32).toInt = 1 := by decide +kernel
                              refine W.widen (k := 0) (n := 0) (Nat.le_of_ble_eq_true rfl) (Nat.le_of_ble_eq_true rfl) ?_
                              exact dg_iret hx hb hr hlocks (by decide +kernel) hP hS ⟨I_1483, M_1483, (by decide +kernel), ⟨sg, sa, se, y_1485, cd, dp, om, (((m_1483.1 0 3 _ sM_0 (by decide)).trans ((dg_uf_F e_278 0 3).trans (m_2.1 0 3 _ sM_0 (by decide)))).trans f_sg), (((m_1483.1 0 4 _ sM_0 (by decide)).trans ((dg_uf_F e_278 0 4).trans (m_2.1 0 4 _ sM_0 (by decide)))).trans f_sa), (((m_1483.1 0 5 _ sM_0 (by decide)).trans ((dg_uf_F e_278 0 5).trans (m_2.1 0 5 _ sM_0 (by decide)))).trans f_se), f_y_1485, (((m_1483.1 0 34 _ sM_0 (by decide)).trans ((dg_uf_F e_278 0 34).trans (m_2.1 0 34 _ sM_0 (by decide)))).trans f_cd), (((m_1483.1 0 42 _ sM_0 (by decide)).trans ((dg_uf_F e_278 0 42).trans (m_2.1 0 42 _ sM_0 (by decide)))).trans f_dp), (((m_1483.1 0 45 _ sM_0 (by decide)).trans ((dg_uf_F e_278 0 45).trans (m_2.1 0 45 _ sM_0 (by decide)))).trans f_om), (by omega)⟩, (fun k9 hk9 hk0 => by have q9 := (f_y_1485).symm.trans hk9; cases q9; omega), (ZWM.keep (ZWM.keep (ZWM.keep ZW m_2 (by decide) (by decide) (by decide) (by decide)) (dg_sm.uf (WF := []) (WA := [24]) dg_sm.rf e_278 sM_24 (by decide)) (by decide) (by decide) (by decide) (by decide)) m_1483 (by decide) (by decide) (by decide) (by decide)), trivial⟩ dX12_operand_466
                          · have jc_1481 := dk_eqc (k := 0) (by decide +kernel) c_1481
                            refine lv_iconst (v := 1) hx hb dX12_operand_434 (by decide +kernel) ?_
                            refine lv_goto (tgt := 439) hx hb dX12_operand_435 (by decide) ?_
                            refine lv_icmp_eq (tgt := 444) hx hb dX12_operand_439 (by decide) (fun _ => ?_) (fun c => absurd (by decide +kernel) c)
                            refine lv_iload_n hx hb dX12_operand_444 rfl (lv_at hl 0 rfl) ?_
                            refine lv_iconst (v := (-1)) hx hb dX12_operand_445 (by decide +kernel) ?_
                            refine lv_icmp_ne (tgt := 458) hx hb dX12_operand_446 (by decide) (fun _ => ?_) (fun c => absurd c (fun z => absurd (dk_eqc (k := (-1)) (by decide +kernel) z) (by omega)))
                            refine lv_aload_n hx hb dX12_operand_458 rfl (lv_at hl 3 rfl) ?_
                            refine dg_get (C := RX12) (T := TX12) (N := 77) hx hb hts (fun w h => bw_mem (wU_X12 w h)) hown K hP sM_0 rfl 8 (by decide) (hts _ (bw_mem wB_1109)) (fun _ h9 => h9) (v := .int y_3) ((dg_uf_F e_278 0 8).trans f_y_3) dX12_operand_459 ?_
                            refine lv_if_le (tgt := 467) hx hb dX12_operand_462 (by decide) (fun _ => ?_) (fun c => absurd (dk_lep (k := 0) (by decide +kernel) (by omega)) c)
                            refine lv_aload_n hx hb dX12_operand_467 rfl (lv_at hl 3 rfl) ?_
                            refine lv_iload_n hx hb dX12_operand_468 rfl (lv_at hl 0 rfl) ?_
                            refine lv_aload_n hx hb dX12_operand_469 rfl (lv_at hl 3 rfl) ?_
                            refine dg_get (C := RX12) (T := TX12) (N := 77) hx hb hts (fun w h => bw_mem (wU_X12 w h)) hown K hP sM_0 rfl 6 (by decide) (hts _ (bw_mem wB_1117)) (fun _ h9 => h9) (v := .int va) (((dg_uf_F e_278 0 6).trans (m_2.1 0 6 _ sM_0 (by decide))).trans f_va) dX12_operand_470 ?_
                            refine dg_callv hS hA1 hA (va_runV (As := [.int x_1315, .int va]) (rest := []) F (c_m_add l g D o S_278 x_1315 (by omega) va cd (((dg_uf_F e_278 0 34).trans (m_2.1 0 34 _ sM_0 (by decide))).trans f_cd) (by omega) (ZWM.keep (ZWM.keep ZW m_2 (by decide) (by decide) (by decide) (by decide)) (dg_sm.uf (WF := []) (WA := [24]) dg_sm.rf e_278 sM_24 (by decide)) (by decide) (by decide) (by decide) (by decide)) (ZKM.keep (ZKM.keep ZK m_2 (by decide) (by decide)) (dg_sm.uf (WF := []) (WA := [24]) dg_sm.rf e_278 sM_24 (by decide)) (by decide) (by decide)) I_278 H.size) (cwV 2 hts (bw_V wB_1185 wB_1186 wB_1187 wB_857 wB_1184) rfl rfl rfl (by decide +kernel) ⟨Nat.le_of_ble_eq_true rfl, Nat.le_of_ble_eq_true rfl⟩) (dg_preV sM_0 rfl K ST hP hS hA1 hA) rfl rfl hl.1 rfl (lv_room (Nat.le_of_ble_eq_true rfl)) dX12_operand_473 ⟨Nat.le_of_ble_eq_true rfl, Nat.le_of_ble_eq_true rfl⟩) (fun S_1503 hw_1503 H locs hP hS => ?_)
                            obtain ⟨I_1503, m_1503, w_1503_0, w_1503_1, w_1503_2, -⟩ := hw_1503
                            have M_1503 := dg_sm.tr M_278 m_1503 (by decide) (by decide)
                            obtain ⟨y_1504, f_y_1504, w_1503_0⟩ := w_1503_0
                            have w_1503_0 : (y_1504).toInt = (cd).toInt + 1 := w_1503_0
                            have b_y_1504 : 0 ≤ (y_1504).toInt ∧ (y_1504).toInt ≤ 1600 := dg_I.intb (lo := 0) (hi := 1600) I_1503 sM_0 (by decide +kernel) f_y_1504
                            have w_1503_1 : ADM S_278 S_1503 x_1315 := w_1503_1
                            have P1_1503 : P1M S_1503 := PBM.leaf PB_278 (((dg_uf_F e_278 0 42).trans (m_2.1 0 42 _ sM_0 (by decide))).trans f_dp) (((dg_uf_F e_278 0 43).trans (m_2.1 0 43 _ sM_0 (by decide))).trans f_on) (((dg_uf_F e_278 0 45).trans (m_2.1 0 45 _ sM_0 (by decide))).trans f_om) m_1503 w_1503_1 (by omega)
                            refine lv_aload_n hx hb dX12_operand_476 rfl (lv_at hl 3 rfl) ?_
                            refine dg_callv hS hA1 hA (va_runV (As := []) (rest := []) F (c_m_ahead l g D o S_1503 se (((m_1503.1 0 5 _ sM_0 (by decide)).trans ((dg_uf_F e_278 0 5).trans (m_2.1 0 5 _ sM_0 (by decide)))).trans f_se) (by omega) sl (((m_1503.1 0 2 _ sM_0 (by decide)).trans ((dg_uf_F e_278 0 2).trans (m_2.1 0 2 _ sM_0 (by decide)))).trans f_sl) (by omega) (by omega) I_1503 H.size) (cwV 0 hts (bw_V wB_1137 wB_1138 wB_1139 wB_857 wB_1136) rfl rfl rfl (by decide +kernel) ⟨Nat.le_of_ble_eq_true rfl, Nat.le_of_ble_eq_true rfl⟩) (dg_preV sM_0 rfl K ST hP hS hA1 hA) rfl rfl hl.1 rfl (lv_room (Nat.le_of_ble_eq_true rfl)) dX12_operand_477 ⟨Nat.le_of_ble_eq_true rfl, Nat.le_of_ble_eq_true rfl⟩) (fun S_1505 hw_1505 H locs hP hS => ?_)
                            obtain ⟨I_1505, m_1505, w_1505_0, -⟩ := hw_1505
                            have M_1505 := dg_sm.tr M_1503 m_1505 (by decide) (by decide)
                            obtain ⟨y_1506, y_1507, y_1508, f_y_1506, f_y_1507, f_y_1508, w_1505_0⟩ := w_1505_0
                            have w_1505_0 : (se).toInt ≤ (y_1507).toInt ∧ (y_1507).toInt ≤ (y_1508).toInt ∧ (y_1508).toInt ≤ (sl).toInt ∧ ((y_1506).toInt ≠ 0 → (y_1507).toInt + 1 ≤ (y_1508).toInt) := w_1505_0
                            have b_y_1506 : 0 ≤ (y_1506).toInt ∧ (y_1506).toInt ≤ 3 := dg_I.intb (lo := 0) (hi := 3) I_1505 sM_0 (by decide +kernel) f_y_1506
                            have b_y_1507 : 0 ≤ (y_1507).toInt ∧ (y_1507).toInt ≤ 1600 := dg_I.intb (lo := 0) (hi := 1600) I_1505 sM_0 (by decide +kernel) f_y_1507
                            have b_y_1508 : 0 ≤ (y_1508).toInt ∧ (y_1508).toInt ≤ 1600 := dg_I.intb (lo := 0) (hi := 1600) I_1505 sM_0 (by decide +kernel) f_y_1508
                            refine lv_iconst (v := 1) hx hb dX12_operand_480 (by decide +kernel) ?_
                            have hz_1509 : (1 : Int32).toInt = 1 := by decide +kernel
                            have hz_1510 : (1 : Int32).toInt = 1 := by decide +kernel
                            have hz_1511 : (1 : Int32).toInt = 1 := by decide +kernel
                            have hz_1512 : (1 : Int32).toInt = 1 := by decide +kernel
                            refine W.widen (k := 0) (n := 0) (Nat.le_of_ble_eq_true rfl) (Nat.le_of_ble_eq_true rfl) ?_
                            exact dg_iret hx hb hr hlocks (by decide +kernel) hP hS ⟨I_1505, M_1505, (by decide +kernel), ⟨y_1506, y_1507, y_1508, y_3, y_1504, dp, om, f_y_1506, f_y_1507, f_y_1508, (((m_1505.1 0 8 _ sM_0 (by decide)).trans ((m_1503.1 0 8 _ sM_0 (by decide)).trans (dg_uf_F e_278 0 8))).trans f_y_3), ((m_1505.1 0 34 _ sM_0 (by decide)).trans f_y_1504), (((m_1505.1 0 42 _ sM_0 (by decide)).trans ((m_1503.1 0 42 _ sM_0 (by decide)).trans ((dg_uf_F e_278 0 42).trans (m_2.1 0 42 _ sM_0 (by decide))))).trans f_dp), (((m_1505.1 0 45 _ sM_0 (by decide)).trans ((m_1503.1 0 45 _ sM_0 (by decide)).trans ((dg_uf_F e_278 0 45).trans (m_2.1 0 45 _ sM_0 (by decide))))).trans f_om), (by omega)⟩, (fun k9 hk9 hk0 => ⟨fun _ => (P1M.keep P1_1503 m_1505 (by decide) (by decide) (by decide) (by decide) (by decide) (by decide) (by decide) (by decide) (by decide) (by decide) (by decide) (by decide) (by decide) (by decide) (by decide)), fun h9 => absurd h9 (by decide +kernel)⟩), (ZWM.keep w_1503_2 m_1505 (by decide) (by decide) (by decide) (by decide)), trivial⟩ dX12_operand_481
                    refine lv_icmp_ne (tgt := 325) hx hb dX12_operand_318 (by decide) (fun c_1513 => ?_) (fun c_1513 => ?_)
                    · have jc_1513 := dk_neqc (k := 2) (by decide +kernel) c_1513
                      refine lv_aload_n hx hb dX12_operand_325 rfl (lv_at hl 2 rfl) ?_
                      refine lv_ldc2 hx hb hown (hts _ (bw_mem wB_1149)) dX12_operand_326 ?_
                      refine dg_calli hS hA1 hA (va_runV (As := [.long 444300616805]) (rest := []) F (c_m_isWord l g D o S_278 444300616805 sg (((dg_uf_F e_278 0 3).trans (m_2.1 0 3 _ sM_0 (by decide))).trans f_sg) (by omega) I_278 H.size) (cwV 1 hts (bw_V wB_1141 wB_1142 wB_1143 wB_857 wB_1140) rfl rfl rfl (by decide +kernel) ⟨Nat.le_of_ble_eq_true rfl, Nat.le_of_ble_eq_true rfl⟩) (dg_preV sM_0 rfl K ST hP hS hA1 hA) rfl rfl hl.1 rfl (lv_room (Nat.le_of_ble_eq_true rfl)) dX12_operand_329 ⟨Nat.le_of_ble_eq_true rfl, Nat.le_of_ble_eq_true rfl⟩) (fun x_1514 S_1515 hw_1515 H locs hP hS => ?_)
                      rw [hw_1515.1] at hP
                      obtain ⟨hq_1515, w_1515_0, w_1515_1, -⟩ := hw_1515
                      have w_1515_0 : 0 ≤ (x_1514).toInt ∧ (x_1514).toInt ≤ 1 := w_1515_0
                      have w_1515_1 : (x_1514).toInt = 1 → (sg).toInt = 1 := w_1515_1
                      refine lv_if_eq (tgt := 339) hx hb dX12_operand_332 (by decide) (fun c_1516 => ?_) (fun c_1516 => ?_)
                      · have jc_1516 := dk_eqc (k := 0) (by decide +kernel) c_1516
                        refine lv_aload_n hx hb dX12_operand_339 rfl (lv_at hl 2 rfl) ?_
                        refine lv_ldc2 hx hb hown (hts _ (bw_mem wB_1159)) dX12_operand_340 ?_
                        refine dg_calli hS hA1 hA (va_runV (As := [.long 431198598248]) (rest := []) F (c_m_isWord l g D o S_278 431198598248 sg (((dg_uf_F e_278 0 3).trans (m_2.1 0 3 _ sM_0 (by decide))).trans f_sg) (by omega) I_278 H.size) (cwV 1 hts (bw_V wB_1141 wB_1142 wB_1143 wB_857 wB_1140) rfl rfl rfl (by decide +kernel) ⟨Nat.le_of_ble_eq_true rfl, Nat.le_of_ble_eq_true rfl⟩) (dg_preV sM_0 rfl K ST hP hS hA1 hA) rfl rfl hl.1 rfl (lv_room (Nat.le_of_ble_eq_true rfl)) dX12_operand_343 ⟨Nat.le_of_ble_eq_true rfl, Nat.le_of_ble_eq_true rfl⟩) (fun x_1517 S_1518 hw_1518 H locs hP hS => ?_)
                        rw [hw_1518.1] at hP
                        obtain ⟨hq_1518, w_1518_0, w_1518_1, -⟩ := hw_1518
                        have w_1518_0 : 0 ≤ (x_1517).toInt ∧ (x_1517).toInt ≤ 1 := w_1518_0
                        have w_1518_1 : (x_1517).toInt = 1 → (sg).toInt = 1 := w_1518_1
                        refine lv_if_eq (tgt := 353) hx hb dX12_operand_346 (by decide) (fun c_1519 => ?_) (fun c_1519 => ?_)
                        · have jc_1519 := dk_eqc (k := 0) (by decide +kernel) c_1519
                          refine lv_aload_n hx hb dX12_operand_353 rfl (lv_at hl 2 rfl) ?_
                          refine lv_ldc2 hx hb hown (hts _ (bw_mem wB_1160)) dX12_operand_354 ?_
                          refine dg_calli hS hA1 hA (va_runV (As := [.long 495672977012]) (rest := []) F (c_m_isWord l g D o S_278 495672977012 sg (((dg_uf_F e_278 0 3).trans (m_2.1 0 3 _ sM_0 (by decide))).trans f_sg) (by omega) I_278 H.size) (cwV 1 hts (bw_V wB_1141 wB_1142 wB_1143 wB_857 wB_1140) rfl rfl rfl (by decide +kernel) ⟨Nat.le_of_ble_eq_true rfl, Nat.le_of_ble_eq_true rfl⟩) (dg_preV sM_0 rfl K ST hP hS hA1 hA) rfl rfl hl.1 rfl (lv_room (Nat.le_of_ble_eq_true rfl)) dX12_operand_357 ⟨Nat.le_of_ble_eq_true rfl, Nat.le_of_ble_eq_true rfl⟩) (fun x_1520 S_1521 hw_1521 H locs hP hS => ?_)
                          rw [hw_1521.1] at hP
                          obtain ⟨hq_1521, w_1521_0, w_1521_1, -⟩ := hw_1521
                          have w_1521_0 : 0 ≤ (x_1520).toInt ∧ (x_1520).toInt ≤ 1 := w_1521_0
                          have w_1521_1 : (x_1520).toInt = 1 → (sg).toInt = 1 := w_1521_1
                          refine lv_if_eq (tgt := 367) hx hb dX12_operand_360 (by decide) (fun c_1522 => ?_) (fun c_1522 => ?_)
                          · have jc_1522 := dk_eqc (k := 0) (by decide +kernel) c_1522
                            refine lv_aload_n hx hb dX12_operand_367 rfl (lv_at hl 2 rfl) ?_
                            refine lv_ldc2 hx hb hown (hts _ (bw_mem wB_1161)) dX12_operand_368 ?_
                            refine dg_calli hS hA1 hA (va_runV (As := [.long 6709618]) (rest := []) F (c_m_isWord l g D o S_278 6709618 sg (((dg_uf_F e_278 0 3).trans (m_2.1 0 3 _ sM_0 (by decide))).trans f_sg) (by omega) I_278 H.size) (cwV 1 hts (bw_V wB_1141 wB_1142 wB_1143 wB_857 wB_1140) rfl rfl rfl (by decide +kernel) ⟨Nat.le_of_ble_eq_true rfl, Nat.le_of_ble_eq_true rfl⟩) (dg_preV sM_0 rfl K ST hP hS hA1 hA) rfl rfl hl.1 rfl (lv_room (Nat.le_of_ble_eq_true rfl)) dX12_operand_371 ⟨Nat.le_of_ble_eq_true rfl, Nat.le_of_ble_eq_true rfl⟩) (fun x_1523 S_1524 hw_1524 H locs hP hS => ?_)
                            rw [hw_1524.1] at hP
                            obtain ⟨hq_1524, w_1524_0, w_1524_1, -⟩ := hw_1524
                            have w_1524_0 : 0 ≤ (x_1523).toInt ∧ (x_1523).toInt ≤ 1 := w_1524_0
                            have w_1524_1 : (x_1523).toInt = 1 → (sg).toInt = 1 := w_1524_1
                            refine lv_if_eq (tgt := 381) hx hb dX12_operand_374 (by decide) (fun c_1525 => ?_) (fun c_1525 => ?_)
                            · have jc_1525 := dk_eqc (k := 0) (by decide +kernel) c_1525
                              refine lv_aload_n hx hb dX12_operand_381 rfl (lv_at hl 2 rfl) ?_
                              refine lv_ldc2 hx hb hown (hts _ (bw_mem wB_1162)) dX12_operand_382 ?_
                              refine dg_calli hS hA1 hA (va_runV (As := [.long 1869636974]) (rest := []) F (c_m_isWord l g D o S_278 1869636974 sg (((dg_uf_F e_278 0 3).trans (m_2.1 0 3 _ sM_0 (by decide))).trans f_sg) (by omega) I_278 H.size) (cwV 1 hts (bw_V wB_1141 wB_1142 wB_1143 wB_857 wB_1140) rfl rfl rfl (by decide +kernel) ⟨Nat.le_of_ble_eq_true rfl, Nat.le_of_ble_eq_true rfl⟩) (dg_preV sM_0 rfl K ST hP hS hA1 hA) rfl rfl hl.1 rfl (lv_room (Nat.le_of_ble_eq_true rfl)) dX12_operand_385 ⟨Nat.le_of_ble_eq_true rfl, Nat.le_of_ble_eq_true rfl⟩) (fun x_1526 S_1527 hw_1527 H locs hP hS => ?_)
                              rw [hw_1527.1] at hP
                              obtain ⟨hq_1527, w_1527_0, w_1527_1, -⟩ := hw_1527
                              have w_1527_0 : 0 ≤ (x_1526).toInt ∧ (x_1526).toInt ≤ 1 := w_1527_0
                              have w_1527_1 : (x_1526).toInt = 1 → (sg).toInt = 1 := w_1527_1
                              refine lv_if_eq (tgt := 395) hx hb dX12_operand_388 (by decide) (fun c_1528 => ?_) (fun c_1528 => ?_)
                              · have jc_1528 := dk_eqc (k := 0) (by decide +kernel) c_1528
                                refine lv_aload_n hx hb dX12_operand_395 rfl (lv_at hl 2 rfl) ?_
                                refine lv_ldc2 hx hb hown (hts _ (bw_mem wB_1163)) dX12_operand_396 ?_
                                refine dg_calli hS hA1 hA (va_runV (As := [.long 7104884]) (rest := []) F (c_m_isWord l g D o S_278 7104884 sg (((dg_uf_F e_278 0 3).trans (m_2.1 0 3 _ sM_0 (by decide))).trans f_sg) (by omega) I_278 H.size) (cwV 1 hts (bw_V wB_1141 wB_1142 wB_1143 wB_857 wB_1140) rfl rfl rfl (by decide +kernel) ⟨Nat.le_of_ble_eq_true rfl, Nat.le_of_ble_eq_true rfl⟩) (dg_preV sM_0 rfl K ST hP hS hA1 hA) rfl rfl hl.1 rfl (lv_room (Nat.le_of_ble_eq_true rfl)) dX12_operand_399 ⟨Nat.le_of_ble_eq_true rfl, Nat.le_of_ble_eq_true rfl⟩) (fun x_1529 S_1530 hw_1530 H locs hP hS => ?_)
                                rw [hw_1530.1] at hP
                                obtain ⟨hq_1530, w_1530_0, w_1530_1, -⟩ := hw_1530
                                have w_1530_0 : 0 ≤ (x_1529).toInt ∧ (x_1529).toInt ≤ 1 := w_1530_0
                                have w_1530_1 : (x_1529).toInt = 1 → (sg).toInt = 1 := w_1530_1
                                refine lv_if_eq (tgt := 410) hx hb dX12_operand_402 (by decide) (fun c_1531 => ?_) (fun c_1531 => ?_)
                                · have jc_1531 := dk_eqc (k := 0) (by decide +kernel) c_1531
                                  refine lv_iconst (v := (-1)) hx hb dX12_operand_410 (by decide +kernel) ?_
                                  have hz_1532 : (-1 : Int32).toInt = (-1) := by decide +kernel
                                  have hz_1533 : (-1 : Int32).toInt = (-1) := by decide +kernel
                                  exact J_1414 (-1) (by decide +kernel) (by omega) _ _ hP hS _ (lv_sub hl [0, 1, 2] rfl)
                                · have jc_1531 := dk_neqc (k := 0) (by decide +kernel) c_1531
                                  refine lv_bipush (v := 6) hx hb dX12_operand_405 (by decide +kernel) ?_
                                  refine lv_goto (tgt := 411) hx hb dX12_operand_407 (by decide) ?_
                                  have hz_1534 : (6 : Int32).toInt = 6 := by decide +kernel
                                  have hz_1535 : (6 : Int32).toInt = 6 := by decide +kernel
                                  exact J_1414 6 (by decide +kernel) (by omega) _ _ hP hS _ (lv_sub hl [0, 1, 2] rfl)
                              · have jc_1528 := dk_neqc (k := 0) (by decide +kernel) c_1528
                                refine lv_iconst (v := 5) hx hb dX12_operand_391 (by decide +kernel) ?_
                                refine lv_goto (tgt := 411) hx hb dX12_operand_392 (by decide) ?_
                                have hz_1536 : (5 : Int32).toInt = 5 := by decide +kernel
                                have hz_1537 : (5 : Int32).toInt = 5 := by decide +kernel
                                exact J_1414 5 (by decide +kernel) (by omega) _ _ hP hS _ (lv_sub hl [0, 1, 2] rfl)
                            · have jc_1525 := dk_neqc (k := 0) (by decide +kernel) c_1525
                              refine lv_iconst (v := 4) hx hb dX12_operand_377 (by decide +kernel) ?_
                              refine lv_goto (tgt := 411) hx hb dX12_operand_378 (by decide) ?_
                              have hz_1538 : (4 : Int32).toInt = 4 := by decide +kernel
                              have hz_1539 : (4 : Int32).toInt = 4 := by decide +kernel
                              exact J_1414 4 (by decide +kernel) (by omega) _ _ hP hS _ (lv_sub hl [0, 1, 2] rfl)
                          · have jc_1522 := dk_neqc (k := 0) (by decide +kernel) c_1522
                            refine lv_iconst (v := 3) hx hb dX12_operand_363 (by decide +kernel) ?_
                            refine lv_goto (tgt := 411) hx hb dX12_operand_364 (by decide) ?_
                            have hz_1540 : (3 : Int32).toInt = 3 := by decide +kernel
                            have hz_1541 : (3 : Int32).toInt = 3 := by decide +kernel
                            exact J_1414 3 (by decide +kernel) (by omega) _ _ hP hS _ (lv_sub hl [0, 1, 2] rfl)
                        · have jc_1519 := dk_neqc (k := 0) (by decide +kernel) c_1519
                          refine lv_iconst (v := 2) hx hb dX12_operand_349 (by decide +kernel) ?_
                          refine lv_goto (tgt := 411) hx hb dX12_operand_350 (by decide) ?_
                          have hz_1542 : (2 : Int32).toInt = 2 := by decide +kernel
                          have hz_1543 : (2 : Int32).toInt = 2 := by decide +kernel
                          exact J_1414 2 (by decide +kernel) (by omega) _ _ hP hS _ (lv_sub hl [0, 1, 2] rfl)
                      · have jc_1516 := dk_neqc (k := 0) (by decide +kernel) c_1516
                        refine lv_iconst (v := 1) hx hb dX12_operand_335 (by decide +kernel) ?_
                        refine lv_goto (tgt := 411) hx hb dX12_operand_336 (by decide) ?_
                        have hz_1544 : (1 : Int32).toInt = 1 := by decide +kernel
                        have hz_1545 : (1 : Int32).toInt = 1 := by decide +kernel
                        exact J_1414 1 (by decide +kernel) (by omega) _ _ hP hS _ (lv_sub hl [0, 1, 2] rfl)
                    · have jc_1513 := dk_eqc (k := 2) (by decide +kernel) c_1513
                      refine lv_iconst (v := 0) hx hb dX12_operand_321 (by decide +kernel) ?_
                      refine lv_goto (tgt := 411) hx hb dX12_operand_322 (by decide) ?_
                      have hz_1546 : (0 : Int32).toInt = 0 := by decide +kernel
                      have hz_1547 : (0 : Int32).toInt = 0 := by decide +kernel
                      exact J_1414 0 (by decide +kernel) (by omega) _ _ hP hS _ (lv_sub hl [0, 1, 2] rfl)
                  · have jc_1295 := dk_neqc (k := 0) (by decide +kernel) c_1295
                    exact J_1052  (by omega) _ _ hP hS _ (lv_sub hl [0, 1, 2] rfl)
            · have jc_808 := dk_neqc (k := 0) (by decide +kernel) c_808
              refine lv_aload_n hx hb dX12_operand_180 rfl (lv_at hl 2 rfl) ?_
              refine lv_iconst (v := 2) hx hb dX12_operand_181 (by decide +kernel) ?_
              have hz_1548 : (2 : Int32).toInt = 2 := by decide +kernel
              refine dg_callv hS hA1 hA (va_runV (As := [.int 2]) (rest := []) F (c_m_frames l g D o S_278 2 (by decide +kernel) sg (((dg_uf_F e_278 0 3).trans (m_2.1 0 3 _ sM_0 (by decide))).trans f_sg) (by omega) sa (((dg_uf_F e_278 0 4).trans (m_2.1 0 4 _ sM_0 (by decide))).trans f_sa) (by omega) se (((dg_uf_F e_278 0 5).trans (m_2.1 0 5 _ sM_0 (by decide))).trans f_se) (by omega) sl (((dg_uf_F e_278 0 2).trans (m_2.1 0 2 _ sM_0 (by decide))).trans f_sl) (by omega) y_3 ((dg_uf_F e_278 0 8).trans f_y_3) (by omega) dp (((dg_uf_F e_278 0 42).trans (m_2.1 0 42 _ sM_0 (by decide))).trans f_dp) (by omega) om (((dg_uf_F e_278 0 45).trans (m_2.1 0 45 _ sM_0 (by decide))).trans f_om) (by omega) on (((dg_uf_F e_278 0 43).trans (m_2.1 0 43 _ sM_0 (by decide))).trans f_on) (by omega) (by omega) I_278 H.size) (cwV 1 hts (bw_V wB_1201 wB_1202 wB_1203 wB_857 wB_1200) rfl rfl rfl (by decide +kernel) ⟨Nat.le_of_ble_eq_true rfl, Nat.le_of_ble_eq_true rfl⟩) (dg_preV sM_0 rfl K ST hP hS hA1 hA) rfl rfl hl.1 rfl (lv_room (Nat.le_of_ble_eq_true rfl)) dX12_operand_182 ⟨Nat.le_of_ble_eq_true rfl, Nat.le_of_ble_eq_true rfl⟩) (fun S_1549 hw_1549 H locs hP hS => ?_)
              obtain ⟨I_1549, m_1549, w_1549_0, w_1549_1, -⟩ := hw_1549
              have M_1549 := dg_sm.tr M_278 m_1549 (by decide) (by decide)
              have hz_1550 : (2 : Int32).toInt = 2 := by decide +kernel
              obtain ⟨y_1551, y_1552, y_1553, y_1554, y_1555, f_y_1551, f_y_1552, f_y_1553, f_y_1554, f_y_1555, w_1549_0⟩ := w_1549_0
              have w_1549_0 : ((y_1552).toInt ≤ (y_1553).toInt ∧ (y_1553).toInt ≤ (sl).toInt ∧ ((y_1551).toInt ≠ 0 → (y_1552).toInt + 1 ≤ (y_1553).toInt)) ∧ (sa).toInt ≤ (y_1552).toInt ∧ ((y_3).toInt ≠ 0 → (y_1554).toInt ≠ 0) ∧ (((y_1554).toInt = 0 → ((sa).toInt + 1 ≤ (y_1552).toInt ∧ (y_1555).toInt = (dp).toInt + 1))) := w_1549_0
              have b_y_1551 : 0 ≤ (y_1551).toInt ∧ (y_1551).toInt ≤ 3 := dg_I.intb (lo := 0) (hi := 3) I_1549 sM_0 (by decide +kernel) f_y_1551
              have b_y_1552 : 0 ≤ (y_1552).toInt ∧ (y_1552).toInt ≤ 1600 := dg_I.intb (lo := 0) (hi := 1600) I_1549 sM_0 (by decide +kernel) f_y_1552
              have b_y_1553 : 0 ≤ (y_1553).toInt ∧ (y_1553).toInt ≤ 1600 := dg_I.intb (lo := 0) (hi := 1600) I_1549 sM_0 (by decide +kernel) f_y_1553
              have b_y_1554 : 0 ≤ (y_1554).toInt ∧ (y_1554).toInt ≤ 6 := dg_I.intb (lo := 0) (hi := 6) I_1549 sM_0 (by decide +kernel) f_y_1554
              have b_y_1555 : 0 ≤ (y_1555).toInt ∧ (y_1555).toInt ≤ 20 := dg_I.intb (lo := 0) (hi := 20) I_1549 sM_0 (by decide +kernel) f_y_1555
              have w_1549_1 : ∀ k9 : Int32, S_1549.1 0 8 = .int k9 → k9.toInt = 0 → FRM S_278 S_1549 (2 : Int32) := w_1549_1
              obtain ⟨x_1556, f_x_1556, b_x_1556⟩ := dg_I.int (i := 0) (k := 42) (lo := 0) (hi := 20) I_278 sM_0 (by decide +kernel)
              refine lv_iconst (v := 0) hx hb dX12_operand_185 (by decide +kernel) ?_
              have hz_1557 : (0 : Int32).toInt = 0 := by decide +kernel
              have hz_1558 : (0 : Int32).toInt = 0 := by decide +kernel
              obtain ⟨x_1559, f_x_1559, b_x_1559⟩ := dg_I.int (i := 0) (k := 42) (lo := 0) (hi := 20) I_1549 sM_0 (by decide +kernel)
              have hz_1560 : (0 : Int32).toInt = 0 := by decide +kernel
              have hz_1561 : (0 : Int32).toInt = 0 := by decide +kernel
              refine W.widen (k := 0) (n := 0) (Nat.le_of_ble_eq_true rfl) (Nat.le_of_ble_eq_true rfl) ?_
              exact dg_iret hx hb hr hlocks (by decide +kernel) hP hS ⟨I_1549, M_1549, (by decide +kernel), ⟨y_1551, y_1552, y_1553, y_1554, cd, x_1559, om, f_y_1551, f_y_1552, f_y_1553, f_y_1554, (((m_1549.1 0 34 _ sM_0 (by decide)).trans ((dg_uf_F e_278 0 34).trans (m_2.1 0 34 _ sM_0 (by decide)))).trans f_cd), f_x_1559, (((m_1549.1 0 45 _ sM_0 (by decide)).trans ((dg_uf_F e_278 0 45).trans (m_2.1 0 45 _ sM_0 (by decide)))).trans f_om), (by omega)⟩, (fun k9 hk9 hk0 => ⟨fun h9 => absurd h9 (by decide +kernel), fun _ => by first | (exact PBM.opens PB_278 f_x_1556 (((dg_uf_F e_278 0 43).trans (m_2.1 0 43 _ sM_0 (by decide))).trans f_on) (((dg_uf_F e_278 0 45).trans (m_2.1 0 45 _ sM_0 (by decide))).trans f_om) (w_1549_1 k9 hk9 hk0) m_1549 (by decide) (by decide) (by decide) (by decide) (by omega)) | (have q9 := (f_y_1554).symm.trans hk9; cases q9; omega)⟩), (ZWM.keep (ZWM.keep (ZWM.keep ZW m_2 (by decide) (by decide) (by decide) (by decide)) (dg_sm.uf (WF := []) (WA := [24]) dg_sm.rf e_278 sM_24 (by decide)) (by decide) (by decide) (by decide) (by decide)) m_1549 (by decide) (by decide) (by decide) (by decide)), trivial⟩ dX12_operand_186
          refine lv_if_eq (tgt := 171) hx hb dX12_operand_138 (by decide) (fun _ => ?_) (fun c => absurd (by decide +kernel) c)
          exact J_804   _ _ hP hS _ (lv_sub hl [0, 1, 2] rfl)
        refine lv_if_eq (tgt := 137) hx hb dX12_operand_118 (by decide) (fun _ => ?_) (fun c => absurd (by decide +kernel) c)
        exact J_542   _ _ hP hS _ (lv_sub hl [0, 1, 2] rfl)
      refine lv_if_eq (tgt := 110) hx hb dX12_operand_48 (by decide) (fun _ => ?_) (fun c => absurd (by decide +kernel) c)
      exact J_276   _ _ hP hS _ (lv_sub hl [0, 1, 2] rfl)
    · have jc_10 := dk_neqc (k := 0) (by decide +kernel) c_10
      refine lv_aload_n hx hb dX12_operand_32 rfl (lv_at hl 1 rfl) ?_
      refine dg_get (C := RX12) (T := TX12) (N := 77) hx hb hts (fun w h => bw_mem (wU_X12 w h)) hown K hP sM_0 rfl 39 (by decide) (hts _ (bw_mem wB_1191)) (fun _ h9 => h9) (v := .ref (o + 24)) (show S_2.1 0 39 = .ref (o + 24) from dg_I.rel (d := 24) I_2 sM_0 (by decide +kernel)) dX12_operand_33 ?_
      refine lv_iload_n hx hb dX12_operand_36 rfl (lv_at hl 0 rfl) ?_
      have hin_1562 : vp_in x_5 20 := (dk_inv (by omega) (by omega))
      refine dg_zald hx hb K hP sM_24 hin_1562 dX12_operand_37 (fun x_1563 ex_1563 => ?_)
      have b_x_1563 := dk_all_at (dg_I.row (lo := 0) (hi := 1) I_2 sM_24 (by decide +kernel)) hin_1562 ex_1563
      refine lv_if_eq (tgt := 45) hx hb dX12_operand_38 (by decide) (fun c_1564 => ?_) (fun c_1564 => ?_)
      · have jc_1564 := dk_eqc (k := 0) (by decide +kernel) c_1564
        refine lv_iconst (v := 0) hx hb dX12_operand_45 (by decide +kernel) ?_
        refine lv_istore_n (lv' := [(2, .int 0), (1, .int x_5), (0, .ref (o + 0))]) hx hb dX12_operand_46 rfl hl (by decide) rfl (fun ls hl => ?_)
        refine lv_iload_n hx hb dX12_operand_47 rfl (lv_at hl 0 rfl) ?_
        have J_1830 : ∀ (H : Heap) (locs : List Loc), va_P D vwCl (dg_w g shM o rfM S_2) H → va_S A s.heap H locs → ∀ ls : Array Slot, lv_has ls 4 [(2, .int 0), (1, .int x_5), (0, .ref (o + 0))] → W p l e ({ frames := 4, cells := 0, slots := 0, locals := 98 } : Room) s m args below meth c H locs 0 0 (MQ below (va_Qi (fun (r : Int32) S' => CM o S' ∧ dg_sm shM [(0, 3), (0, 4), (0, 5), (0, 6), (0, 7), (0, 8), (0, 9), (0, 12), (0, 34), (0, 42), (0, 43), (0, 45)] [18, 19, 22, 23, 24, 25, 26, 27] S S' ∧ (0 ≤ (r).toInt ∧ (r).toInt ≤ 1) ∧ (∃ y9_3 y9_4 y9_5 y9_8 y9_34 y9_42 y9_45 : Int32, S'.1 0 3 = .int y9_3 ∧ S'.1 0 4 = .int y9_4 ∧ S'.1 0 5 = .int y9_5 ∧ S'.1 0 8 = .int y9_8 ∧ S'.1 0 34 = .int y9_34 ∧ S'.1 0 42 = .int y9_42 ∧ S'.1 0 45 = .int y9_45 ∧ (((y9_4).toInt ≤ (y9_5).toInt ∧ (y9_5).toInt ≤ (sl).toInt ∧ ((y9_3).toInt ≠ 0 → (y9_4).toInt + 1 ≤ (y9_5).toInt)) ∧ (sa).toInt ≤ (y9_4).toInt ∧ ((fk).toInt ≠ 0 → (y9_8).toInt ≠ 0) ∧ (((y9_8).toInt = 0 → (sa).toInt + 1 ≤ (y9_4).toInt) ∧ ((y9_8).toInt = 0 → (y9_34).toInt + (y9_45).toInt + (y9_42).toInt ≤ (y9_4).toInt)))) ∧ (∀ k9 : Int32, S'.1 0 8 = .int k9 → k9.toInt = 0 → ((r).toInt = 1 → P1M S') ∧ ((r).toInt = 0 → P0M S')) ∧ ZWM S' ∧ True) (dg_B g D shM o rfM) A) args s 0 0 A) (F0 m 110 ls []) := by
          intro H locs hP hS ls hl
          refine lv_aload_n hx hb dX12_operand_110 rfl (lv_at hl 2 rfl) ?_
          refine dg_get (C := RX12) (T := TX12) (N := 77) hx hb hts (fun w h => bw_mem (wU_X12 w h)) hown K hP sM_0 rfl 39 (by decide) (hts _ (bw_mem wB_1191)) (fun _ h9 => h9) (v := .ref (o + 24)) (show S_2.1 0 39 = .ref (o + 24) from dg_I.rel (d := 24) I_2 sM_0 (by decide +kernel)) dX12_operand_111 ?_
          refine lv_iload_n hx hb dX12_operand_114 rfl (lv_at hl 1 rfl) ?_
          refine lv_iconst (v := 0) hx hb dX12_operand_115 (by decide +kernel) ?_
          have hin_1831 : vp_in x_5 20 := (dk_inv (by omega) (by omega))
          have hz_1833 : (0 : Int32).toInt = 0 := by decide +kernel
          refine dg_zast hx hb K hP hS hA1 sM_24 hin_1831 (by decide +kernel) dX12_operand_116 (fun S_1832 e_1832 H locs hP hS => ?_)
          have I_1832 := dg_I.ufu (lo := 0) (hi := 1) I_2 e_1832 sM_24 (by decide +kernel) (show 0 ≤ ((0 : Int32)).toInt ∧ ((0 : Int32)).toInt ≤ 1 from (by decide +kernel))
          have M_1832 := dg_sm.uf M_2 e_1832 sM_24 (by decide)
          have hz_1834 : (0 : Int32).toInt = 0 := by decide +kernel
          have PB_1832 : PBM S_1832 := P0M.bg0 (P0M.keep P0 m_2 (by decide) (by decide) (by decide) (by decide) (by decide) (by decide) (by decide) (by decide) (by decide) (by decide) (by decide) (by decide) (by decide) (by decide) (by decide)) ((m_2.1 0 42 _ sM_0 (by decide)).trans f_dp) (by omega) (by omega) (by omega) e_1832
          refine lv_iload_n hx hb dX12_operand_117 rfl (lv_at hl 0 rfl) ?_
          have J_2096 : ∀ (H : Heap) (locs : List Loc), va_P D vwCl (dg_w g shM o rfM S_1832) H → va_S A s.heap H locs → ∀ ls : Array Slot, lv_has ls 4 [(2, .int 0), (1, .int x_5), (0, .ref (o + 0))] → W p l e ({ frames := 4, cells := 0, slots := 0, locals := 98 } : Room) s m args below meth c H locs 0 0 (MQ below (va_Qi (fun (r : Int32) S' => CM o S' ∧ dg_sm shM [(0, 3), (0, 4), (0, 5), (0, 6), (0, 7), (0, 8), (0, 9), (0, 12), (0, 34), (0, 42), (0, 43), (0, 45)] [18, 19, 22, 23, 24, 25, 26, 27] S S' ∧ (0 ≤ (r).toInt ∧ (r).toInt ≤ 1) ∧ (∃ y9_3 y9_4 y9_5 y9_8 y9_34 y9_42 y9_45 : Int32, S'.1 0 3 = .int y9_3 ∧ S'.1 0 4 = .int y9_4 ∧ S'.1 0 5 = .int y9_5 ∧ S'.1 0 8 = .int y9_8 ∧ S'.1 0 34 = .int y9_34 ∧ S'.1 0 42 = .int y9_42 ∧ S'.1 0 45 = .int y9_45 ∧ (((y9_4).toInt ≤ (y9_5).toInt ∧ (y9_5).toInt ≤ (sl).toInt ∧ ((y9_3).toInt ≠ 0 → (y9_4).toInt + 1 ≤ (y9_5).toInt)) ∧ (sa).toInt ≤ (y9_4).toInt ∧ ((fk).toInt ≠ 0 → (y9_8).toInt ≠ 0) ∧ (((y9_8).toInt = 0 → (sa).toInt + 1 ≤ (y9_4).toInt) ∧ ((y9_8).toInt = 0 → (y9_34).toInt + (y9_45).toInt + (y9_42).toInt ≤ (y9_4).toInt)))) ∧ (∀ k9 : Int32, S'.1 0 8 = .int k9 → k9.toInt = 0 → ((r).toInt = 1 → P1M S') ∧ ((r).toInt = 0 → P0M S')) ∧ ZWM S' ∧ True) (dg_B g D shM o rfM) A) args s 0 0 A) (F0 m 137 ls []) := by
            intro H locs hP hS ls hl
            refine lv_iload_n hx hb dX12_operand_137 rfl (lv_at hl 0 rfl) ?_
            have J_2358 : ∀ (H : Heap) (locs : List Loc), va_P D vwCl (dg_w g shM o rfM S_1832) H → va_S A s.heap H locs → ∀ ls : Array Slot, lv_has ls 4 [(2, .int 0), (1, .int x_5), (0, .ref (o + 0))] → W p l e ({ frames := 4, cells := 0, slots := 0, locals := 98 } : Room) s m args below meth c H locs 0 0 (MQ below (va_Qi (fun (r : Int32) S' => CM o S' ∧ dg_sm shM [(0, 3), (0, 4), (0, 5), (0, 6), (0, 7), (0, 8), (0, 9), (0, 12), (0, 34), (0, 42), (0, 43), (0, 45)] [18, 19, 22, 23, 24, 25, 26, 27] S S' ∧ (0 ≤ (r).toInt ∧ (r).toInt ≤ 1) ∧ (∃ y9_3 y9_4 y9_5 y9_8 y9_34 y9_42 y9_45 : Int32, S'.1 0 3 = .int y9_3 ∧ S'.1 0 4 = .int y9_4 ∧ S'.1 0 5 = .int y9_5 ∧ S'.1 0 8 = .int y9_8 ∧ S'.1 0 34 = .int y9_34 ∧ S'.1 0 42 = .int y9_42 ∧ S'.1 0 45 = .int y9_45 ∧ (((y9_4).toInt ≤ (y9_5).toInt ∧ (y9_5).toInt ≤ (sl).toInt ∧ ((y9_3).toInt ≠ 0 → (y9_4).toInt + 1 ≤ (y9_5).toInt)) ∧ (sa).toInt ≤ (y9_4).toInt ∧ ((fk).toInt ≠ 0 → (y9_8).toInt ≠ 0) ∧ (((y9_8).toInt = 0 → (sa).toInt + 1 ≤ (y9_4).toInt) ∧ ((y9_8).toInt = 0 → (y9_34).toInt + (y9_45).toInt + (y9_42).toInt ≤ (y9_4).toInt)))) ∧ (∀ k9 : Int32, S'.1 0 8 = .int k9 → k9.toInt = 0 → ((r).toInt = 1 → P1M S') ∧ ((r).toInt = 0 → P0M S')) ∧ ZWM S' ∧ True) (dg_B g D shM o rfM) A) args s 0 0 A) (F0 m 171 ls []) := by
              intro H locs hP hS ls hl
              refine lv_aload_n hx hb dX12_operand_171 rfl (lv_at hl 2 rfl) ?_
              refine lv_bipush (v := 40) hx hb dX12_operand_172 (by decide +kernel) ?_
              refine dg_calli hS hA1 hA (va_runV (As := [.int 40]) (rest := []) F (c_m_isSign l g D o S_1832 40 sg (((dg_uf_F e_1832 0 3).trans (m_2.1 0 3 _ sM_0 (by decide))).trans f_sg) (by omega) va (((dg_uf_F e_1832 0 6).trans (m_2.1 0 6 _ sM_0 (by decide))).trans f_va) (by omega) I_1832 H.size) (cwV 1 hts (bw_V wB_1133 wB_1134 wB_1135 wB_857 wB_1132) rfl rfl rfl (by decide +kernel) ⟨Nat.le_of_ble_eq_true rfl, Nat.le_of_ble_eq_true rfl⟩) (dg_preV sM_0 rfl K ST hP hS hA1 hA) rfl rfl hl.1 rfl (lv_room (Nat.le_of_ble_eq_true rfl)) dX12_operand_174 ⟨Nat.le_of_ble_eq_true rfl, Nat.le_of_ble_eq_true rfl⟩) (fun x_2359 S_2360 hw_2360 H locs hP hS => ?_)
              rw [hw_2360.1] at hP
              obtain ⟨hq_2360, w_2360_0, w_2360_1, -⟩ := hw_2360
              have hz_2361 : (40 : Int32).toInt = 40 := by decide +kernel
              have w_2360_0 : 0 ≤ (x_2359).toInt ∧ (x_2359).toInt ≤ 1 := w_2360_0
              have w_2360_1 : (x_2359).toInt = 1 ↔ ((sg).toInt = 3 ∧ (va).toInt = ((40 : Int32)).toInt) := w_2360_1
              refine lv_if_eq (tgt := 187) hx hb dX12_operand_177 (by decide) (fun c_2362 => ?_) (fun c_2362 => ?_)
              · have jc_2362 := dk_eqc (k := 0) (by decide +kernel) c_2362
                refine lv_aload_n hx hb dX12_operand_187 rfl (lv_at hl 2 rfl) ?_
                refine lv_ldc2 hx hb hown (hts _ (bw_mem wB_1169)) dX12_operand_188 ?_
                refine dg_calli hS hA1 hA (va_runV (As := [.long 7170414]) (rest := []) F (c_m_isWord l g D o S_1832 7170414 sg (((dg_uf_F e_1832 0 3).trans (m_2.1 0 3 _ sM_0 (by decide))).trans f_sg) (by omega) I_1832 H.size) (cwV 1 hts (bw_V wB_1141 wB_1142 wB_1143 wB_857 wB_1140) rfl rfl rfl (by decide +kernel) ⟨Nat.le_of_ble_eq_true rfl, Nat.le_of_ble_eq_true rfl⟩) (dg_preV sM_0 rfl K ST hP hS hA1 hA) rfl rfl hl.1 rfl (lv_room (Nat.le_of_ble_eq_true rfl)) dX12_operand_191 ⟨Nat.le_of_ble_eq_true rfl, Nat.le_of_ble_eq_true rfl⟩) (fun x_2363 S_2364 hw_2364 H locs hP hS => ?_)
                rw [hw_2364.1] at hP
                obtain ⟨hq_2364, w_2364_0, w_2364_1, -⟩ := hw_2364
                have w_2364_0 : 0 ≤ (x_2363).toInt ∧ (x_2363).toInt ≤ 1 := w_2364_0
                have w_2364_1 : (x_2363).toInt = 1 → (sg).toInt = 1 := w_2364_1
                have J_2606 : ((sg).toInt = 1) → ∀ (H : Heap) (locs : List Loc), va_P D vwCl (dg_w g shM o rfM S_1832) H → va_S A s.heap H locs → ∀ ls : Array Slot, lv_has ls 4 [(2, .int 0), (1, .int x_5), (0, .ref (o + 0))] → W p l e ({ frames := 4, cells := 0, slots := 0, locals := 98 } : Room) s m args below meth c H locs 0 0 (MQ below (va_Qi (fun (r : Int32) S' => CM o S' ∧ dg_sm shM [(0, 3), (0, 4), (0, 5), (0, 6), (0, 7), (0, 8), (0, 9), (0, 12), (0, 34), (0, 42), (0, 43), (0, 45)] [18, 19, 22, 23, 24, 25, 26, 27] S S' ∧ (0 ≤ (r).toInt ∧ (r).toInt ≤ 1) ∧ (∃ y9_3 y9_4 y9_5 y9_8 y9_34 y9_42 y9_45 : Int32, S'.1 0 3 = .int y9_3 ∧ S'.1 0 4 = .int y9_4 ∧ S'.1 0 5 = .int y9_5 ∧ S'.1 0 8 = .int y9_8 ∧ S'.1 0 34 = .int y9_34 ∧ S'.1 0 42 = .int y9_42 ∧ S'.1 0 45 = .int y9_45 ∧ (((y9_4).toInt ≤ (y9_5).toInt ∧ (y9_5).toInt ≤ (sl).toInt ∧ ((y9_3).toInt ≠ 0 → (y9_4).toInt + 1 ≤ (y9_5).toInt)) ∧ (sa).toInt ≤ (y9_4).toInt ∧ ((fk).toInt ≠ 0 → (y9_8).toInt ≠ 0) ∧ (((y9_8).toInt = 0 → (sa).toInt + 1 ≤ (y9_4).toInt) ∧ ((y9_8).toInt = 0 → (y9_34).toInt + (y9_45).toInt + (y9_42).toInt ≤ (y9_4).toInt)))) ∧ (∀ k9 : Int32, S'.1 0 8 = .int k9 → k9.toInt = 0 → ((r).toInt = 1 → P1M S') ∧ ((r).toInt = 0 → P0M S')) ∧ ZWM S' ∧ True) (dg_B g D shM o rfM) A) args s 0 0 A) (F0 m 217 ls []) := by
                  intro rel_0 H locs hP hS ls hl
                  refine lv_aload_n hx hb dX12_operand_217 rfl (lv_at hl 2 rfl) ?_
                  refine lv_ldc2 hx hb hown (hts _ (bw_mem wB_1169)) dX12_operand_218 ?_
                  refine dg_calli hS hA1 hA (va_runV (As := [.long 7170414]) (rest := []) F (c_m_isWord l g D o S_1832 7170414 sg (((dg_uf_F e_1832 0 3).trans (m_2.1 0 3 _ sM_0 (by decide))).trans f_sg) (by omega) I_1832 H.size) (cwV 1 hts (bw_V wB_1141 wB_1142 wB_1143 wB_857 wB_1140) rfl rfl rfl (by decide +kernel) ⟨Nat.le_of_ble_eq_true rfl, Nat.le_of_ble_eq_true rfl⟩) (dg_preV sM_0 rfl K ST hP hS hA1 hA) rfl rfl hl.1 rfl (lv_room (Nat.le_of_ble_eq_true rfl)) dX12_operand_221 ⟨Nat.le_of_ble_eq_true rfl, Nat.le_of_ble_eq_true rfl⟩) (fun x_2607 S_2608 hw_2608 H locs hP hS => ?_)
                  rw [hw_2608.1] at hP
                  obtain ⟨hq_2608, w_2608_0, w_2608_1, -⟩ := hw_2608
                  have w_2608_0 : 0 ≤ (x_2607).toInt ∧ (x_2607).toInt ≤ 1 := w_2608_0
                  have w_2608_1 : (x_2607).toInt = 1 → (sg).toInt = 1 := w_2608_1
                  have J_2723 : ∀ (x_2613 : Int32), (36 ≤ (x_2613).toInt ∧ (x_2613).toInt ≤ 44) → ((x_2613 : Int32).toInt = 36 ∨ (x_2613 : Int32).toInt = 37 ∨ (x_2613 : Int32).toInt = 44) → ∀ (H : Heap) (locs : List Loc), va_P D vwCl (dg_w g shM o rfM S_1832) H → va_S A s.heap H locs → ∀ ls : Array Slot, lv_has ls 4 [(2, .int 0), (1, .int x_5), (0, .ref (o + 0))] → W p l e ({ frames := 4, cells := 0, slots := 0, locals := 98 } : Room) s m args below meth c H locs 0 0 (MQ below (va_Qi (fun (r : Int32) S' => CM o S' ∧ dg_sm shM [(0, 3), (0, 4), (0, 5), (0, 6), (0, 7), (0, 8), (0, 9), (0, 12), (0, 34), (0, 42), (0, 43), (0, 45)] [18, 19, 22, 23, 24, 25, 26, 27] S S' ∧ (0 ≤ (r).toInt ∧ (r).toInt ≤ 1) ∧ (∃ y9_3 y9_4 y9_5 y9_8 y9_34 y9_42 y9_45 : Int32, S'.1 0 3 = .int y9_3 ∧ S'.1 0 4 = .int y9_4 ∧ S'.1 0 5 = .int y9_5 ∧ S'.1 0 8 = .int y9_8 ∧ S'.1 0 34 = .int y9_34 ∧ S'.1 0 42 = .int y9_42 ∧ S'.1 0 45 = .int y9_45 ∧ (((y9_4).toInt ≤ (y9_5).toInt ∧ (y9_5).toInt ≤ (sl).toInt ∧ ((y9_3).toInt ≠ 0 → (y9_4).toInt + 1 ≤ (y9_5).toInt)) ∧ (sa).toInt ≤ (y9_4).toInt ∧ ((fk).toInt ≠ 0 → (y9_8).toInt ≠ 0) ∧ (((y9_8).toInt = 0 → (sa).toInt + 1 ≤ (y9_4).toInt) ∧ ((y9_8).toInt = 0 → (y9_34).toInt + (y9_45).toInt + (y9_42).toInt ≤ (y9_4).toInt)))) ∧ (∀ k9 : Int32, S'.1 0 8 = .int k9 → k9.toInt = 0 → ((r).toInt = 1 → P1M S') ∧ ((r).toInt = 0 → P0M S')) ∧ ZWM S' ∧ True) (dg_B g D shM o rfM) A) args s 0 0 A) (F0 m 249 ls [.int x_2613]) := by
                    intro x_2613 b_x_2613 rel_0 H locs hP hS ls hl
                    refine lv_istore_n (lv' := [(3, .int x_2613), (2, .int 0), (1, .int x_5), (0, .ref (o + 0))]) hx hb dX12_operand_249 rfl hl (by decide) rfl (fun ls hl => ?_)
                    refine lv_aload_n hx hb dX12_operand_250 rfl (lv_at hl 3 rfl) ?_
                    refine dg_callv hS hA1 hA (va_runV (As := []) (rest := []) F (c_m_ahead l g D o S_1832 se (((dg_uf_F e_1832 0 5).trans (m_2.1 0 5 _ sM_0 (by decide))).trans f_se) (by omega) sl (((dg_uf_F e_1832 0 2).trans (m_2.1 0 2 _ sM_0 (by decide))).trans f_sl) (by omega) (by omega) I_1832 H.size) (cwV 0 hts (bw_V wB_1137 wB_1138 wB_1139 wB_857 wB_1136) rfl rfl rfl (by decide +kernel) ⟨Nat.le_of_ble_eq_true rfl, Nat.le_of_ble_eq_true rfl⟩) (dg_preV sM_0 rfl K ST hP hS hA1 hA) rfl rfl hl.1 rfl (lv_room (Nat.le_of_ble_eq_true rfl)) dX12_operand_251 ⟨Nat.le_of_ble_eq_true rfl, Nat.le_of_ble_eq_true rfl⟩) (fun S_2724 hw_2724 H locs hP hS => ?_)
                    obtain ⟨I_2724, m_2724, w_2724_0, -⟩ := hw_2724
                    have M_2724 := dg_sm.tr M_1832 m_2724 (by decide) (by decide)
                    obtain ⟨y_2725, y_2726, y_2727, f_y_2725, f_y_2726, f_y_2727, w_2724_0⟩ := w_2724_0
                    have w_2724_0 : (se).toInt ≤ (y_2726).toInt ∧ (y_2726).toInt ≤ (y_2727).toInt ∧ (y_2727).toInt ≤ (sl).toInt ∧ ((y_2725).toInt ≠ 0 → (y_2726).toInt + 1 ≤ (y_2727).toInt) := w_2724_0
                    have b_y_2725 : 0 ≤ (y_2725).toInt ∧ (y_2725).toInt ≤ 3 := dg_I.intb (lo := 0) (hi := 3) I_2724 sM_0 (by decide +kernel) f_y_2725
                    have b_y_2726 : 0 ≤ (y_2726).toInt ∧ (y_2726).toInt ≤ 1600 := dg_I.intb (lo := 0) (hi := 1600) I_2724 sM_0 (by decide +kernel) f_y_2726
                    have b_y_2727 : 0 ≤ (y_2727).toInt ∧ (y_2727).toInt ≤ 1600 := dg_I.intb (lo := 0) (hi := 1600) I_2724 sM_0 (by decide +kernel) f_y_2727
                    refine lv_aload_n hx hb dX12_operand_254 rfl (lv_at hl 3 rfl) ?_
                    refine dg_callv hS hA1 hA (va_runV (As := []) (rest := []) F (c_m_lex l g D o S_2724 y_3 (((m_2724.1 0 8 _ sM_0 (by decide)).trans (dg_uf_F e_1832 0 8)).trans f_y_3) (by omega) I_2724 H.size) (cwV 0 hts (bw_V wB_1129 wB_1130 wB_1131 wB_857 wB_1128) rfl rfl rfl (by decide +kernel) ⟨Nat.le_of_ble_eq_true rfl, Nat.le_of_ble_eq_true rfl⟩) (dg_preV sM_0 rfl K ST hP hS hA1 hA) rfl rfl hl.1 rfl (lv_room (Nat.le_of_ble_eq_true rfl)) dX12_operand_255 ⟨Nat.le_of_ble_eq_true rfl, Nat.le_of_ble_eq_true rfl⟩) (fun S_2728 hw_2728 H locs hP hS => ?_)
                    obtain ⟨I_2728, m_2728, w_2728_0, -⟩ := hw_2728
                    have M_2728 := dg_sm.tr M_2724 m_2728 (by decide) (by decide)
                    obtain ⟨y_2729, f_y_2729, w_2728_0⟩ := w_2728_0
                    have w_2728_0 : (y_3).toInt ≠ 0 → (y_2729).toInt = (y_3).toInt := w_2728_0
                    have b_y_2729 : 0 ≤ (y_2729).toInt ∧ (y_2729).toInt ≤ 6 := dg_I.intb (lo := 0) (hi := 6) I_2728 sM_0 (by decide +kernel) f_y_2729
                    refine lv_aload_n hx hb dX12_operand_258 rfl (lv_at hl 3 rfl) ?_
                    refine lv_bipush (v := 40) hx hb dX12_operand_259 (by decide +kernel) ?_
                    obtain ⟨x_2730, f_x_2730, b_x_2730⟩ := dg_I.int (i := 0) (k := 6) (lo := 0) (hi := 9999) I_2728 sM_0 (by decide +kernel)
                    refine dg_calli hS hA1 hA (va_runV (As := [.int 40]) (rest := []) F (c_m_isSign l g D o S_2728 40 y_2725 ((m_2728.1 0 3 _ sM_0 (by decide)).trans f_y_2725) (by omega) x_2730 f_x_2730 (by omega) I_2728 H.size) (cwV 1 hts (bw_V wB_1133 wB_1134 wB_1135 wB_857 wB_1132) rfl rfl rfl (by decide +kernel) ⟨Nat.le_of_ble_eq_true rfl, Nat.le_of_ble_eq_true rfl⟩) (dg_preV sM_0 rfl K ST hP hS hA1 hA) rfl rfl hl.1 rfl (lv_room (Nat.le_of_ble_eq_true rfl)) dX12_operand_261 ⟨Nat.le_of_ble_eq_true rfl, Nat.le_of_ble_eq_true rfl⟩) (fun x_2731 S_2732 hw_2732 H locs hP hS => ?_)
                    rw [hw_2732.1] at hP
                    obtain ⟨hq_2732, w_2732_0, w_2732_1, -⟩ := hw_2732
                    have hz_2733 : (40 : Int32).toInt = 40 := by decide +kernel
                    have w_2732_0 : 0 ≤ (x_2731).toInt ∧ (x_2731).toInt ≤ 1 := w_2732_0
                    have w_2732_1 : (x_2731).toInt = 1 ↔ ((y_2725).toInt = 3 ∧ (x_2730).toInt = ((40 : Int32)).toInt) := w_2732_1
                    refine lv_if_ne (tgt := 276) hx hb dX12_operand_264 (by decide) (fun c_2734 => ?_) (fun c_2734 => ?_)
                    · have jc_2734 := dk_neqc (k := 0) (by decide +kernel) c_2734
                      refine lv_aload_n hx hb dX12_operand_276 rfl (lv_at hl 3 rfl) ?_
                      refine lv_iload_n hx hb dX12_operand_277 rfl (lv_at hl 0 rfl) ?_
                      refine lv_bipush (v := 44) hx hb dX12_operand_278 (by decide +kernel) ?_
                      refine lv_icmp_ne (tgt := 288) hx hb dX12_operand_280 (by decide) (fun c_2735 => ?_) (fun c_2735 => ?_)
                      · have jc_2735 := dk_neqc (k := 44) (by decide +kernel) c_2735
                        refine lv_iconst (v := 3) hx hb dX12_operand_288 (by decide +kernel) ?_
                        have hz_2736 : (3 : Int32).toInt = 3 := by decide +kernel
                        refine dg_callv hS hA1 hA (va_runV (As := [.int 3]) (rest := []) F (c_m_frames l g D o S_2728 3 (by decide +kernel) y_2725 ((m_2728.1 0 3 _ sM_0 (by decide)).trans f_y_2725) (by omega) y_2726 ((m_2728.1 0 4 _ sM_0 (by decide)).trans f_y_2726) (by omega) y_2727 ((m_2728.1 0 5 _ sM_0 (by decide)).trans f_y_2727) (by omega) sl (((m_2728.1 0 2 _ sM_0 (by decide)).trans ((m_2724.1 0 2 _ sM_0 (by decide)).trans ((dg_uf_F e_1832 0 2).trans (m_2.1 0 2 _ sM_0 (by decide))))).trans f_sl) (by omega) y_2729 f_y_2729 (by omega) dp (((m_2728.1 0 42 _ sM_0 (by decide)).trans ((m_2724.1 0 42 _ sM_0 (by decide)).trans ((dg_uf_F e_1832 0 42).trans (m_2.1 0 42 _ sM_0 (by decide))))).trans f_dp) (by omega) om (((m_2728.1 0 45 _ sM_0 (by decide)).trans ((m_2724.1 0 45 _ sM_0 (by decide)).trans ((dg_uf_F e_1832 0 45).trans (m_2.1 0 45 _ sM_0 (by decide))))).trans f_om) (by omega) on (((m_2728.1 0 43 _ sM_0 (by decide)).trans ((m_2724.1 0 43 _ sM_0 (by decide)).trans ((dg_uf_F e_1832 0 43).trans (m_2.1 0 43 _ sM_0 (by decide))))).trans f_on) (by omega) (by omega) I_2728 H.size) (cwV 1 hts (bw_V wB_1201 wB_1202 wB_1203 wB_857 wB_1200) rfl rfl rfl (by decide +kernel) ⟨Nat.le_of_ble_eq_true rfl, Nat.le_of_ble_eq_true rfl⟩) (dg_preV sM_0 rfl K ST hP hS hA1 hA) rfl rfl hl.1 rfl (lv_room (Nat.le_of_ble_eq_true rfl)) dX12_operand_289 ⟨Nat.le_of_ble_eq_true rfl, Nat.le_of_ble_eq_true rfl⟩) (fun S_2737 hw_2737 H locs hP hS => ?_)
                        obtain ⟨I_2737, m_2737, w_2737_0, w_2737_1, -⟩ := hw_2737
                        have M_2737 := dg_sm.tr M_2728 m_2737 (by decide) (by decide)
                        have hz_2738 : (3 : Int32).toInt = 3 := by decide +kernel
                        obtain ⟨y_2739, y_2740, y_2741, y_2742, y_2743, f_y_2739, f_y_2740, f_y_2741, f_y_2742, f_y_2743, w_2737_0⟩ := w_2737_0
                        have w_2737_0 : ((y_2740).toInt ≤ (y_2741).toInt ∧ (y_2741).toInt ≤ (sl).toInt ∧ ((y_2739).toInt ≠ 0 → (y_2740).toInt + 1 ≤ (y_2741).toInt)) ∧ (y_2726).toInt ≤ (y_2740).toInt ∧ ((y_2729).toInt ≠ 0 → (y_2742).toInt ≠ 0) ∧ (((y_2742).toInt = 0 → ((y_2726).toInt + 1 ≤ (y_2740).toInt ∧ (y_2743).toInt = (dp).toInt + 1))) := w_2737_0
                        have b_y_2739 : 0 ≤ (y_2739).toInt ∧ (y_2739).toInt ≤ 3 := dg_I.intb (lo := 0) (hi := 3) I_2737 sM_0 (by decide +kernel) f_y_2739
                        have b_y_2740 : 0 ≤ (y_2740).toInt ∧ (y_2740).toInt ≤ 1600 := dg_I.intb (lo := 0) (hi := 1600) I_2737 sM_0 (by decide +kernel) f_y_2740
                        have b_y_2741 : 0 ≤ (y_2741).toInt ∧ (y_2741).toInt ≤ 1600 := dg_I.intb (lo := 0) (hi := 1600) I_2737 sM_0 (by decide +kernel) f_y_2741
                        have b_y_2742 : 0 ≤ (y_2742).toInt ∧ (y_2742).toInt ≤ 6 := dg_I.intb (lo := 0) (hi := 6) I_2737 sM_0 (by decide +kernel) f_y_2742
                        have b_y_2743 : 0 ≤ (y_2743).toInt ∧ (y_2743).toInt ≤ 20 := dg_I.intb (lo := 0) (hi := 20) I_2737 sM_0 (by decide +kernel) f_y_2743
                        have w_2737_1 : ∀ k9 : Int32, S_2737.1 0 8 = .int k9 → k9.toInt = 0 → FRM S_2728 S_2737 (3 : Int32) := w_2737_1
                        obtain ⟨x_2744, f_x_2744, b_x_2744⟩ := dg_I.int (i := 0) (k := 42) (lo := 0) (hi := 20) I_2728 sM_0 (by decide +kernel)
                        refine lv_aload_n hx hb dX12_operand_292 rfl (lv_at hl 3 rfl) ?_
                        refine dg_get (C := RX12) (T := TX12) (N := 77) hx hb hts (fun w h => bw_mem (wU_X12 w h)) hown K hP sM_0 rfl 8 (by decide) (hts _ (bw_mem wB_1109)) (fun _ h9 => h9) (v := .int y_2742) f_y_2742 dX12_operand_293 ?_
                        refine lv_if_ne (tgt := 311) hx hb dX12_operand_296 (by decide) (fun c_2745 => ?_) (fun c_2745 => ?_)
                        · have jc_2745 := dk_neqc (k := 0) (by decide +kernel) c_2745
                          refine lv_iconst (v := 0) hx hb dX12_operand_311 (by decide +kernel) ?_
                          have hz_2746 : (0 : Int32).toInt = 0 := by decide +kernel
                          have hz_2747 : (0 : Int32).toInt = 0 := by decide +kernel
                          obtain ⟨x_2748, f_x_2748, b_x_2748⟩ := dg_I.int (i := 0) (k := 42) (lo := 0) (hi := 20) I_2737 sM_0 (by decide +kernel)
                          have hz_2749 : (0 : Int32).toInt = 0 := by decide +kernel
                          have hz_2750 : (0 : Int32).toInt = 0 := by decide +kernel
                          refine W.widen (k := 0) (n := 0) (Nat.le_of_ble_eq_true rfl) (Nat.le_of_ble_eq_true rfl) ?_
                          exact dg_iret hx hb hr hlocks (by decide +kernel) hP hS ⟨I_2737, M_2737, (by decide +kernel), ⟨y_2739, y_2740, y_2741, y_2742, cd, x_2748, om, f_y_2739, f_y_2740, f_y_2741, f_y_2742, (((m_2737.1 0 34 _ sM_0 (by decide)).trans ((m_2728.1 0 34 _ sM_0 (by decide)).trans ((m_2724.1 0 34 _ sM_0 (by decide)).trans ((dg_uf_F e_1832 0 34).trans (m_2.1 0 34 _ sM_0 (by decide)))))).trans f_cd), f_x_2748, (((m_2737.1 0 45 _ sM_0 (by decide)).trans ((m_2728.1 0 45 _ sM_0 (by decide)).trans ((m_2724.1 0 45 _ sM_0 (by decide)).trans ((dg_uf_F e_1832 0 45).trans (m_2.1 0 45 _ sM_0 (by decide)))))).trans f_om), (by omega)⟩, (fun k9 hk9 hk0 => by have q9 := (f_y_2742).symm.trans hk9; cases q9; omega), (ZWM.keep (ZWM.keep (ZWM.keep (ZWM.keep (ZWM.keep ZW m_2 (by decide) (by decide) (by decide) (by decide)) (dg_sm.uf (WF := []) (WA := [24]) dg_sm.rf e_1832 sM_24 (by decide)) (by decide) (by decide) (by decide) (by decide)) m_2724 (by decide) (by decide) (by decide) (by decide)) m_2728 (by decide) (by decide) (by decide) (by decide)) m_2737 (by decide) (by decide) (by decide) (by decide)), trivial⟩ dX12_operand_312
                        · have jc_2745 := dk_eqc (k := 0) (by decide +kernel) c_2745
                          refine lv_aload_n hx hb dX12_operand_299 rfl (lv_at hl 3 rfl) ?_
                          refine dg_get (C := RX12) (T := TX12) (N := 77) hx hb hts (fun w h => bw_mem (wU_X12 w h)) hown K hP sM_0 rfl 40 (by decide) (hts _ (bw_mem wB_1204)) (fun _ h9 => h9) (v := .ref (o + 25)) (show S_2737.1 0 40 = .ref (o + 25) from dg_I.rel (d := 25) I_2737 sM_0 (by decide +kernel)) dX12_operand_300 ?_
                          refine lv_aload_n hx hb dX12_operand_303 rfl (lv_at hl 3 rfl) ?_
                          obtain ⟨x_2751, f_x_2751, b_x_2751⟩ := dg_I.int (i := 0) (k := 42) (lo := 0) (hi := 20) I_2737 sM_0 (by decide +kernel)
                          refine dg_get (C := RX12) (T := TX12) (N := 77) hx hb hts (fun w h => bw_mem (wU_X12 w h)) hown K hP sM_0 rfl 42 (by decide) (hts _ (bw_mem wB_1179)) (fun _ h9 => h9) (v := .int x_2751) f_x_2751 dX12_operand_304 ?_
                          refine lv_iconst (v := 1) hx hb dX12_operand_307 (by decide +kernel) ?_
                          refine lv_isub hx hb dX12_operand_308 ?_
                          refine lv_topi (fun x_2752 ex_2752 => ?_)
                          have jx_2752 : (x_2752).toInt = (x_2751).toInt - 1 := by rw [ex_2752]; exact dk_subT rfl (by decide +kernel) (by omega) (by omega)
                          refine lv_iload_n hx hb dX12_operand_309 rfl (lv_at hl 0 rfl) ?_
                          have hin_2753 : vp_in x_2752 20 := (dk_inv (by omega) (by omega))
                          refine dg_iast hx hb K hP hS hA1 sM_25 hin_2753 dX12_operand_310 (fun S_2754 e_2754 H locs hP hS => ?_)
                          have I_2754 := dg_I.uf0 I_2737 e_2754 sM_25 (by decide +kernel)
                          have M_2754 := dg_sm.uf M_2737 e_2754 sM_25 (by decide)
                          have P0_2754 : P0M S_2754 := PBM.openp (PBM.keep (PBM.keep PB_1832 m_2724 (by decide) (by decide) (by decide) (by decide) (by decide) (by decide) (by decide) (by decide) (by decide) (by decide) (by decide) (by decide) (by decide) (by decide) (by decide)) m_2728 (by decide) (by decide) (by decide) (by decide) (by decide) (by decide) (by decide) (by decide) (by decide) (by decide) (by decide) (by decide) (by decide) (by decide) (by decide)) f_x_2744 (((m_2728.1 0 43 _ sM_0 (by decide)).trans ((m_2724.1 0 43 _ sM_0 (by decide)).trans ((dg_uf_F e_1832 0 43).trans (m_2.1 0 43 _ sM_0 (by decide))))).trans f_on) (((m_2728.1 0 45 _ sM_0 (by decide)).trans ((m_2724.1 0 45 _ sM_0 (by decide)).trans ((dg_uf_F e_1832 0 45).trans (m_2.1 0 45 _ sM_0 (by decide))))).trans f_om) (w_2737_1 _ f_y_2742 (by omega)) m_2737 (by decide) (by decide) (by decide) (by decide) (by omega) f_x_2751 (by omega) e_2754
                          refine lv_iconst (v := 0) hx hb dX12_operand_311 (by decide +kernel) ?_
                          have hz_2755 : (0 : Int32).toInt = 0 := by decide +kernel
                          have hz_2756 : (0 : Int32).toInt = 0 := by decide +kernel
                          have hz_2757 : (0 : Int32).toInt = 0 := by decide +kernel
                          have hz_2758 : (0 : Int32).toInt = 0 := by decide +kernel
                          refine W.widen (k := 0) (n := 0) (Nat.le_of_ble_eq_true rfl) (Nat.le_of_ble_eq_true rfl) ?_
                          exact dg_iret hx hb hr hlocks (by decide +kernel) hP hS ⟨I_2754, M_2754, (by decide +kernel), ⟨y_2739, y_2740, y_2741, y_2742, cd, x_2751, om, ((dg_uf_F e_2754 0 3).trans f_y_2739), ((dg_uf_F e_2754 0 4).trans f_y_2740), ((dg_uf_F e_2754 0 5).trans f_y_2741), ((dg_uf_F e_2754 0 8).trans f_y_2742), (((dg_uf_F e_2754 0 34).trans ((m_2737.1 0 34 _ sM_0 (by decide)).trans ((m_2728.1 0 34 _ sM_0 (by decide)).trans ((m_2724.1 0 34 _ sM_0 (by decide)).trans ((dg_uf_F e_1832 0 34).trans (m_2.1 0 34 _ sM_0 (by decide))))))).trans f_cd), ((dg_uf_F e_2754 0 42).trans f_x_2751), (((dg_uf_F e_2754 0 45).trans ((m_2737.1 0 45 _ sM_0 (by decide)).trans ((m_2728.1 0 45 _ sM_0 (by decide)).trans ((m_2724.1 0 45 _ sM_0 (by decide)).trans ((dg_uf_F e_1832 0 45).trans (m_2.1 0 45 _ sM_0 (by decide))))))).trans f_om), (by omega)⟩, (fun k9 hk9 hk0 => ⟨fun h9 => absurd h9 (by decide +kernel), fun _ => P0_2754⟩), (ZWM.keep (ZWM.keep (ZWM.keep (ZWM.keep (ZWM.keep (ZWM.keep ZW m_2 (by decide) (by decide) (by decide) (by decide)) (dg_sm.uf (WF := []) (WA := [24]) dg_sm.rf e_1832 sM_24 (by decide)) (by decide) (by decide) (by decide) (by decide)) m_2724 (by decide) (by decide) (by decide) (by decide)) m_2728 (by decide) (by decide) (by decide) (by decide)) m_2737 (by decide) (by decide) (by decide) (by decide)) (dg_sm.uf (WF := []) (WA := [25]) dg_sm.rf e_2754 sM_25 (by decide)) (by decide) (by decide) (by decide) (by decide)), trivial⟩ dX12_operand_312
                      · have jc_2735 := dk_eqc (k := 44) (by decide +kernel) c_2735
                        refine lv_bipush (v := 6) hx hb dX12_operand_283 (by decide +kernel) ?_
                        refine lv_goto (tgt := 289) hx hb dX12_operand_285 (by decide) ?_
                        have hz_2759 : (6 : Int32).toInt = 6 := by decide +kernel
                        refine dg_callv hS hA1 hA (va_runV (As := [.int 6]) (rest := []) F (c_m_frames l g D o S_2728 6 (by decide +kernel) y_2725 ((m_2728.1 0 3 _ sM_0 (by decide)).trans f_y_2725) (by omega) y_2726 ((m_2728.1 0 4 _ sM_0 (by decide)).trans f_y_2726) (by omega) y_2727 ((m_2728.1 0 5 _ sM_0 (by decide)).trans f_y_2727) (by omega) sl (((m_2728.1 0 2 _ sM_0 (by decide)).trans ((m_2724.1 0 2 _ sM_0 (by decide)).trans ((dg_uf_F e_1832 0 2).trans (m_2.1 0 2 _ sM_0 (by decide))))).trans f_sl) (by omega) y_2729 f_y_2729 (by omega) dp (((m_2728.1 0 42 _ sM_0 (by decide)).trans ((m_2724.1 0 42 _ sM_0 (by decide)).trans ((dg_uf_F e_1832 0 42).trans (m_2.1 0 42 _ sM_0 (by decide))))).trans f_dp) (by omega) om (((m_2728.1 0 45 _ sM_0 (by decide)).trans ((m_2724.1 0 45 _ sM_0 (by decide)).trans ((dg_uf_F e_1832 0 45).trans (m_2.1 0 45 _ sM_0 (by decide))))).trans f_om) (by omega) on (((m_2728.1 0 43 _ sM_0 (by decide)).trans ((m_2724.1 0 43 _ sM_0 (by decide)).trans ((dg_uf_F e_1832 0 43).trans (m_2.1 0 43 _ sM_0 (by decide))))).trans f_on) (by omega) (by omega) I_2728 H.size) (cwV 1 hts (bw_V wB_1201 wB_1202 wB_1203 wB_857 wB_1200) rfl rfl rfl (by decide +kernel) ⟨Nat.le_of_ble_eq_true rfl, Nat.le_of_ble_eq_true rfl⟩) (dg_preV sM_0 rfl K ST hP hS hA1 hA) rfl rfl hl.1 rfl (lv_room (Nat.le_of_ble_eq_true rfl)) dX12_operand_289 ⟨Nat.le_of_ble_eq_true rfl, Nat.le_of_ble_eq_true rfl⟩) (fun S_2760 hw_2760 H locs hP hS => ?_)
                        obtain ⟨I_2760, m_2760, w_2760_0, w_2760_1, -⟩ := hw_2760
                        have M_2760 := dg_sm.tr M_2728 m_2760 (by decide) (by decide)
                        have hz_2761 : (6 : Int32).toInt = 6 := by decide +kernel
                        obtain ⟨y_2762, y_2763, y_2764, y_2765, y_2766, f_y_2762, f_y_2763, f_y_2764, f_y_2765, f_y_2766, w_2760_0⟩ := w_2760_0
                        have w_2760_0 : ((y_2763).toInt ≤ (y_2764).toInt ∧ (y_2764).toInt ≤ (sl).toInt ∧ ((y_2762).toInt ≠ 0 → (y_2763).toInt + 1 ≤ (y_2764).toInt)) ∧ (y_2726).toInt ≤ (y_2763).toInt ∧ ((y_2729).toInt ≠ 0 → (y_2765).toInt ≠ 0) ∧ (((y_2765).toInt = 0 → ((y_2726).toInt + 1 ≤ (y_2763).toInt ∧ (y_2766).toInt = (dp).toInt + 1))) := w_2760_0
                        have b_y_2762 : 0 ≤ (y_2762).toInt ∧ (y_2762).toInt ≤ 3 := dg_I.intb (lo := 0) (hi := 3) I_2760 sM_0 (by decide +kernel) f_y_2762
                        have b_y_2763 : 0 ≤ (y_2763).toInt ∧ (y_2763).toInt ≤ 1600 := dg_I.intb (lo := 0) (hi := 1600) I_2760 sM_0 (by decide +kernel) f_y_2763
                        have b_y_2764 : 0 ≤ (y_2764).toInt ∧ (y_2764).toInt ≤ 1600 := dg_I.intb (lo := 0) (hi := 1600) I_2760 sM_0 (by decide +kernel) f_y_2764
                        have b_y_2765 : 0 ≤ (y_2765).toInt ∧ (y_2765).toInt ≤ 6 := dg_I.intb (lo := 0) (hi := 6) I_2760 sM_0 (by decide +kernel) f_y_2765
                        have b_y_2766 : 0 ≤ (y_2766).toInt ∧ (y_2766).toInt ≤ 20 := dg_I.intb (lo := 0) (hi := 20) I_2760 sM_0 (by decide +kernel) f_y_2766
                        have w_2760_1 : ∀ k9 : Int32, S_2760.1 0 8 = .int k9 → k9.toInt = 0 → FRM S_2728 S_2760 (6 : Int32) := w_2760_1
                        obtain ⟨x_2767, f_x_2767, b_x_2767⟩ := dg_I.int (i := 0) (k := 42) (lo := 0) (hi := 20) I_2728 sM_0 (by decide +kernel)
                        refine lv_aload_n hx hb dX12_operand_292 rfl (lv_at hl 3 rfl) ?_
                        refine dg_get (C := RX12) (T := TX12) (N := 77) hx hb hts (fun w h => bw_mem (wU_X12 w h)) hown K hP sM_0 rfl 8 (by decide) (hts _ (bw_mem wB_1109)) (fun _ h9 => h9) (v := .int y_2765) f_y_2765 dX12_operand_293 ?_
                        refine lv_if_ne (tgt := 311) hx hb dX12_operand_296 (by decide) (fun c_2768 => ?_) (fun c_2768 => ?_)
                        · have jc_2768 := dk_neqc (k := 0) (by decide +kernel) c_2768
                          refine lv_iconst (v := 0) hx hb dX12_operand_311 (by decide +kernel) ?_
                          have hz_2769 : (0 : Int32).toInt = 0 := by decide +kernel
                          have hz_2770 : (0 : Int32).toInt = 0 := by decide +kernel
                          obtain ⟨x_2771, f_x_2771, b_x_2771⟩ := dg_I.int (i := 0) (k := 42) (lo := 0) (hi := 20) I_2760 sM_0 (by decide +kernel)
                          have hz_2772 : (0 : Int32).toInt = 0 := by decide +kernel
                          have hz_2773 : (0 : Int32).toInt = 0 := by decide +kernel
                          refine W.widen (k := 0) (n := 0) (Nat.le_of_ble_eq_true rfl) (Nat.le_of_ble_eq_true rfl) ?_
                          exact dg_iret hx hb hr hlocks (by decide +kernel) hP hS ⟨I_2760, M_2760, (by decide +kernel), ⟨y_2762, y_2763, y_2764, y_2765, cd, x_2771, om, f_y_2762, f_y_2763, f_y_2764, f_y_2765, (((m_2760.1 0 34 _ sM_0 (by decide)).trans ((m_2728.1 0 34 _ sM_0 (by decide)).trans ((m_2724.1 0 34 _ sM_0 (by decide)).trans ((dg_uf_F e_1832 0 34).trans (m_2.1 0 34 _ sM_0 (by decide)))))).trans f_cd), f_x_2771, (((m_2760.1 0 45 _ sM_0 (by decide)).trans ((m_2728.1 0 45 _ sM_0 (by decide)).trans ((m_2724.1 0 45 _ sM_0 (by decide)).trans ((dg_uf_F e_1832 0 45).trans (m_2.1 0 45 _ sM_0 (by decide)))))).trans f_om), (by omega)⟩, (fun k9 hk9 hk0 => by have q9 := (f_y_2765).symm.trans hk9; cases q9; omega), (ZWM.keep (ZWM.keep (ZWM.keep (ZWM.keep (ZWM.keep ZW m_2 (by decide) (by decide) (by decide) (by decide)) (dg_sm.uf (WF := []) (WA := [24]) dg_sm.rf e_1832 sM_24 (by decide)) (by decide) (by decide) (by decide) (by decide)) m_2724 (by decide) (by decide) (by decide) (by decide)) m_2728 (by decide) (by decide) (by decide) (by decide)) m_2760 (by decide) (by decide) (by decide) (by decide)), trivial⟩ dX12_operand_312
                        · have jc_2768 := dk_eqc (k := 0) (by decide +kernel) c_2768
                          refine lv_aload_n hx hb dX12_operand_299 rfl (lv_at hl 3 rfl) ?_
                          refine dg_get (C := RX12) (T := TX12) (N := 77) hx hb hts (fun w h => bw_mem (wU_X12 w h)) hown K hP sM_0 rfl 40 (by decide) (hts _ (bw_mem wB_1204)) (fun _ h9 => h9) (v := .ref (o + 25)) (show S_2760.1 0 40 = .ref (o + 25) from dg_I.rel (d := 25) I_2760 sM_0 (by decide +kernel)) dX12_operand_300 ?_
                          refine lv_aload_n hx hb dX12_operand_303 rfl (lv_at hl 3 rfl) ?_
                          obtain ⟨x_2774, f_x_2774, b_x_2774⟩ := dg_I.int (i := 0) (k := 42) (lo := 0) (hi := 20) I_2760 sM_0 (by decide +kernel)
                          refine dg_get (C := RX12) (T := TX12) (N := 77) hx hb hts (fun w h => bw_mem (wU_X12 w h)) hown K hP sM_0 rfl 42 (by decide) (hts _ (bw_mem wB_1179)) (fun _ h9 => h9) (v := .int x_2774) f_x_2774 dX12_operand_304 ?_
                          refine lv_iconst (v := 1) hx hb dX12_operand_307 (by decide +kernel) ?_
                          refine lv_isub hx hb dX12_operand_308 ?_
                          refine lv_topi (fun x_2775 ex_2775 => ?_)
                          have jx_2775 : (x_2775).toInt = (x_2774).toInt - 1 := by rw [ex_2775]; exact dk_subT rfl (by decide +kernel) (by omega) (by omega)
                          refine lv_iload_n hx hb dX12_operand_309 rfl (lv_at hl 0 rfl) ?_
                          have hin_2776 : vp_in x_2775 20 := (dk_inv (by omega) (by omega))
                          refine dg_iast hx hb K hP hS hA1 sM_25 hin_2776 dX12_operand_310 (fun S_2777 e_2777 H locs hP hS => ?_)
                          have I_2777 := dg_I.uf0 I_2760 e_2777 sM_25 (by decide +kernel)
                          have M_2777 := dg_sm.uf M_2760 e_2777 sM_25 (by decide)
                          have P0_2777 : P0M S_2777 := PBM.openp (PBM.keep (PBM.keep PB_1832 m_2724 (by decide) (by decide) (by decide) (by decide) (by decide) (by decide) (by decide) (by decide) (by decide) (by decide) (by decide) (by decide) (by decide) (by decide) (by decide)) m_2728 (by decide) (by decide) (by decide) (by decide) (by decide) (by decide) (by decide) (by decide) (by decide) (by decide) (by decide) (by decide) (by decide) (by decide) (by decide)) f_x_2767 (((m_2728.1 0 43 _ sM_0 (by decide)).trans ((m_2724.1 0 43 _ sM_0 (by decide)).trans ((dg_uf_F e_1832 0 43).trans (m_2.1 0 43 _ sM_0 (by decide))))).trans f_on) (((m_2728.1 0 45 _ sM_0 (by decide)).trans ((m_2724.1 0 45 _ sM_0 (by decide)).trans ((dg_uf_F e_1832 0 45).trans (m_2.1 0 45 _ sM_0 (by decide))))).trans f_om) (w_2760_1 _ f_y_2765 (by omega)) m_2760 (by decide) (by decide) (by decide) (by decide) (by omega) f_x_2774 (by omega) e_2777
                          refine lv_iconst (v := 0) hx hb dX12_operand_311 (by decide +kernel) ?_
                          have hz_2778 : (0 : Int32).toInt = 0 := by decide +kernel
                          have hz_2779 : (0 : Int32).toInt = 0 := by decide +kernel
                          have hz_2780 : (0 : Int32).toInt = 0 := by decide +kernel
                          have hz_2781 : (0 : Int32).toInt = 0 := by decide +kernel
                          refine W.widen (k := 0) (n := 0) (Nat.le_of_ble_eq_true rfl) (Nat.le_of_ble_eq_true rfl) ?_
                          exact dg_iret hx hb hr hlocks (by decide +kernel) hP hS ⟨I_2777, M_2777, (by decide +kernel), ⟨y_2762, y_2763, y_2764, y_2765, cd, x_2774, om, ((dg_uf_F e_2777 0 3).trans f_y_2762), ((dg_uf_F e_2777 0 4).trans f_y_2763), ((dg_uf_F e_2777 0 5).trans f_y_2764), ((dg_uf_F e_2777 0 8).trans f_y_2765), (((dg_uf_F e_2777 0 34).trans ((m_2760.1 0 34 _ sM_0 (by decide)).trans ((m_2728.1 0 34 _ sM_0 (by decide)).trans ((m_2724.1 0 34 _ sM_0 (by decide)).trans ((dg_uf_F e_1832 0 34).trans (m_2.1 0 34 _ sM_0 (by decide))))))).trans f_cd), ((dg_uf_F e_2777 0 42).trans f_x_2774), (((dg_uf_F e_2777 0 45).trans ((m_2760.1 0 45 _ sM_0 (by decide)).trans ((m_2728.1 0 45 _ sM_0 (by decide)).trans ((m_2724.1 0 45 _ sM_0 (by decide)).trans ((dg_uf_F e_1832 0 45).trans (m_2.1 0 45 _ sM_0 (by decide))))))).trans f_om), (by omega)⟩, (fun k9 hk9 hk0 => ⟨fun h9 => absurd h9 (by decide +kernel), fun _ => P0_2777⟩), (ZWM.keep (ZWM.keep (ZWM.keep (ZWM.keep (ZWM.keep (ZWM.keep ZW m_2 (by decide) (by decide) (by decide) (by decide)) (dg_sm.uf (WF := []) (WA := [24]) dg_sm.rf e_1832 sM_24 (by decide)) (by decide) (by decide) (by decide) (by decide)) m_2724 (by decide) (by decide) (by decide) (by decide)) m_2728 (by decide) (by decide) (by decide) (by decide)) m_2760 (by decide) (by decide) (by decide) (by decide)) (dg_sm.uf (WF := []) (WA := [25]) dg_sm.rf e_2777 sM_25 (by decide)) (by decide) (by decide) (by decide) (by decide)), trivial⟩ dX12_operand_312
                    · have jc_2734 := dk_eqc (k := 0) (by decide +kernel) c_2734
                      refine lv_aload_n hx hb dX12_operand_267 rfl (lv_at hl 3 rfl) ?_
                      refine lv_iconst (v := 1) hx hb dX12_operand_268 (by decide +kernel) ?_
                      refine lv_aload_n hx hb dX12_operand_269 rfl (lv_at hl 3 rfl) ?_
                      refine dg_get (C := RX12) (T := TX12) (N := 77) hx hb hts (fun w h => bw_mem (wU_X12 w h)) hown K hP sM_0 rfl 4 (by decide) (hts _ (bw_mem wB_1121)) (fun _ h9 => h9) (v := .int y_2726) ((m_2728.1 0 4 _ sM_0 (by decide)).trans f_y_2726) dX12_operand_270 ?_
                      have hz_2782 : (1 : Int32).toInt = 1 := by decide +kernel
                      refine dg_callv hS hA1 hA (va_runV (As := [.int 1, .int y_2726]) (rest := []) F (c_m_blame l g D o S_2728 1 (by decide +kernel) y_2726 y_2729 f_y_2729 (by omega) I_2728 H.size) (cwV 2 hts (bw_V wB_1113 wB_1114 wB_1115 wB_857 wB_1112) rfl rfl rfl (by decide +kernel) ⟨Nat.le_of_ble_eq_true rfl, Nat.le_of_ble_eq_true rfl⟩) (dg_preV sM_0 rfl K ST hP hS hA1 hA) rfl rfl hl.1 rfl (lv_room (Nat.le_of_ble_eq_true rfl)) dX12_operand_273 ⟨Nat.le_of_ble_eq_true rfl, Nat.le_of_ble_eq_true rfl⟩) (fun S_2783 hw_2783 H locs hP hS => ?_)
                      obtain ⟨I_2783, m_2783, w_2783_0, -⟩ := hw_2783
                      have M_2783 := dg_sm.tr M_2728 m_2783 (by decide) (by decide)
                      have hz_2784 : (1 : Int32).toInt = 1 := by decide +kernel
                      obtain ⟨y_2785, f_y_2785, w_2783_0⟩ := w_2783_0
                      have w_2783_0 : ((y_2729).toInt ≠ 0 → (y_2785).toInt = (y_2729).toInt) ∧ ((y_2729).toInt = 0 → (y_2785).toInt = ((1 : Int32)).toInt) := w_2783_0
                      have b_y_2785 : 0 ≤ (y_2785).toInt ∧ (y_2785).toInt ≤ 6 := dg_I.intb (lo := 0) (hi := 6) I_2783 sM_0 (by decide +kernel) f_y_2785
                      refine lv_aload_n hx hb dX12_operand_276 rfl (lv_at hl 3 rfl) ?_
                      refine lv_iload_n hx hb dX12_operand_277 rfl (lv_at hl 0 rfl) ?_
                      refine lv_bipush (v := 44) hx hb dX12_operand_278 (by decide +kernel) ?_
                      refine lv_icmp_ne (tgt := 288) hx hb dX12_operand_280 (by decide) (fun c_2786 => ?_) (fun c_2786 => ?_)
                      · have jc_2786 := dk_neqc (k := 44) (by decide +kernel) c_2786
                        refine lv_iconst (v := 3) hx hb dX12_operand_288 (by decide +kernel) ?_
                        have hz_2787 : (3 : Int32).toInt = 3 := by decide +kernel
                        refine dg_callv hS hA1 hA (va_runV (As := [.int 3]) (rest := []) F (c_m_frames l g D o S_2783 3 (by decide +kernel) y_2725 (((m_2783.1 0 3 _ sM_0 (by decide)).trans (m_2728.1 0 3 _ sM_0 (by decide))).trans f_y_2725) (by omega) y_2726 (((m_2783.1 0 4 _ sM_0 (by decide)).trans (m_2728.1 0 4 _ sM_0 (by decide))).trans f_y_2726) (by omega) y_2727 (((m_2783.1 0 5 _ sM_0 (by decide)).trans (m_2728.1 0 5 _ sM_0 (by decide))).trans f_y_2727) (by omega) sl (((m_2783.1 0 2 _ sM_0 (by decide)).trans ((m_2728.1 0 2 _ sM_0 (by decide)).trans ((m_2724.1 0 2 _ sM_0 (by decide)).trans ((dg_uf_F e_1832 0 2).trans (m_2.1 0 2 _ sM_0 (by decide)))))).trans f_sl) (by omega) y_2785 f_y_2785 (by omega) dp (((m_2783.1 0 42 _ sM_0 (by decide)).trans ((m_2728.1 0 42 _ sM_0 (by decide)).trans ((m_2724.1 0 42 _ sM_0 (by decide)).trans ((dg_uf_F e_1832 0 42).trans (m_2.1 0 42 _ sM_0 (by decide)))))).trans f_dp) (by omega) om (((m_2783.1 0 45 _ sM_0 (by decide)).trans ((m_2728.1 0 45 _ sM_0 (by decide)).trans ((m_2724.1 0 45 _ sM_0 (by decide)).trans ((dg_uf_F e_1832 0 45).trans (m_2.1 0 45 _ sM_0 (by decide)))))).trans f_om) (by omega) on (((m_2783.1 0 43 _ sM_0 (by decide)).trans ((m_2728.1 0 43 _ sM_0 (by decide)).trans ((m_2724.1 0 43 _ sM_0 (by decide)).trans ((dg_uf_F e_1832 0 43).trans (m_2.1 0 43 _ sM_0 (by decide)))))).trans f_on) (by omega) (by omega) I_2783 H.size) (cwV 1 hts (bw_V wB_1201 wB_1202 wB_1203 wB_857 wB_1200) rfl rfl rfl (by decide +kernel) ⟨Nat.le_of_ble_eq_true rfl, Nat.le_of_ble_eq_true rfl⟩) (dg_preV sM_0 rfl K ST hP hS hA1 hA) rfl rfl hl.1 rfl (lv_room (Nat.le_of_ble_eq_true rfl)) dX12_operand_289 ⟨Nat.le_of_ble_eq_true rfl, Nat.le_of_ble_eq_true rfl⟩) (fun S_2788 hw_2788 H locs hP hS => ?_)
                        obtain ⟨I_2788, m_2788, w_2788_0, w_2788_1, -⟩ := hw_2788
                        have M_2788 := dg_sm.tr M_2783 m_2788 (by decide) (by decide)
                        have hz_2789 : (3 : Int32).toInt = 3 := by decide +kernel
                        obtain ⟨y_2790, y_2791, y_2792, y_2793, y_2794, f_y_2790, f_y_2791, f_y_2792, f_y_2793, f_y_2794, w_2788_0⟩ := w_2788_0
                        have w_2788_0 : ((y_2791).toInt ≤ (y_2792).toInt ∧ (y_2792).toInt ≤ (sl).toInt ∧ ((y_2790).toInt ≠ 0 → (y_2791).toInt + 1 ≤ (y_2792).toInt)) ∧ (y_2726).toInt ≤ (y_2791).toInt ∧ ((y_2785).toInt ≠ 0 → (y_2793).toInt ≠ 0) ∧ (((y_2793).toInt = 0 → ((y_2726).toInt + 1 ≤ (y_2791).toInt ∧ (y_2794).toInt = (dp).toInt + 1))) := w_2788_0
                        have b_y_2790 : 0 ≤ (y_2790).toInt ∧ (y_2790).toInt ≤ 3 := dg_I.intb (lo := 0) (hi := 3) I_2788 sM_0 (by decide +kernel) f_y_2790
                        have b_y_2791 : 0 ≤ (y_2791).toInt ∧ (y_2791).toInt ≤ 1600 := dg_I.intb (lo := 0) (hi := 1600) I_2788 sM_0 (by decide +kernel) f_y_2791
                        have b_y_2792 : 0 ≤ (y_2792).toInt ∧ (y_2792).toInt ≤ 1600 := dg_I.intb (lo := 0) (hi := 1600) I_2788 sM_0 (by decide +kernel) f_y_2792
                        have b_y_2793 : 0 ≤ (y_2793).toInt ∧ (y_2793).toInt ≤ 6 := dg_I.intb (lo := 0) (hi := 6) I_2788 sM_0 (by decide +kernel) f_y_2793
                        have b_y_2794 : 0 ≤ (y_2794).toInt ∧ (y_2794).toInt ≤ 20 := dg_I.intb (lo := 0) (hi := 20) I_2788 sM_0 (by decide +kernel) f_y_2794
                        have w_2788_1 : ∀ k9 : Int32, S_2788.1 0 8 = .int k9 → k9.toInt = 0 → FRM S_2783 S_2788 (3 : Int32) := w_2788_1
                        obtain ⟨x_2795, f_x_2795, b_x_2795⟩ := dg_I.int (i := 0) (k := 42) (lo := 0) (hi := 20) I_2783 sM_0 (by decide +kernel)
                        refine lv_aload_n hx hb dX12_operand_292 rfl (lv_at hl 3 rfl) ?_
                        refine dg_get (C := RX12) (T := TX12) (N := 77) hx hb hts (fun w h => bw_mem (wU_X12 w h)) hown K hP sM_0 rfl 8 (by decide) (hts _ (bw_mem wB_1109)) (fun _ h9 => h9) (v := .int y_2793) f_y_2793 dX12_operand_293 ?_
                        refine lv_if_ne (tgt := 311) hx hb dX12_operand_296 (by decide) (fun c_2796 => ?_) (fun c_2796 => ?_)
                        · have jc_2796 := dk_neqc (k := 0) (by decide +kernel) c_2796
                          refine lv_iconst (v := 0) hx hb dX12_operand_311 (by decide +kernel) ?_
                          have hz_2797 : (0 : Int32).toInt = 0 := by decide +kernel
                          have hz_2798 : (0 : Int32).toInt = 0 := by decide +kernel
                          obtain ⟨x_2799, f_x_2799, b_x_2799⟩ := dg_I.int (i := 0) (k := 42) (lo := 0) (hi := 20) I_2788 sM_0 (by decide +kernel)
                          have hz_2800 : (0 : Int32).toInt = 0 := by decide +kernel
                          have hz_2801 : (0 : Int32).toInt = 0 := by decide +kernel
                          refine W.widen (k := 0) (n := 0) (Nat.le_of_ble_eq_true rfl) (Nat.le_of_ble_eq_true rfl) ?_
                          exact dg_iret hx hb hr hlocks (by decide +kernel) hP hS ⟨I_2788, M_2788, (by decide +kernel), ⟨y_2790, y_2791, y_2792, y_2793, cd, x_2799, om, f_y_2790, f_y_2791, f_y_2792, f_y_2793, (((m_2788.1 0 34 _ sM_0 (by decide)).trans ((m_2783.1 0 34 _ sM_0 (by decide)).trans ((m_2728.1 0 34 _ sM_0 (by decide)).trans ((m_2724.1 0 34 _ sM_0 (by decide)).trans ((dg_uf_F e_1832 0 34).trans (m_2.1 0 34 _ sM_0 (by decide))))))).trans f_cd), f_x_2799, (((m_2788.1 0 45 _ sM_0 (by decide)).trans ((m_2783.1 0 45 _ sM_0 (by decide)).trans ((m_2728.1 0 45 _ sM_0 (by decide)).trans ((m_2724.1 0 45 _ sM_0 (by decide)).trans ((dg_uf_F e_1832 0 45).trans (m_2.1 0 45 _ sM_0 (by decide))))))).trans f_om), (by omega)⟩, (fun k9 hk9 hk0 => by have q9 := (f_y_2793).symm.trans hk9; cases q9; omega), (ZWM.keep (ZWM.keep (ZWM.keep (ZWM.keep (ZWM.keep (ZWM.keep ZW m_2 (by decide) (by decide) (by decide) (by decide)) (dg_sm.uf (WF := []) (WA := [24]) dg_sm.rf e_1832 sM_24 (by decide)) (by decide) (by decide) (by decide) (by decide)) m_2724 (by decide) (by decide) (by decide) (by decide)) m_2728 (by decide) (by decide) (by decide) (by decide)) m_2783 (by decide) (by decide) (by decide) (by decide)) m_2788 (by decide) (by decide) (by decide) (by decide)), trivial⟩ dX12_operand_312
                        · have jc_2796 := dk_eqc (k := 0) (by decide +kernel) c_2796
                          refine lv_aload_n hx hb dX12_operand_299 rfl (lv_at hl 3 rfl) ?_
                          refine dg_get (C := RX12) (T := TX12) (N := 77) hx hb hts (fun w h => bw_mem (wU_X12 w h)) hown K hP sM_0 rfl 40 (by decide) (hts _ (bw_mem wB_1204)) (fun _ h9 => h9) (v := .ref (o + 25)) (show S_2788.1 0 40 = .ref (o + 25) from dg_I.rel (d := 25) I_2788 sM_0 (by decide +kernel)) dX12_operand_300 ?_
                          refine lv_aload_n hx hb dX12_operand_303 rfl (lv_at hl 3 rfl) ?_
                          obtain ⟨x_2802, f_x_2802, b_x_2802⟩ := dg_I.int (i := 0) (k := 42) (lo := 0) (hi := 20) I_2788 sM_0 (by decide +kernel)
                          refine dg_get (C := RX12) (T := TX12) (N := 77) hx hb hts (fun w h => bw_mem (wU_X12 w h)) hown K hP sM_0 rfl 42 (by decide) (hts _ (bw_mem wB_1179)) (fun _ h9 => h9) (v := .int x_2802) f_x_2802 dX12_operand_304 ?_
                          refine lv_iconst (v := 1) hx hb dX12_operand_307 (by decide +kernel) ?_
                          refine lv_isub hx hb dX12_operand_308 ?_
                          refine lv_topi (fun x_2803 ex_2803 => ?_)
                          have jx_2803 : (x_2803).toInt = (x_2802).toInt - 1 := by rw [ex_2803]; exact dk_subT rfl (by decide +kernel) (by omega) (by omega)
                          refine lv_iload_n hx hb dX12_operand_309 rfl (lv_at hl 0 rfl) ?_
                          have hin_2804 : vp_in x_2803 20 := (dk_inv (by omega) (by omega))
                          refine dg_iast hx hb K hP hS hA1 sM_25 hin_2804 dX12_operand_310 (fun S_2805 e_2805 H locs hP hS => ?_)
                          have I_2805 := dg_I.uf0 I_2788 e_2805 sM_25 (by decide +kernel)
                          have M_2805 := dg_sm.uf M_2788 e_2805 sM_25 (by decide)
                          have P0_2805 : P0M S_2805 := PBM.openp (PBM.keep (PBM.keep (PBM.keep PB_1832 m_2724 (by decide) (by decide) (by decide) (by decide) (by decide) (by decide) (by decide) (by decide) (by decide) (by decide) (by decide) (by decide) (by decide) (by decide) (by decide)) m_2728 (by decide) (by decide) (by decide) (by decide) (by decide) (by decide) (by decide) (by decide) (by decide) (by decide) (by decide) (by decide) (by decide) (by decide) (by decide)) m_2783 (by decide) (by decide) (by decide) (by decide) (by decide) (by decide) (by decide) (by decide) (by decide) (by decide) (by decide) (by decide) (by decide) (by decide) (by decide)) f_x_2795 (((m_2783.1 0 43 _ sM_0 (by decide)).trans ((m_2728.1 0 43 _ sM_0 (by decide)).trans ((m_2724.1 0 43 _ sM_0 (by decide)).trans ((dg_uf_F e_1832 0 43).trans (m_2.1 0 43 _ sM_0 (by decide)))))).trans f_on) (((m_2783.1 0 45 _ sM_0 (by decide)).trans ((m_2728.1 0 45 _ sM_0 (by decide)).trans ((m_2724.1 0 45 _ sM_0 (by decide)).trans ((dg_uf_F e_1832 0 45).trans (m_2.1 0 45 _ sM_0 (by decide)))))).trans f_om) (w_2788_1 _ f_y_2793 (by omega)) m_2788 (by decide) (by decide) (by decide) (by decide) (by omega) f_x_2802 (by omega) e_2805
                          refine lv_iconst (v := 0) hx hb dX12_operand_311 (by decide +kernel) ?_
                          have hz_2806 : (0 : Int32).toInt = 0 := by decide +kernel
                          have hz_2807 : (0 : Int32).toInt = 0 := by decide +kernel
                          have hz_2808 : (0 : Int32).toInt = 0 := by decide +kernel
                          have hz_2809 : (0 : Int32).toInt = 0 := by decide +kernel
                          refine W.widen (k := 0) (n := 0) (Nat.le_of_ble_eq_true rfl) (Nat.le_of_ble_eq_true rfl) ?_
                          exact dg_iret hx hb hr hlocks (by decide +kernel) hP hS ⟨I_2805, M_2805, (by decide +kernel), ⟨y_2790, y_2791, y_2792, y_2793, cd, x_2802, om, ((dg_uf_F e_2805 0 3).trans f_y_2790), ((dg_uf_F e_2805 0 4).trans f_y_2791), ((dg_uf_F e_2805 0 5).trans f_y_2792), ((dg_uf_F e_2805 0 8).trans f_y_2793), (((dg_uf_F e_2805 0 34).trans ((m_2788.1 0 34 _ sM_0 (by decide)).trans ((m_2783.1 0 34 _ sM_0 (by decide)).trans ((m_2728.1 0 34 _ sM_0 (by decide)).trans ((m_2724.1 0 34 _ sM_0 (by decide)).trans ((dg_uf_F e_1832 0 34).trans (m_2.1 0 34 _ sM_0 (by decide)))))))).trans f_cd), ((dg_uf_F e_2805 0 42).trans f_x_2802), (((dg_uf_F e_2805 0 45).trans ((m_2788.1 0 45 _ sM_0 (by decide)).trans ((m_2783.1 0 45 _ sM_0 (by decide)).trans ((m_2728.1 0 45 _ sM_0 (by decide)).trans ((m_2724.1 0 45 _ sM_0 (by decide)).trans ((dg_uf_F e_1832 0 45).trans (m_2.1 0 45 _ sM_0 (by decide)))))))).trans f_om), (by omega)⟩, (fun k9 hk9 hk0 => ⟨fun h9 => absurd h9 (by decide +kernel), fun _ => P0_2805⟩), (ZWM.keep (ZWM.keep (ZWM.keep (ZWM.keep (ZWM.keep (ZWM.keep (ZWM.keep ZW m_2 (by decide) (by decide) (by decide) (by decide)) (dg_sm.uf (WF := []) (WA := [24]) dg_sm.rf e_1832 sM_24 (by decide)) (by decide) (by decide) (by decide) (by decide)) m_2724 (by decide) (by decide) (by decide) (by decide)) m_2728 (by decide) (by decide) (by decide) (by decide)) m_2783 (by decide) (by decide) (by decide) (by decide)) m_2788 (by decide) (by decide) (by decide) (by decide)) (dg_sm.uf (WF := []) (WA := [25]) dg_sm.rf e_2805 sM_25 (by decide)) (by decide) (by decide) (by decide) (by decide)), trivial⟩ dX12_operand_312
                      · have jc_2786 := dk_eqc (k := 44) (by decide +kernel) c_2786
                        refine lv_bipush (v := 6) hx hb dX12_operand_283 (by decide +kernel) ?_
                        refine lv_goto (tgt := 289) hx hb dX12_operand_285 (by decide) ?_
                        have hz_2810 : (6 : Int32).toInt = 6 := by decide +kernel
                        refine dg_callv hS hA1 hA (va_runV (As := [.int 6]) (rest := []) F (c_m_frames l g D o S_2783 6 (by decide +kernel) y_2725 (((m_2783.1 0 3 _ sM_0 (by decide)).trans (m_2728.1 0 3 _ sM_0 (by decide))).trans f_y_2725) (by omega) y_2726 (((m_2783.1 0 4 _ sM_0 (by decide)).trans (m_2728.1 0 4 _ sM_0 (by decide))).trans f_y_2726) (by omega) y_2727 (((m_2783.1 0 5 _ sM_0 (by decide)).trans (m_2728.1 0 5 _ sM_0 (by decide))).trans f_y_2727) (by omega) sl (((m_2783.1 0 2 _ sM_0 (by decide)).trans ((m_2728.1 0 2 _ sM_0 (by decide)).trans ((m_2724.1 0 2 _ sM_0 (by decide)).trans ((dg_uf_F e_1832 0 2).trans (m_2.1 0 2 _ sM_0 (by decide)))))).trans f_sl) (by omega) y_2785 f_y_2785 (by omega) dp (((m_2783.1 0 42 _ sM_0 (by decide)).trans ((m_2728.1 0 42 _ sM_0 (by decide)).trans ((m_2724.1 0 42 _ sM_0 (by decide)).trans ((dg_uf_F e_1832 0 42).trans (m_2.1 0 42 _ sM_0 (by decide)))))).trans f_dp) (by omega) om (((m_2783.1 0 45 _ sM_0 (by decide)).trans ((m_2728.1 0 45 _ sM_0 (by decide)).trans ((m_2724.1 0 45 _ sM_0 (by decide)).trans ((dg_uf_F e_1832 0 45).trans (m_2.1 0 45 _ sM_0 (by decide)))))).trans f_om) (by omega) on (((m_2783.1 0 43 _ sM_0 (by decide)).trans ((m_2728.1 0 43 _ sM_0 (by decide)).trans ((m_2724.1 0 43 _ sM_0 (by decide)).trans ((dg_uf_F e_1832 0 43).trans (m_2.1 0 43 _ sM_0 (by decide)))))).trans f_on) (by omega) (by omega) I_2783 H.size) (cwV 1 hts (bw_V wB_1201 wB_1202 wB_1203 wB_857 wB_1200) rfl rfl rfl (by decide +kernel) ⟨Nat.le_of_ble_eq_true rfl, Nat.le_of_ble_eq_true rfl⟩) (dg_preV sM_0 rfl K ST hP hS hA1 hA) rfl rfl hl.1 rfl (lv_room (Nat.le_of_ble_eq_true rfl)) dX12_operand_289 ⟨Nat.le_of_ble_eq_true rfl, Nat.le_of_ble_eq_true rfl⟩) (fun S_2811 hw_2811 H locs hP hS => ?_)
                        obtain ⟨I_2811, m_2811, w_2811_0, w_2811_1, -⟩ := hw_2811
                        have M_2811 := dg_sm.tr M_2783 m_2811 (by decide) (by decide)
                        have hz_2812 : (6 : Int32).toInt = 6 := by decide +kernel
                        obtain ⟨y_2813, y_2814, y_2815, y_2816, y_2817, f_y_2813, f_y_2814, f_y_2815, f_y_2816, f_y_2817, w_2811_0⟩ := w_2811_0
                        have w_2811_0 : ((y_2814).toInt ≤ (y_2815).toInt ∧ (y_2815).toInt ≤ (sl).toInt ∧ ((y_2813).toInt ≠ 0 → (y_2814).toInt + 1 ≤ (y_2815).toInt)) ∧ (y_2726).toInt ≤ (y_2814).toInt ∧ ((y_2785).toInt ≠ 0 → (y_2816).toInt ≠ 0) ∧ (((y_2816).toInt = 0 → ((y_2726).toInt + 1 ≤ (y_2814).toInt ∧ (y_2817).toInt = (dp).toInt + 1))) := w_2811_0
                        have b_y_2813 : 0 ≤ (y_2813).toInt ∧ (y_2813).toInt ≤ 3 := dg_I.intb (lo := 0) (hi := 3) I_2811 sM_0 (by decide +kernel) f_y_2813
                        have b_y_2814 : 0 ≤ (y_2814).toInt ∧ (y_2814).toInt ≤ 1600 := dg_I.intb (lo := 0) (hi := 1600) I_2811 sM_0 (by decide +kernel) f_y_2814
                        have b_y_2815 : 0 ≤ (y_2815).toInt ∧ (y_2815).toInt ≤ 1600 := dg_I.intb (lo := 0) (hi := 1600) I_2811 sM_0 (by decide +kernel) f_y_2815
                        have b_y_2816 : 0 ≤ (y_2816).toInt ∧ (y_2816).toInt ≤ 6 := dg_I.intb (lo := 0) (hi := 6) I_2811 sM_0 (by decide +kernel) f_y_2816
                        have b_y_2817 : 0 ≤ (y_2817).toInt ∧ (y_2817).toInt ≤ 20 := dg_I.intb (lo := 0) (hi := 20) I_2811 sM_0 (by decide +kernel) f_y_2817
                        have w_2811_1 : ∀ k9 : Int32, S_2811.1 0 8 = .int k9 → k9.toInt = 0 → FRM S_2783 S_2811 (6 : Int32) := w_2811_1
                        obtain ⟨x_2818, f_x_2818, b_x_2818⟩ := dg_I.int (i := 0) (k := 42) (lo := 0) (hi := 20) I_2783 sM_0 (by decide +kernel)
                        refine lv_aload_n hx hb dX12_operand_292 rfl (lv_at hl 3 rfl) ?_
                        refine dg_get (C := RX12) (T := TX12) (N := 77) hx hb hts (fun w h => bw_mem (wU_X12 w h)) hown K hP sM_0 rfl 8 (by decide) (hts _ (bw_mem wB_1109)) (fun _ h9 => h9) (v := .int y_2816) f_y_2816 dX12_operand_293 ?_
                        refine lv_if_ne (tgt := 311) hx hb dX12_operand_296 (by decide) (fun c_2819 => ?_) (fun c_2819 => ?_)
                        · have jc_2819 := dk_neqc (k := 0) (by decide +kernel) c_2819
                          refine lv_iconst (v := 0) hx hb dX12_operand_311 (by decide +kernel) ?_
                          have hz_2820 : (0 : Int32).toInt = 0 := by decide +kernel
                          have hz_2821 : (0 : Int32).toInt = 0 := by decide +kernel
                          obtain ⟨x_2822, f_x_2822, b_x_2822⟩ := dg_I.int (i := 0) (k := 42) (lo := 0) (hi := 20) I_2811 sM_0 (by decide +kernel)
                          have hz_2823 : (0 : Int32).toInt = 0 := by decide +kernel
                          have hz_2824 : (0 : Int32).toInt = 0 := by decide +kernel
                          refine W.widen (k := 0) (n := 0) (Nat.le_of_ble_eq_true rfl) (Nat.le_of_ble_eq_true rfl) ?_
                          exact dg_iret hx hb hr hlocks (by decide +kernel) hP hS ⟨I_2811, M_2811, (by decide +kernel), ⟨y_2813, y_2814, y_2815, y_2816, cd, x_2822, om, f_y_2813, f_y_2814, f_y_2815, f_y_2816, (((m_2811.1 0 34 _ sM_0 (by decide)).trans ((m_2783.1 0 34 _ sM_0 (by decide)).trans ((m_2728.1 0 34 _ sM_0 (by decide)).trans ((m_2724.1 0 34 _ sM_0 (by decide)).trans ((dg_uf_F e_1832 0 34).trans (m_2.1 0 34 _ sM_0 (by decide))))))).trans f_cd), f_x_2822, (((m_2811.1 0 45 _ sM_0 (by decide)).trans ((m_2783.1 0 45 _ sM_0 (by decide)).trans ((m_2728.1 0 45 _ sM_0 (by decide)).trans ((m_2724.1 0 45 _ sM_0 (by decide)).trans ((dg_uf_F e_1832 0 45).trans (m_2.1 0 45 _ sM_0 (by decide))))))).trans f_om), (by omega)⟩, (fun k9 hk9 hk0 => by have q9 := (f_y_2816).symm.trans hk9; cases q9; omega), (ZWM.keep (ZWM.keep (ZWM.keep (ZWM.keep (ZWM.keep (ZWM.keep ZW m_2 (by decide) (by decide) (by decide) (by decide)) (dg_sm.uf (WF := []) (WA := [24]) dg_sm.rf e_1832 sM_24 (by decide)) (by decide) (by decide) (by decide) (by decide)) m_2724 (by decide) (by decide) (by decide) (by decide)) m_2728 (by decide) (by decide) (by decide) (by decide)) m_2783 (by decide) (by decide) (by decide) (by decide)) m_2811 (by decide) (by decide) (by decide) (by decide)), trivial⟩ dX12_operand_312
                        · have jc_2819 := dk_eqc (k := 0) (by decide +kernel) c_2819
                          refine lv_aload_n hx hb dX12_operand_299 rfl (lv_at hl 3 rfl) ?_
                          refine dg_get (C := RX12) (T := TX12) (N := 77) hx hb hts (fun w h => bw_mem (wU_X12 w h)) hown K hP sM_0 rfl 40 (by decide) (hts _ (bw_mem wB_1204)) (fun _ h9 => h9) (v := .ref (o + 25)) (show S_2811.1 0 40 = .ref (o + 25) from dg_I.rel (d := 25) I_2811 sM_0 (by decide +kernel)) dX12_operand_300 ?_
                          refine lv_aload_n hx hb dX12_operand_303 rfl (lv_at hl 3 rfl) ?_
                          obtain ⟨x_2825, f_x_2825, b_x_2825⟩ := dg_I.int (i := 0) (k := 42) (lo := 0) (hi := 20) I_2811 sM_0 (by decide +kernel)
                          refine dg_get (C := RX12) (T := TX12) (N := 77) hx hb hts (fun w h => bw_mem (wU_X12 w h)) hown K hP sM_0 rfl 42 (by decide) (hts _ (bw_mem wB_1179)) (fun _ h9 => h9) (v := .int x_2825) f_x_2825 dX12_operand_304 ?_
                          refine lv_iconst (v := 1) hx hb dX12_operand_307 (by decide +kernel) ?_
                          refine lv_isub hx hb dX12_operand_308 ?_
                          refine lv_topi (fun x_2826 ex_2826 => ?_)
                          have jx_2826 : (x_2826).toInt = (x_2825).toInt - 1 := by rw [ex_2826]; exact dk_subT rfl (by decide +kernel) (by omega) (by omega)
                          refine lv_iload_n hx hb dX12_operand_309 rfl (lv_at hl 0 rfl) ?_
                          have hin_2827 : vp_in x_2826 20 := (dk_inv (by omega) (by omega))
                          refine dg_iast hx hb K hP hS hA1 sM_25 hin_2827 dX12_operand_310 (fun S_2828 e_2828 H locs hP hS => ?_)
                          have I_2828 := dg_I.uf0 I_2811 e_2828 sM_25 (by decide +kernel)
                          have M_2828 := dg_sm.uf M_2811 e_2828 sM_25 (by decide)
                          have P0_2828 : P0M S_2828 := PBM.openp (PBM.keep (PBM.keep (PBM.keep PB_1832 m_2724 (by decide) (by decide) (by decide) (by decide) (by decide) (by decide) (by decide) (by decide) (by decide) (by decide) (by decide) (by decide) (by decide) (by decide) (by decide)) m_2728 (by decide) (by decide) (by decide) (by decide) (by decide) (by decide) (by decide) (by decide) (by decide) (by decide) (by decide) (by decide) (by decide) (by decide) (by decide)) m_2783 (by decide) (by decide) (by decide) (by decide) (by decide) (by decide) (by decide) (by decide) (by decide) (by decide) (by decide) (by decide) (by decide) (by decide) (by decide)) f_x_2818 (((m_2783.1 0 43 _ sM_0 (by decide)).trans ((m_2728.1 0 43 _ sM_0 (by decide)).trans ((m_2724.1 0 43 _ sM_0 (by decide)).trans ((dg_uf_F e_1832 0 43).trans (m_2.1 0 43 _ sM_0 (by decide)))))).trans f_on) (((m_2783.1 0 45 _ sM_0 (by decide)).trans ((m_2728.1 0 45 _ sM_0 (by decide)).trans ((m_2724.1 0 45 _ sM_0 (by decide)).trans ((dg_uf_F e_1832 0 45).trans (m_2.1 0 45 _ sM_0 (by decide)))))).trans f_om) (w_2811_1 _ f_y_2816 (by omega)) m_2811 (by decide) (by decide) (by decide) (by decide) (by omega) f_x_2825 (by omega) e_2828
                          refine lv_iconst (v := 0) hx hb dX12_operand_311 (by decide +kernel) ?_
                          have hz_2829 : (0 : Int32).toInt = 0 := by decide +kernel
                          have hz_2830 : (0 : Int32).toInt = 0 := by decide +kernel
                          have hz_2831 : (0 : Int32).toInt = 0 := by decide +kernel
                          have hz_2832 : (0 : Int32).toInt = 0 := by decide +kernel
                          refine W.widen (k := 0) (n := 0) (Nat.le_of_ble_eq_true rfl) (Nat.le_of_ble_eq_true rfl) ?_
                          exact dg_iret hx hb hr hlocks (by decide +kernel) hP hS ⟨I_2828, M_2828, (by decide +kernel), ⟨y_2813, y_2814, y_2815, y_2816, cd, x_2825, om, ((dg_uf_F e_2828 0 3).trans f_y_2813), ((dg_uf_F e_2828 0 4).trans f_y_2814), ((dg_uf_F e_2828 0 5).trans f_y_2815), ((dg_uf_F e_2828 0 8).trans f_y_2816), (((dg_uf_F e_2828 0 34).trans ((m_2811.1 0 34 _ sM_0 (by decide)).trans ((m_2783.1 0 34 _ sM_0 (by decide)).trans ((m_2728.1 0 34 _ sM_0 (by decide)).trans ((m_2724.1 0 34 _ sM_0 (by decide)).trans ((dg_uf_F e_1832 0 34).trans (m_2.1 0 34 _ sM_0 (by decide)))))))).trans f_cd), ((dg_uf_F e_2828 0 42).trans f_x_2825), (((dg_uf_F e_2828 0 45).trans ((m_2811.1 0 45 _ sM_0 (by decide)).trans ((m_2783.1 0 45 _ sM_0 (by decide)).trans ((m_2728.1 0 45 _ sM_0 (by decide)).trans ((m_2724.1 0 45 _ sM_0 (by decide)).trans ((dg_uf_F e_1832 0 45).trans (m_2.1 0 45 _ sM_0 (by decide)))))))).trans f_om), (by omega)⟩, (fun k9 hk9 hk0 => ⟨fun h9 => absurd h9 (by decide +kernel), fun _ => P0_2828⟩), (ZWM.keep (ZWM.keep (ZWM.keep (ZWM.keep (ZWM.keep (ZWM.keep (ZWM.keep ZW m_2 (by decide) (by decide) (by decide) (by decide)) (dg_sm.uf (WF := []) (WA := [24]) dg_sm.rf e_1832 sM_24 (by decide)) (by decide) (by decide) (by decide) (by decide)) m_2724 (by decide) (by decide) (by decide) (by decide)) m_2728 (by decide) (by decide) (by decide) (by decide)) m_2783 (by decide) (by decide) (by decide) (by decide)) m_2811 (by decide) (by decide) (by decide) (by decide)) (dg_sm.uf (WF := []) (WA := [25]) dg_sm.rf e_2828 sM_25 (by decide)) (by decide) (by decide) (by decide) (by decide)), trivial⟩ dX12_operand_312
                  refine lv_if_eq (tgt := 232) hx hb dX12_operand_224 (by decide) (fun c_2833 => ?_) (fun c_2833 => ?_)
                  · have jc_2833 := dk_eqc (k := 0) (by decide +kernel) c_2833
                    refine lv_aload_n hx hb dX12_operand_232 rfl (lv_at hl 2 rfl) ?_
                    refine lv_ldc2 hx hb hown (hts _ (bw_mem wB_1170)) dX12_operand_233 ?_
                    refine dg_calli hS hA1 hA (va_runV (As := [.long 7168376]) (rest := []) F (c_m_isWord l g D o S_1832 7168376 sg (((dg_uf_F e_1832 0 3).trans (m_2.1 0 3 _ sM_0 (by decide))).trans f_sg) (by omega) I_1832 H.size) (cwV 1 hts (bw_V wB_1141 wB_1142 wB_1143 wB_857 wB_1140) rfl rfl rfl (by decide +kernel) ⟨Nat.le_of_ble_eq_true rfl, Nat.le_of_ble_eq_true rfl⟩) (dg_preV sM_0 rfl K ST hP hS hA1 hA) rfl rfl hl.1 rfl (lv_room (Nat.le_of_ble_eq_true rfl)) dX12_operand_236 ⟨Nat.le_of_ble_eq_true rfl, Nat.le_of_ble_eq_true rfl⟩) (fun x_2834 S_2835 hw_2835 H locs hP hS => ?_)
                    rw [hw_2835.1] at hP
                    obtain ⟨hq_2835, w_2835_0, w_2835_1, -⟩ := hw_2835
                    have w_2835_0 : 0 ≤ (x_2834).toInt ∧ (x_2834).toInt ≤ 1 := w_2835_0
                    have w_2835_1 : (x_2834).toInt = 1 → (sg).toInt = 1 := w_2835_1
                    refine lv_if_eq (tgt := 247) hx hb dX12_operand_239 (by decide) (fun c_2836 => ?_) (fun c_2836 => ?_)
                    · have jc_2836 := dk_eqc (k := 0) (by decide +kernel) c_2836
                      refine lv_bipush (v := 44) hx hb dX12_operand_247 (by decide +kernel) ?_
                      have hz_2837 : (44 : Int32).toInt = 44 := by decide +kernel
                      have hz_2838 : (44 : Int32).toInt = 44 := by decide +kernel
                      exact J_2723 44 (by decide +kernel) (by omega) _ _ hP hS _ (lv_sub hl [0, 1, 2] rfl)
                    · have jc_2836 := dk_neqc (k := 0) (by decide +kernel) c_2836
                      refine lv_bipush (v := 37) hx hb dX12_operand_242 (by decide +kernel) ?_
                      refine lv_goto (tgt := 249) hx hb dX12_operand_244 (by decide) ?_
                      have hz_2839 : (37 : Int32).toInt = 37 := by decide +kernel
                      have hz_2840 : (37 : Int32).toInt = 37 := by decide +kernel
                      exact J_2723 37 (by decide +kernel) (by omega) _ _ hP hS _ (lv_sub hl [0, 1, 2] rfl)
                  · have jc_2833 := dk_neqc (k := 0) (by decide +kernel) c_2833
                    refine lv_bipush (v := 36) hx hb dX12_operand_227 (by decide +kernel) ?_
                    refine lv_goto (tgt := 249) hx hb dX12_operand_229 (by decide) ?_
                    have hz_2841 : (36 : Int32).toInt = 36 := by decide +kernel
                    have hz_2842 : (36 : Int32).toInt = 36 := by decide +kernel
                    exact J_2723 36 (by decide +kernel) (by omega) _ _ hP hS _ (lv_sub hl [0, 1, 2] rfl)
                refine lv_if_ne (tgt := 217) hx hb dX12_operand_194 (by decide) (fun c_2843 => ?_) (fun c_2843 => ?_)
                · have jc_2843 := dk_neqc (k := 0) (by decide +kernel) c_2843
                  exact J_2606  (by omega) _ _ hP hS _ (lv_sub hl [0, 1, 2] rfl)
                · have jc_2843 := dk_eqc (k := 0) (by decide +kernel) c_2843
                  refine lv_aload_n hx hb dX12_operand_197 rfl (lv_at hl 2 rfl) ?_
                  refine lv_ldc2 hx hb hown (hts _ (bw_mem wB_1170)) dX12_operand_198 ?_
                  refine dg_calli hS hA1 hA (va_runV (As := [.long 7168376]) (rest := []) F (c_m_isWord l g D o S_1832 7168376 sg (((dg_uf_F e_1832 0 3).trans (m_2.1 0 3 _ sM_0 (by decide))).trans f_sg) (by omega) I_1832 H.size) (cwV 1 hts (bw_V wB_1141 wB_1142 wB_1143 wB_857 wB_1140) rfl rfl rfl (by decide +kernel) ⟨Nat.le_of_ble_eq_true rfl, Nat.le_of_ble_eq_true rfl⟩) (dg_preV sM_0 rfl K ST hP hS hA1 hA) rfl rfl hl.1 rfl (lv_room (Nat.le_of_ble_eq_true rfl)) dX12_operand_201 ⟨Nat.le_of_ble_eq_true rfl, Nat.le_of_ble_eq_true rfl⟩) (fun x_2844 S_2845 hw_2845 H locs hP hS => ?_)
                  rw [hw_2845.1] at hP
                  obtain ⟨hq_2845, w_2845_0, w_2845_1, -⟩ := hw_2845
                  have w_2845_0 : 0 ≤ (x_2844).toInt ∧ (x_2844).toInt ≤ 1 := w_2845_0
                  have w_2845_1 : (x_2844).toInt = 1 → (sg).toInt = 1 := w_2845_1
                  refine lv_if_ne (tgt := 217) hx hb dX12_operand_204 (by decide) (fun c_2846 => ?_) (fun c_2846 => ?_)
                  · have jc_2846 := dk_neqc (k := 0) (by decide +kernel) c_2846
                    exact J_2606  (by omega) _ _ hP hS _ (lv_sub hl [0, 1, 2] rfl)
                  · have jc_2846 := dk_eqc (k := 0) (by decide +kernel) c_2846
                    refine lv_aload_n hx hb dX12_operand_207 rfl (lv_at hl 2 rfl) ?_
                    refine lv_ldc2 hx hb hown (hts _ (bw_mem wB_1164)) dX12_operand_208 ?_
                    refine dg_calli hS hA1 hA (va_runV (As := [.long 26982]) (rest := []) F (c_m_isWord l g D o S_1832 26982 sg (((dg_uf_F e_1832 0 3).trans (m_2.1 0 3 _ sM_0 (by decide))).trans f_sg) (by omega) I_1832 H.size) (cwV 1 hts (bw_V wB_1141 wB_1142 wB_1143 wB_857 wB_1140) rfl rfl rfl (by decide +kernel) ⟨Nat.le_of_ble_eq_true rfl, Nat.le_of_ble_eq_true rfl⟩) (dg_preV sM_0 rfl K ST hP hS hA1 hA) rfl rfl hl.1 rfl (lv_room (Nat.le_of_ble_eq_true rfl)) dX12_operand_211 ⟨Nat.le_of_ble_eq_true rfl, Nat.le_of_ble_eq_true rfl⟩) (fun x_2847 S_2848 hw_2848 H locs hP hS => ?_)
                    rw [hw_2848.1] at hP
                    obtain ⟨hq_2848, w_2848_0, w_2848_1, -⟩ := hw_2848
                    have w_2848_0 : 0 ≤ (x_2847).toInt ∧ (x_2847).toInt ≤ 1 := w_2848_0
                    have w_2848_1 : (x_2847).toInt = 1 → (sg).toInt = 1 := w_2848_1
                    refine lv_if_eq (tgt := 313) hx hb dX12_operand_214 (by decide) (fun c_2849 => ?_) (fun c_2849 => ?_)
                    · have jc_2849 := dk_eqc (k := 0) (by decide +kernel) c_2849
                      refine lv_aload_n hx hb dX12_operand_313 rfl (lv_at hl 2 rfl) ?_
                      refine dg_get (C := RX12) (T := TX12) (N := 77) hx hb hts (fun w h => bw_mem (wU_X12 w h)) hown K hP sM_0 rfl 3 (by decide) (hts _ (bw_mem wB_1116)) (fun _ h9 => h9) (v := .int sg) (((dg_uf_F e_1832 0 3).trans (m_2.1 0 3 _ sM_0 (by decide))).trans f_sg) dX12_operand_314 ?_
                      refine lv_iconst (v := 2) hx hb dX12_operand_317 (by decide +kernel) ?_
                      have J_2968 : ∀ (x_2869 : Int32), ((-1) ≤ (x_2869).toInt ∧ (x_2869).toInt ≤ 6) → ((x_2869 : Int32).toInt ≠ -1 → (sg).toInt ≠ 0) → ∀ (H : Heap) (locs : List Loc), va_P D vwCl (dg_w g shM o rfM S_1832) H → va_S A s.heap H locs → ∀ ls : Array Slot, lv_has ls 4 [(2, .int 0), (1, .int x_5), (0, .ref (o + 0))] → W p l e ({ frames := 4, cells := 0, slots := 0, locals := 98 } : Room) s m args below meth c H locs 0 0 (MQ below (va_Qi (fun (r : Int32) S' => CM o S' ∧ dg_sm shM [(0, 3), (0, 4), (0, 5), (0, 6), (0, 7), (0, 8), (0, 9), (0, 12), (0, 34), (0, 42), (0, 43), (0, 45)] [18, 19, 22, 23, 24, 25, 26, 27] S S' ∧ (0 ≤ (r).toInt ∧ (r).toInt ≤ 1) ∧ (∃ y9_3 y9_4 y9_5 y9_8 y9_34 y9_42 y9_45 : Int32, S'.1 0 3 = .int y9_3 ∧ S'.1 0 4 = .int y9_4 ∧ S'.1 0 5 = .int y9_5 ∧ S'.1 0 8 = .int y9_8 ∧ S'.1 0 34 = .int y9_34 ∧ S'.1 0 42 = .int y9_42 ∧ S'.1 0 45 = .int y9_45 ∧ (((y9_4).toInt ≤ (y9_5).toInt ∧ (y9_5).toInt ≤ (sl).toInt ∧ ((y9_3).toInt ≠ 0 → (y9_4).toInt + 1 ≤ (y9_5).toInt)) ∧ (sa).toInt ≤ (y9_4).toInt ∧ ((fk).toInt ≠ 0 → (y9_8).toInt ≠ 0) ∧ (((y9_8).toInt = 0 → (sa).toInt + 1 ≤ (y9_4).toInt) ∧ ((y9_8).toInt = 0 → (y9_34).toInt + (y9_45).toInt + (y9_42).toInt ≤ (y9_4).toInt)))) ∧ (∀ k9 : Int32, S'.1 0 8 = .int k9 → k9.toInt = 0 → ((r).toInt = 1 → P1M S') ∧ ((r).toInt = 0 → P0M S')) ∧ ZWM S' ∧ True) (dg_B g D shM o rfM) A) args s 0 0 A) (F0 m 411 ls [.int x_2869]) := by
                        intro x_2869 b_x_2869 rel_0 H locs hP hS ls hl
                        refine lv_istore_n (lv' := [(3, .int x_2869), (2, .int 0), (1, .int x_5), (0, .ref (o + 0))]) hx hb dX12_operand_411 rfl hl (by decide) rfl (fun ls hl => ?_)
                        refine lv_iload_n hx hb dX12_operand_412 rfl (lv_at hl 0 rfl) ?_
                        refine lv_iconst (v := 4) hx hb dX12_operand_413 (by decide +kernel) ?_
                        refine lv_icmp_lt (tgt := 444) hx hb dX12_operand_414 (by decide) (fun c_2969 => ?_) (fun c_2969 => ?_)
                        · have jc_2969 := dk_ltc (k := 4) (by decide +kernel) c_2969
                          refine lv_iload_n hx hb dX12_operand_444 rfl (lv_at hl 0 rfl) ?_
                          refine lv_iconst (v := (-1)) hx hb dX12_operand_445 (by decide +kernel) ?_
                          refine lv_icmp_ne (tgt := 458) hx hb dX12_operand_446 (by decide) (fun c_2970 => ?_) (fun c_2970 => ?_)
                          · have jc_2970 := dk_neqc (k := (-1)) (by decide +kernel) c_2970
                            refine lv_aload_n hx hb dX12_operand_458 rfl (lv_at hl 3 rfl) ?_
                            refine dg_get (C := RX12) (T := TX12) (N := 77) hx hb hts (fun w h => bw_mem (wU_X12 w h)) hown K hP sM_0 rfl 8 (by decide) (hts _ (bw_mem wB_1109)) (fun _ h9 => h9) (v := .int y_3) ((dg_uf_F e_1832 0 8).trans f_y_3) dX12_operand_459 ?_
                            refine lv_if_le (tgt := 467) hx hb dX12_operand_462 (by decide) (fun _ => ?_) (fun c => absurd (dk_lep (k := 0) (by decide +kernel) (by omega)) c)
                            refine lv_aload_n hx hb dX12_operand_467 rfl (lv_at hl 3 rfl) ?_
                            refine lv_iload_n hx hb dX12_operand_468 rfl (lv_at hl 0 rfl) ?_
                            refine lv_aload_n hx hb dX12_operand_469 rfl (lv_at hl 3 rfl) ?_
                            refine dg_get (C := RX12) (T := TX12) (N := 77) hx hb hts (fun w h => bw_mem (wU_X12 w h)) hown K hP sM_0 rfl 6 (by decide) (hts _ (bw_mem wB_1117)) (fun _ h9 => h9) (v := .int va) (((dg_uf_F e_1832 0 6).trans (m_2.1 0 6 _ sM_0 (by decide))).trans f_va) dX12_operand_470 ?_
                            refine dg_callv hS hA1 hA (va_runV (As := [.int x_2869, .int va]) (rest := []) F (c_m_add l g D o S_1832 x_2869 (by omega) va cd (((dg_uf_F e_1832 0 34).trans (m_2.1 0 34 _ sM_0 (by decide))).trans f_cd) (by omega) (ZWM.keep (ZWM.keep ZW m_2 (by decide) (by decide) (by decide) (by decide)) (dg_sm.uf (WF := []) (WA := [24]) dg_sm.rf e_1832 sM_24 (by decide)) (by decide) (by decide) (by decide) (by decide)) (ZKM.keep (ZKM.keep ZK m_2 (by decide) (by decide)) (dg_sm.uf (WF := []) (WA := [24]) dg_sm.rf e_1832 sM_24 (by decide)) (by decide) (by decide)) I_1832 H.size) (cwV 2 hts (bw_V wB_1185 wB_1186 wB_1187 wB_857 wB_1184) rfl rfl rfl (by decide +kernel) ⟨Nat.le_of_ble_eq_true rfl, Nat.le_of_ble_eq_true rfl⟩) (dg_preV sM_0 rfl K ST hP hS hA1 hA) rfl rfl hl.1 rfl (lv_room (Nat.le_of_ble_eq_true rfl)) dX12_operand_473 ⟨Nat.le_of_ble_eq_true rfl, Nat.le_of_ble_eq_true rfl⟩) (fun S_2971 hw_2971 H locs hP hS => ?_)
                            obtain ⟨I_2971, m_2971, w_2971_0, w_2971_1, w_2971_2, -⟩ := hw_2971
                            have M_2971 := dg_sm.tr M_1832 m_2971 (by decide) (by decide)
                            obtain ⟨y_2972, f_y_2972, w_2971_0⟩ := w_2971_0
                            have w_2971_0 : (y_2972).toInt = (cd).toInt + 1 := w_2971_0
                            have b_y_2972 : 0 ≤ (y_2972).toInt ∧ (y_2972).toInt ≤ 1600 := dg_I.intb (lo := 0) (hi := 1600) I_2971 sM_0 (by decide +kernel) f_y_2972
                            have w_2971_1 : ADM S_1832 S_2971 x_2869 := w_2971_1
                            have P1_2971 : P1M S_2971 := PBM.leaf PB_1832 (((dg_uf_F e_1832 0 42).trans (m_2.1 0 42 _ sM_0 (by decide))).trans f_dp) (((dg_uf_F e_1832 0 43).trans (m_2.1 0 43 _ sM_0 (by decide))).trans f_on) (((dg_uf_F e_1832 0 45).trans (m_2.1 0 45 _ sM_0 (by decide))).trans f_om) m_2971 w_2971_1 (by omega)
                            refine lv_aload_n hx hb dX12_operand_476 rfl (lv_at hl 3 rfl) ?_
                            refine dg_callv hS hA1 hA (va_runV (As := []) (rest := []) F (c_m_ahead l g D o S_2971 se (((m_2971.1 0 5 _ sM_0 (by decide)).trans ((dg_uf_F e_1832 0 5).trans (m_2.1 0 5 _ sM_0 (by decide)))).trans f_se) (by omega) sl (((m_2971.1 0 2 _ sM_0 (by decide)).trans ((dg_uf_F e_1832 0 2).trans (m_2.1 0 2 _ sM_0 (by decide)))).trans f_sl) (by omega) (by omega) I_2971 H.size) (cwV 0 hts (bw_V wB_1137 wB_1138 wB_1139 wB_857 wB_1136) rfl rfl rfl (by decide +kernel) ⟨Nat.le_of_ble_eq_true rfl, Nat.le_of_ble_eq_true rfl⟩) (dg_preV sM_0 rfl K ST hP hS hA1 hA) rfl rfl hl.1 rfl (lv_room (Nat.le_of_ble_eq_true rfl)) dX12_operand_477 ⟨Nat.le_of_ble_eq_true rfl, Nat.le_of_ble_eq_true rfl⟩) (fun S_2973 hw_2973 H locs hP hS => ?_)
                            obtain ⟨I_2973, m_2973, w_2973_0, -⟩ := hw_2973
                            have M_2973 := dg_sm.tr M_2971 m_2973 (by decide) (by decide)
                            obtain ⟨y_2974, y_2975, y_2976, f_y_2974, f_y_2975, f_y_2976, w_2973_0⟩ := w_2973_0
                            have w_2973_0 : (se).toInt ≤ (y_2975).toInt ∧ (y_2975).toInt ≤ (y_2976).toInt ∧ (y_2976).toInt ≤ (sl).toInt ∧ ((y_2974).toInt ≠ 0 → (y_2975).toInt + 1 ≤ (y_2976).toInt) := w_2973_0
                            have b_y_2974 : 0 ≤ (y_2974).toInt ∧ (y_2974).toInt ≤ 3 := dg_I.intb (lo := 0) (hi := 3) I_2973 sM_0 (by decide +kernel) f_y_2974
                            have b_y_2975 : 0 ≤ (y_2975).toInt ∧ (y_2975).toInt ≤ 1600 := dg_I.intb (lo := 0) (hi := 1600) I_2973 sM_0 (by decide +kernel) f_y_2975
                            have b_y_2976 : 0 ≤ (y_2976).toInt ∧ (y_2976).toInt ≤ 1600 := dg_I.intb (lo := 0) (hi := 1600) I_2973 sM_0 (by decide +kernel) f_y_2976
                            refine lv_iconst (v := 1) hx hb dX12_operand_480 (by decide +kernel) ?_
                            have hz_2977 : (1 : Int32).toInt = 1 := by decide +kernel
                            have hz_2978 : (1 : Int32).toInt = 1 := by decide +kernel
                            have hz_2979 : (1 : Int32).toInt = 1 := by decide +kernel
                            have hz_2980 : (1 : Int32).toInt = 1 := by decide +kernel
                            refine W.widen (k := 0) (n := 0) (Nat.le_of_ble_eq_true rfl) (Nat.le_of_ble_eq_true rfl) ?_
                            exact dg_iret hx hb hr hlocks (by decide +kernel) hP hS ⟨I_2973, M_2973, (by decide +kernel), ⟨y_2974, y_2975, y_2976, y_3, y_2972, dp, om, f_y_2974, f_y_2975, f_y_2976, (((m_2973.1 0 8 _ sM_0 (by decide)).trans ((m_2971.1 0 8 _ sM_0 (by decide)).trans (dg_uf_F e_1832 0 8))).trans f_y_3), ((m_2973.1 0 34 _ sM_0 (by decide)).trans f_y_2972), (((m_2973.1 0 42 _ sM_0 (by decide)).trans ((m_2971.1 0 42 _ sM_0 (by decide)).trans ((dg_uf_F e_1832 0 42).trans (m_2.1 0 42 _ sM_0 (by decide))))).trans f_dp), (((m_2973.1 0 45 _ sM_0 (by decide)).trans ((m_2971.1 0 45 _ sM_0 (by decide)).trans ((dg_uf_F e_1832 0 45).trans (m_2.1 0 45 _ sM_0 (by decide))))).trans f_om), (by omega)⟩, (fun k9 hk9 hk0 => ⟨fun _ => (P1M.keep P1_2971 m_2973 (by decide) (by decide) (by decide) (by decide) (by decide) (by decide) (by decide) (by decide) (by decide) (by decide) (by decide) (by decide) (by decide) (by decide) (by decide)), fun h9 => absurd h9 (by decide +kernel)⟩), (ZWM.keep w_2971_2 m_2973 (by decide) (by decide) (by decide) (by decide)), trivial⟩ dX12_operand_481
                          · have jc_2970 := dk_eqc (k := (-1)) (by decide +kernel) c_2970
                            refine lv_aload_n hx hb dX12_operand_449 rfl (lv_at hl 3 rfl) ?_
                            refine lv_iconst (v := 1) hx hb dX12_operand_450 (by decide +kernel) ?_
                            refine lv_aload_n hx hb dX12_operand_451 rfl (lv_at hl 3 rfl) ?_
                            refine dg_get (C := RX12) (T := TX12) (N := 77) hx hb hts (fun w h => bw_mem (wU_X12 w h)) hown K hP sM_0 rfl 4 (by decide) (hts _ (bw_mem wB_1121)) (fun _ h9 => h9) (v := .int sa) (((dg_uf_F e_1832 0 4).trans (m_2.1 0 4 _ sM_0 (by decide))).trans f_sa) dX12_operand_452 ?_
                            have hz_2981 : (1 : Int32).toInt = 1 := by decide +kernel
                            refine dg_callv hS hA1 hA (va_runV (As := [.int 1, .int sa]) (rest := []) F (c_m_blame l g D o S_1832 1 (by decide +kernel) sa y_3 ((dg_uf_F e_1832 0 8).trans f_y_3) (by omega) I_1832 H.size) (cwV 2 hts (bw_V wB_1113 wB_1114 wB_1115 wB_857 wB_1112) rfl rfl rfl (by decide +kernel) ⟨Nat.le_of_ble_eq_true rfl, Nat.le_of_ble_eq_true rfl⟩) (dg_preV sM_0 rfl K ST hP hS hA1 hA) rfl rfl hl.1 rfl (lv_room (Nat.le_of_ble_eq_true rfl)) dX12_operand_455 ⟨Nat.le_of_ble_eq_true rfl, Nat.le_of_ble_eq_true rfl⟩) (fun S_2982 hw_2982 H locs hP hS => ?_)
                            obtain ⟨I_2982, m_2982, w_2982_0, -⟩ := hw_2982
                            have M_2982 := dg_sm.tr M_1832 m_2982 (by decide) (by decide)
                            have hz_2983 : (1 : Int32).toInt = 1 := by decide +kernel
                            obtain ⟨y_2984, f_y_2984, w_2982_0⟩ := w_2982_0
                            have w_2982_0 : ((y_3).toInt ≠ 0 → (y_2984).toInt = (y_3).toInt) ∧ ((y_3).toInt = 0 → (y_2984).toInt = ((1 : Int32)).toInt) := w_2982_0
                            have b_y_2984 : 0 ≤ (y_2984).toInt ∧ (y_2984).toInt ≤ 6 := dg_I.intb (lo := 0) (hi := 6) I_2982 sM_0 (by decide +kernel) f_y_2984
                            refine lv_aload_n hx hb dX12_operand_458 rfl (lv_at hl 3 rfl) ?_
                            refine dg_get (C := RX12) (T := TX12) (N := 77) hx hb hts (fun w h => bw_mem (wU_X12 w h)) hown K hP sM_0 rfl 8 (by decide) (hts _ (bw_mem wB_1109)) (fun _ h9 => h9) (v := .int y_2984) f_y_2984 dX12_operand_459 ?_
                            refine lv_if_le (tgt := 467) hx hb dX12_operand_462 (by decide) (fun c_2985 => ?_) (fun c_2985 => ?_)
                            · have jc_2985 := dk_lec (k := 0) (by decide +kernel) c_2985
                              refine lv_aload_n hx hb dX12_operand_467 rfl (lv_at hl 3 rfl) ?_
                              refine lv_iload_n hx hb dX12_operand_468 rfl (lv_at hl 0 rfl) ?_
                              refine lv_aload_n hx hb dX12_operand_469 rfl (lv_at hl 3 rfl) ?_
                              refine dg_get (C := RX12) (T := TX12) (N := 77) hx hb hts (fun w h => bw_mem (wU_X12 w h)) hown K hP sM_0 rfl 6 (by decide) (hts _ (bw_mem wB_1117)) (fun _ h9 => h9) (v := .int va) (((m_2982.1 0 6 _ sM_0 (by decide)).trans ((dg_uf_F e_1832 0 6).trans (m_2.1 0 6 _ sM_0 (by decide)))).trans f_va) dX12_operand_470 ?_
                              refine dg_callv hS hA1 hA (va_runV (As := [.int x_2869, .int va]) (rest := []) F (c_m_add l g D o S_2982 x_2869 (by omega) va cd (((m_2982.1 0 34 _ sM_0 (by decide)).trans ((dg_uf_F e_1832 0 34).trans (m_2.1 0 34 _ sM_0 (by decide)))).trans f_cd) (by omega) (ZWM.keep (ZWM.keep (ZWM.keep ZW m_2 (by decide) (by decide) (by decide) (by decide)) (dg_sm.uf (WF := []) (WA := [24]) dg_sm.rf e_1832 sM_24 (by decide)) (by decide) (by decide) (by decide) (by decide)) m_2982 (by decide) (by decide) (by decide) (by decide)) (ZKM.keep (ZKM.keep (ZKM.keep ZK m_2 (by decide) (by decide)) (dg_sm.uf (WF := []) (WA := [24]) dg_sm.rf e_1832 sM_24 (by decide)) (by decide) (by decide)) m_2982 (by decide) (by decide)) I_2982 H.size) (cwV 2 hts (bw_V wB_1185 wB_1186 wB_1187 wB_857 wB_1184) rfl rfl rfl (by decide +kernel) ⟨Nat.le_of_ble_eq_true rfl, Nat.le_of_ble_eq_true rfl⟩) (dg_preV sM_0 rfl K ST hP hS hA1 hA) rfl rfl hl.1 rfl (lv_room (Nat.le_of_ble_eq_true rfl)) dX12_operand_473 ⟨Nat.le_of_ble_eq_true rfl, Nat.le_of_ble_eq_true rfl⟩) (fun S_2986 hw_2986 H locs hP hS => ?_)
                              obtain ⟨I_2986, m_2986, w_2986_0, w_2986_1, w_2986_2, -⟩ := hw_2986
                              have M_2986 := dg_sm.tr M_2982 m_2986 (by decide) (by decide)
                              obtain ⟨y_2987, f_y_2987, w_2986_0⟩ := w_2986_0
                              have w_2986_0 : (y_2987).toInt = (cd).toInt + 1 := w_2986_0
                              have b_y_2987 : 0 ≤ (y_2987).toInt ∧ (y_2987).toInt ≤ 1600 := dg_I.intb (lo := 0) (hi := 1600) I_2986 sM_0 (by decide +kernel) f_y_2987
                              have w_2986_1 : ADM S_2982 S_2986 x_2869 := w_2986_1
                              have P1_2986 : P1M S_2986 := PBM.leaf (PBM.keep PB_1832 m_2982 (by decide) (by decide) (by decide) (by decide) (by decide) (by decide) (by decide) (by decide) (by decide) (by decide) (by decide) (by decide) (by decide) (by decide) (by decide)) (((m_2982.1 0 42 _ sM_0 (by decide)).trans ((dg_uf_F e_1832 0 42).trans (m_2.1 0 42 _ sM_0 (by decide)))).trans f_dp) (((m_2982.1 0 43 _ sM_0 (by decide)).trans ((dg_uf_F e_1832 0 43).trans (m_2.1 0 43 _ sM_0 (by decide)))).trans f_on) (((m_2982.1 0 45 _ sM_0 (by decide)).trans ((dg_uf_F e_1832 0 45).trans (m_2.1 0 45 _ sM_0 (by decide)))).trans f_om) m_2986 w_2986_1 (by omega)
                              refine lv_aload_n hx hb dX12_operand_476 rfl (lv_at hl 3 rfl) ?_
                              refine dg_callv hS hA1 hA (va_runV (As := []) (rest := []) F (c_m_ahead l g D o S_2986 se (((m_2986.1 0 5 _ sM_0 (by decide)).trans ((m_2982.1 0 5 _ sM_0 (by decide)).trans ((dg_uf_F e_1832 0 5).trans (m_2.1 0 5 _ sM_0 (by decide))))).trans f_se) (by omega) sl (((m_2986.1 0 2 _ sM_0 (by decide)).trans ((m_2982.1 0 2 _ sM_0 (by decide)).trans ((dg_uf_F e_1832 0 2).trans (m_2.1 0 2 _ sM_0 (by decide))))).trans f_sl) (by omega) (by omega) I_2986 H.size) (cwV 0 hts (bw_V wB_1137 wB_1138 wB_1139 wB_857 wB_1136) rfl rfl rfl (by decide +kernel) ⟨Nat.le_of_ble_eq_true rfl, Nat.le_of_ble_eq_true rfl⟩) (dg_preV sM_0 rfl K ST hP hS hA1 hA) rfl rfl hl.1 rfl (lv_room (Nat.le_of_ble_eq_true rfl)) dX12_operand_477 ⟨Nat.le_of_ble_eq_true rfl, Nat.le_of_ble_eq_true rfl⟩) (fun S_2988 hw_2988 H locs hP hS => ?_)
                              obtain ⟨I_2988, m_2988, w_2988_0, -⟩ := hw_2988
                              have M_2988 := dg_sm.tr M_2986 m_2988 (by decide) (by decide)
                              obtain ⟨y_2989, y_2990, y_2991, f_y_2989, f_y_2990, f_y_2991, w_2988_0⟩ := w_2988_0
                              have w_2988_0 : (se).toInt ≤ (y_2990).toInt ∧ (y_2990).toInt ≤ (y_2991).toInt ∧ (y_2991).toInt ≤ (sl).toInt ∧ ((y_2989).toInt ≠ 0 → (y_2990).toInt + 1 ≤ (y_2991).toInt) := w_2988_0
                              have b_y_2989 : 0 ≤ (y_2989).toInt ∧ (y_2989).toInt ≤ 3 := dg_I.intb (lo := 0) (hi := 3) I_2988 sM_0 (by decide +kernel) f_y_2989
                              have b_y_2990 : 0 ≤ (y_2990).toInt ∧ (y_2990).toInt ≤ 1600 := dg_I.intb (lo := 0) (hi := 1600) I_2988 sM_0 (by decide +kernel) f_y_2990
                              have b_y_2991 : 0 ≤ (y_2991).toInt ∧ (y_2991).toInt ≤ 1600 := dg_I.intb (lo := 0) (hi := 1600) I_2988 sM_0 (by decide +kernel) f_y_2991
                              refine lv_iconst (v := 1) hx hb dX12_operand_480 (by decide +kernel) ?_
                              have hz_2992 : (1 : Int32).toInt = 1 := by decide +kernel
                              have hz_2993 : (1 : Int32).toInt = 1 := by decide +kernel
                              have hz_2994 : (1 : Int32).toInt = 1 := by decide +kernel
                              have hz_2995 : (1 : Int32).toInt = 1 := by decide +kernel
                              refine W.widen (k := 0) (n := 0) (Nat.le_of_ble_eq_true rfl) (Nat.le_of_ble_eq_true rfl) ?_
                              exact dg_iret hx hb hr hlocks (by decide +kernel) hP hS ⟨I_2988, M_2988, (by decide +kernel), ⟨y_2989, y_2990, y_2991, y_2984, y_2987, dp, om, f_y_2989, f_y_2990, f_y_2991, (((m_2988.1 0 8 _ sM_0 (by decide)).trans (m_2986.1 0 8 _ sM_0 (by decide))).trans f_y_2984), ((m_2988.1 0 34 _ sM_0 (by decide)).trans f_y_2987), (((m_2988.1 0 42 _ sM_0 (by decide)).trans ((m_2986.1 0 42 _ sM_0 (by decide)).trans ((m_2982.1 0 42 _ sM_0 (by decide)).trans ((dg_uf_F e_1832 0 42).trans (m_2.1 0 42 _ sM_0 (by decide)))))).trans f_dp), (((m_2988.1 0 45 _ sM_0 (by decide)).trans ((m_2986.1 0 45 _ sM_0 (by decide)).trans ((m_2982.1 0 45 _ sM_0 (by decide)).trans ((dg_uf_F e_1832 0 45).trans (m_2.1 0 45 _ sM_0 (by decide)))))).trans f_om), (by omega)⟩, (fun k9 hk9 hk0 => ⟨fun _ => (P1M.keep P1_2986 m_2988 (by decide) (by decide) (by decide) (by decide) (by decide) (by decide) (by decide) (by decide) (by decide) (by decide) (by decide) (by decide) (by decide) (by decide) (by decide)), fun h9 => absurd h9 (by decide +kernel)⟩), (ZWM.keep w_2986_2 m_2988 (by decide) (by decide) (by decide) (by decide)), trivial⟩ dX12_operand_481
                            · have jc_2985 := dk_nlec (k := 0) (by decide +kernel) c_2985
                              refine lv_iconst (v := 1) hx hb dX12_operand_465 (by decide +kernel) ?_
                              have hz_2996 : (1 : Int32).toInt = 1 := by decide +kernel
                              have hz_2997 : (1 : Int32).toInt = 1 := by decide +kernel
                              have hz_2998 : (1 : Int32).toInt = 1 := by decide +kernel
                              have hz_2999 : (1 : Int32).toInt = 1 := by decide +kernel
                              refine W.widen (k := 0) (n := 0) (Nat.le_of_ble_eq_true rfl) (Nat.le_of_ble_eq_true rfl) ?_
                              exact dg_iret hx hb hr hlocks (by decide +kernel) hP hS ⟨I_2982, M_2982, (by decide +kernel), ⟨sg, sa, se, y_2984, cd, dp, om, (((m_2982.1 0 3 _ sM_0 (by decide)).trans ((dg_uf_F e_1832 0 3).trans (m_2.1 0 3 _ sM_0 (by decide)))).trans f_sg), (((m_2982.1 0 4 _ sM_0 (by decide)).trans ((dg_uf_F e_1832 0 4).trans (m_2.1 0 4 _ sM_0 (by decide)))).trans f_sa), (((m_2982.1 0 5 _ sM_0 (by decide)).trans ((dg_uf_F e_1832 0 5).trans (m_2.1 0 5 _ sM_0 (by decide)))).trans f_se), f_y_2984, (((m_2982.1 0 34 _ sM_0 (by decide)).trans ((dg_uf_F e_1832 0 34).trans (m_2.1 0 34 _ sM_0 (by decide)))).trans f_cd), (((m_2982.1 0 42 _ sM_0 (by decide)).trans ((dg_uf_F e_1832 0 42).trans (m_2.1 0 42 _ sM_0 (by decide)))).trans f_dp), (((m_2982.1 0 45 _ sM_0 (by decide)).trans ((dg_uf_F e_1832 0 45).trans (m_2.1 0 45 _ sM_0 (by decide)))).trans f_om), (by omega)⟩, (fun k9 hk9 hk0 => by have q9 := (f_y_2984).symm.trans hk9; cases q9; omega), (ZWM.keep (ZWM.keep (ZWM.keep ZW m_2 (by decide) (by decide) (by decide) (by decide)) (dg_sm.uf (WF := []) (WA := [24]) dg_sm.rf e_1832 sM_24 (by decide)) (by decide) (by decide) (by decide) (by decide)) m_2982 (by decide) (by decide) (by decide) (by decide)), trivial⟩ dX12_operand_466
                        · have jc_2969 := dk_nltc (k := 4) (by decide +kernel) c_2969
                          refine lv_iload_n hx hb dX12_operand_417 rfl (lv_at hl 0 rfl) ?_
                          refine lv_iconst (v := 4) hx hb dX12_operand_418 (by decide +kernel) ?_
                          refine lv_icmp_ne (tgt := 426) hx hb dX12_operand_419 (by decide) (fun c_3000 => ?_) (fun c_3000 => ?_)
                          · have jc_3000 := dk_neqc (k := 4) (by decide +kernel) c_3000
                            refine lv_iconst (v := 0) hx hb dX12_operand_426 (by decide +kernel) ?_
                            refine lv_aload_n hx hb dX12_operand_427 rfl (lv_at hl 3 rfl) ?_
                            obtain ⟨x_3001, f_x_3001, b_x_3001⟩ := dg_I.int (i := 0) (k := 36) (lo := 0) (hi := 2) I sM_0 (by decide +kernel)
                            refine dg_get (C := RX12) (T := TX12) (N := 77) hx hb hts (fun w h => bw_mem (wU_X12 w h)) hown K hP sM_0 rfl 36 (by decide) (hts _ (bw_mem wB_1199)) (fun _ h9 => h9) (v := .int x_3001) (((dg_uf_F e_1832 0 36).trans (m_2.1 0 36 _ sM_0 (by decide))).trans f_x_3001) dX12_operand_428 ?_
                            refine lv_if_ne (tgt := 438) hx hb dX12_operand_431 (by decide) (fun c_3002 => ?_) (fun c_3002 => ?_)
                            · have jc_3002 := dk_neqc (k := 0) (by decide +kernel) c_3002
                              refine lv_iconst (v := 0) hx hb dX12_operand_438 (by decide +kernel) ?_
                              refine lv_icmp_eq (tgt := 444) hx hb dX12_operand_439 (by decide) (fun _ => ?_) (fun c => absurd (by decide +kernel) c)
                              refine lv_iload_n hx hb dX12_operand_444 rfl (lv_at hl 0 rfl) ?_
                              refine lv_iconst (v := (-1)) hx hb dX12_operand_445 (by decide +kernel) ?_
                              refine lv_icmp_ne (tgt := 458) hx hb dX12_operand_446 (by decide) (fun _ => ?_) (fun c => absurd c (fun z => absurd (dk_eqc (k := (-1)) (by decide +kernel) z) (by omega)))
                              refine lv_aload_n hx hb dX12_operand_458 rfl (lv_at hl 3 rfl) ?_
                              refine dg_get (C := RX12) (T := TX12) (N := 77) hx hb hts (fun w h => bw_mem (wU_X12 w h)) hown K hP sM_0 rfl 8 (by decide) (hts _ (bw_mem wB_1109)) (fun _ h9 => h9) (v := .int y_3) ((dg_uf_F e_1832 0 8).trans f_y_3) dX12_operand_459 ?_
                              refine lv_if_le (tgt := 467) hx hb dX12_operand_462 (by decide) (fun _ => ?_) (fun c => absurd (dk_lep (k := 0) (by decide +kernel) (by omega)) c)
                              refine lv_aload_n hx hb dX12_operand_467 rfl (lv_at hl 3 rfl) ?_
                              refine lv_iload_n hx hb dX12_operand_468 rfl (lv_at hl 0 rfl) ?_
                              refine lv_aload_n hx hb dX12_operand_469 rfl (lv_at hl 3 rfl) ?_
                              refine dg_get (C := RX12) (T := TX12) (N := 77) hx hb hts (fun w h => bw_mem (wU_X12 w h)) hown K hP sM_0 rfl 6 (by decide) (hts _ (bw_mem wB_1117)) (fun _ h9 => h9) (v := .int va) (((dg_uf_F e_1832 0 6).trans (m_2.1 0 6 _ sM_0 (by decide))).trans f_va) dX12_operand_470 ?_
                              refine dg_callv hS hA1 hA (va_runV (As := [.int x_2869, .int va]) (rest := []) F (c_m_add l g D o S_1832 x_2869 (by omega) va cd (((dg_uf_F e_1832 0 34).trans (m_2.1 0 34 _ sM_0 (by decide))).trans f_cd) (by omega) (ZWM.keep (ZWM.keep ZW m_2 (by decide) (by decide) (by decide) (by decide)) (dg_sm.uf (WF := []) (WA := [24]) dg_sm.rf e_1832 sM_24 (by decide)) (by decide) (by decide) (by decide) (by decide)) (ZKM.keep (ZKM.keep ZK m_2 (by decide) (by decide)) (dg_sm.uf (WF := []) (WA := [24]) dg_sm.rf e_1832 sM_24 (by decide)) (by decide) (by decide)) I_1832 H.size) (cwV 2 hts (bw_V wB_1185 wB_1186 wB_1187 wB_857 wB_1184) rfl rfl rfl (by decide +kernel) ⟨Nat.le_of_ble_eq_true rfl, Nat.le_of_ble_eq_true rfl⟩) (dg_preV sM_0 rfl K ST hP hS hA1 hA) rfl rfl hl.1 rfl (lv_room (Nat.le_of_ble_eq_true rfl)) dX12_operand_473 ⟨Nat.le_of_ble_eq_true rfl, Nat.le_of_ble_eq_true rfl⟩) (fun S_3003 hw_3003 H locs hP hS => ?_)
                              obtain ⟨I_3003, m_3003, w_3003_0, w_3003_1, w_3003_2, -⟩ := hw_3003
                              have M_3003 := dg_sm.tr M_1832 m_3003 (by decide) (by decide)
                              obtain ⟨y_3004, f_y_3004, w_3003_0⟩ := w_3003_0
                              have w_3003_0 : (y_3004).toInt = (cd).toInt + 1 := w_3003_0
                              have b_y_3004 : 0 ≤ (y_3004).toInt ∧ (y_3004).toInt ≤ 1600 := dg_I.intb (lo := 0) (hi := 1600) I_3003 sM_0 (by decide +kernel) f_y_3004
                              have w_3003_1 : ADM S_1832 S_3003 x_2869 := w_3003_1
                              have P1_3003 : P1M S_3003 := PBM.leaf PB_1832 (((dg_uf_F e_1832 0 42).trans (m_2.1 0 42 _ sM_0 (by decide))).trans f_dp) (((dg_uf_F e_1832 0 43).trans (m_2.1 0 43 _ sM_0 (by decide))).trans f_on) (((dg_uf_F e_1832 0 45).trans (m_2.1 0 45 _ sM_0 (by decide))).trans f_om) m_3003 w_3003_1 (by omega)
                              refine lv_aload_n hx hb dX12_operand_476 rfl (lv_at hl 3 rfl) ?_
                              refine dg_callv hS hA1 hA (va_runV (As := []) (rest := []) F (c_m_ahead l g D o S_3003 se (((m_3003.1 0 5 _ sM_0 (by decide)).trans ((dg_uf_F e_1832 0 5).trans (m_2.1 0 5 _ sM_0 (by decide)))).trans f_se) (by omega) sl (((m_3003.1 0 2 _ sM_0 (by decide)).trans ((dg_uf_F e_1832 0 2).trans (m_2.1 0 2 _ sM_0 (by decide)))).trans f_sl) (by omega) (by omega) I_3003 H.size) (cwV 0 hts (bw_V wB_1137 wB_1138 wB_1139 wB_857 wB_1136) rfl rfl rfl (by decide +kernel) ⟨Nat.le_of_ble_eq_true rfl, Nat.le_of_ble_eq_true rfl⟩) (dg_preV sM_0 rfl K ST hP hS hA1 hA) rfl rfl hl.1 rfl (lv_room (Nat.le_of_ble_eq_true rfl)) dX12_operand_477 ⟨Nat.le_of_ble_eq_true rfl, Nat.le_of_ble_eq_true rfl⟩) (fun S_3005 hw_3005 H locs hP hS => ?_)
                              obtain ⟨I_3005, m_3005, w_3005_0, -⟩ := hw_3005
                              have M_3005 := dg_sm.tr M_3003 m_3005 (by decide) (by decide)
                              obtain ⟨y_3006, y_3007, y_3008, f_y_3006, f_y_3007, f_y_3008, w_3005_0⟩ := w_3005_0
                              have w_3005_0 : (se).toInt ≤ (y_3007).toInt ∧ (y_3007).toInt ≤ (y_3008).toInt ∧ (y_3008).toInt ≤ (sl).toInt ∧ ((y_3006).toInt ≠ 0 → (y_3007).toInt + 1 ≤ (y_3008).toInt) := w_3005_0
                              have b_y_3006 : 0 ≤ (y_3006).toInt ∧ (y_3006).toInt ≤ 3 := dg_I.intb (lo := 0) (hi := 3) I_3005 sM_0 (by decide +kernel) f_y_3006
                              have b_y_3007 : 0 ≤ (y_3007).toInt ∧ (y_3007).toInt ≤ 1600 := dg_I.intb (lo := 0) (hi := 1600) I_3005 sM_0 (by decide +kernel) f_y_3007
                              have b_y_3008 : 0 ≤ (y_3008).toInt ∧ (y_3008).toInt ≤ 1600 := dg_I.intb (lo := 0) (hi := 1600) I_3005 sM_0 (by decide +kernel) f_y_3008
                              refine lv_iconst (v := 1) hx hb dX12_operand_480 (by decide +kernel) ?_
                              have hz_3009 : (1 : Int32).toInt = 1 := by decide +kernel
                              have hz_3010 : (1 : Int32).toInt = 1 := by decide +kernel
                              have hz_3011 : (1 : Int32).toInt = 1 := by decide +kernel
                              have hz_3012 : (1 : Int32).toInt = 1 := by decide +kernel
                              refine W.widen (k := 0) (n := 0) (Nat.le_of_ble_eq_true rfl) (Nat.le_of_ble_eq_true rfl) ?_
                              exact dg_iret hx hb hr hlocks (by decide +kernel) hP hS ⟨I_3005, M_3005, (by decide +kernel), ⟨y_3006, y_3007, y_3008, y_3, y_3004, dp, om, f_y_3006, f_y_3007, f_y_3008, (((m_3005.1 0 8 _ sM_0 (by decide)).trans ((m_3003.1 0 8 _ sM_0 (by decide)).trans (dg_uf_F e_1832 0 8))).trans f_y_3), ((m_3005.1 0 34 _ sM_0 (by decide)).trans f_y_3004), (((m_3005.1 0 42 _ sM_0 (by decide)).trans ((m_3003.1 0 42 _ sM_0 (by decide)).trans ((dg_uf_F e_1832 0 42).trans (m_2.1 0 42 _ sM_0 (by decide))))).trans f_dp), (((m_3005.1 0 45 _ sM_0 (by decide)).trans ((m_3003.1 0 45 _ sM_0 (by decide)).trans ((dg_uf_F e_1832 0 45).trans (m_2.1 0 45 _ sM_0 (by decide))))).trans f_om), (by omega)⟩, (fun k9 hk9 hk0 => ⟨fun _ => (P1M.keep P1_3003 m_3005 (by decide) (by decide) (by decide) (by decide) (by decide) (by decide) (by decide) (by decide) (by decide) (by decide) (by decide) (by decide) (by decide) (by decide) (by decide)), fun h9 => absurd h9 (by decide +kernel)⟩), (ZWM.keep w_3003_2 m_3005 (by decide) (by decide) (by decide) (by decide)), trivial⟩ dX12_operand_481
                            · have jc_3002 := dk_eqc (k := 0) (by decide +kernel) c_3002
                              refine lv_iconst (v := 1) hx hb dX12_operand_434 (by decide +kernel) ?_
                              refine lv_goto (tgt := 439) hx hb dX12_operand_435 (by decide) ?_
                              refine lv_icmp_eq (tgt := 444) hx hb dX12_operand_439 (by decide) (fun c => absurd c (by decide +kernel)) (fun _ => ?_)
                              refine lv_iconst (v := (-1)) hx hb dX12_operand_442 (by decide +kernel) ?_
                              refine lv_istore_n (lv' := [(3, .int (-1)), (2, .int 0), (1, .int x_5), (0, .ref (o + 0))]) hx hb dX12_operand_443 rfl hl (by decide) rfl (fun ls hl => ?_)
                              refine lv_iload_n hx hb dX12_operand_444 rfl (lv_at hl 0 rfl) ?_
                              refine lv_iconst (v := (-1)) hx hb dX12_operand_445 (by decide +kernel) ?_
                              refine lv_icmp_ne (tgt := 458) hx hb dX12_operand_446 (by decide) (fun c => absurd (by decide +kernel) c) (fun _ => ?_)
                              refine lv_aload_n hx hb dX12_operand_449 rfl (lv_at hl 3 rfl) ?_
                              refine lv_iconst (v := 1) hx hb dX12_operand_450 (by decide +kernel) ?_
                              refine lv_aload_n hx hb dX12_operand_451 rfl (lv_at hl 3 rfl) ?_
                              refine dg_get (C := RX12) (T := TX12) (N := 77) hx hb hts (fun w h => bw_mem (wU_X12 w h)) hown K hP sM_0 rfl 4 (by decide) (hts _ (bw_mem wB_1121)) (fun _ h9 => h9) (v := .int sa) (((dg_uf_F e_1832 0 4).trans (m_2.1 0 4 _ sM_0 (by decide))).trans f_sa) dX12_operand_452 ?_
                              have hz_3013 : (1 : Int32).toInt = 1 := by decide +kernel
                              refine dg_callv hS hA1 hA (va_runV (As := [.int 1, .int sa]) (rest := []) F (c_m_blame l g D o S_1832 1 (by decide +kernel) sa y_3 ((dg_uf_F e_1832 0 8).trans f_y_3) (by omega) I_1832 H.size) (cwV 2 hts (bw_V wB_1113 wB_1114 wB_1115 wB_857 wB_1112) rfl rfl rfl (by decide +kernel) ⟨Nat.le_of_ble_eq_true rfl, Nat.le_of_ble_eq_true rfl⟩) (dg_preV sM_0 rfl K ST hP hS hA1 hA) rfl rfl hl.1 rfl (lv_room (Nat.le_of_ble_eq_true rfl)) dX12_operand_455 ⟨Nat.le_of_ble_eq_true rfl, Nat.le_of_ble_eq_true rfl⟩) (fun S_3014 hw_3014 H locs hP hS => ?_)
                              obtain ⟨I_3014, m_3014, w_3014_0, -⟩ := hw_3014
                              have M_3014 := dg_sm.tr M_1832 m_3014 (by decide) (by decide)
                              have hz_3015 : (1 : Int32).toInt = 1 := by decide +kernel
                              obtain ⟨y_3016, f_y_3016, w_3014_0⟩ := w_3014_0
                              have w_3014_0 : ((y_3).toInt ≠ 0 → (y_3016).toInt = (y_3).toInt) ∧ ((y_3).toInt = 0 → (y_3016).toInt = ((1 : Int32)).toInt) := w_3014_0
                              have b_y_3016 : 0 ≤ (y_3016).toInt ∧ (y_3016).toInt ≤ 6 := dg_I.intb (lo := 0) (hi := 6) I_3014 sM_0 (by decide +kernel) f_y_3016
                              refine lv_aload_n hx hb dX12_operand_458 rfl (lv_at hl 3 rfl) ?_
                              refine dg_get (C := RX12) (T := TX12) (N := 77) hx hb hts (fun w h => bw_mem (wU_X12 w h)) hown K hP sM_0 rfl 8 (by decide) (hts _ (bw_mem wB_1109)) (fun _ h9 => h9) (v := .int y_3016) f_y_3016 dX12_operand_459 ?_
                              refine lv_if_le (tgt := 467) hx hb dX12_operand_462 (by decide) (fun c_3017 => ?_) (fun c_3017 => ?_)
                              · have jc_3017 := dk_lec (k := 0) (by decide +kernel) c_3017
                                refine lv_aload_n hx hb dX12_operand_467 rfl (lv_at hl 3 rfl) ?_
                                refine lv_iload_n hx hb dX12_operand_468 rfl (lv_at hl 0 rfl) ?_
                                refine lv_aload_n hx hb dX12_operand_469 rfl (lv_at hl 3 rfl) ?_
                                refine dg_get (C := RX12) (T := TX12) (N := 77) hx hb hts (fun w h => bw_mem (wU_X12 w h)) hown K hP sM_0 rfl 6 (by decide) (hts _ (bw_mem wB_1117)) (fun _ h9 => h9) (v := .int va) (((m_3014.1 0 6 _ sM_0 (by decide)).trans ((dg_uf_F e_1832 0 6).trans (m_2.1 0 6 _ sM_0 (by decide)))).trans f_va) dX12_operand_470 ?_
                                have hz_3018 : (-1 : Int32).toInt = (-1) := by decide +kernel
                                refine dg_callv hS hA1 hA (va_runV (As := [.int (-1), .int va]) (rest := []) F (c_m_add l g D o S_3014 (-1) (by decide +kernel) va cd (((m_3014.1 0 34 _ sM_0 (by decide)).trans ((dg_uf_F e_1832 0 34).trans (m_2.1 0 34 _ sM_0 (by decide)))).trans f_cd) (by omega) (ZWM.keep (ZWM.keep (ZWM.keep ZW m_2 (by decide) (by decide) (by decide) (by decide)) (dg_sm.uf (WF := []) (WA := [24]) dg_sm.rf e_1832 sM_24 (by decide)) (by decide) (by decide) (by decide) (by decide)) m_3014 (by decide) (by decide) (by decide) (by decide)) (ZKM.keep (ZKM.keep (ZKM.keep ZK m_2 (by decide) (by decide)) (dg_sm.uf (WF := []) (WA := [24]) dg_sm.rf e_1832 sM_24 (by decide)) (by decide) (by decide)) m_3014 (by decide) (by decide)) I_3014 H.size) (cwV 2 hts (bw_V wB_1185 wB_1186 wB_1187 wB_857 wB_1184) rfl rfl rfl (by decide +kernel) ⟨Nat.le_of_ble_eq_true rfl, Nat.le_of_ble_eq_true rfl⟩) (dg_preV sM_0 rfl K ST hP hS hA1 hA) rfl rfl hl.1 rfl (lv_room (Nat.le_of_ble_eq_true rfl)) dX12_operand_473 ⟨Nat.le_of_ble_eq_true rfl, Nat.le_of_ble_eq_true rfl⟩) (fun S_3019 hw_3019 H locs hP hS => ?_)
                                obtain ⟨I_3019, m_3019, w_3019_0, w_3019_1, w_3019_2, -⟩ := hw_3019
                                have M_3019 := dg_sm.tr M_3014 m_3019 (by decide) (by decide)
                                have hz_3020 : (-1 : Int32).toInt = (-1) := by decide +kernel
                                obtain ⟨y_3021, f_y_3021, w_3019_0⟩ := w_3019_0
                                have w_3019_0 : (y_3021).toInt = (cd).toInt + 1 := w_3019_0
                                have b_y_3021 : 0 ≤ (y_3021).toInt ∧ (y_3021).toInt ≤ 1600 := dg_I.intb (lo := 0) (hi := 1600) I_3019 sM_0 (by decide +kernel) f_y_3021
                                have w_3019_1 : ADM S_3014 S_3019 (-1 : Int32) := w_3019_1
                                have P1_3019 : P1M S_3019 := PBM.leaf (PBM.keep PB_1832 m_3014 (by decide) (by decide) (by decide) (by decide) (by decide) (by decide) (by decide) (by decide) (by decide) (by decide) (by decide) (by decide) (by decide) (by decide) (by decide)) (((m_3014.1 0 42 _ sM_0 (by decide)).trans ((dg_uf_F e_1832 0 42).trans (m_2.1 0 42 _ sM_0 (by decide)))).trans f_dp) (((m_3014.1 0 43 _ sM_0 (by decide)).trans ((dg_uf_F e_1832 0 43).trans (m_2.1 0 43 _ sM_0 (by decide)))).trans f_on) (((m_3014.1 0 45 _ sM_0 (by decide)).trans ((dg_uf_F e_1832 0 45).trans (m_2.1 0 45 _ sM_0 (by decide)))).trans f_om) m_3019 w_3019_1 (by omega)
                                refine lv_aload_n hx hb dX12_operand_476 rfl (lv_at hl 3 rfl) ?_
                                refine dg_callv hS hA1 hA (va_runV (As := []) (rest := []) F (c_m_ahead l g D o S_3019 se (((m_3019.1 0 5 _ sM_0 (by decide)).trans ((m_3014.1 0 5 _ sM_0 (by decide)).trans ((dg_uf_F e_1832 0 5).trans (m_2.1 0 5 _ sM_0 (by decide))))).trans f_se) (by omega) sl (((m_3019.1 0 2 _ sM_0 (by decide)).trans ((m_3014.1 0 2 _ sM_0 (by decide)).trans ((dg_uf_F e_1832 0 2).trans (m_2.1 0 2 _ sM_0 (by decide))))).trans f_sl) (by omega) (by omega) I_3019 H.size) (cwV 0 hts (bw_V wB_1137 wB_1138 wB_1139 wB_857 wB_1136) rfl rfl rfl (by decide +kernel) ⟨Nat.le_of_ble_eq_true rfl, Nat.le_of_ble_eq_true rfl⟩) (dg_preV sM_0 rfl K ST hP hS hA1 hA) rfl rfl hl.1 rfl (lv_room (Nat.le_of_ble_eq_true rfl)) dX12_operand_477 ⟨Nat.le_of_ble_eq_true rfl, Nat.le_of_ble_eq_true rfl⟩) (fun S_3022 hw_3022 H locs hP hS => ?_)
                                obtain ⟨I_3022, m_3022, w_3022_0, -⟩ := hw_3022
                                have M_3022 := dg_sm.tr M_3019 m_3022 (by decide) (by decide)
                                obtain ⟨y_3023, y_3024, y_3025, f_y_3023, f_y_3024, f_y_3025, w_3022_0⟩ := w_3022_0
                                have w_3022_0 : (se).toInt ≤ (y_3024).toInt ∧ (y_3024).toInt ≤ (y_3025).toInt ∧ (y_3025).toInt ≤ (sl).toInt ∧ ((y_3023).toInt ≠ 0 → (y_3024).toInt + 1 ≤ (y_3025).toInt) := w_3022_0
                                have b_y_3023 : 0 ≤ (y_3023).toInt ∧ (y_3023).toInt ≤ 3 := dg_I.intb (lo := 0) (hi := 3) I_3022 sM_0 (by decide +kernel) f_y_3023
                                have b_y_3024 : 0 ≤ (y_3024).toInt ∧ (y_3024).toInt ≤ 1600 := dg_I.intb (lo := 0) (hi := 1600) I_3022 sM_0 (by decide +kernel) f_y_3024
                                have b_y_3025 : 0 ≤ (y_3025).toInt ∧ (y_3025).toInt ≤ 1600 := dg_I.intb (lo := 0) (hi := 1600) I_3022 sM_0 (by decide +kernel) f_y_3025
                                refine lv_iconst (v := 1) hx hb dX12_operand_480 (by decide +kernel) ?_
                                have hz_3026 : (1 : Int32).toInt = 1 := by decide +kernel
                                have hz_3027 : (1 : Int32).toInt = 1 := by decide +kernel
                                have hz_3028 : (1 : Int32).toInt = 1 := by decide +kernel
                                have hz_3029 : (1 : Int32).toInt = 1 := by decide +kernel
                                refine W.widen (k := 0) (n := 0) (Nat.le_of_ble_eq_true rfl) (Nat.le_of_ble_eq_true rfl) ?_
                                exact dg_iret hx hb hr hlocks (by decide +kernel) hP hS ⟨I_3022, M_3022, (by decide +kernel), ⟨y_3023, y_3024, y_3025, y_3016, y_3021, dp, om, f_y_3023, f_y_3024, f_y_3025, (((m_3022.1 0 8 _ sM_0 (by decide)).trans (m_3019.1 0 8 _ sM_0 (by decide))).trans f_y_3016), ((m_3022.1 0 34 _ sM_0 (by decide)).trans f_y_3021), (((m_3022.1 0 42 _ sM_0 (by decide)).trans ((m_3019.1 0 42 _ sM_0 (by decide)).trans ((m_3014.1 0 42 _ sM_0 (by decide)).trans ((dg_uf_F e_1832 0 42).trans (m_2.1 0 42 _ sM_0 (by decide)))))).trans f_dp), (((m_3022.1 0 45 _ sM_0 (by decide)).trans ((m_3019.1 0 45 _ sM_0 (by decide)).trans ((m_3014.1 0 45 _ sM_0 (by decide)).trans ((dg_uf_F e_1832 0 45).trans (m_2.1 0 45 _ sM_0 (by decide)))))).trans f_om), (by omega)⟩, (fun k9 hk9 hk0 => ⟨fun _ => (P1M.keep P1_3019 m_3022 (by decide) (by decide) (by decide) (by decide) (by decide) (by decide) (by decide) (by decide) (by decide) (by decide) (by decide) (by decide) (by decide) (by decide) (by decide)), fun h9 => absurd h9 (by decide +kernel)⟩), (ZWM.keep w_3019_2 m_3022 (by decide) (by decide) (by decide) (by decide)), trivial⟩ dX12_operand_481
                              · have jc_3017 := dk_nlec (k := 0) (by decide +kernel) c_3017
                                refine lv_iconst (v := 1) hx hb dX12_operand_465 (by decide +kernel) ?_
                                have hz_3030 : (1 : Int32).toInt = 1 := by decide +kernel
                                have hz_3031 : (1 : Int32).toInt = 1 := by decide +kernel
                                have hz_3032 : (1 : Int32).toInt = 1 := by decide +kernel
                                have hz_3033 : (1 : Int32).toInt = 1 := by decide +kernel
                                refine W.widen (k := 0) (n := 0) (Nat.le_of_ble_eq_true rfl) (Nat.le_of_ble_eq_true rfl) ?_
                                exact dg_iret hx hb hr hlocks (by decide +kernel) hP hS ⟨I_3014, M_3014, (by decide +kernel), ⟨sg, sa, se, y_3016, cd, dp, om, (((m_3014.1 0 3 _ sM_0 (by decide)).trans ((dg_uf_F e_1832 0 3).trans (m_2.1 0 3 _ sM_0 (by decide)))).trans f_sg), (((m_3014.1 0 4 _ sM_0 (by decide)).trans ((dg_uf_F e_1832 0 4).trans (m_2.1 0 4 _ sM_0 (by decide)))).trans f_sa), (((m_3014.1 0 5 _ sM_0 (by decide)).trans ((dg_uf_F e_1832 0 5).trans (m_2.1 0 5 _ sM_0 (by decide)))).trans f_se), f_y_3016, (((m_3014.1 0 34 _ sM_0 (by decide)).trans ((dg_uf_F e_1832 0 34).trans (m_2.1 0 34 _ sM_0 (by decide)))).trans f_cd), (((m_3014.1 0 42 _ sM_0 (by decide)).trans ((dg_uf_F e_1832 0 42).trans (m_2.1 0 42 _ sM_0 (by decide)))).trans f_dp), (((m_3014.1 0 45 _ sM_0 (by decide)).trans ((dg_uf_F e_1832 0 45).trans (m_2.1 0 45 _ sM_0 (by decide)))).trans f_om), (by omega)⟩, (fun k9 hk9 hk0 => by have q9 := (f_y_3016).symm.trans hk9; cases q9; omega), (ZWM.keep (ZWM.keep (ZWM.keep ZW m_2 (by decide) (by decide) (by decide) (by decide)) (dg_sm.uf (WF := []) (WA := [24]) dg_sm.rf e_1832 sM_24 (by decide)) (by decide) (by decide) (by decide) (by decide)) m_3014 (by decide) (by decide) (by decide) (by decide)), trivial⟩ dX12_operand_466
                          · have jc_3000 := dk_eqc (k := 4) (by decide +kernel) c_3000
                            refine lv_iconst (v := 1) hx hb dX12_operand_422 (by decide +kernel) ?_
                            refine lv_goto (tgt := 427) hx hb dX12_operand_423 (by decide) ?_
                            refine lv_aload_n hx hb dX12_operand_427 rfl (lv_at hl 3 rfl) ?_
                            obtain ⟨x_3034, f_x_3034, b_x_3034⟩ := dg_I.int (i := 0) (k := 36) (lo := 0) (hi := 2) I sM_0 (by decide +kernel)
                            refine dg_get (C := RX12) (T := TX12) (N := 77) hx hb hts (fun w h => bw_mem (wU_X12 w h)) hown K hP sM_0 rfl 36 (by decide) (hts _ (bw_mem wB_1199)) (fun _ h9 => h9) (v := .int x_3034) (((dg_uf_F e_1832 0 36).trans (m_2.1 0 36 _ sM_0 (by decide))).trans f_x_3034) dX12_operand_428 ?_
                            refine lv_if_ne (tgt := 438) hx hb dX12_operand_431 (by decide) (fun c_3035 => ?_) (fun c_3035 => ?_)
                            · have jc_3035 := dk_neqc (k := 0) (by decide +kernel) c_3035
                              refine lv_iconst (v := 0) hx hb dX12_operand_438 (by decide +kernel) ?_
                              refine lv_icmp_eq (tgt := 444) hx hb dX12_operand_439 (by decide) (fun c => absurd c (by decide +kernel)) (fun _ => ?_)
                              refine lv_iconst (v := (-1)) hx hb dX12_operand_442 (by decide +kernel) ?_
                              refine lv_istore_n (lv' := [(3, .int (-1)), (2, .int 0), (1, .int x_5), (0, .ref (o + 0))]) hx hb dX12_operand_443 rfl hl (by decide) rfl (fun ls hl => ?_)
                              refine lv_iload_n hx hb dX12_operand_444 rfl (lv_at hl 0 rfl) ?_
                              refine lv_iconst (v := (-1)) hx hb dX12_operand_445 (by decide +kernel) ?_
                              refine lv_icmp_ne (tgt := 458) hx hb dX12_operand_446 (by decide) (fun c => absurd (by decide +kernel) c) (fun _ => ?_)
                              refine lv_aload_n hx hb dX12_operand_449 rfl (lv_at hl 3 rfl) ?_
                              refine lv_iconst (v := 1) hx hb dX12_operand_450 (by decide +kernel) ?_
                              refine lv_aload_n hx hb dX12_operand_451 rfl (lv_at hl 3 rfl) ?_
                              refine dg_get (C := RX12) (T := TX12) (N := 77) hx hb hts (fun w h => bw_mem (wU_X12 w h)) hown K hP sM_0 rfl 4 (by decide) (hts _ (bw_mem wB_1121)) (fun _ h9 => h9) (v := .int sa) (((dg_uf_F e_1832 0 4).trans (m_2.1 0 4 _ sM_0 (by decide))).trans f_sa) dX12_operand_452 ?_
                              have hz_3036 : (1 : Int32).toInt = 1 := by decide +kernel
                              refine dg_callv hS hA1 hA (va_runV (As := [.int 1, .int sa]) (rest := []) F (c_m_blame l g D o S_1832 1 (by decide +kernel) sa y_3 ((dg_uf_F e_1832 0 8).trans f_y_3) (by omega) I_1832 H.size) (cwV 2 hts (bw_V wB_1113 wB_1114 wB_1115 wB_857 wB_1112) rfl rfl rfl (by decide +kernel) ⟨Nat.le_of_ble_eq_true rfl, Nat.le_of_ble_eq_true rfl⟩) (dg_preV sM_0 rfl K ST hP hS hA1 hA) rfl rfl hl.1 rfl (lv_room (Nat.le_of_ble_eq_true rfl)) dX12_operand_455 ⟨Nat.le_of_ble_eq_true rfl, Nat.le_of_ble_eq_true rfl⟩) (fun S_3037 hw_3037 H locs hP hS => ?_)
                              obtain ⟨I_3037, m_3037, w_3037_0, -⟩ := hw_3037
                              have M_3037 := dg_sm.tr M_1832 m_3037 (by decide) (by decide)
                              have hz_3038 : (1 : Int32).toInt = 1 := by decide +kernel
                              obtain ⟨y_3039, f_y_3039, w_3037_0⟩ := w_3037_0
                              have w_3037_0 : ((y_3).toInt ≠ 0 → (y_3039).toInt = (y_3).toInt) ∧ ((y_3).toInt = 0 → (y_3039).toInt = ((1 : Int32)).toInt) := w_3037_0
                              have b_y_3039 : 0 ≤ (y_3039).toInt ∧ (y_3039).toInt ≤ 6 := dg_I.intb (lo := 0) (hi := 6) I_3037 sM_0 (by decide +kernel) f_y_3039
                              refine lv_aload_n hx hb dX12_operand_458 rfl (lv_at hl 3 rfl) ?_
                              refine dg_get (C := RX12) (T := TX12) (N := 77) hx hb hts (fun w h => bw_mem (wU_X12 w h)) hown K hP sM_0 rfl 8 (by decide) (hts _ (bw_mem wB_1109)) (fun _ h9 => h9) (v := .int y_3039) f_y_3039 dX12_operand_459 ?_
                              refine lv_if_le (tgt := 467) hx hb dX12_operand_462 (by decide) (fun c_3040 => ?_) (fun c_3040 => ?_)
                              · have jc_3040 := dk_lec (k := 0) (by decide +kernel) c_3040
                                refine lv_aload_n hx hb dX12_operand_467 rfl (lv_at hl 3 rfl) ?_
                                refine lv_iload_n hx hb dX12_operand_468 rfl (lv_at hl 0 rfl) ?_
                                refine lv_aload_n hx hb dX12_operand_469 rfl (lv_at hl 3 rfl) ?_
                                refine dg_get (C := RX12) (T := TX12) (N := 77) hx hb hts (fun w h => bw_mem (wU_X12 w h)) hown K hP sM_0 rfl 6 (by decide) (hts _ (bw_mem wB_1117)) (fun _ h9 => h9) (v := .int va) (((m_3037.1 0 6 _ sM_0 (by decide)).trans ((dg_uf_F e_1832 0 6).trans (m_2.1 0 6 _ sM_0 (by decide)))).trans f_va) dX12_operand_470 ?_
                                have hz_3041 : (-1 : Int32).toInt = (-1) := by decide +kernel
                                refine dg_callv hS hA1 hA (va_runV (As := [.int (-1), .int va]) (rest := []) F (c_m_add l g D o S_3037 (-1) (by decide +kernel) va cd (((m_3037.1 0 34 _ sM_0 (by decide)).trans ((dg_uf_F e_1832 0 34).trans (m_2.1 0 34 _ sM_0 (by decide)))).trans f_cd) (by omega) (ZWM.keep (ZWM.keep (ZWM.keep ZW m_2 (by decide) (by decide) (by decide) (by decide)) (dg_sm.uf (WF := []) (WA := [24]) dg_sm.rf e_1832 sM_24 (by decide)) (by decide) (by decide) (by decide) (by decide)) m_3037 (by decide) (by decide) (by decide) (by decide)) (ZKM.keep (ZKM.keep (ZKM.keep ZK m_2 (by decide) (by decide)) (dg_sm.uf (WF := []) (WA := [24]) dg_sm.rf e_1832 sM_24 (by decide)) (by decide) (by decide)) m_3037 (by decide) (by decide)) I_3037 H.size) (cwV 2 hts (bw_V wB_1185 wB_1186 wB_1187 wB_857 wB_1184) rfl rfl rfl (by decide +kernel) ⟨Nat.le_of_ble_eq_true rfl, Nat.le_of_ble_eq_true rfl⟩) (dg_preV sM_0 rfl K ST hP hS hA1 hA) rfl rfl hl.1 rfl (lv_room (Nat.le_of_ble_eq_true rfl)) dX12_operand_473 ⟨Nat.le_of_ble_eq_true rfl, Nat.le_of_ble_eq_true rfl⟩) (fun S_3042 hw_3042 H locs hP hS => ?_)
                                obtain ⟨I_3042, m_3042, w_3042_0, w_3042_1, w_3042_2, -⟩ := hw_3042
                                have M_3042 := dg_sm.tr M_3037 m_3042 (by decide) (by decide)
                                have hz_3043 : (-1 : Int32).toInt = (-1) := by decide +kernel
                                obtain ⟨y_3044, f_y_3044, w_3042_0⟩ := w_3042_0
                                have w_3042_0 : (y_3044).toInt = (cd).toInt + 1 := w_3042_0
                                have b_y_3044 : 0 ≤ (y_3044).toInt ∧ (y_3044).toInt ≤ 1600 := dg_I.intb (lo := 0) (hi := 1600) I_3042 sM_0 (by decide +kernel) f_y_3044
                                have w_3042_1 : ADM S_3037 S_3042 (-1 : Int32) := w_3042_1
                                have P1_3042 : P1M S_3042 := PBM.leaf (PBM.keep PB_1832 m_3037 (by decide) (by decide) (by decide) (by decide) (by decide) (by decide) (by decide) (by decide) (by decide) (by decide) (by decide) (by decide) (by decide) (by decide) (by decide)) (((m_3037.1 0 42 _ sM_0 (by decide)).trans ((dg_uf_F e_1832 0 42).trans (m_2.1 0 42 _ sM_0 (by decide)))).trans f_dp) (((m_3037.1 0 43 _ sM_0 (by decide)).trans ((dg_uf_F e_1832 0 43).trans (m_2.1 0 43 _ sM_0 (by decide)))).trans f_on) (((m_3037.1 0 45 _ sM_0 (by decide)).trans ((dg_uf_F e_1832 0 45).trans (m_2.1 0 45 _ sM_0 (by decide)))).trans f_om) m_3042 w_3042_1 (by omega)
                                refine lv_aload_n hx hb dX12_operand_476 rfl (lv_at hl 3 rfl) ?_
                                refine dg_callv hS hA1 hA (va_runV (As := []) (rest := []) F (c_m_ahead l g D o S_3042 se (((m_3042.1 0 5 _ sM_0 (by decide)).trans ((m_3037.1 0 5 _ sM_0 (by decide)).trans ((dg_uf_F e_1832 0 5).trans (m_2.1 0 5 _ sM_0 (by decide))))).trans f_se) (by omega) sl (((m_3042.1 0 2 _ sM_0 (by decide)).trans ((m_3037.1 0 2 _ sM_0 (by decide)).trans ((dg_uf_F e_1832 0 2).trans (m_2.1 0 2 _ sM_0 (by decide))))).trans f_sl) (by omega) (by omega) I_3042 H.size) (cwV 0 hts (bw_V wB_1137 wB_1138 wB_1139 wB_857 wB_1136) rfl rfl rfl (by decide +kernel) ⟨Nat.le_of_ble_eq_true rfl, Nat.le_of_ble_eq_true rfl⟩) (dg_preV sM_0 rfl K ST hP hS hA1 hA) rfl rfl hl.1 rfl (lv_room (Nat.le_of_ble_eq_true rfl)) dX12_operand_477 ⟨Nat.le_of_ble_eq_true rfl, Nat.le_of_ble_eq_true rfl⟩) (fun S_3045 hw_3045 H locs hP hS => ?_)
                                obtain ⟨I_3045, m_3045, w_3045_0, -⟩ := hw_3045
                                have M_3045 := dg_sm.tr M_3042 m_3045 (by decide) (by decide)
                                obtain ⟨y_3046, y_3047, y_3048, f_y_3046, f_y_3047, f_y_3048, w_3045_0⟩ := w_3045_0
                                have w_3045_0 : (se).toInt ≤ (y_3047).toInt ∧ (y_3047).toInt ≤ (y_3048).toInt ∧ (y_3048).toInt ≤ (sl).toInt ∧ ((y_3046).toInt ≠ 0 → (y_3047).toInt + 1 ≤ (y_3048).toInt) := w_3045_0
                                have b_y_3046 : 0 ≤ (y_3046).toInt ∧ (y_3046).toInt ≤ 3 := dg_I.intb (lo := 0) (hi := 3) I_3045 sM_0 (by decide +kernel) f_y_3046
                                have b_y_3047 : 0 ≤ (y_3047).toInt ∧ (y_3047).toInt ≤ 1600 := dg_I.intb (lo := 0) (hi := 1600) I_3045 sM_0 (by decide +kernel) f_y_3047
                                have b_y_3048 : 0 ≤ (y_3048).toInt ∧ (y_3048).toInt ≤ 1600 := dg_I.intb (lo := 0) (hi := 1600) I_3045 sM_0 (by decide +kernel) f_y_3048
                                refine lv_iconst (v := 1) hx hb dX12_operand_480 (by decide +kernel) ?_
                                have hz_3049 : (1 : Int32).toInt = 1 := by decide +kernel
                                have hz_3050 : (1 : Int32).toInt = 1 := by decide +kernel
                                have hz_3051 : (1 : Int32).toInt = 1 := by decide +kernel
                                have hz_3052 : (1 : Int32).toInt = 1 := by decide +kernel
                                refine W.widen (k := 0) (n := 0) (Nat.le_of_ble_eq_true rfl) (Nat.le_of_ble_eq_true rfl) ?_
                                exact dg_iret hx hb hr hlocks (by decide +kernel) hP hS ⟨I_3045, M_3045, (by decide +kernel), ⟨y_3046, y_3047, y_3048, y_3039, y_3044, dp, om, f_y_3046, f_y_3047, f_y_3048, (((m_3045.1 0 8 _ sM_0 (by decide)).trans (m_3042.1 0 8 _ sM_0 (by decide))).trans f_y_3039), ((m_3045.1 0 34 _ sM_0 (by decide)).trans f_y_3044), (((m_3045.1 0 42 _ sM_0 (by decide)).trans ((m_3042.1 0 42 _ sM_0 (by decide)).trans ((m_3037.1 0 42 _ sM_0 (by decide)).trans ((dg_uf_F e_1832 0 42).trans (m_2.1 0 42 _ sM_0 (by decide)))))).trans f_dp), (((m_3045.1 0 45 _ sM_0 (by decide)).trans ((m_3042.1 0 45 _ sM_0 (by decide)).trans ((m_3037.1 0 45 _ sM_0 (by decide)).trans ((dg_uf_F e_1832 0 45).trans (m_2.1 0 45 _ sM_0 (by decide)))))).trans f_om), (by omega)⟩, (fun k9 hk9 hk0 => ⟨fun _ => (P1M.keep P1_3042 m_3045 (by decide) (by decide) (by decide) (by decide) (by decide) (by decide) (by decide) (by decide) (by decide) (by decide) (by decide) (by decide) (by decide) (by decide) (by decide)), fun h9 => absurd h9 (by decide +kernel)⟩), (ZWM.keep w_3042_2 m_3045 (by decide) (by decide) (by decide) (by decide)), trivial⟩ dX12_operand_481
                              · have jc_3040 := dk_nlec (k := 0) (by decide +kernel) c_3040
                                refine lv_iconst (v := 1) hx hb dX12_operand_465 (by decide +kernel) ?_
                                have hz_3053 : (1 : Int32).toInt = 1 := by decide +kernel
                                have hz_3054 : (1 : Int32).toInt = 1 := by decide +kernel
                                have hz_3055 : (1 : Int32).toInt = 1 := by decide +kernel
                                have hz_3056 : (1 : Int32).toInt = 1 := by decide +kernel
                                refine W.widen (k := 0) (n := 0) (Nat.le_of_ble_eq_true rfl) (Nat.le_of_ble_eq_true rfl) ?_
                                exact dg_iret hx hb hr hlocks (by decide +kernel) hP hS ⟨I_3037, M_3037, (by decide +kernel), ⟨sg, sa, se, y_3039, cd, dp, om, (((m_3037.1 0 3 _ sM_0 (by decide)).trans ((dg_uf_F e_1832 0 3).trans (m_2.1 0 3 _ sM_0 (by decide)))).trans f_sg), (((m_3037.1 0 4 _ sM_0 (by decide)).trans ((dg_uf_F e_1832 0 4).trans (m_2.1 0 4 _ sM_0 (by decide)))).trans f_sa), (((m_3037.1 0 5 _ sM_0 (by decide)).trans ((dg_uf_F e_1832 0 5).trans (m_2.1 0 5 _ sM_0 (by decide)))).trans f_se), f_y_3039, (((m_3037.1 0 34 _ sM_0 (by decide)).trans ((dg_uf_F e_1832 0 34).trans (m_2.1 0 34 _ sM_0 (by decide)))).trans f_cd), (((m_3037.1 0 42 _ sM_0 (by decide)).trans ((dg_uf_F e_1832 0 42).trans (m_2.1 0 42 _ sM_0 (by decide)))).trans f_dp), (((m_3037.1 0 45 _ sM_0 (by decide)).trans ((dg_uf_F e_1832 0 45).trans (m_2.1 0 45 _ sM_0 (by decide)))).trans f_om), (by omega)⟩, (fun k9 hk9 hk0 => by have q9 := (f_y_3039).symm.trans hk9; cases q9; omega), (ZWM.keep (ZWM.keep (ZWM.keep ZW m_2 (by decide) (by decide) (by decide) (by decide)) (dg_sm.uf (WF := []) (WA := [24]) dg_sm.rf e_1832 sM_24 (by decide)) (by decide) (by decide) (by decide) (by decide)) m_3037 (by decide) (by decide) (by decide) (by decide)), trivial⟩ dX12_operand_466
                            · have jc_3035 := dk_eqc (k := 0) (by decide +kernel) c_3035
                              refine lv_iconst (v := 1) hx hb dX12_operand_434 (by decide +kernel) ?_
                              refine lv_goto (tgt := 439) hx hb dX12_operand_435 (by decide) ?_
                              refine lv_icmp_eq (tgt := 444) hx hb dX12_operand_439 (by decide) (fun _ => ?_) (fun c => absurd (by decide +kernel) c)
                              refine lv_iload_n hx hb dX12_operand_444 rfl (lv_at hl 0 rfl) ?_
                              refine lv_iconst (v := (-1)) hx hb dX12_operand_445 (by decide +kernel) ?_
                              refine lv_icmp_ne (tgt := 458) hx hb dX12_operand_446 (by decide) (fun _ => ?_) (fun c => absurd c (fun z => absurd (dk_eqc (k := (-1)) (by decide +kernel) z) (by omega)))
                              refine lv_aload_n hx hb dX12_operand_458 rfl (lv_at hl 3 rfl) ?_
                              refine dg_get (C := RX12) (T := TX12) (N := 77) hx hb hts (fun w h => bw_mem (wU_X12 w h)) hown K hP sM_0 rfl 8 (by decide) (hts _ (bw_mem wB_1109)) (fun _ h9 => h9) (v := .int y_3) ((dg_uf_F e_1832 0 8).trans f_y_3) dX12_operand_459 ?_
                              refine lv_if_le (tgt := 467) hx hb dX12_operand_462 (by decide) (fun _ => ?_) (fun c => absurd (dk_lep (k := 0) (by decide +kernel) (by omega)) c)
                              refine lv_aload_n hx hb dX12_operand_467 rfl (lv_at hl 3 rfl) ?_
                              refine lv_iload_n hx hb dX12_operand_468 rfl (lv_at hl 0 rfl) ?_
                              refine lv_aload_n hx hb dX12_operand_469 rfl (lv_at hl 3 rfl) ?_
                              refine dg_get (C := RX12) (T := TX12) (N := 77) hx hb hts (fun w h => bw_mem (wU_X12 w h)) hown K hP sM_0 rfl 6 (by decide) (hts _ (bw_mem wB_1117)) (fun _ h9 => h9) (v := .int va) (((dg_uf_F e_1832 0 6).trans (m_2.1 0 6 _ sM_0 (by decide))).trans f_va) dX12_operand_470 ?_
                              refine dg_callv hS hA1 hA (va_runV (As := [.int x_2869, .int va]) (rest := []) F (c_m_add l g D o S_1832 x_2869 (by omega) va cd (((dg_uf_F e_1832 0 34).trans (m_2.1 0 34 _ sM_0 (by decide))).trans f_cd) (by omega) (ZWM.keep (ZWM.keep ZW m_2 (by decide) (by decide) (by decide) (by decide)) (dg_sm.uf (WF := []) (WA := [24]) dg_sm.rf e_1832 sM_24 (by decide)) (by decide) (by decide) (by decide) (by decide)) (ZKM.keep (ZKM.keep ZK m_2 (by decide) (by decide)) (dg_sm.uf (WF := []) (WA := [24]) dg_sm.rf e_1832 sM_24 (by decide)) (by decide) (by decide)) I_1832 H.size) (cwV 2 hts (bw_V wB_1185 wB_1186 wB_1187 wB_857 wB_1184) rfl rfl rfl (by decide +kernel) ⟨Nat.le_of_ble_eq_true rfl, Nat.le_of_ble_eq_true rfl⟩) (dg_preV sM_0 rfl K ST hP hS hA1 hA) rfl rfl hl.1 rfl (lv_room (Nat.le_of_ble_eq_true rfl)) dX12_operand_473 ⟨Nat.le_of_ble_eq_true rfl, Nat.le_of_ble_eq_true rfl⟩) (fun S_3057 hw_3057 H locs hP hS => ?_)
                              obtain ⟨I_3057, m_3057, w_3057_0, w_3057_1, w_3057_2, -⟩ := hw_3057
                              have M_3057 := dg_sm.tr M_1832 m_3057 (by decide) (by decide)
                              obtain ⟨y_3058, f_y_3058, w_3057_0⟩ := w_3057_0
                              have w_3057_0 : (y_3058).toInt = (cd).toInt + 1 := w_3057_0
                              have b_y_3058 : 0 ≤ (y_3058).toInt ∧ (y_3058).toInt ≤ 1600 := dg_I.intb (lo := 0) (hi := 1600) I_3057 sM_0 (by decide +kernel) f_y_3058
                              have w_3057_1 : ADM S_1832 S_3057 x_2869 := w_3057_1
                              have P1_3057 : P1M S_3057 := PBM.leaf PB_1832 (((dg_uf_F e_1832 0 42).trans (m_2.1 0 42 _ sM_0 (by decide))).trans f_dp) (((dg_uf_F e_1832 0 43).trans (m_2.1 0 43 _ sM_0 (by decide))).trans f_on) (((dg_uf_F e_1832 0 45).trans (m_2.1 0 45 _ sM_0 (by decide))).trans f_om) m_3057 w_3057_1 (by omega)
                              refine lv_aload_n hx hb dX12_operand_476 rfl (lv_at hl 3 rfl) ?_
                              refine dg_callv hS hA1 hA (va_runV (As := []) (rest := []) F (c_m_ahead l g D o S_3057 se (((m_3057.1 0 5 _ sM_0 (by decide)).trans ((dg_uf_F e_1832 0 5).trans (m_2.1 0 5 _ sM_0 (by decide)))).trans f_se) (by omega) sl (((m_3057.1 0 2 _ sM_0 (by decide)).trans ((dg_uf_F e_1832 0 2).trans (m_2.1 0 2 _ sM_0 (by decide)))).trans f_sl) (by omega) (by omega) I_3057 H.size) (cwV 0 hts (bw_V wB_1137 wB_1138 wB_1139 wB_857 wB_1136) rfl rfl rfl (by decide +kernel) ⟨Nat.le_of_ble_eq_true rfl, Nat.le_of_ble_eq_true rfl⟩) (dg_preV sM_0 rfl K ST hP hS hA1 hA) rfl rfl hl.1 rfl (lv_room (Nat.le_of_ble_eq_true rfl)) dX12_operand_477 ⟨Nat.le_of_ble_eq_true rfl, Nat.le_of_ble_eq_true rfl⟩) (fun S_3059 hw_3059 H locs hP hS => ?_)
                              obtain ⟨I_3059, m_3059, w_3059_0, -⟩ := hw_3059
                              have M_3059 := dg_sm.tr M_3057 m_3059 (by decide) (by decide)
                              obtain ⟨y_3060, y_3061, y_3062, f_y_3060, f_y_3061, f_y_3062, w_3059_0⟩ := w_3059_0
                              have w_3059_0 : (se).toInt ≤ (y_3061).toInt ∧ (y_3061).toInt ≤ (y_3062).toInt ∧ (y_3062).toInt ≤ (sl).toInt ∧ ((y_3060).toInt ≠ 0 → (y_3061).toInt + 1 ≤ (y_3062).toInt) := w_3059_0
                              have b_y_3060 : 0 ≤ (y_3060).toInt ∧ (y_3060).toInt ≤ 3 := dg_I.intb (lo := 0) (hi := 3) I_3059 sM_0 (by decide +kernel) f_y_3060
                              have b_y_3061 : 0 ≤ (y_3061).toInt ∧ (y_3061).toInt ≤ 1600 := dg_I.intb (lo := 0) (hi := 1600) I_3059 sM_0 (by decide +kernel) f_y_3061
                              have b_y_3062 : 0 ≤ (y_3062).toInt ∧ (y_3062).toInt ≤ 1600 := dg_I.intb (lo := 0) (hi := 1600) I_3059 sM_0 (by decide +kernel) f_y_3062
                              refine lv_iconst (v := 1) hx hb dX12_operand_480 (by decide +kernel) ?_
                              have hz_3063 : (1 : Int32).toInt = 1 := by decide +kernel
                              have hz_3064 : (1 : Int32).toInt = 1 := by decide +kernel
                              have hz_3065 : (1 : Int32).toInt = 1 := by decide +kernel
                              have hz_3066 : (1 : Int32).toInt = 1 := by decide +kernel
                              refine W.widen (k := 0) (n := 0) (Nat.le_of_ble_eq_true rfl) (Nat.le_of_ble_eq_true rfl) ?_
                              exact dg_iret hx hb hr hlocks (by decide +kernel) hP hS ⟨I_3059, M_3059, (by decide +kernel), ⟨y_3060, y_3061, y_3062, y_3, y_3058, dp, om, f_y_3060, f_y_3061, f_y_3062, (((m_3059.1 0 8 _ sM_0 (by decide)).trans ((m_3057.1 0 8 _ sM_0 (by decide)).trans (dg_uf_F e_1832 0 8))).trans f_y_3), ((m_3059.1 0 34 _ sM_0 (by decide)).trans f_y_3058), (((m_3059.1 0 42 _ sM_0 (by decide)).trans ((m_3057.1 0 42 _ sM_0 (by decide)).trans ((dg_uf_F e_1832 0 42).trans (m_2.1 0 42 _ sM_0 (by decide))))).trans f_dp), (((m_3059.1 0 45 _ sM_0 (by decide)).trans ((m_3057.1 0 45 _ sM_0 (by decide)).trans ((dg_uf_F e_1832 0 45).trans (m_2.1 0 45 _ sM_0 (by decide))))).trans f_om), (by omega)⟩, (fun k9 hk9 hk0 => ⟨fun _ => (P1M.keep P1_3057 m_3059 (by decide) (by decide) (by decide) (by decide) (by decide) (by decide) (by decide) (by decide) (by decide) (by decide) (by decide) (by decide) (by decide) (by decide) (by decide)), fun h9 => absurd h9 (by decide +kernel)⟩), (ZWM.keep w_3057_2 m_3059 (by decide) (by decide) (by decide) (by decide)), trivial⟩ dX12_operand_481
                      refine lv_icmp_ne (tgt := 325) hx hb dX12_operand_318 (by decide) (fun c_3067 => ?_) (fun c_3067 => ?_)
                      · have jc_3067 := dk_neqc (k := 2) (by decide +kernel) c_3067
                        refine lv_aload_n hx hb dX12_operand_325 rfl (lv_at hl 2 rfl) ?_
                        refine lv_ldc2 hx hb hown (hts _ (bw_mem wB_1149)) dX12_operand_326 ?_
                        refine dg_calli hS hA1 hA (va_runV (As := [.long 444300616805]) (rest := []) F (c_m_isWord l g D o S_1832 444300616805 sg (((dg_uf_F e_1832 0 3).trans (m_2.1 0 3 _ sM_0 (by decide))).trans f_sg) (by omega) I_1832 H.size) (cwV 1 hts (bw_V wB_1141 wB_1142 wB_1143 wB_857 wB_1140) rfl rfl rfl (by decide +kernel) ⟨Nat.le_of_ble_eq_true rfl, Nat.le_of_ble_eq_true rfl⟩) (dg_preV sM_0 rfl K ST hP hS hA1 hA) rfl rfl hl.1 rfl (lv_room (Nat.le_of_ble_eq_true rfl)) dX12_operand_329 ⟨Nat.le_of_ble_eq_true rfl, Nat.le_of_ble_eq_true rfl⟩) (fun x_3068 S_3069 hw_3069 H locs hP hS => ?_)
                        rw [hw_3069.1] at hP
                        obtain ⟨hq_3069, w_3069_0, w_3069_1, -⟩ := hw_3069
                        have w_3069_0 : 0 ≤ (x_3068).toInt ∧ (x_3068).toInt ≤ 1 := w_3069_0
                        have w_3069_1 : (x_3068).toInt = 1 → (sg).toInt = 1 := w_3069_1
                        refine lv_if_eq (tgt := 339) hx hb dX12_operand_332 (by decide) (fun c_3070 => ?_) (fun c_3070 => ?_)
                        · have jc_3070 := dk_eqc (k := 0) (by decide +kernel) c_3070
                          refine lv_aload_n hx hb dX12_operand_339 rfl (lv_at hl 2 rfl) ?_
                          refine lv_ldc2 hx hb hown (hts _ (bw_mem wB_1159)) dX12_operand_340 ?_
                          refine dg_calli hS hA1 hA (va_runV (As := [.long 431198598248]) (rest := []) F (c_m_isWord l g D o S_1832 431198598248 sg (((dg_uf_F e_1832 0 3).trans (m_2.1 0 3 _ sM_0 (by decide))).trans f_sg) (by omega) I_1832 H.size) (cwV 1 hts (bw_V wB_1141 wB_1142 wB_1143 wB_857 wB_1140) rfl rfl rfl (by decide +kernel) ⟨Nat.le_of_ble_eq_true rfl, Nat.le_of_ble_eq_true rfl⟩) (dg_preV sM_0 rfl K ST hP hS hA1 hA) rfl rfl hl.1 rfl (lv_room (Nat.le_of_ble_eq_true rfl)) dX12_operand_343 ⟨Nat.le_of_ble_eq_true rfl, Nat.le_of_ble_eq_true rfl⟩) (fun x_3071 S_3072 hw_3072 H locs hP hS => ?_)
                          rw [hw_3072.1] at hP
                          obtain ⟨hq_3072, w_3072_0, w_3072_1, -⟩ := hw_3072
                          have w_3072_0 : 0 ≤ (x_3071).toInt ∧ (x_3071).toInt ≤ 1 := w_3072_0
                          have w_3072_1 : (x_3071).toInt = 1 → (sg).toInt = 1 := w_3072_1
                          refine lv_if_eq (tgt := 353) hx hb dX12_operand_346 (by decide) (fun c_3073 => ?_) (fun c_3073 => ?_)
                          · have jc_3073 := dk_eqc (k := 0) (by decide +kernel) c_3073
                            refine lv_aload_n hx hb dX12_operand_353 rfl (lv_at hl 2 rfl) ?_
                            refine lv_ldc2 hx hb hown (hts _ (bw_mem wB_1160)) dX12_operand_354 ?_
                            refine dg_calli hS hA1 hA (va_runV (As := [.long 495672977012]) (rest := []) F (c_m_isWord l g D o S_1832 495672977012 sg (((dg_uf_F e_1832 0 3).trans (m_2.1 0 3 _ sM_0 (by decide))).trans f_sg) (by omega) I_1832 H.size) (cwV 1 hts (bw_V wB_1141 wB_1142 wB_1143 wB_857 wB_1140) rfl rfl rfl (by decide +kernel) ⟨Nat.le_of_ble_eq_true rfl, Nat.le_of_ble_eq_true rfl⟩) (dg_preV sM_0 rfl K ST hP hS hA1 hA) rfl rfl hl.1 rfl (lv_room (Nat.le_of_ble_eq_true rfl)) dX12_operand_357 ⟨Nat.le_of_ble_eq_true rfl, Nat.le_of_ble_eq_true rfl⟩) (fun x_3074 S_3075 hw_3075 H locs hP hS => ?_)
                            rw [hw_3075.1] at hP
                            obtain ⟨hq_3075, w_3075_0, w_3075_1, -⟩ := hw_3075
                            have w_3075_0 : 0 ≤ (x_3074).toInt ∧ (x_3074).toInt ≤ 1 := w_3075_0
                            have w_3075_1 : (x_3074).toInt = 1 → (sg).toInt = 1 := w_3075_1
                            refine lv_if_eq (tgt := 367) hx hb dX12_operand_360 (by decide) (fun c_3076 => ?_) (fun c_3076 => ?_)
                            · have jc_3076 := dk_eqc (k := 0) (by decide +kernel) c_3076
                              refine lv_aload_n hx hb dX12_operand_367 rfl (lv_at hl 2 rfl) ?_
                              refine lv_ldc2 hx hb hown (hts _ (bw_mem wB_1161)) dX12_operand_368 ?_
                              refine dg_calli hS hA1 hA (va_runV (As := [.long 6709618]) (rest := []) F (c_m_isWord l g D o S_1832 6709618 sg (((dg_uf_F e_1832 0 3).trans (m_2.1 0 3 _ sM_0 (by decide))).trans f_sg) (by omega) I_1832 H.size) (cwV 1 hts (bw_V wB_1141 wB_1142 wB_1143 wB_857 wB_1140) rfl rfl rfl (by decide +kernel) ⟨Nat.le_of_ble_eq_true rfl, Nat.le_of_ble_eq_true rfl⟩) (dg_preV sM_0 rfl K ST hP hS hA1 hA) rfl rfl hl.1 rfl (lv_room (Nat.le_of_ble_eq_true rfl)) dX12_operand_371 ⟨Nat.le_of_ble_eq_true rfl, Nat.le_of_ble_eq_true rfl⟩) (fun x_3077 S_3078 hw_3078 H locs hP hS => ?_)
                              rw [hw_3078.1] at hP
                              obtain ⟨hq_3078, w_3078_0, w_3078_1, -⟩ := hw_3078
                              have w_3078_0 : 0 ≤ (x_3077).toInt ∧ (x_3077).toInt ≤ 1 := w_3078_0
                              have w_3078_1 : (x_3077).toInt = 1 → (sg).toInt = 1 := w_3078_1
                              refine lv_if_eq (tgt := 381) hx hb dX12_operand_374 (by decide) (fun c_3079 => ?_) (fun c_3079 => ?_)
                              · have jc_3079 := dk_eqc (k := 0) (by decide +kernel) c_3079
                                refine lv_aload_n hx hb dX12_operand_381 rfl (lv_at hl 2 rfl) ?_
                                refine lv_ldc2 hx hb hown (hts _ (bw_mem wB_1162)) dX12_operand_382 ?_
                                refine dg_calli hS hA1 hA (va_runV (As := [.long 1869636974]) (rest := []) F (c_m_isWord l g D o S_1832 1869636974 sg (((dg_uf_F e_1832 0 3).trans (m_2.1 0 3 _ sM_0 (by decide))).trans f_sg) (by omega) I_1832 H.size) (cwV 1 hts (bw_V wB_1141 wB_1142 wB_1143 wB_857 wB_1140) rfl rfl rfl (by decide +kernel) ⟨Nat.le_of_ble_eq_true rfl, Nat.le_of_ble_eq_true rfl⟩) (dg_preV sM_0 rfl K ST hP hS hA1 hA) rfl rfl hl.1 rfl (lv_room (Nat.le_of_ble_eq_true rfl)) dX12_operand_385 ⟨Nat.le_of_ble_eq_true rfl, Nat.le_of_ble_eq_true rfl⟩) (fun x_3080 S_3081 hw_3081 H locs hP hS => ?_)
                                rw [hw_3081.1] at hP
                                obtain ⟨hq_3081, w_3081_0, w_3081_1, -⟩ := hw_3081
                                have w_3081_0 : 0 ≤ (x_3080).toInt ∧ (x_3080).toInt ≤ 1 := w_3081_0
                                have w_3081_1 : (x_3080).toInt = 1 → (sg).toInt = 1 := w_3081_1
                                refine lv_if_eq (tgt := 395) hx hb dX12_operand_388 (by decide) (fun c_3082 => ?_) (fun c_3082 => ?_)
                                · have jc_3082 := dk_eqc (k := 0) (by decide +kernel) c_3082
                                  refine lv_aload_n hx hb dX12_operand_395 rfl (lv_at hl 2 rfl) ?_
                                  refine lv_ldc2 hx hb hown (hts _ (bw_mem wB_1163)) dX12_operand_396 ?_
                                  refine dg_calli hS hA1 hA (va_runV (As := [.long 7104884]) (rest := []) F (c_m_isWord l g D o S_1832 7104884 sg (((dg_uf_F e_1832 0 3).trans (m_2.1 0 3 _ sM_0 (by decide))).trans f_sg) (by omega) I_1832 H.size) (cwV 1 hts (bw_V wB_1141 wB_1142 wB_1143 wB_857 wB_1140) rfl rfl rfl (by decide +kernel) ⟨Nat.le_of_ble_eq_true rfl, Nat.le_of_ble_eq_true rfl⟩) (dg_preV sM_0 rfl K ST hP hS hA1 hA) rfl rfl hl.1 rfl (lv_room (Nat.le_of_ble_eq_true rfl)) dX12_operand_399 ⟨Nat.le_of_ble_eq_true rfl, Nat.le_of_ble_eq_true rfl⟩) (fun x_3083 S_3084 hw_3084 H locs hP hS => ?_)
                                  rw [hw_3084.1] at hP
                                  obtain ⟨hq_3084, w_3084_0, w_3084_1, -⟩ := hw_3084
                                  have w_3084_0 : 0 ≤ (x_3083).toInt ∧ (x_3083).toInt ≤ 1 := w_3084_0
                                  have w_3084_1 : (x_3083).toInt = 1 → (sg).toInt = 1 := w_3084_1
                                  refine lv_if_eq (tgt := 410) hx hb dX12_operand_402 (by decide) (fun c_3085 => ?_) (fun c_3085 => ?_)
                                  · have jc_3085 := dk_eqc (k := 0) (by decide +kernel) c_3085
                                    refine lv_iconst (v := (-1)) hx hb dX12_operand_410 (by decide +kernel) ?_
                                    have hz_3086 : (-1 : Int32).toInt = (-1) := by decide +kernel
                                    have hz_3087 : (-1 : Int32).toInt = (-1) := by decide +kernel
                                    exact J_2968 (-1) (by decide +kernel) (by omega) _ _ hP hS _ (lv_sub hl [0, 1, 2] rfl)
                                  · have jc_3085 := dk_neqc (k := 0) (by decide +kernel) c_3085
                                    refine lv_bipush (v := 6) hx hb dX12_operand_405 (by decide +kernel) ?_
                                    refine lv_goto (tgt := 411) hx hb dX12_operand_407 (by decide) ?_
                                    have hz_3088 : (6 : Int32).toInt = 6 := by decide +kernel
                                    have hz_3089 : (6 : Int32).toInt = 6 := by decide +kernel
                                    exact J_2968 6 (by decide +kernel) (by omega) _ _ hP hS _ (lv_sub hl [0, 1, 2] rfl)
                                · have jc_3082 := dk_neqc (k := 0) (by decide +kernel) c_3082
                                  refine lv_iconst (v := 5) hx hb dX12_operand_391 (by decide +kernel) ?_
                                  refine lv_goto (tgt := 411) hx hb dX12_operand_392 (by decide) ?_
                                  have hz_3090 : (5 : Int32).toInt = 5 := by decide +kernel
                                  have hz_3091 : (5 : Int32).toInt = 5 := by decide +kernel
                                  exact J_2968 5 (by decide +kernel) (by omega) _ _ hP hS _ (lv_sub hl [0, 1, 2] rfl)
                              · have jc_3079 := dk_neqc (k := 0) (by decide +kernel) c_3079
                                refine lv_iconst (v := 4) hx hb dX12_operand_377 (by decide +kernel) ?_
                                refine lv_goto (tgt := 411) hx hb dX12_operand_378 (by decide) ?_
                                have hz_3092 : (4 : Int32).toInt = 4 := by decide +kernel
                                have hz_3093 : (4 : Int32).toInt = 4 := by decide +kernel
                                exact J_2968 4 (by decide +kernel) (by omega) _ _ hP hS _ (lv_sub hl [0, 1, 2] rfl)
                            · have jc_3076 := dk_neqc (k := 0) (by decide +kernel) c_3076
                              refine lv_iconst (v := 3) hx hb dX12_operand_363 (by decide +kernel) ?_
                              refine lv_goto (tgt := 411) hx hb dX12_operand_364 (by decide) ?_
                              have hz_3094 : (3 : Int32).toInt = 3 := by decide +kernel
                              have hz_3095 : (3 : Int32).toInt = 3 := by decide +kernel
                              exact J_2968 3 (by decide +kernel) (by omega) _ _ hP hS _ (lv_sub hl [0, 1, 2] rfl)
                          · have jc_3073 := dk_neqc (k := 0) (by decide +kernel) c_3073
                            refine lv_iconst (v := 2) hx hb dX12_operand_349 (by decide +kernel) ?_
                            refine lv_goto (tgt := 411) hx hb dX12_operand_350 (by decide) ?_
                            have hz_3096 : (2 : Int32).toInt = 2 := by decide +kernel
                            have hz_3097 : (2 : Int32).toInt = 2 := by decide +kernel
                            exact J_2968 2 (by decide +kernel) (by omega) _ _ hP hS _ (lv_sub hl [0, 1, 2] rfl)
                        · have jc_3070 := dk_neqc (k := 0) (by decide +kernel) c_3070
                          refine lv_iconst (v := 1) hx hb dX12_operand_335 (by decide +kernel) ?_
                          refine lv_goto (tgt := 411) hx hb dX12_operand_336 (by decide) ?_
                          have hz_3098 : (1 : Int32).toInt = 1 := by decide +kernel
                          have hz_3099 : (1 : Int32).toInt = 1 := by decide +kernel
                          exact J_2968 1 (by decide +kernel) (by omega) _ _ hP hS _ (lv_sub hl [0, 1, 2] rfl)
                      · have jc_3067 := dk_eqc (k := 2) (by decide +kernel) c_3067
                        refine lv_iconst (v := 0) hx hb dX12_operand_321 (by decide +kernel) ?_
                        refine lv_goto (tgt := 411) hx hb dX12_operand_322 (by decide) ?_
                        have hz_3100 : (0 : Int32).toInt = 0 := by decide +kernel
                        have hz_3101 : (0 : Int32).toInt = 0 := by decide +kernel
                        exact J_2968 0 (by decide +kernel) (by omega) _ _ hP hS _ (lv_sub hl [0, 1, 2] rfl)
                    · have jc_2849 := dk_neqc (k := 0) (by decide +kernel) c_2849
                      exact J_2606  (by omega) _ _ hP hS _ (lv_sub hl [0, 1, 2] rfl)
              · have jc_2362 := dk_neqc (k := 0) (by decide +kernel) c_2362
                refine lv_aload_n hx hb dX12_operand_180 rfl (lv_at hl 2 rfl) ?_
                refine lv_iconst (v := 2) hx hb dX12_operand_181 (by decide +kernel) ?_
                have hz_3102 : (2 : Int32).toInt = 2 := by decide +kernel
                refine dg_callv hS hA1 hA (va_runV (As := [.int 2]) (rest := []) F (c_m_frames l g D o S_1832 2 (by decide +kernel) sg (((dg_uf_F e_1832 0 3).trans (m_2.1 0 3 _ sM_0 (by decide))).trans f_sg) (by omega) sa (((dg_uf_F e_1832 0 4).trans (m_2.1 0 4 _ sM_0 (by decide))).trans f_sa) (by omega) se (((dg_uf_F e_1832 0 5).trans (m_2.1 0 5 _ sM_0 (by decide))).trans f_se) (by omega) sl (((dg_uf_F e_1832 0 2).trans (m_2.1 0 2 _ sM_0 (by decide))).trans f_sl) (by omega) y_3 ((dg_uf_F e_1832 0 8).trans f_y_3) (by omega) dp (((dg_uf_F e_1832 0 42).trans (m_2.1 0 42 _ sM_0 (by decide))).trans f_dp) (by omega) om (((dg_uf_F e_1832 0 45).trans (m_2.1 0 45 _ sM_0 (by decide))).trans f_om) (by omega) on (((dg_uf_F e_1832 0 43).trans (m_2.1 0 43 _ sM_0 (by decide))).trans f_on) (by omega) (by omega) I_1832 H.size) (cwV 1 hts (bw_V wB_1201 wB_1202 wB_1203 wB_857 wB_1200) rfl rfl rfl (by decide +kernel) ⟨Nat.le_of_ble_eq_true rfl, Nat.le_of_ble_eq_true rfl⟩) (dg_preV sM_0 rfl K ST hP hS hA1 hA) rfl rfl hl.1 rfl (lv_room (Nat.le_of_ble_eq_true rfl)) dX12_operand_182 ⟨Nat.le_of_ble_eq_true rfl, Nat.le_of_ble_eq_true rfl⟩) (fun S_3103 hw_3103 H locs hP hS => ?_)
                obtain ⟨I_3103, m_3103, w_3103_0, w_3103_1, -⟩ := hw_3103
                have M_3103 := dg_sm.tr M_1832 m_3103 (by decide) (by decide)
                have hz_3104 : (2 : Int32).toInt = 2 := by decide +kernel
                obtain ⟨y_3105, y_3106, y_3107, y_3108, y_3109, f_y_3105, f_y_3106, f_y_3107, f_y_3108, f_y_3109, w_3103_0⟩ := w_3103_0
                have w_3103_0 : ((y_3106).toInt ≤ (y_3107).toInt ∧ (y_3107).toInt ≤ (sl).toInt ∧ ((y_3105).toInt ≠ 0 → (y_3106).toInt + 1 ≤ (y_3107).toInt)) ∧ (sa).toInt ≤ (y_3106).toInt ∧ ((y_3).toInt ≠ 0 → (y_3108).toInt ≠ 0) ∧ (((y_3108).toInt = 0 → ((sa).toInt + 1 ≤ (y_3106).toInt ∧ (y_3109).toInt = (dp).toInt + 1))) := w_3103_0
                have b_y_3105 : 0 ≤ (y_3105).toInt ∧ (y_3105).toInt ≤ 3 := dg_I.intb (lo := 0) (hi := 3) I_3103 sM_0 (by decide +kernel) f_y_3105
                have b_y_3106 : 0 ≤ (y_3106).toInt ∧ (y_3106).toInt ≤ 1600 := dg_I.intb (lo := 0) (hi := 1600) I_3103 sM_0 (by decide +kernel) f_y_3106
                have b_y_3107 : 0 ≤ (y_3107).toInt ∧ (y_3107).toInt ≤ 1600 := dg_I.intb (lo := 0) (hi := 1600) I_3103 sM_0 (by decide +kernel) f_y_3107
                have b_y_3108 : 0 ≤ (y_3108).toInt ∧ (y_3108).toInt ≤ 6 := dg_I.intb (lo := 0) (hi := 6) I_3103 sM_0 (by decide +kernel) f_y_3108
                have b_y_3109 : 0 ≤ (y_3109).toInt ∧ (y_3109).toInt ≤ 20 := dg_I.intb (lo := 0) (hi := 20) I_3103 sM_0 (by decide +kernel) f_y_3109
                have w_3103_1 : ∀ k9 : Int32, S_3103.1 0 8 = .int k9 → k9.toInt = 0 → FRM S_1832 S_3103 (2 : Int32) := w_3103_1
                obtain ⟨x_3110, f_x_3110, b_x_3110⟩ := dg_I.int (i := 0) (k := 42) (lo := 0) (hi := 20) I_1832 sM_0 (by decide +kernel)
                refine lv_iconst (v := 0) hx hb dX12_operand_185 (by decide +kernel) ?_
                have hz_3111 : (0 : Int32).toInt = 0 := by decide +kernel
                have hz_3112 : (0 : Int32).toInt = 0 := by decide +kernel
                obtain ⟨x_3113, f_x_3113, b_x_3113⟩ := dg_I.int (i := 0) (k := 42) (lo := 0) (hi := 20) I_3103 sM_0 (by decide +kernel)
                have hz_3114 : (0 : Int32).toInt = 0 := by decide +kernel
                have hz_3115 : (0 : Int32).toInt = 0 := by decide +kernel
                refine W.widen (k := 0) (n := 0) (Nat.le_of_ble_eq_true rfl) (Nat.le_of_ble_eq_true rfl) ?_
                exact dg_iret hx hb hr hlocks (by decide +kernel) hP hS ⟨I_3103, M_3103, (by decide +kernel), ⟨y_3105, y_3106, y_3107, y_3108, cd, x_3113, om, f_y_3105, f_y_3106, f_y_3107, f_y_3108, (((m_3103.1 0 34 _ sM_0 (by decide)).trans ((dg_uf_F e_1832 0 34).trans (m_2.1 0 34 _ sM_0 (by decide)))).trans f_cd), f_x_3113, (((m_3103.1 0 45 _ sM_0 (by decide)).trans ((dg_uf_F e_1832 0 45).trans (m_2.1 0 45 _ sM_0 (by decide)))).trans f_om), (by omega)⟩, (fun k9 hk9 hk0 => ⟨fun h9 => absurd h9 (by decide +kernel), fun _ => by first | (exact PBM.opens PB_1832 f_x_3110 (((dg_uf_F e_1832 0 43).trans (m_2.1 0 43 _ sM_0 (by decide))).trans f_on) (((dg_uf_F e_1832 0 45).trans (m_2.1 0 45 _ sM_0 (by decide))).trans f_om) (w_3103_1 k9 hk9 hk0) m_3103 (by decide) (by decide) (by decide) (by decide) (by omega)) | (have q9 := (f_y_3108).symm.trans hk9; cases q9; omega)⟩), (ZWM.keep (ZWM.keep (ZWM.keep ZW m_2 (by decide) (by decide) (by decide) (by decide)) (dg_sm.uf (WF := []) (WA := [24]) dg_sm.rf e_1832 sM_24 (by decide)) (by decide) (by decide) (by decide) (by decide)) m_3103 (by decide) (by decide) (by decide) (by decide)), trivial⟩ dX12_operand_186
            refine lv_if_eq (tgt := 171) hx hb dX12_operand_138 (by decide) (fun _ => ?_) (fun c => absurd (by decide +kernel) c)
            exact J_2358   _ _ hP hS _ (lv_sub hl [0, 1, 2] rfl)
          refine lv_if_eq (tgt := 137) hx hb dX12_operand_118 (by decide) (fun _ => ?_) (fun c => absurd (by decide +kernel) c)
          exact J_2096   _ _ hP hS _ (lv_sub hl [0, 1, 2] rfl)
        refine lv_if_eq (tgt := 110) hx hb dX12_operand_48 (by decide) (fun _ => ?_) (fun c => absurd (by decide +kernel) c)
        exact J_1830   _ _ hP hS _ (lv_sub hl [0, 1, 2] rfl)
      · have jc_1564 := dk_neqc (k := 0) (by decide +kernel) c_1564
        refine lv_iconst (v := 1) hx hb dX12_operand_41 (by decide +kernel) ?_
        refine lv_goto (tgt := 46) hx hb dX12_operand_42 (by decide) ?_
        refine lv_istore_n (lv' := [(2, .int 1), (1, .int x_5), (0, .ref (o + 0))]) hx hb dX12_operand_46 rfl hl (by decide) rfl (fun ls hl => ?_)
        refine lv_iload_n hx hb dX12_operand_47 rfl (lv_at hl 0 rfl) ?_
        have J_3464 : ∀ (H : Heap) (locs : List Loc), va_P D vwCl (dg_w g shM o rfM S_2) H → va_S A s.heap H locs → ∀ ls : Array Slot, lv_has ls 4 [(2, .int 1), (1, .int x_5), (0, .ref (o + 0))] → W p l e ({ frames := 4, cells := 0, slots := 0, locals := 98 } : Room) s m args below meth c H locs 0 0 (MQ below (va_Qi (fun (r : Int32) S' => CM o S' ∧ dg_sm shM [(0, 3), (0, 4), (0, 5), (0, 6), (0, 7), (0, 8), (0, 9), (0, 12), (0, 34), (0, 42), (0, 43), (0, 45)] [18, 19, 22, 23, 24, 25, 26, 27] S S' ∧ (0 ≤ (r).toInt ∧ (r).toInt ≤ 1) ∧ (∃ y9_3 y9_4 y9_5 y9_8 y9_34 y9_42 y9_45 : Int32, S'.1 0 3 = .int y9_3 ∧ S'.1 0 4 = .int y9_4 ∧ S'.1 0 5 = .int y9_5 ∧ S'.1 0 8 = .int y9_8 ∧ S'.1 0 34 = .int y9_34 ∧ S'.1 0 42 = .int y9_42 ∧ S'.1 0 45 = .int y9_45 ∧ (((y9_4).toInt ≤ (y9_5).toInt ∧ (y9_5).toInt ≤ (sl).toInt ∧ ((y9_3).toInt ≠ 0 → (y9_4).toInt + 1 ≤ (y9_5).toInt)) ∧ (sa).toInt ≤ (y9_4).toInt ∧ ((fk).toInt ≠ 0 → (y9_8).toInt ≠ 0) ∧ (((y9_8).toInt = 0 → (sa).toInt + 1 ≤ (y9_4).toInt) ∧ ((y9_8).toInt = 0 → (y9_34).toInt + (y9_45).toInt + (y9_42).toInt ≤ (y9_4).toInt)))) ∧ (∀ k9 : Int32, S'.1 0 8 = .int k9 → k9.toInt = 0 → ((r).toInt = 1 → P1M S') ∧ ((r).toInt = 0 → P0M S')) ∧ ZWM S' ∧ True) (dg_B g D shM o rfM) A) args s 0 0 A) (F0 m 110 ls []) := by
          intro H locs hP hS ls hl
          refine lv_aload_n hx hb dX12_operand_110 rfl (lv_at hl 2 rfl) ?_
          refine dg_get (C := RX12) (T := TX12) (N := 77) hx hb hts (fun w h => bw_mem (wU_X12 w h)) hown K hP sM_0 rfl 39 (by decide) (hts _ (bw_mem wB_1191)) (fun _ h9 => h9) (v := .ref (o + 24)) (show S_2.1 0 39 = .ref (o + 24) from dg_I.rel (d := 24) I_2 sM_0 (by decide +kernel)) dX12_operand_111 ?_
          refine lv_iload_n hx hb dX12_operand_114 rfl (lv_at hl 1 rfl) ?_
          refine lv_iconst (v := 0) hx hb dX12_operand_115 (by decide +kernel) ?_
          have hin_3465 : vp_in x_5 20 := (dk_inv (by omega) (by omega))
          have hz_3467 : (0 : Int32).toInt = 0 := by decide +kernel
          refine dg_zast hx hb K hP hS hA1 sM_24 hin_3465 (by decide +kernel) dX12_operand_116 (fun S_3466 e_3466 H locs hP hS => ?_)
          have I_3466 := dg_I.ufu (lo := 0) (hi := 1) I_2 e_3466 sM_24 (by decide +kernel) (show 0 ≤ ((0 : Int32)).toInt ∧ ((0 : Int32)).toInt ≤ 1 from (by decide +kernel))
          have M_3466 := dg_sm.uf M_2 e_3466 sM_24 (by decide)
          have hz_3468 : (0 : Int32).toInt = 0 := by decide +kernel
          have PB_3466 : PBM S_3466 := P0M.bg0 (P0M.keep P0 m_2 (by decide) (by decide) (by decide) (by decide) (by decide) (by decide) (by decide) (by decide) (by decide) (by decide) (by decide) (by decide) (by decide) (by decide) (by decide)) ((m_2.1 0 42 _ sM_0 (by decide)).trans f_dp) (by omega) (by omega) (by omega) e_3466
          refine lv_iload_n hx hb dX12_operand_117 rfl (lv_at hl 0 rfl) ?_
          have J_3768 : ∀ (H : Heap) (locs : List Loc), va_P D vwCl (dg_w g shM o rfM S_3466) H → va_S A s.heap H locs → ∀ ls : Array Slot, lv_has ls 4 [(2, .int 1), (1, .int x_5), (0, .ref (o + 0))] → W p l e ({ frames := 4, cells := 0, slots := 0, locals := 98 } : Room) s m args below meth c H locs 0 0 (MQ below (va_Qi (fun (r : Int32) S' => CM o S' ∧ dg_sm shM [(0, 3), (0, 4), (0, 5), (0, 6), (0, 7), (0, 8), (0, 9), (0, 12), (0, 34), (0, 42), (0, 43), (0, 45)] [18, 19, 22, 23, 24, 25, 26, 27] S S' ∧ (0 ≤ (r).toInt ∧ (r).toInt ≤ 1) ∧ (∃ y9_3 y9_4 y9_5 y9_8 y9_34 y9_42 y9_45 : Int32, S'.1 0 3 = .int y9_3 ∧ S'.1 0 4 = .int y9_4 ∧ S'.1 0 5 = .int y9_5 ∧ S'.1 0 8 = .int y9_8 ∧ S'.1 0 34 = .int y9_34 ∧ S'.1 0 42 = .int y9_42 ∧ S'.1 0 45 = .int y9_45 ∧ (((y9_4).toInt ≤ (y9_5).toInt ∧ (y9_5).toInt ≤ (sl).toInt ∧ ((y9_3).toInt ≠ 0 → (y9_4).toInt + 1 ≤ (y9_5).toInt)) ∧ (sa).toInt ≤ (y9_4).toInt ∧ ((fk).toInt ≠ 0 → (y9_8).toInt ≠ 0) ∧ (((y9_8).toInt = 0 → (sa).toInt + 1 ≤ (y9_4).toInt) ∧ ((y9_8).toInt = 0 → (y9_34).toInt + (y9_45).toInt + (y9_42).toInt ≤ (y9_4).toInt)))) ∧ (∀ k9 : Int32, S'.1 0 8 = .int k9 → k9.toInt = 0 → ((r).toInt = 1 → P1M S') ∧ ((r).toInt = 0 → P0M S')) ∧ ZWM S' ∧ True) (dg_B g D shM o rfM) A) args s 0 0 A) (F0 m 137 ls []) := by
            intro H locs hP hS ls hl
            refine lv_iload_n hx hb dX12_operand_137 rfl (lv_at hl 0 rfl) ?_
            have J_4050 : ∀ (H : Heap) (locs : List Loc), va_P D vwCl (dg_w g shM o rfM S_3466) H → va_S A s.heap H locs → ∀ ls : Array Slot, lv_has ls 4 [(2, .int 1), (1, .int x_5), (0, .ref (o + 0))] → W p l e ({ frames := 4, cells := 0, slots := 0, locals := 98 } : Room) s m args below meth c H locs 0 0 (MQ below (va_Qi (fun (r : Int32) S' => CM o S' ∧ dg_sm shM [(0, 3), (0, 4), (0, 5), (0, 6), (0, 7), (0, 8), (0, 9), (0, 12), (0, 34), (0, 42), (0, 43), (0, 45)] [18, 19, 22, 23, 24, 25, 26, 27] S S' ∧ (0 ≤ (r).toInt ∧ (r).toInt ≤ 1) ∧ (∃ y9_3 y9_4 y9_5 y9_8 y9_34 y9_42 y9_45 : Int32, S'.1 0 3 = .int y9_3 ∧ S'.1 0 4 = .int y9_4 ∧ S'.1 0 5 = .int y9_5 ∧ S'.1 0 8 = .int y9_8 ∧ S'.1 0 34 = .int y9_34 ∧ S'.1 0 42 = .int y9_42 ∧ S'.1 0 45 = .int y9_45 ∧ (((y9_4).toInt ≤ (y9_5).toInt ∧ (y9_5).toInt ≤ (sl).toInt ∧ ((y9_3).toInt ≠ 0 → (y9_4).toInt + 1 ≤ (y9_5).toInt)) ∧ (sa).toInt ≤ (y9_4).toInt ∧ ((fk).toInt ≠ 0 → (y9_8).toInt ≠ 0) ∧ (((y9_8).toInt = 0 → (sa).toInt + 1 ≤ (y9_4).toInt) ∧ ((y9_8).toInt = 0 → (y9_34).toInt + (y9_45).toInt + (y9_42).toInt ≤ (y9_4).toInt)))) ∧ (∀ k9 : Int32, S'.1 0 8 = .int k9 → k9.toInt = 0 → ((r).toInt = 1 → P1M S') ∧ ((r).toInt = 0 → P0M S')) ∧ ZWM S' ∧ True) (dg_B g D shM o rfM) A) args s 0 0 A) (F0 m 171 ls []) := by
              intro H locs hP hS ls hl
              refine lv_aload_n hx hb dX12_operand_171 rfl (lv_at hl 2 rfl) ?_
              refine lv_bipush (v := 40) hx hb dX12_operand_172 (by decide +kernel) ?_
              refine dg_calli hS hA1 hA (va_runV (As := [.int 40]) (rest := []) F (c_m_isSign l g D o S_3466 40 sg (((dg_uf_F e_3466 0 3).trans (m_2.1 0 3 _ sM_0 (by decide))).trans f_sg) (by omega) va (((dg_uf_F e_3466 0 6).trans (m_2.1 0 6 _ sM_0 (by decide))).trans f_va) (by omega) I_3466 H.size) (cwV 1 hts (bw_V wB_1133 wB_1134 wB_1135 wB_857 wB_1132) rfl rfl rfl (by decide +kernel) ⟨Nat.le_of_ble_eq_true rfl, Nat.le_of_ble_eq_true rfl⟩) (dg_preV sM_0 rfl K ST hP hS hA1 hA) rfl rfl hl.1 rfl (lv_room (Nat.le_of_ble_eq_true rfl)) dX12_operand_174 ⟨Nat.le_of_ble_eq_true rfl, Nat.le_of_ble_eq_true rfl⟩) (fun x_4051 S_4052 hw_4052 H locs hP hS => ?_)
              rw [hw_4052.1] at hP
              obtain ⟨hq_4052, w_4052_0, w_4052_1, -⟩ := hw_4052
              have hz_4053 : (40 : Int32).toInt = 40 := by decide +kernel
              have w_4052_0 : 0 ≤ (x_4051).toInt ∧ (x_4051).toInt ≤ 1 := w_4052_0
              have w_4052_1 : (x_4051).toInt = 1 ↔ ((sg).toInt = 3 ∧ (va).toInt = ((40 : Int32)).toInt) := w_4052_1
              refine lv_if_eq (tgt := 187) hx hb dX12_operand_177 (by decide) (fun c_4054 => ?_) (fun c_4054 => ?_)
              · have jc_4054 := dk_eqc (k := 0) (by decide +kernel) c_4054
                refine lv_aload_n hx hb dX12_operand_187 rfl (lv_at hl 2 rfl) ?_
                refine lv_ldc2 hx hb hown (hts _ (bw_mem wB_1169)) dX12_operand_188 ?_
                refine dg_calli hS hA1 hA (va_runV (As := [.long 7170414]) (rest := []) F (c_m_isWord l g D o S_3466 7170414 sg (((dg_uf_F e_3466 0 3).trans (m_2.1 0 3 _ sM_0 (by decide))).trans f_sg) (by omega) I_3466 H.size) (cwV 1 hts (bw_V wB_1141 wB_1142 wB_1143 wB_857 wB_1140) rfl rfl rfl (by decide +kernel) ⟨Nat.le_of_ble_eq_true rfl, Nat.le_of_ble_eq_true rfl⟩) (dg_preV sM_0 rfl K ST hP hS hA1 hA) rfl rfl hl.1 rfl (lv_room (Nat.le_of_ble_eq_true rfl)) dX12_operand_191 ⟨Nat.le_of_ble_eq_true rfl, Nat.le_of_ble_eq_true rfl⟩) (fun x_4055 S_4056 hw_4056 H locs hP hS => ?_)
                rw [hw_4056.1] at hP
                obtain ⟨hq_4056, w_4056_0, w_4056_1, -⟩ := hw_4056
                have w_4056_0 : 0 ≤ (x_4055).toInt ∧ (x_4055).toInt ≤ 1 := w_4056_0
                have w_4056_1 : (x_4055).toInt = 1 → (sg).toInt = 1 := w_4056_1
                have J_4298 : ((sg).toInt = 1) → ∀ (H : Heap) (locs : List Loc), va_P D vwCl (dg_w g shM o rfM S_3466) H → va_S A s.heap H locs → ∀ ls : Array Slot, lv_has ls 4 [(2, .int 1), (1, .int x_5), (0, .ref (o + 0))] → W p l e ({ frames := 4, cells := 0, slots := 0, locals := 98 } : Room) s m args below meth c H locs 0 0 (MQ below (va_Qi (fun (r : Int32) S' => CM o S' ∧ dg_sm shM [(0, 3), (0, 4), (0, 5), (0, 6), (0, 7), (0, 8), (0, 9), (0, 12), (0, 34), (0, 42), (0, 43), (0, 45)] [18, 19, 22, 23, 24, 25, 26, 27] S S' ∧ (0 ≤ (r).toInt ∧ (r).toInt ≤ 1) ∧ (∃ y9_3 y9_4 y9_5 y9_8 y9_34 y9_42 y9_45 : Int32, S'.1 0 3 = .int y9_3 ∧ S'.1 0 4 = .int y9_4 ∧ S'.1 0 5 = .int y9_5 ∧ S'.1 0 8 = .int y9_8 ∧ S'.1 0 34 = .int y9_34 ∧ S'.1 0 42 = .int y9_42 ∧ S'.1 0 45 = .int y9_45 ∧ (((y9_4).toInt ≤ (y9_5).toInt ∧ (y9_5).toInt ≤ (sl).toInt ∧ ((y9_3).toInt ≠ 0 → (y9_4).toInt + 1 ≤ (y9_5).toInt)) ∧ (sa).toInt ≤ (y9_4).toInt ∧ ((fk).toInt ≠ 0 → (y9_8).toInt ≠ 0) ∧ (((y9_8).toInt = 0 → (sa).toInt + 1 ≤ (y9_4).toInt) ∧ ((y9_8).toInt = 0 → (y9_34).toInt + (y9_45).toInt + (y9_42).toInt ≤ (y9_4).toInt)))) ∧ (∀ k9 : Int32, S'.1 0 8 = .int k9 → k9.toInt = 0 → ((r).toInt = 1 → P1M S') ∧ ((r).toInt = 0 → P0M S')) ∧ ZWM S' ∧ True) (dg_B g D shM o rfM) A) args s 0 0 A) (F0 m 217 ls []) := by
                  intro rel_0 H locs hP hS ls hl
                  refine lv_aload_n hx hb dX12_operand_217 rfl (lv_at hl 2 rfl) ?_
                  refine lv_ldc2 hx hb hown (hts _ (bw_mem wB_1169)) dX12_operand_218 ?_
                  refine dg_calli hS hA1 hA (va_runV (As := [.long 7170414]) (rest := []) F (c_m_isWord l g D o S_3466 7170414 sg (((dg_uf_F e_3466 0 3).trans (m_2.1 0 3 _ sM_0 (by decide))).trans f_sg) (by omega) I_3466 H.size) (cwV 1 hts (bw_V wB_1141 wB_1142 wB_1143 wB_857 wB_1140) rfl rfl rfl (by decide +kernel) ⟨Nat.le_of_ble_eq_true rfl, Nat.le_of_ble_eq_true rfl⟩) (dg_preV sM_0 rfl K ST hP hS hA1 hA) rfl rfl hl.1 rfl (lv_room (Nat.le_of_ble_eq_true rfl)) dX12_operand_221 ⟨Nat.le_of_ble_eq_true rfl, Nat.le_of_ble_eq_true rfl⟩) (fun x_4299 S_4300 hw_4300 H locs hP hS => ?_)
                  rw [hw_4300.1] at hP
                  obtain ⟨hq_4300, w_4300_0, w_4300_1, -⟩ := hw_4300
                  have w_4300_0 : 0 ≤ (x_4299).toInt ∧ (x_4299).toInt ≤ 1 := w_4300_0
                  have w_4300_1 : (x_4299).toInt = 1 → (sg).toInt = 1 := w_4300_1
                  have J_4415 : ∀ (x_4305 : Int32), (36 ≤ (x_4305).toInt ∧ (x_4305).toInt ≤ 44) → ((x_4305 : Int32).toInt = 36 ∨ (x_4305 : Int32).toInt = 37 ∨ (x_4305 : Int32).toInt = 44) → ∀ (H : Heap) (locs : List Loc), va_P D vwCl (dg_w g shM o rfM S_3466) H → va_S A s.heap H locs → ∀ ls : Array Slot, lv_has ls 4 [(2, .int 1), (1, .int x_5), (0, .ref (o + 0))] → W p l e ({ frames := 4, cells := 0, slots := 0, locals := 98 } : Room) s m args below meth c H locs 0 0 (MQ below (va_Qi (fun (r : Int32) S' => CM o S' ∧ dg_sm shM [(0, 3), (0, 4), (0, 5), (0, 6), (0, 7), (0, 8), (0, 9), (0, 12), (0, 34), (0, 42), (0, 43), (0, 45)] [18, 19, 22, 23, 24, 25, 26, 27] S S' ∧ (0 ≤ (r).toInt ∧ (r).toInt ≤ 1) ∧ (∃ y9_3 y9_4 y9_5 y9_8 y9_34 y9_42 y9_45 : Int32, S'.1 0 3 = .int y9_3 ∧ S'.1 0 4 = .int y9_4 ∧ S'.1 0 5 = .int y9_5 ∧ S'.1 0 8 = .int y9_8 ∧ S'.1 0 34 = .int y9_34 ∧ S'.1 0 42 = .int y9_42 ∧ S'.1 0 45 = .int y9_45 ∧ (((y9_4).toInt ≤ (y9_5).toInt ∧ (y9_5).toInt ≤ (sl).toInt ∧ ((y9_3).toInt ≠ 0 → (y9_4).toInt + 1 ≤ (y9_5).toInt)) ∧ (sa).toInt ≤ (y9_4).toInt ∧ ((fk).toInt ≠ 0 → (y9_8).toInt ≠ 0) ∧ (((y9_8).toInt = 0 → (sa).toInt + 1 ≤ (y9_4).toInt) ∧ ((y9_8).toInt = 0 → (y9_34).toInt + (y9_45).toInt + (y9_42).toInt ≤ (y9_4).toInt)))) ∧ (∀ k9 : Int32, S'.1 0 8 = .int k9 → k9.toInt = 0 → ((r).toInt = 1 → P1M S') ∧ ((r).toInt = 0 → P0M S')) ∧ ZWM S' ∧ True) (dg_B g D shM o rfM) A) args s 0 0 A) (F0 m 249 ls [.int x_4305]) := by
                    intro x_4305 b_x_4305 rel_0 H locs hP hS ls hl
                    refine lv_istore_n (lv' := [(3, .int x_4305), (2, .int 1), (1, .int x_5), (0, .ref (o + 0))]) hx hb dX12_operand_249 rfl hl (by decide) rfl (fun ls hl => ?_)
                    refine lv_aload_n hx hb dX12_operand_250 rfl (lv_at hl 3 rfl) ?_
                    refine dg_callv hS hA1 hA (va_runV (As := []) (rest := []) F (c_m_ahead l g D o S_3466 se (((dg_uf_F e_3466 0 5).trans (m_2.1 0 5 _ sM_0 (by decide))).trans f_se) (by omega) sl (((dg_uf_F e_3466 0 2).trans (m_2.1 0 2 _ sM_0 (by decide))).trans f_sl) (by omega) (by omega) I_3466 H.size) (cwV 0 hts (bw_V wB_1137 wB_1138 wB_1139 wB_857 wB_1136) rfl rfl rfl (by decide +kernel) ⟨Nat.le_of_ble_eq_true rfl, Nat.le_of_ble_eq_true rfl⟩) (dg_preV sM_0 rfl K ST hP hS hA1 hA) rfl rfl hl.1 rfl (lv_room (Nat.le_of_ble_eq_true rfl)) dX12_operand_251 ⟨Nat.le_of_ble_eq_true rfl, Nat.le_of_ble_eq_true rfl⟩) (fun S_4416 hw_4416 H locs hP hS => ?_)
                    obtain ⟨I_4416, m_4416, w_4416_0, -⟩ := hw_4416
                    have M_4416 := dg_sm.tr M_3466 m_4416 (by decide) (by decide)
                    obtain ⟨y_4417, y_4418, y_4419, f_y_4417, f_y_4418, f_y_4419, w_4416_0⟩ := w_4416_0
                    have w_4416_0 : (se).toInt ≤ (y_4418).toInt ∧ (y_4418).toInt ≤ (y_4419).toInt ∧ (y_4419).toInt ≤ (sl).toInt ∧ ((y_4417).toInt ≠ 0 → (y_4418).toInt + 1 ≤ (y_4419).toInt) := w_4416_0
                    have b_y_4417 : 0 ≤ (y_4417).toInt ∧ (y_4417).toInt ≤ 3 := dg_I.intb (lo := 0) (hi := 3) I_4416 sM_0 (by decide +kernel) f_y_4417
                    have b_y_4418 : 0 ≤ (y_4418).toInt ∧ (y_4418).toInt ≤ 1600 := dg_I.intb (lo := 0) (hi := 1600) I_4416 sM_0 (by decide +kernel) f_y_4418
                    have b_y_4419 : 0 ≤ (y_4419).toInt ∧ (y_4419).toInt ≤ 1600 := dg_I.intb (lo := 0) (hi := 1600) I_4416 sM_0 (by decide +kernel) f_y_4419
                    refine lv_aload_n hx hb dX12_operand_254 rfl (lv_at hl 3 rfl) ?_
                    refine dg_callv hS hA1 hA (va_runV (As := []) (rest := []) F (c_m_lex l g D o S_4416 y_3 (((m_4416.1 0 8 _ sM_0 (by decide)).trans (dg_uf_F e_3466 0 8)).trans f_y_3) (by omega) I_4416 H.size) (cwV 0 hts (bw_V wB_1129 wB_1130 wB_1131 wB_857 wB_1128) rfl rfl rfl (by decide +kernel) ⟨Nat.le_of_ble_eq_true rfl, Nat.le_of_ble_eq_true rfl⟩) (dg_preV sM_0 rfl K ST hP hS hA1 hA) rfl rfl hl.1 rfl (lv_room (Nat.le_of_ble_eq_true rfl)) dX12_operand_255 ⟨Nat.le_of_ble_eq_true rfl, Nat.le_of_ble_eq_true rfl⟩) (fun S_4420 hw_4420 H locs hP hS => ?_)
                    obtain ⟨I_4420, m_4420, w_4420_0, -⟩ := hw_4420
                    have M_4420 := dg_sm.tr M_4416 m_4420 (by decide) (by decide)
                    obtain ⟨y_4421, f_y_4421, w_4420_0⟩ := w_4420_0
                    have w_4420_0 : (y_3).toInt ≠ 0 → (y_4421).toInt = (y_3).toInt := w_4420_0
                    have b_y_4421 : 0 ≤ (y_4421).toInt ∧ (y_4421).toInt ≤ 6 := dg_I.intb (lo := 0) (hi := 6) I_4420 sM_0 (by decide +kernel) f_y_4421
                    refine lv_aload_n hx hb dX12_operand_258 rfl (lv_at hl 3 rfl) ?_
                    refine lv_bipush (v := 40) hx hb dX12_operand_259 (by decide +kernel) ?_
                    obtain ⟨x_4422, f_x_4422, b_x_4422⟩ := dg_I.int (i := 0) (k := 6) (lo := 0) (hi := 9999) I_4420 sM_0 (by decide +kernel)
                    refine dg_calli hS hA1 hA (va_runV (As := [.int 40]) (rest := []) F (c_m_isSign l g D o S_4420 40 y_4417 ((m_4420.1 0 3 _ sM_0 (by decide)).trans f_y_4417) (by omega) x_4422 f_x_4422 (by omega) I_4420 H.size) (cwV 1 hts (bw_V wB_1133 wB_1134 wB_1135 wB_857 wB_1132) rfl rfl rfl (by decide +kernel) ⟨Nat.le_of_ble_eq_true rfl, Nat.le_of_ble_eq_true rfl⟩) (dg_preV sM_0 rfl K ST hP hS hA1 hA) rfl rfl hl.1 rfl (lv_room (Nat.le_of_ble_eq_true rfl)) dX12_operand_261 ⟨Nat.le_of_ble_eq_true rfl, Nat.le_of_ble_eq_true rfl⟩) (fun x_4423 S_4424 hw_4424 H locs hP hS => ?_)
                    rw [hw_4424.1] at hP
                    obtain ⟨hq_4424, w_4424_0, w_4424_1, -⟩ := hw_4424
                    have hz_4425 : (40 : Int32).toInt = 40 := by decide +kernel
                    have w_4424_0 : 0 ≤ (x_4423).toInt ∧ (x_4423).toInt ≤ 1 := w_4424_0
                    have w_4424_1 : (x_4423).toInt = 1 ↔ ((y_4417).toInt = 3 ∧ (x_4422).toInt = ((40 : Int32)).toInt) := w_4424_1
                    refine lv_if_ne (tgt := 276) hx hb dX12_operand_264 (by decide) (fun c_4426 => ?_) (fun c_4426 => ?_)
                    · have jc_4426 := dk_neqc (k := 0) (by decide +kernel) c_4426
                      refine lv_aload_n hx hb dX12_operand_276 rfl (lv_at hl 3 rfl) ?_
                      refine lv_iload_n hx hb dX12_operand_277 rfl (lv_at hl 0 rfl) ?_
                      refine lv_bipush (v := 44) hx hb dX12_operand_278 (by decide +kernel) ?_
                      refine lv_icmp_ne (tgt := 288) hx hb dX12_operand_280 (by decide) (fun c_4427 => ?_) (fun c_4427 => ?_)
                      · have jc_4427 := dk_neqc (k := 44) (by decide +kernel) c_4427
                        refine lv_iconst (v := 3) hx hb dX12_operand_288 (by decide +kernel) ?_
                        have hz_4428 : (3 : Int32).toInt = 3 := by decide +kernel
                        refine dg_callv hS hA1 hA (va_runV (As := [.int 3]) (rest := []) F (c_m_frames l g D o S_4420 3 (by decide +kernel) y_4417 ((m_4420.1 0 3 _ sM_0 (by decide)).trans f_y_4417) (by omega) y_4418 ((m_4420.1 0 4 _ sM_0 (by decide)).trans f_y_4418) (by omega) y_4419 ((m_4420.1 0 5 _ sM_0 (by decide)).trans f_y_4419) (by omega) sl (((m_4420.1 0 2 _ sM_0 (by decide)).trans ((m_4416.1 0 2 _ sM_0 (by decide)).trans ((dg_uf_F e_3466 0 2).trans (m_2.1 0 2 _ sM_0 (by decide))))).trans f_sl) (by omega) y_4421 f_y_4421 (by omega) dp (((m_4420.1 0 42 _ sM_0 (by decide)).trans ((m_4416.1 0 42 _ sM_0 (by decide)).trans ((dg_uf_F e_3466 0 42).trans (m_2.1 0 42 _ sM_0 (by decide))))).trans f_dp) (by omega) om (((m_4420.1 0 45 _ sM_0 (by decide)).trans ((m_4416.1 0 45 _ sM_0 (by decide)).trans ((dg_uf_F e_3466 0 45).trans (m_2.1 0 45 _ sM_0 (by decide))))).trans f_om) (by omega) on (((m_4420.1 0 43 _ sM_0 (by decide)).trans ((m_4416.1 0 43 _ sM_0 (by decide)).trans ((dg_uf_F e_3466 0 43).trans (m_2.1 0 43 _ sM_0 (by decide))))).trans f_on) (by omega) (by omega) I_4420 H.size) (cwV 1 hts (bw_V wB_1201 wB_1202 wB_1203 wB_857 wB_1200) rfl rfl rfl (by decide +kernel) ⟨Nat.le_of_ble_eq_true rfl, Nat.le_of_ble_eq_true rfl⟩) (dg_preV sM_0 rfl K ST hP hS hA1 hA) rfl rfl hl.1 rfl (lv_room (Nat.le_of_ble_eq_true rfl)) dX12_operand_289 ⟨Nat.le_of_ble_eq_true rfl, Nat.le_of_ble_eq_true rfl⟩) (fun S_4429 hw_4429 H locs hP hS => ?_)
                        obtain ⟨I_4429, m_4429, w_4429_0, w_4429_1, -⟩ := hw_4429
                        have M_4429 := dg_sm.tr M_4420 m_4429 (by decide) (by decide)
                        have hz_4430 : (3 : Int32).toInt = 3 := by decide +kernel
                        obtain ⟨y_4431, y_4432, y_4433, y_4434, y_4435, f_y_4431, f_y_4432, f_y_4433, f_y_4434, f_y_4435, w_4429_0⟩ := w_4429_0
                        have w_4429_0 : ((y_4432).toInt ≤ (y_4433).toInt ∧ (y_4433).toInt ≤ (sl).toInt ∧ ((y_4431).toInt ≠ 0 → (y_4432).toInt + 1 ≤ (y_4433).toInt)) ∧ (y_4418).toInt ≤ (y_4432).toInt ∧ ((y_4421).toInt ≠ 0 → (y_4434).toInt ≠ 0) ∧ (((y_4434).toInt = 0 → ((y_4418).toInt + 1 ≤ (y_4432).toInt ∧ (y_4435).toInt = (dp).toInt + 1))) := w_4429_0
                        have b_y_4431 : 0 ≤ (y_4431).toInt ∧ (y_4431).toInt ≤ 3 := dg_I.intb (lo := 0) (hi := 3) I_4429 sM_0 (by decide +kernel) f_y_4431
                        have b_y_4432 : 0 ≤ (y_4432).toInt ∧ (y_4432).toInt ≤ 1600 := dg_I.intb (lo := 0) (hi := 1600) I_4429 sM_0 (by decide +kernel) f_y_4432
                        have b_y_4433 : 0 ≤ (y_4433).toInt ∧ (y_4433).toInt ≤ 1600 := dg_I.intb (lo := 0) (hi := 1600) I_4429 sM_0 (by decide +kernel) f_y_4433
                        have b_y_4434 : 0 ≤ (y_4434).toInt ∧ (y_4434).toInt ≤ 6 := dg_I.intb (lo := 0) (hi := 6) I_4429 sM_0 (by decide +kernel) f_y_4434
                        have b_y_4435 : 0 ≤ (y_4435).toInt ∧ (y_4435).toInt ≤ 20 := dg_I.intb (lo := 0) (hi := 20) I_4429 sM_0 (by decide +kernel) f_y_4435
                        have w_4429_1 : ∀ k9 : Int32, S_4429.1 0 8 = .int k9 → k9.toInt = 0 → FRM S_4420 S_4429 (3 : Int32) := w_4429_1
                        obtain ⟨x_4436, f_x_4436, b_x_4436⟩ := dg_I.int (i := 0) (k := 42) (lo := 0) (hi := 20) I_4420 sM_0 (by decide +kernel)
                        refine lv_aload_n hx hb dX12_operand_292 rfl (lv_at hl 3 rfl) ?_
                        refine dg_get (C := RX12) (T := TX12) (N := 77) hx hb hts (fun w h => bw_mem (wU_X12 w h)) hown K hP sM_0 rfl 8 (by decide) (hts _ (bw_mem wB_1109)) (fun _ h9 => h9) (v := .int y_4434) f_y_4434 dX12_operand_293 ?_
                        refine lv_if_ne (tgt := 311) hx hb dX12_operand_296 (by decide) (fun c_4437 => ?_) (fun c_4437 => ?_)
                        · have jc_4437 := dk_neqc (k := 0) (by decide +kernel) c_4437
                          refine lv_iconst (v := 0) hx hb dX12_operand_311 (by decide +kernel) ?_
                          have hz_4438 : (0 : Int32).toInt = 0 := by decide +kernel
                          have hz_4439 : (0 : Int32).toInt = 0 := by decide +kernel
                          obtain ⟨x_4440, f_x_4440, b_x_4440⟩ := dg_I.int (i := 0) (k := 42) (lo := 0) (hi := 20) I_4429 sM_0 (by decide +kernel)
                          have hz_4441 : (0 : Int32).toInt = 0 := by decide +kernel
                          have hz_4442 : (0 : Int32).toInt = 0 := by decide +kernel
                          refine W.widen (k := 0) (n := 0) (Nat.le_of_ble_eq_true rfl) (Nat.le_of_ble_eq_true rfl) ?_
                          exact dg_iret hx hb hr hlocks (by decide +kernel) hP hS ⟨I_4429, M_4429, (by decide +kernel), ⟨y_4431, y_4432, y_4433, y_4434, cd, x_4440, om, f_y_4431, f_y_4432, f_y_4433, f_y_4434, (((m_4429.1 0 34 _ sM_0 (by decide)).trans ((m_4420.1 0 34 _ sM_0 (by decide)).trans ((m_4416.1 0 34 _ sM_0 (by decide)).trans ((dg_uf_F e_3466 0 34).trans (m_2.1 0 34 _ sM_0 (by decide)))))).trans f_cd), f_x_4440, (((m_4429.1 0 45 _ sM_0 (by decide)).trans ((m_4420.1 0 45 _ sM_0 (by decide)).trans ((m_4416.1 0 45 _ sM_0 (by decide)).trans ((dg_uf_F e_3466 0 45).trans (m_2.1 0 45 _ sM_0 (by decide)))))).trans f_om), (by omega)⟩, (fun k9 hk9 hk0 => by have q9 := (f_y_4434).symm.trans hk9; cases q9; omega), (ZWM.keep (ZWM.keep (ZWM.keep (ZWM.keep (ZWM.keep ZW m_2 (by decide) (by decide) (by decide) (by decide)) (dg_sm.uf (WF := []) (WA := [24]) dg_sm.rf e_3466 sM_24 (by decide)) (by decide) (by decide) (by decide) (by decide)) m_4416 (by decide) (by decide) (by decide) (by decide)) m_4420 (by decide) (by decide) (by decide) (by decide)) m_4429 (by decide) (by decide) (by decide) (by decide)), trivial⟩ dX12_operand_312
                        · have jc_4437 := dk_eqc (k := 0) (by decide +kernel) c_4437
                          refine lv_aload_n hx hb dX12_operand_299 rfl (lv_at hl 3 rfl) ?_
                          refine dg_get (C := RX12) (T := TX12) (N := 77) hx hb hts (fun w h => bw_mem (wU_X12 w h)) hown K hP sM_0 rfl 40 (by decide) (hts _ (bw_mem wB_1204)) (fun _ h9 => h9) (v := .ref (o + 25)) (show S_4429.1 0 40 = .ref (o + 25) from dg_I.rel (d := 25) I_4429 sM_0 (by decide +kernel)) dX12_operand_300 ?_
                          refine lv_aload_n hx hb dX12_operand_303 rfl (lv_at hl 3 rfl) ?_
                          obtain ⟨x_4443, f_x_4443, b_x_4443⟩ := dg_I.int (i := 0) (k := 42) (lo := 0) (hi := 20) I_4429 sM_0 (by decide +kernel)
                          refine dg_get (C := RX12) (T := TX12) (N := 77) hx hb hts (fun w h => bw_mem (wU_X12 w h)) hown K hP sM_0 rfl 42 (by decide) (hts _ (bw_mem wB_1179)) (fun _ h9 => h9) (v := .int x_4443) f_x_4443 dX12_operand_304 ?_
                          refine lv_iconst (v := 1) hx hb dX12_operand_307 (by decide +kernel) ?_
                          refine lv_isub hx hb dX12_operand_308 ?_
                          refine lv_topi (fun x_4444 ex_4444 => ?_)
                          have jx_4444 : (x_4444).toInt = (x_4443).toInt - 1 := by rw [ex_4444]; exact dk_subT rfl (by decide +kernel) (by omega) (by omega)
                          refine lv_iload_n hx hb dX12_operand_309 rfl (lv_at hl 0 rfl) ?_
                          have hin_4445 : vp_in x_4444 20 := (dk_inv (by omega) (by omega))
                          refine dg_iast hx hb K hP hS hA1 sM_25 hin_4445 dX12_operand_310 (fun S_4446 e_4446 H locs hP hS => ?_)
                          have I_4446 := dg_I.uf0 I_4429 e_4446 sM_25 (by decide +kernel)
                          have M_4446 := dg_sm.uf M_4429 e_4446 sM_25 (by decide)
                          have P0_4446 : P0M S_4446 := PBM.openp (PBM.keep (PBM.keep PB_3466 m_4416 (by decide) (by decide) (by decide) (by decide) (by decide) (by decide) (by decide) (by decide) (by decide) (by decide) (by decide) (by decide) (by decide) (by decide) (by decide)) m_4420 (by decide) (by decide) (by decide) (by decide) (by decide) (by decide) (by decide) (by decide) (by decide) (by decide) (by decide) (by decide) (by decide) (by decide) (by decide)) f_x_4436 (((m_4420.1 0 43 _ sM_0 (by decide)).trans ((m_4416.1 0 43 _ sM_0 (by decide)).trans ((dg_uf_F e_3466 0 43).trans (m_2.1 0 43 _ sM_0 (by decide))))).trans f_on) (((m_4420.1 0 45 _ sM_0 (by decide)).trans ((m_4416.1 0 45 _ sM_0 (by decide)).trans ((dg_uf_F e_3466 0 45).trans (m_2.1 0 45 _ sM_0 (by decide))))).trans f_om) (w_4429_1 _ f_y_4434 (by omega)) m_4429 (by decide) (by decide) (by decide) (by decide) (by omega) f_x_4443 (by omega) e_4446
                          refine lv_iconst (v := 0) hx hb dX12_operand_311 (by decide +kernel) ?_
                          have hz_4447 : (0 : Int32).toInt = 0 := by decide +kernel
                          have hz_4448 : (0 : Int32).toInt = 0 := by decide +kernel
                          have hz_4449 : (0 : Int32).toInt = 0 := by decide +kernel
                          have hz_4450 : (0 : Int32).toInt = 0 := by decide +kernel
                          refine W.widen (k := 0) (n := 0) (Nat.le_of_ble_eq_true rfl) (Nat.le_of_ble_eq_true rfl) ?_
                          exact dg_iret hx hb hr hlocks (by decide +kernel) hP hS ⟨I_4446, M_4446, (by decide +kernel), ⟨y_4431, y_4432, y_4433, y_4434, cd, x_4443, om, ((dg_uf_F e_4446 0 3).trans f_y_4431), ((dg_uf_F e_4446 0 4).trans f_y_4432), ((dg_uf_F e_4446 0 5).trans f_y_4433), ((dg_uf_F e_4446 0 8).trans f_y_4434), (((dg_uf_F e_4446 0 34).trans ((m_4429.1 0 34 _ sM_0 (by decide)).trans ((m_4420.1 0 34 _ sM_0 (by decide)).trans ((m_4416.1 0 34 _ sM_0 (by decide)).trans ((dg_uf_F e_3466 0 34).trans (m_2.1 0 34 _ sM_0 (by decide))))))).trans f_cd), ((dg_uf_F e_4446 0 42).trans f_x_4443), (((dg_uf_F e_4446 0 45).trans ((m_4429.1 0 45 _ sM_0 (by decide)).trans ((m_4420.1 0 45 _ sM_0 (by decide)).trans ((m_4416.1 0 45 _ sM_0 (by decide)).trans ((dg_uf_F e_3466 0 45).trans (m_2.1 0 45 _ sM_0 (by decide))))))).trans f_om), (by omega)⟩, (fun k9 hk9 hk0 => ⟨fun h9 => absurd h9 (by decide +kernel), fun _ => P0_4446⟩), (ZWM.keep (ZWM.keep (ZWM.keep (ZWM.keep (ZWM.keep (ZWM.keep ZW m_2 (by decide) (by decide) (by decide) (by decide)) (dg_sm.uf (WF := []) (WA := [24]) dg_sm.rf e_3466 sM_24 (by decide)) (by decide) (by decide) (by decide) (by decide)) m_4416 (by decide) (by decide) (by decide) (by decide)) m_4420 (by decide) (by decide) (by decide) (by decide)) m_4429 (by decide) (by decide) (by decide) (by decide)) (dg_sm.uf (WF := []) (WA := [25]) dg_sm.rf e_4446 sM_25 (by decide)) (by decide) (by decide) (by decide) (by decide)), trivial⟩ dX12_operand_312
                      · have jc_4427 := dk_eqc (k := 44) (by decide +kernel) c_4427
                        refine lv_bipush (v := 6) hx hb dX12_operand_283 (by decide +kernel) ?_
                        refine lv_goto (tgt := 289) hx hb dX12_operand_285 (by decide) ?_
                        have hz_4451 : (6 : Int32).toInt = 6 := by decide +kernel
                        refine dg_callv hS hA1 hA (va_runV (As := [.int 6]) (rest := []) F (c_m_frames l g D o S_4420 6 (by decide +kernel) y_4417 ((m_4420.1 0 3 _ sM_0 (by decide)).trans f_y_4417) (by omega) y_4418 ((m_4420.1 0 4 _ sM_0 (by decide)).trans f_y_4418) (by omega) y_4419 ((m_4420.1 0 5 _ sM_0 (by decide)).trans f_y_4419) (by omega) sl (((m_4420.1 0 2 _ sM_0 (by decide)).trans ((m_4416.1 0 2 _ sM_0 (by decide)).trans ((dg_uf_F e_3466 0 2).trans (m_2.1 0 2 _ sM_0 (by decide))))).trans f_sl) (by omega) y_4421 f_y_4421 (by omega) dp (((m_4420.1 0 42 _ sM_0 (by decide)).trans ((m_4416.1 0 42 _ sM_0 (by decide)).trans ((dg_uf_F e_3466 0 42).trans (m_2.1 0 42 _ sM_0 (by decide))))).trans f_dp) (by omega) om (((m_4420.1 0 45 _ sM_0 (by decide)).trans ((m_4416.1 0 45 _ sM_0 (by decide)).trans ((dg_uf_F e_3466 0 45).trans (m_2.1 0 45 _ sM_0 (by decide))))).trans f_om) (by omega) on (((m_4420.1 0 43 _ sM_0 (by decide)).trans ((m_4416.1 0 43 _ sM_0 (by decide)).trans ((dg_uf_F e_3466 0 43).trans (m_2.1 0 43 _ sM_0 (by decide))))).trans f_on) (by omega) (by omega) I_4420 H.size) (cwV 1 hts (bw_V wB_1201 wB_1202 wB_1203 wB_857 wB_1200) rfl rfl rfl (by decide +kernel) ⟨Nat.le_of_ble_eq_true rfl, Nat.le_of_ble_eq_true rfl⟩) (dg_preV sM_0 rfl K ST hP hS hA1 hA) rfl rfl hl.1 rfl (lv_room (Nat.le_of_ble_eq_true rfl)) dX12_operand_289 ⟨Nat.le_of_ble_eq_true rfl, Nat.le_of_ble_eq_true rfl⟩) (fun S_4452 hw_4452 H locs hP hS => ?_)
                        obtain ⟨I_4452, m_4452, w_4452_0, w_4452_1, -⟩ := hw_4452
                        have M_4452 := dg_sm.tr M_4420 m_4452 (by decide) (by decide)
                        have hz_4453 : (6 : Int32).toInt = 6 := by decide +kernel
                        obtain ⟨y_4454, y_4455, y_4456, y_4457, y_4458, f_y_4454, f_y_4455, f_y_4456, f_y_4457, f_y_4458, w_4452_0⟩ := w_4452_0
                        have w_4452_0 : ((y_4455).toInt ≤ (y_4456).toInt ∧ (y_4456).toInt ≤ (sl).toInt ∧ ((y_4454).toInt ≠ 0 → (y_4455).toInt + 1 ≤ (y_4456).toInt)) ∧ (y_4418).toInt ≤ (y_4455).toInt ∧ ((y_4421).toInt ≠ 0 → (y_4457).toInt ≠ 0) ∧ (((y_4457).toInt = 0 → ((y_4418).toInt + 1 ≤ (y_4455).toInt ∧ (y_4458).toInt = (dp).toInt + 1))) := w_4452_0
                        have b_y_4454 : 0 ≤ (y_4454).toInt ∧ (y_4454).toInt ≤ 3 := dg_I.intb (lo := 0) (hi := 3) I_4452 sM_0 (by decide +kernel) f_y_4454
                        have b_y_4455 : 0 ≤ (y_4455).toInt ∧ (y_4455).toInt ≤ 1600 := dg_I.intb (lo := 0) (hi := 1600) I_4452 sM_0 (by decide +kernel) f_y_4455
                        have b_y_4456 : 0 ≤ (y_4456).toInt ∧ (y_4456).toInt ≤ 1600 := dg_I.intb (lo := 0) (hi := 1600) I_4452 sM_0 (by decide +kernel) f_y_4456
                        have b_y_4457 : 0 ≤ (y_4457).toInt ∧ (y_4457).toInt ≤ 6 := dg_I.intb (lo := 0) (hi := 6) I_4452 sM_0 (by decide +kernel) f_y_4457
                        have b_y_4458 : 0 ≤ (y_4458).toInt ∧ (y_4458).toInt ≤ 20 := dg_I.intb (lo := 0) (hi := 20) I_4452 sM_0 (by decide +kernel) f_y_4458
                        have w_4452_1 : ∀ k9 : Int32, S_4452.1 0 8 = .int k9 → k9.toInt = 0 → FRM S_4420 S_4452 (6 : Int32) := w_4452_1
                        obtain ⟨x_4459, f_x_4459, b_x_4459⟩ := dg_I.int (i := 0) (k := 42) (lo := 0) (hi := 20) I_4420 sM_0 (by decide +kernel)
                        refine lv_aload_n hx hb dX12_operand_292 rfl (lv_at hl 3 rfl) ?_
                        refine dg_get (C := RX12) (T := TX12) (N := 77) hx hb hts (fun w h => bw_mem (wU_X12 w h)) hown K hP sM_0 rfl 8 (by decide) (hts _ (bw_mem wB_1109)) (fun _ h9 => h9) (v := .int y_4457) f_y_4457 dX12_operand_293 ?_
                        refine lv_if_ne (tgt := 311) hx hb dX12_operand_296 (by decide) (fun c_4460 => ?_) (fun c_4460 => ?_)
                        · have jc_4460 := dk_neqc (k := 0) (by decide +kernel) c_4460
                          refine lv_iconst (v := 0) hx hb dX12_operand_311 (by decide +kernel) ?_
                          have hz_4461 : (0 : Int32).toInt = 0 := by decide +kernel
                          have hz_4462 : (0 : Int32).toInt = 0 := by decide +kernel
                          obtain ⟨x_4463, f_x_4463, b_x_4463⟩ := dg_I.int (i := 0) (k := 42) (lo := 0) (hi := 20) I_4452 sM_0 (by decide +kernel)
                          have hz_4464 : (0 : Int32).toInt = 0 := by decide +kernel
                          have hz_4465 : (0 : Int32).toInt = 0 := by decide +kernel
                          refine W.widen (k := 0) (n := 0) (Nat.le_of_ble_eq_true rfl) (Nat.le_of_ble_eq_true rfl) ?_
                          exact dg_iret hx hb hr hlocks (by decide +kernel) hP hS ⟨I_4452, M_4452, (by decide +kernel), ⟨y_4454, y_4455, y_4456, y_4457, cd, x_4463, om, f_y_4454, f_y_4455, f_y_4456, f_y_4457, (((m_4452.1 0 34 _ sM_0 (by decide)).trans ((m_4420.1 0 34 _ sM_0 (by decide)).trans ((m_4416.1 0 34 _ sM_0 (by decide)).trans ((dg_uf_F e_3466 0 34).trans (m_2.1 0 34 _ sM_0 (by decide)))))).trans f_cd), f_x_4463, (((m_4452.1 0 45 _ sM_0 (by decide)).trans ((m_4420.1 0 45 _ sM_0 (by decide)).trans ((m_4416.1 0 45 _ sM_0 (by decide)).trans ((dg_uf_F e_3466 0 45).trans (m_2.1 0 45 _ sM_0 (by decide)))))).trans f_om), (by omega)⟩, (fun k9 hk9 hk0 => by have q9 := (f_y_4457).symm.trans hk9; cases q9; omega), (ZWM.keep (ZWM.keep (ZWM.keep (ZWM.keep (ZWM.keep ZW m_2 (by decide) (by decide) (by decide) (by decide)) (dg_sm.uf (WF := []) (WA := [24]) dg_sm.rf e_3466 sM_24 (by decide)) (by decide) (by decide) (by decide) (by decide)) m_4416 (by decide) (by decide) (by decide) (by decide)) m_4420 (by decide) (by decide) (by decide) (by decide)) m_4452 (by decide) (by decide) (by decide) (by decide)), trivial⟩ dX12_operand_312
                        · have jc_4460 := dk_eqc (k := 0) (by decide +kernel) c_4460
                          refine lv_aload_n hx hb dX12_operand_299 rfl (lv_at hl 3 rfl) ?_
                          refine dg_get (C := RX12) (T := TX12) (N := 77) hx hb hts (fun w h => bw_mem (wU_X12 w h)) hown K hP sM_0 rfl 40 (by decide) (hts _ (bw_mem wB_1204)) (fun _ h9 => h9) (v := .ref (o + 25)) (show S_4452.1 0 40 = .ref (o + 25) from dg_I.rel (d := 25) I_4452 sM_0 (by decide +kernel)) dX12_operand_300 ?_
                          refine lv_aload_n hx hb dX12_operand_303 rfl (lv_at hl 3 rfl) ?_
                          obtain ⟨x_4466, f_x_4466, b_x_4466⟩ := dg_I.int (i := 0) (k := 42) (lo := 0) (hi := 20) I_4452 sM_0 (by decide +kernel)
                          refine dg_get (C := RX12) (T := TX12) (N := 77) hx hb hts (fun w h => bw_mem (wU_X12 w h)) hown K hP sM_0 rfl 42 (by decide) (hts _ (bw_mem wB_1179)) (fun _ h9 => h9) (v := .int x_4466) f_x_4466 dX12_operand_304 ?_
                          refine lv_iconst (v := 1) hx hb dX12_operand_307 (by decide +kernel) ?_
                          refine lv_isub hx hb dX12_operand_308 ?_
                          refine lv_topi (fun x_4467 ex_4467 => ?_)
                          have jx_4467 : (x_4467).toInt = (x_4466).toInt - 1 := by rw [ex_4467]; exact dk_subT rfl (by decide +kernel) (by omega) (by omega)
                          refine lv_iload_n hx hb dX12_operand_309 rfl (lv_at hl 0 rfl) ?_
                          have hin_4468 : vp_in x_4467 20 := (dk_inv (by omega) (by omega))
                          refine dg_iast hx hb K hP hS hA1 sM_25 hin_4468 dX12_operand_310 (fun S_4469 e_4469 H locs hP hS => ?_)
                          have I_4469 := dg_I.uf0 I_4452 e_4469 sM_25 (by decide +kernel)
                          have M_4469 := dg_sm.uf M_4452 e_4469 sM_25 (by decide)
                          have P0_4469 : P0M S_4469 := PBM.openp (PBM.keep (PBM.keep PB_3466 m_4416 (by decide) (by decide) (by decide) (by decide) (by decide) (by decide) (by decide) (by decide) (by decide) (by decide) (by decide) (by decide) (by decide) (by decide) (by decide)) m_4420 (by decide) (by decide) (by decide) (by decide) (by decide) (by decide) (by decide) (by decide) (by decide) (by decide) (by decide) (by decide) (by decide) (by decide) (by decide)) f_x_4459 (((m_4420.1 0 43 _ sM_0 (by decide)).trans ((m_4416.1 0 43 _ sM_0 (by decide)).trans ((dg_uf_F e_3466 0 43).trans (m_2.1 0 43 _ sM_0 (by decide))))).trans f_on) (((m_4420.1 0 45 _ sM_0 (by decide)).trans ((m_4416.1 0 45 _ sM_0 (by decide)).trans ((dg_uf_F e_3466 0 45).trans (m_2.1 0 45 _ sM_0 (by decide))))).trans f_om) (w_4452_1 _ f_y_4457 (by omega)) m_4452 (by decide) (by decide) (by decide) (by decide) (by omega) f_x_4466 (by omega) e_4469
                          refine lv_iconst (v := 0) hx hb dX12_operand_311 (by decide +kernel) ?_
                          have hz_4470 : (0 : Int32).toInt = 0 := by decide +kernel
                          have hz_4471 : (0 : Int32).toInt = 0 := by decide +kernel
                          have hz_4472 : (0 : Int32).toInt = 0 := by decide +kernel
                          have hz_4473 : (0 : Int32).toInt = 0 := by decide +kernel
                          refine W.widen (k := 0) (n := 0) (Nat.le_of_ble_eq_true rfl) (Nat.le_of_ble_eq_true rfl) ?_
                          exact dg_iret hx hb hr hlocks (by decide +kernel) hP hS ⟨I_4469, M_4469, (by decide +kernel), ⟨y_4454, y_4455, y_4456, y_4457, cd, x_4466, om, ((dg_uf_F e_4469 0 3).trans f_y_4454), ((dg_uf_F e_4469 0 4).trans f_y_4455), ((dg_uf_F e_4469 0 5).trans f_y_4456), ((dg_uf_F e_4469 0 8).trans f_y_4457), (((dg_uf_F e_4469 0 34).trans ((m_4452.1 0 34 _ sM_0 (by decide)).trans ((m_4420.1 0 34 _ sM_0 (by decide)).trans ((m_4416.1 0 34 _ sM_0 (by decide)).trans ((dg_uf_F e_3466 0 34).trans (m_2.1 0 34 _ sM_0 (by decide))))))).trans f_cd), ((dg_uf_F e_4469 0 42).trans f_x_4466), (((dg_uf_F e_4469 0 45).trans ((m_4452.1 0 45 _ sM_0 (by decide)).trans ((m_4420.1 0 45 _ sM_0 (by decide)).trans ((m_4416.1 0 45 _ sM_0 (by decide)).trans ((dg_uf_F e_3466 0 45).trans (m_2.1 0 45 _ sM_0 (by decide))))))).trans f_om), (by omega)⟩, (fun k9 hk9 hk0 => ⟨fun h9 => absurd h9 (by decide +kernel), fun _ => P0_4469⟩), (ZWM.keep (ZWM.keep (ZWM.keep (ZWM.keep (ZWM.keep (ZWM.keep ZW m_2 (by decide) (by decide) (by decide) (by decide)) (dg_sm.uf (WF := []) (WA := [24]) dg_sm.rf e_3466 sM_24 (by decide)) (by decide) (by decide) (by decide) (by decide)) m_4416 (by decide) (by decide) (by decide) (by decide)) m_4420 (by decide) (by decide) (by decide) (by decide)) m_4452 (by decide) (by decide) (by decide) (by decide)) (dg_sm.uf (WF := []) (WA := [25]) dg_sm.rf e_4469 sM_25 (by decide)) (by decide) (by decide) (by decide) (by decide)), trivial⟩ dX12_operand_312
                    · have jc_4426 := dk_eqc (k := 0) (by decide +kernel) c_4426
                      refine lv_aload_n hx hb dX12_operand_267 rfl (lv_at hl 3 rfl) ?_
                      refine lv_iconst (v := 1) hx hb dX12_operand_268 (by decide +kernel) ?_
                      refine lv_aload_n hx hb dX12_operand_269 rfl (lv_at hl 3 rfl) ?_
                      refine dg_get (C := RX12) (T := TX12) (N := 77) hx hb hts (fun w h => bw_mem (wU_X12 w h)) hown K hP sM_0 rfl 4 (by decide) (hts _ (bw_mem wB_1121)) (fun _ h9 => h9) (v := .int y_4418) ((m_4420.1 0 4 _ sM_0 (by decide)).trans f_y_4418) dX12_operand_270 ?_
                      have hz_4474 : (1 : Int32).toInt = 1 := by decide +kernel
                      refine dg_callv hS hA1 hA (va_runV (As := [.int 1, .int y_4418]) (rest := []) F (c_m_blame l g D o S_4420 1 (by decide +kernel) y_4418 y_4421 f_y_4421 (by omega) I_4420 H.size) (cwV 2 hts (bw_V wB_1113 wB_1114 wB_1115 wB_857 wB_1112) rfl rfl rfl (by decide +kernel) ⟨Nat.le_of_ble_eq_true rfl, Nat.le_of_ble_eq_true rfl⟩) (dg_preV sM_0 rfl K ST hP hS hA1 hA) rfl rfl hl.1 rfl (lv_room (Nat.le_of_ble_eq_true rfl)) dX12_operand_273 ⟨Nat.le_of_ble_eq_true rfl, Nat.le_of_ble_eq_true rfl⟩) (fun S_4475 hw_4475 H locs hP hS => ?_)
                      obtain ⟨I_4475, m_4475, w_4475_0, -⟩ := hw_4475
                      have M_4475 := dg_sm.tr M_4420 m_4475 (by decide) (by decide)
                      have hz_4476 : (1 : Int32).toInt = 1 := by decide +kernel
                      obtain ⟨y_4477, f_y_4477, w_4475_0⟩ := w_4475_0
                      have w_4475_0 : ((y_4421).toInt ≠ 0 → (y_4477).toInt = (y_4421).toInt) ∧ ((y_4421).toInt = 0 → (y_4477).toInt = ((1 : Int32)).toInt) := w_4475_0
                      have b_y_4477 : 0 ≤ (y_4477).toInt ∧ (y_4477).toInt ≤ 6 := dg_I.intb (lo := 0) (hi := 6) I_4475 sM_0 (by decide +kernel) f_y_4477
                      refine lv_aload_n hx hb dX12_operand_276 rfl (lv_at hl 3 rfl) ?_
                      refine lv_iload_n hx hb dX12_operand_277 rfl (lv_at hl 0 rfl) ?_
                      refine lv_bipush (v := 44) hx hb dX12_operand_278 (by decide +kernel) ?_
                      refine lv_icmp_ne (tgt := 288) hx hb dX12_operand_280 (by decide) (fun c_4478 => ?_) (fun c_4478 => ?_)
                      · have jc_4478 := dk_neqc (k := 44) (by decide +kernel) c_4478
                        refine lv_iconst (v := 3) hx hb dX12_operand_288 (by decide +kernel) ?_
                        have hz_4479 : (3 : Int32).toInt = 3 := by decide +kernel
                        refine dg_callv hS hA1 hA (va_runV (As := [.int 3]) (rest := []) F (c_m_frames l g D o S_4475 3 (by decide +kernel) y_4417 (((m_4475.1 0 3 _ sM_0 (by decide)).trans (m_4420.1 0 3 _ sM_0 (by decide))).trans f_y_4417) (by omega) y_4418 (((m_4475.1 0 4 _ sM_0 (by decide)).trans (m_4420.1 0 4 _ sM_0 (by decide))).trans f_y_4418) (by omega) y_4419 (((m_4475.1 0 5 _ sM_0 (by decide)).trans (m_4420.1 0 5 _ sM_0 (by decide))).trans f_y_4419) (by omega) sl (((m_4475.1 0 2 _ sM_0 (by decide)).trans ((m_4420.1 0 2 _ sM_0 (by decide)).trans ((m_4416.1 0 2 _ sM_0 (by decide)).trans ((dg_uf_F e_3466 0 2).trans (m_2.1 0 2 _ sM_0 (by decide)))))).trans f_sl) (by omega) y_4477 f_y_4477 (by omega) dp (((m_4475.1 0 42 _ sM_0 (by decide)).trans ((m_4420.1 0 42 _ sM_0 (by decide)).trans ((m_4416.1 0 42 _ sM_0 (by decide)).trans ((dg_uf_F e_3466 0 42).trans (m_2.1 0 42 _ sM_0 (by decide)))))).trans f_dp) (by omega) om (((m_4475.1 0 45 _ sM_0 (by decide)).trans ((m_4420.1 0 45 _ sM_0 (by decide)).trans ((m_4416.1 0 45 _ sM_0 (by decide)).trans ((dg_uf_F e_3466 0 45).trans (m_2.1 0 45 _ sM_0 (by decide)))))).trans f_om) (by omega) on (((m_4475.1 0 43 _ sM_0 (by decide)).trans ((m_4420.1 0 43 _ sM_0 (by decide)).trans ((m_4416.1 0 43 _ sM_0 (by decide)).trans ((dg_uf_F e_3466 0 43).trans (m_2.1 0 43 _ sM_0 (by decide)))))).trans f_on) (by omega) (by omega) I_4475 H.size) (cwV 1 hts (bw_V wB_1201 wB_1202 wB_1203 wB_857 wB_1200) rfl rfl rfl (by decide +kernel) ⟨Nat.le_of_ble_eq_true rfl, Nat.le_of_ble_eq_true rfl⟩) (dg_preV sM_0 rfl K ST hP hS hA1 hA) rfl rfl hl.1 rfl (lv_room (Nat.le_of_ble_eq_true rfl)) dX12_operand_289 ⟨Nat.le_of_ble_eq_true rfl, Nat.le_of_ble_eq_true rfl⟩) (fun S_4480 hw_4480 H locs hP hS => ?_)
                        obtain ⟨I_4480, m_4480, w_4480_0, w_4480_1, -⟩ := hw_4480
                        have M_4480 := dg_sm.tr M_4475 m_4480 (by decide) (by decide)
                        have hz_4481 : (3 : Int32).toInt = 3 := by decide +kernel
                        obtain ⟨y_4482, y_4483, y_4484, y_4485, y_4486, f_y_4482, f_y_4483, f_y_4484, f_y_4485, f_y_4486, w_4480_0⟩ := w_4480_0
                        have w_4480_0 : ((y_4483).toInt ≤ (y_4484).toInt ∧ (y_4484).toInt ≤ (sl).toInt ∧ ((y_4482).toInt ≠ 0 → (y_4483).toInt + 1 ≤ (y_4484).toInt)) ∧ (y_4418).toInt ≤ (y_4483).toInt ∧ ((y_4477).toInt ≠ 0 → (y_4485).toInt ≠ 0) ∧ (((y_4485).toInt = 0 → ((y_4418).toInt + 1 ≤ (y_4483).toInt ∧ (y_4486).toInt = (dp).toInt + 1))) := w_4480_0
                        have b_y_4482 : 0 ≤ (y_4482).toInt ∧ (y_4482).toInt ≤ 3 := dg_I.intb (lo := 0) (hi := 3) I_4480 sM_0 (by decide +kernel) f_y_4482
                        have b_y_4483 : 0 ≤ (y_4483).toInt ∧ (y_4483).toInt ≤ 1600 := dg_I.intb (lo := 0) (hi := 1600) I_4480 sM_0 (by decide +kernel) f_y_4483
                        have b_y_4484 : 0 ≤ (y_4484).toInt ∧ (y_4484).toInt ≤ 1600 := dg_I.intb (lo := 0) (hi := 1600) I_4480 sM_0 (by decide +kernel) f_y_4484
                        have b_y_4485 : 0 ≤ (y_4485).toInt ∧ (y_4485).toInt ≤ 6 := dg_I.intb (lo := 0) (hi := 6) I_4480 sM_0 (by decide +kernel) f_y_4485
                        have b_y_4486 : 0 ≤ (y_4486).toInt ∧ (y_4486).toInt ≤ 20 := dg_I.intb (lo := 0) (hi := 20) I_4480 sM_0 (by decide +kernel) f_y_4486
                        have w_4480_1 : ∀ k9 : Int32, S_4480.1 0 8 = .int k9 → k9.toInt = 0 → FRM S_4475 S_4480 (3 : Int32) := w_4480_1
                        obtain ⟨x_4487, f_x_4487, b_x_4487⟩ := dg_I.int (i := 0) (k := 42) (lo := 0) (hi := 20) I_4475 sM_0 (by decide +kernel)
                        refine lv_aload_n hx hb dX12_operand_292 rfl (lv_at hl 3 rfl) ?_
                        refine dg_get (C := RX12) (T := TX12) (N := 77) hx hb hts (fun w h => bw_mem (wU_X12 w h)) hown K hP sM_0 rfl 8 (by decide) (hts _ (bw_mem wB_1109)) (fun _ h9 => h9) (v := .int y_4485) f_y_4485 dX12_operand_293 ?_
                        refine lv_if_ne (tgt := 311) hx hb dX12_operand_296 (by decide) (fun c_4488 => ?_) (fun c_4488 => ?_)
                        · have jc_4488 := dk_neqc (k := 0) (by decide +kernel) c_4488
                          refine lv_iconst (v := 0) hx hb dX12_operand_311 (by decide +kernel) ?_
                          have hz_4489 : (0 : Int32).toInt = 0 := by decide +kernel
                          have hz_4490 : (0 : Int32).toInt = 0 := by decide +kernel
                          obtain ⟨x_4491, f_x_4491, b_x_4491⟩ := dg_I.int (i := 0) (k := 42) (lo := 0) (hi := 20) I_4480 sM_0 (by decide +kernel)
                          have hz_4492 : (0 : Int32).toInt = 0 := by decide +kernel
                          have hz_4493 : (0 : Int32).toInt = 0 := by decide +kernel
                          refine W.widen (k := 0) (n := 0) (Nat.le_of_ble_eq_true rfl) (Nat.le_of_ble_eq_true rfl) ?_
                          exact dg_iret hx hb hr hlocks (by decide +kernel) hP hS ⟨I_4480, M_4480, (by decide +kernel), ⟨y_4482, y_4483, y_4484, y_4485, cd, x_4491, om, f_y_4482, f_y_4483, f_y_4484, f_y_4485, (((m_4480.1 0 34 _ sM_0 (by decide)).trans ((m_4475.1 0 34 _ sM_0 (by decide)).trans ((m_4420.1 0 34 _ sM_0 (by decide)).trans ((m_4416.1 0 34 _ sM_0 (by decide)).trans ((dg_uf_F e_3466 0 34).trans (m_2.1 0 34 _ sM_0 (by decide))))))).trans f_cd), f_x_4491, (((m_4480.1 0 45 _ sM_0 (by decide)).trans ((m_4475.1 0 45 _ sM_0 (by decide)).trans ((m_4420.1 0 45 _ sM_0 (by decide)).trans ((m_4416.1 0 45 _ sM_0 (by decide)).trans ((dg_uf_F e_3466 0 45).trans (m_2.1 0 45 _ sM_0 (by decide))))))).trans f_om), (by omega)⟩, (fun k9 hk9 hk0 => by have q9 := (f_y_4485).symm.trans hk9; cases q9; omega), (ZWM.keep (ZWM.keep (ZWM.keep (ZWM.keep (ZWM.keep (ZWM.keep ZW m_2 (by decide) (by decide) (by decide) (by decide)) (dg_sm.uf (WF := []) (WA := [24]) dg_sm.rf e_3466 sM_24 (by decide)) (by decide) (by decide) (by decide) (by decide)) m_4416 (by decide) (by decide) (by decide) (by decide)) m_4420 (by decide) (by decide) (by decide) (by decide)) m_4475 (by decide) (by decide) (by decide) (by decide)) m_4480 (by decide) (by decide) (by decide) (by decide)), trivial⟩ dX12_operand_312
                        · have jc_4488 := dk_eqc (k := 0) (by decide +kernel) c_4488
                          refine lv_aload_n hx hb dX12_operand_299 rfl (lv_at hl 3 rfl) ?_
                          refine dg_get (C := RX12) (T := TX12) (N := 77) hx hb hts (fun w h => bw_mem (wU_X12 w h)) hown K hP sM_0 rfl 40 (by decide) (hts _ (bw_mem wB_1204)) (fun _ h9 => h9) (v := .ref (o + 25)) (show S_4480.1 0 40 = .ref (o + 25) from dg_I.rel (d := 25) I_4480 sM_0 (by decide +kernel)) dX12_operand_300 ?_
                          refine lv_aload_n hx hb dX12_operand_303 rfl (lv_at hl 3 rfl) ?_
                          obtain ⟨x_4494, f_x_4494, b_x_4494⟩ := dg_I.int (i := 0) (k := 42) (lo := 0) (hi := 20) I_4480 sM_0 (by decide +kernel)
                          refine dg_get (C := RX12) (T := TX12) (N := 77) hx hb hts (fun w h => bw_mem (wU_X12 w h)) hown K hP sM_0 rfl 42 (by decide) (hts _ (bw_mem wB_1179)) (fun _ h9 => h9) (v := .int x_4494) f_x_4494 dX12_operand_304 ?_
                          refine lv_iconst (v := 1) hx hb dX12_operand_307 (by decide +kernel) ?_
                          refine lv_isub hx hb dX12_operand_308 ?_
                          refine lv_topi (fun x_4495 ex_4495 => ?_)
                          have jx_4495 : (x_4495).toInt = (x_4494).toInt - 1 := by rw [ex_4495]; exact dk_subT rfl (by decide +kernel) (by omega) (by omega)
                          refine lv_iload_n hx hb dX12_operand_309 rfl (lv_at hl 0 rfl) ?_
                          have hin_4496 : vp_in x_4495 20 := (dk_inv (by omega) (by omega))
                          refine dg_iast hx hb K hP hS hA1 sM_25 hin_4496 dX12_operand_310 (fun S_4497 e_4497 H locs hP hS => ?_)
                          have I_4497 := dg_I.uf0 I_4480 e_4497 sM_25 (by decide +kernel)
                          have M_4497 := dg_sm.uf M_4480 e_4497 sM_25 (by decide)
                          have P0_4497 : P0M S_4497 := PBM.openp (PBM.keep (PBM.keep (PBM.keep PB_3466 m_4416 (by decide) (by decide) (by decide) (by decide) (by decide) (by decide) (by decide) (by decide) (by decide) (by decide) (by decide) (by decide) (by decide) (by decide) (by decide)) m_4420 (by decide) (by decide) (by decide) (by decide) (by decide) (by decide) (by decide) (by decide) (by decide) (by decide) (by decide) (by decide) (by decide) (by decide) (by decide)) m_4475 (by decide) (by decide) (by decide) (by decide) (by decide) (by decide) (by decide) (by decide) (by decide) (by decide) (by decide) (by decide) (by decide) (by decide) (by decide)) f_x_4487 (((m_4475.1 0 43 _ sM_0 (by decide)).trans ((m_4420.1 0 43 _ sM_0 (by decide)).trans ((m_4416.1 0 43 _ sM_0 (by decide)).trans ((dg_uf_F e_3466 0 43).trans (m_2.1 0 43 _ sM_0 (by decide)))))).trans f_on) (((m_4475.1 0 45 _ sM_0 (by decide)).trans ((m_4420.1 0 45 _ sM_0 (by decide)).trans ((m_4416.1 0 45 _ sM_0 (by decide)).trans ((dg_uf_F e_3466 0 45).trans (m_2.1 0 45 _ sM_0 (by decide)))))).trans f_om) (w_4480_1 _ f_y_4485 (by omega)) m_4480 (by decide) (by decide) (by decide) (by decide) (by omega) f_x_4494 (by omega) e_4497
                          refine lv_iconst (v := 0) hx hb dX12_operand_311 (by decide +kernel) ?_
                          have hz_4498 : (0 : Int32).toInt = 0 := by decide +kernel
                          have hz_4499 : (0 : Int32).toInt = 0 := by decide +kernel
                          have hz_4500 : (0 : Int32).toInt = 0 := by decide +kernel
                          have hz_4501 : (0 : Int32).toInt = 0 := by decide +kernel
                          refine W.widen (k := 0) (n := 0) (Nat.le_of_ble_eq_true rfl) (Nat.le_of_ble_eq_true rfl) ?_
                          exact dg_iret hx hb hr hlocks (by decide +kernel) hP hS ⟨I_4497, M_4497, (by decide +kernel), ⟨y_4482, y_4483, y_4484, y_4485, cd, x_4494, om, ((dg_uf_F e_4497 0 3).trans f_y_4482), ((dg_uf_F e_4497 0 4).trans f_y_4483), ((dg_uf_F e_4497 0 5).trans f_y_4484), ((dg_uf_F e_4497 0 8).trans f_y_4485), (((dg_uf_F e_4497 0 34).trans ((m_4480.1 0 34 _ sM_0 (by decide)).trans ((m_4475.1 0 34 _ sM_0 (by decide)).trans ((m_4420.1 0 34 _ sM_0 (by decide)).trans ((m_4416.1 0 34 _ sM_0 (by decide)).trans ((dg_uf_F e_3466 0 34).trans (m_2.1 0 34 _ sM_0 (by decide)))))))).trans f_cd), ((dg_uf_F e_4497 0 42).trans f_x_4494), (((dg_uf_F e_4497 0 45).trans ((m_4480.1 0 45 _ sM_0 (by decide)).trans ((m_4475.1 0 45 _ sM_0 (by decide)).trans ((m_4420.1 0 45 _ sM_0 (by decide)).trans ((m_4416.1 0 45 _ sM_0 (by decide)).trans ((dg_uf_F e_3466 0 45).trans (m_2.1 0 45 _ sM_0 (by decide)))))))).trans f_om), (by omega)⟩, (fun k9 hk9 hk0 => ⟨fun h9 => absurd h9 (by decide +kernel), fun _ => P0_4497⟩), (ZWM.keep (ZWM.keep (ZWM.keep (ZWM.keep (ZWM.keep (ZWM.keep (ZWM.keep ZW m_2 (by decide) (by decide) (by decide) (by decide)) (dg_sm.uf (WF := []) (WA := [24]) dg_sm.rf e_3466 sM_24 (by decide)) (by decide) (by decide) (by decide) (by decide)) m_4416 (by decide) (by decide) (by decide) (by decide)) m_4420 (by decide) (by decide) (by decide) (by decide)) m_4475 (by decide) (by decide) (by decide) (by decide)) m_4480 (by decide) (by decide) (by decide) (by decide)) (dg_sm.uf (WF := []) (WA := [25]) dg_sm.rf e_4497 sM_25 (by decide)) (by decide) (by decide) (by decide) (by decide)), trivial⟩ dX12_operand_312
                      · have jc_4478 := dk_eqc (k := 44) (by decide +kernel) c_4478
                        refine lv_bipush (v := 6) hx hb dX12_operand_283 (by decide +kernel) ?_
                        refine lv_goto (tgt := 289) hx hb dX12_operand_285 (by decide) ?_
                        have hz_4502 : (6 : Int32).toInt = 6 := by decide +kernel
                        refine dg_callv hS hA1 hA (va_runV (As := [.int 6]) (rest := []) F (c_m_frames l g D o S_4475 6 (by decide +kernel) y_4417 (((m_4475.1 0 3 _ sM_0 (by decide)).trans (m_4420.1 0 3 _ sM_0 (by decide))).trans f_y_4417) (by omega) y_4418 (((m_4475.1 0 4 _ sM_0 (by decide)).trans (m_4420.1 0 4 _ sM_0 (by decide))).trans f_y_4418) (by omega) y_4419 (((m_4475.1 0 5 _ sM_0 (by decide)).trans (m_4420.1 0 5 _ sM_0 (by decide))).trans f_y_4419) (by omega) sl (((m_4475.1 0 2 _ sM_0 (by decide)).trans ((m_4420.1 0 2 _ sM_0 (by decide)).trans ((m_4416.1 0 2 _ sM_0 (by decide)).trans ((dg_uf_F e_3466 0 2).trans (m_2.1 0 2 _ sM_0 (by decide)))))).trans f_sl) (by omega) y_4477 f_y_4477 (by omega) dp (((m_4475.1 0 42 _ sM_0 (by decide)).trans ((m_4420.1 0 42 _ sM_0 (by decide)).trans ((m_4416.1 0 42 _ sM_0 (by decide)).trans ((dg_uf_F e_3466 0 42).trans (m_2.1 0 42 _ sM_0 (by decide)))))).trans f_dp) (by omega) om (((m_4475.1 0 45 _ sM_0 (by decide)).trans ((m_4420.1 0 45 _ sM_0 (by decide)).trans ((m_4416.1 0 45 _ sM_0 (by decide)).trans ((dg_uf_F e_3466 0 45).trans (m_2.1 0 45 _ sM_0 (by decide)))))).trans f_om) (by omega) on (((m_4475.1 0 43 _ sM_0 (by decide)).trans ((m_4420.1 0 43 _ sM_0 (by decide)).trans ((m_4416.1 0 43 _ sM_0 (by decide)).trans ((dg_uf_F e_3466 0 43).trans (m_2.1 0 43 _ sM_0 (by decide)))))).trans f_on) (by omega) (by omega) I_4475 H.size) (cwV 1 hts (bw_V wB_1201 wB_1202 wB_1203 wB_857 wB_1200) rfl rfl rfl (by decide +kernel) ⟨Nat.le_of_ble_eq_true rfl, Nat.le_of_ble_eq_true rfl⟩) (dg_preV sM_0 rfl K ST hP hS hA1 hA) rfl rfl hl.1 rfl (lv_room (Nat.le_of_ble_eq_true rfl)) dX12_operand_289 ⟨Nat.le_of_ble_eq_true rfl, Nat.le_of_ble_eq_true rfl⟩) (fun S_4503 hw_4503 H locs hP hS => ?_)
                        obtain ⟨I_4503, m_4503, w_4503_0, w_4503_1, -⟩ := hw_4503
                        have M_4503 := dg_sm.tr M_4475 m_4503 (by decide) (by decide)
                        have hz_4504 : (6 : Int32).toInt = 6 := by decide +kernel
                        obtain ⟨y_4505, y_4506, y_4507, y_4508, y_4509, f_y_4505, f_y_4506, f_y_4507, f_y_4508, f_y_4509, w_4503_0⟩ := w_4503_0
                        have w_4503_0 : ((y_4506).toInt ≤ (y_4507).toInt ∧ (y_4507).toInt ≤ (sl).toInt ∧ ((y_4505).toInt ≠ 0 → (y_4506).toInt + 1 ≤ (y_4507).toInt)) ∧ (y_4418).toInt ≤ (y_4506).toInt ∧ ((y_4477).toInt ≠ 0 → (y_4508).toInt ≠ 0) ∧ (((y_4508).toInt = 0 → ((y_4418).toInt + 1 ≤ (y_4506).toInt ∧ (y_4509).toInt = (dp).toInt + 1))) := w_4503_0
                        have b_y_4505 : 0 ≤ (y_4505).toInt ∧ (y_4505).toInt ≤ 3 := dg_I.intb (lo := 0) (hi := 3) I_4503 sM_0 (by decide +kernel) f_y_4505
                        have b_y_4506 : 0 ≤ (y_4506).toInt ∧ (y_4506).toInt ≤ 1600 := dg_I.intb (lo := 0) (hi := 1600) I_4503 sM_0 (by decide +kernel) f_y_4506
                        have b_y_4507 : 0 ≤ (y_4507).toInt ∧ (y_4507).toInt ≤ 1600 := dg_I.intb (lo := 0) (hi := 1600) I_4503 sM_0 (by decide +kernel) f_y_4507
                        have b_y_4508 : 0 ≤ (y_4508).toInt ∧ (y_4508).toInt ≤ 6 := dg_I.intb (lo := 0) (hi := 6) I_4503 sM_0 (by decide +kernel) f_y_4508
                        have b_y_4509 : 0 ≤ (y_4509).toInt ∧ (y_4509).toInt ≤ 20 := dg_I.intb (lo := 0) (hi := 20) I_4503 sM_0 (by decide +kernel) f_y_4509
                        have w_4503_1 : ∀ k9 : Int32, S_4503.1 0 8 = .int k9 → k9.toInt = 0 → FRM S_4475 S_4503 (6 : Int32) := w_4503_1
                        obtain ⟨x_4510, f_x_4510, b_x_4510⟩ := dg_I.int (i := 0) (k := 42) (lo := 0) (hi := 20) I_4475 sM_0 (by decide +kernel)
                        refine lv_aload_n hx hb dX12_operand_292 rfl (lv_at hl 3 rfl) ?_
                        refine dg_get (C := RX12) (T := TX12) (N := 77) hx hb hts (fun w h => bw_mem (wU_X12 w h)) hown K hP sM_0 rfl 8 (by decide) (hts _ (bw_mem wB_1109)) (fun _ h9 => h9) (v := .int y_4508) f_y_4508 dX12_operand_293 ?_
                        refine lv_if_ne (tgt := 311) hx hb dX12_operand_296 (by decide) (fun c_4511 => ?_) (fun c_4511 => ?_)
                        · have jc_4511 := dk_neqc (k := 0) (by decide +kernel) c_4511
                          refine lv_iconst (v := 0) hx hb dX12_operand_311 (by decide +kernel) ?_
                          have hz_4512 : (0 : Int32).toInt = 0 := by decide +kernel
                          have hz_4513 : (0 : Int32).toInt = 0 := by decide +kernel
                          obtain ⟨x_4514, f_x_4514, b_x_4514⟩ := dg_I.int (i := 0) (k := 42) (lo := 0) (hi := 20) I_4503 sM_0 (by decide +kernel)
                          have hz_4515 : (0 : Int32).toInt = 0 := by decide +kernel
                          have hz_4516 : (0 : Int32).toInt = 0 := by decide +kernel
                          refine W.widen (k := 0) (n := 0) (Nat.le_of_ble_eq_true rfl) (Nat.le_of_ble_eq_true rfl) ?_
                          exact dg_iret hx hb hr hlocks (by decide +kernel) hP hS ⟨I_4503, M_4503, (by decide +kernel), ⟨y_4505, y_4506, y_4507, y_4508, cd, x_4514, om, f_y_4505, f_y_4506, f_y_4507, f_y_4508, (((m_4503.1 0 34 _ sM_0 (by decide)).trans ((m_4475.1 0 34 _ sM_0 (by decide)).trans ((m_4420.1 0 34 _ sM_0 (by decide)).trans ((m_4416.1 0 34 _ sM_0 (by decide)).trans ((dg_uf_F e_3466 0 34).trans (m_2.1 0 34 _ sM_0 (by decide))))))).trans f_cd), f_x_4514, (((m_4503.1 0 45 _ sM_0 (by decide)).trans ((m_4475.1 0 45 _ sM_0 (by decide)).trans ((m_4420.1 0 45 _ sM_0 (by decide)).trans ((m_4416.1 0 45 _ sM_0 (by decide)).trans ((dg_uf_F e_3466 0 45).trans (m_2.1 0 45 _ sM_0 (by decide))))))).trans f_om), (by omega)⟩, (fun k9 hk9 hk0 => by have q9 := (f_y_4508).symm.trans hk9; cases q9; omega), (ZWM.keep (ZWM.keep (ZWM.keep (ZWM.keep (ZWM.keep (ZWM.keep ZW m_2 (by decide) (by decide) (by decide) (by decide)) (dg_sm.uf (WF := []) (WA := [24]) dg_sm.rf e_3466 sM_24 (by decide)) (by decide) (by decide) (by decide) (by decide)) m_4416 (by decide) (by decide) (by decide) (by decide)) m_4420 (by decide) (by decide) (by decide) (by decide)) m_4475 (by decide) (by decide) (by decide) (by decide)) m_4503 (by decide) (by decide) (by decide) (by decide)), trivial⟩ dX12_operand_312
                        · have jc_4511 := dk_eqc (k := 0) (by decide +kernel) c_4511
                          refine lv_aload_n hx hb dX12_operand_299 rfl (lv_at hl 3 rfl) ?_
                          refine dg_get (C := RX12) (T := TX12) (N := 77) hx hb hts (fun w h => bw_mem (wU_X12 w h)) hown K hP sM_0 rfl 40 (by decide) (hts _ (bw_mem wB_1204)) (fun _ h9 => h9) (v := .ref (o + 25)) (show S_4503.1 0 40 = .ref (o + 25) from dg_I.rel (d := 25) I_4503 sM_0 (by decide +kernel)) dX12_operand_300 ?_
                          refine lv_aload_n hx hb dX12_operand_303 rfl (lv_at hl 3 rfl) ?_
                          obtain ⟨x_4517, f_x_4517, b_x_4517⟩ := dg_I.int (i := 0) (k := 42) (lo := 0) (hi := 20) I_4503 sM_0 (by decide +kernel)
                          refine dg_get (C := RX12) (T := TX12) (N := 77) hx hb hts (fun w h => bw_mem (wU_X12 w h)) hown K hP sM_0 rfl 42 (by decide) (hts _ (bw_mem wB_1179)) (fun _ h9 => h9) (v := .int x_4517) f_x_4517 dX12_operand_304 ?_
                          refine lv_iconst (v := 1) hx hb dX12_operand_307 (by decide +kernel) ?_
                          refine lv_isub hx hb dX12_operand_308 ?_
                          refine lv_topi (fun x_4518 ex_4518 => ?_)
                          have jx_4518 : (x_4518).toInt = (x_4517).toInt - 1 := by rw [ex_4518]; exact dk_subT rfl (by decide +kernel) (by omega) (by omega)
                          refine lv_iload_n hx hb dX12_operand_309 rfl (lv_at hl 0 rfl) ?_
                          have hin_4519 : vp_in x_4518 20 := (dk_inv (by omega) (by omega))
                          refine dg_iast hx hb K hP hS hA1 sM_25 hin_4519 dX12_operand_310 (fun S_4520 e_4520 H locs hP hS => ?_)
                          have I_4520 := dg_I.uf0 I_4503 e_4520 sM_25 (by decide +kernel)
                          have M_4520 := dg_sm.uf M_4503 e_4520 sM_25 (by decide)
                          have P0_4520 : P0M S_4520 := PBM.openp (PBM.keep (PBM.keep (PBM.keep PB_3466 m_4416 (by decide) (by decide) (by decide) (by decide) (by decide) (by decide) (by decide) (by decide) (by decide) (by decide) (by decide) (by decide) (by decide) (by decide) (by decide)) m_4420 (by decide) (by decide) (by decide) (by decide) (by decide) (by decide) (by decide) (by decide) (by decide) (by decide) (by decide) (by decide) (by decide) (by decide) (by decide)) m_4475 (by decide) (by decide) (by decide) (by decide) (by decide) (by decide) (by decide) (by decide) (by decide) (by decide) (by decide) (by decide) (by decide) (by decide) (by decide)) f_x_4510 (((m_4475.1 0 43 _ sM_0 (by decide)).trans ((m_4420.1 0 43 _ sM_0 (by decide)).trans ((m_4416.1 0 43 _ sM_0 (by decide)).trans ((dg_uf_F e_3466 0 43).trans (m_2.1 0 43 _ sM_0 (by decide)))))).trans f_on) (((m_4475.1 0 45 _ sM_0 (by decide)).trans ((m_4420.1 0 45 _ sM_0 (by decide)).trans ((m_4416.1 0 45 _ sM_0 (by decide)).trans ((dg_uf_F e_3466 0 45).trans (m_2.1 0 45 _ sM_0 (by decide)))))).trans f_om) (w_4503_1 _ f_y_4508 (by omega)) m_4503 (by decide) (by decide) (by decide) (by decide) (by omega) f_x_4517 (by omega) e_4520
                          refine lv_iconst (v := 0) hx hb dX12_operand_311 (by decide +kernel) ?_
                          have hz_4521 : (0 : Int32).toInt = 0 := by decide +kernel
                          have hz_4522 : (0 : Int32).toInt = 0 := by decide +kernel
                          have hz_4523 : (0 : Int32).toInt = 0 := by decide +kernel
                          have hz_4524 : (0 : Int32).toInt = 0 := by decide +kernel
                          refine W.widen (k := 0) (n := 0) (Nat.le_of_ble_eq_true rfl) (Nat.le_of_ble_eq_true rfl) ?_
                          exact dg_iret hx hb hr hlocks (by decide +kernel) hP hS ⟨I_4520, M_4520, (by decide +kernel), ⟨y_4505, y_4506, y_4507, y_4508, cd, x_4517, om, ((dg_uf_F e_4520 0 3).trans f_y_4505), ((dg_uf_F e_4520 0 4).trans f_y_4506), ((dg_uf_F e_4520 0 5).trans f_y_4507), ((dg_uf_F e_4520 0 8).trans f_y_4508), (((dg_uf_F e_4520 0 34).trans ((m_4503.1 0 34 _ sM_0 (by decide)).trans ((m_4475.1 0 34 _ sM_0 (by decide)).trans ((m_4420.1 0 34 _ sM_0 (by decide)).trans ((m_4416.1 0 34 _ sM_0 (by decide)).trans ((dg_uf_F e_3466 0 34).trans (m_2.1 0 34 _ sM_0 (by decide)))))))).trans f_cd), ((dg_uf_F e_4520 0 42).trans f_x_4517), (((dg_uf_F e_4520 0 45).trans ((m_4503.1 0 45 _ sM_0 (by decide)).trans ((m_4475.1 0 45 _ sM_0 (by decide)).trans ((m_4420.1 0 45 _ sM_0 (by decide)).trans ((m_4416.1 0 45 _ sM_0 (by decide)).trans ((dg_uf_F e_3466 0 45).trans (m_2.1 0 45 _ sM_0 (by decide)))))))).trans f_om), (by omega)⟩, (fun k9 hk9 hk0 => ⟨fun h9 => absurd h9 (by decide +kernel), fun _ => P0_4520⟩), (ZWM.keep (ZWM.keep (ZWM.keep (ZWM.keep (ZWM.keep (ZWM.keep (ZWM.keep ZW m_2 (by decide) (by decide) (by decide) (by decide)) (dg_sm.uf (WF := []) (WA := [24]) dg_sm.rf e_3466 sM_24 (by decide)) (by decide) (by decide) (by decide) (by decide)) m_4416 (by decide) (by decide) (by decide) (by decide)) m_4420 (by decide) (by decide) (by decide) (by decide)) m_4475 (by decide) (by decide) (by decide) (by decide)) m_4503 (by decide) (by decide) (by decide) (by decide)) (dg_sm.uf (WF := []) (WA := [25]) dg_sm.rf e_4520 sM_25 (by decide)) (by decide) (by decide) (by decide) (by decide)), trivial⟩ dX12_operand_312
                  refine lv_if_eq (tgt := 232) hx hb dX12_operand_224 (by decide) (fun c_4525 => ?_) (fun c_4525 => ?_)
                  · have jc_4525 := dk_eqc (k := 0) (by decide +kernel) c_4525
                    refine lv_aload_n hx hb dX12_operand_232 rfl (lv_at hl 2 rfl) ?_
                    refine lv_ldc2 hx hb hown (hts _ (bw_mem wB_1170)) dX12_operand_233 ?_
                    refine dg_calli hS hA1 hA (va_runV (As := [.long 7168376]) (rest := []) F (c_m_isWord l g D o S_3466 7168376 sg (((dg_uf_F e_3466 0 3).trans (m_2.1 0 3 _ sM_0 (by decide))).trans f_sg) (by omega) I_3466 H.size) (cwV 1 hts (bw_V wB_1141 wB_1142 wB_1143 wB_857 wB_1140) rfl rfl rfl (by decide +kernel) ⟨Nat.le_of_ble_eq_true rfl, Nat.le_of_ble_eq_true rfl⟩) (dg_preV sM_0 rfl K ST hP hS hA1 hA) rfl rfl hl.1 rfl (lv_room (Nat.le_of_ble_eq_true rfl)) dX12_operand_236 ⟨Nat.le_of_ble_eq_true rfl, Nat.le_of_ble_eq_true rfl⟩) (fun x_4526 S_4527 hw_4527 H locs hP hS => ?_)
                    rw [hw_4527.1] at hP
                    obtain ⟨hq_4527, w_4527_0, w_4527_1, -⟩ := hw_4527
                    have w_4527_0 : 0 ≤ (x_4526).toInt ∧ (x_4526).toInt ≤ 1 := w_4527_0
                    have w_4527_1 : (x_4526).toInt = 1 → (sg).toInt = 1 := w_4527_1
                    refine lv_if_eq (tgt := 247) hx hb dX12_operand_239 (by decide) (fun c_4528 => ?_) (fun c_4528 => ?_)
                    · have jc_4528 := dk_eqc (k := 0) (by decide +kernel) c_4528
                      refine lv_bipush (v := 44) hx hb dX12_operand_247 (by decide +kernel) ?_
                      have hz_4529 : (44 : Int32).toInt = 44 := by decide +kernel
                      have hz_4530 : (44 : Int32).toInt = 44 := by decide +kernel
                      exact J_4415 44 (by decide +kernel) (by omega) _ _ hP hS _ (lv_sub hl [0, 1, 2] rfl)
                    · have jc_4528 := dk_neqc (k := 0) (by decide +kernel) c_4528
                      refine lv_bipush (v := 37) hx hb dX12_operand_242 (by decide +kernel) ?_
                      refine lv_goto (tgt := 249) hx hb dX12_operand_244 (by decide) ?_
                      have hz_4531 : (37 : Int32).toInt = 37 := by decide +kernel
                      have hz_4532 : (37 : Int32).toInt = 37 := by decide +kernel
                      exact J_4415 37 (by decide +kernel) (by omega) _ _ hP hS _ (lv_sub hl [0, 1, 2] rfl)
                  · have jc_4525 := dk_neqc (k := 0) (by decide +kernel) c_4525
                    refine lv_bipush (v := 36) hx hb dX12_operand_227 (by decide +kernel) ?_
                    refine lv_goto (tgt := 249) hx hb dX12_operand_229 (by decide) ?_
                    have hz_4533 : (36 : Int32).toInt = 36 := by decide +kernel
                    have hz_4534 : (36 : Int32).toInt = 36 := by decide +kernel
                    exact J_4415 36 (by decide +kernel) (by omega) _ _ hP hS _ (lv_sub hl [0, 1, 2] rfl)
                refine lv_if_ne (tgt := 217) hx hb dX12_operand_194 (by decide) (fun c_4535 => ?_) (fun c_4535 => ?_)
                · have jc_4535 := dk_neqc (k := 0) (by decide +kernel) c_4535
                  exact J_4298  (by omega) _ _ hP hS _ (lv_sub hl [0, 1, 2] rfl)
                · have jc_4535 := dk_eqc (k := 0) (by decide +kernel) c_4535
                  refine lv_aload_n hx hb dX12_operand_197 rfl (lv_at hl 2 rfl) ?_
                  refine lv_ldc2 hx hb hown (hts _ (bw_mem wB_1170)) dX12_operand_198 ?_
                  refine dg_calli hS hA1 hA (va_runV (As := [.long 7168376]) (rest := []) F (c_m_isWord l g D o S_3466 7168376 sg (((dg_uf_F e_3466 0 3).trans (m_2.1 0 3 _ sM_0 (by decide))).trans f_sg) (by omega) I_3466 H.size) (cwV 1 hts (bw_V wB_1141 wB_1142 wB_1143 wB_857 wB_1140) rfl rfl rfl (by decide +kernel) ⟨Nat.le_of_ble_eq_true rfl, Nat.le_of_ble_eq_true rfl⟩) (dg_preV sM_0 rfl K ST hP hS hA1 hA) rfl rfl hl.1 rfl (lv_room (Nat.le_of_ble_eq_true rfl)) dX12_operand_201 ⟨Nat.le_of_ble_eq_true rfl, Nat.le_of_ble_eq_true rfl⟩) (fun x_4536 S_4537 hw_4537 H locs hP hS => ?_)
                  rw [hw_4537.1] at hP
                  obtain ⟨hq_4537, w_4537_0, w_4537_1, -⟩ := hw_4537
                  have w_4537_0 : 0 ≤ (x_4536).toInt ∧ (x_4536).toInt ≤ 1 := w_4537_0
                  have w_4537_1 : (x_4536).toInt = 1 → (sg).toInt = 1 := w_4537_1
                  refine lv_if_ne (tgt := 217) hx hb dX12_operand_204 (by decide) (fun c_4538 => ?_) (fun c_4538 => ?_)
                  · have jc_4538 := dk_neqc (k := 0) (by decide +kernel) c_4538
                    exact J_4298  (by omega) _ _ hP hS _ (lv_sub hl [0, 1, 2] rfl)
                  · have jc_4538 := dk_eqc (k := 0) (by decide +kernel) c_4538
                    refine lv_aload_n hx hb dX12_operand_207 rfl (lv_at hl 2 rfl) ?_
                    refine lv_ldc2 hx hb hown (hts _ (bw_mem wB_1164)) dX12_operand_208 ?_
                    refine dg_calli hS hA1 hA (va_runV (As := [.long 26982]) (rest := []) F (c_m_isWord l g D o S_3466 26982 sg (((dg_uf_F e_3466 0 3).trans (m_2.1 0 3 _ sM_0 (by decide))).trans f_sg) (by omega) I_3466 H.size) (cwV 1 hts (bw_V wB_1141 wB_1142 wB_1143 wB_857 wB_1140) rfl rfl rfl (by decide +kernel) ⟨Nat.le_of_ble_eq_true rfl, Nat.le_of_ble_eq_true rfl⟩) (dg_preV sM_0 rfl K ST hP hS hA1 hA) rfl rfl hl.1 rfl (lv_room (Nat.le_of_ble_eq_true rfl)) dX12_operand_211 ⟨Nat.le_of_ble_eq_true rfl, Nat.le_of_ble_eq_true rfl⟩) (fun x_4539 S_4540 hw_4540 H locs hP hS => ?_)
                    rw [hw_4540.1] at hP
                    obtain ⟨hq_4540, w_4540_0, w_4540_1, -⟩ := hw_4540
                    have w_4540_0 : 0 ≤ (x_4539).toInt ∧ (x_4539).toInt ≤ 1 := w_4540_0
                    have w_4540_1 : (x_4539).toInt = 1 → (sg).toInt = 1 := w_4540_1
                    refine lv_if_eq (tgt := 313) hx hb dX12_operand_214 (by decide) (fun c_4541 => ?_) (fun c_4541 => ?_)
                    · have jc_4541 := dk_eqc (k := 0) (by decide +kernel) c_4541
                      refine lv_aload_n hx hb dX12_operand_313 rfl (lv_at hl 2 rfl) ?_
                      refine dg_get (C := RX12) (T := TX12) (N := 77) hx hb hts (fun w h => bw_mem (wU_X12 w h)) hown K hP sM_0 rfl 3 (by decide) (hts _ (bw_mem wB_1116)) (fun _ h9 => h9) (v := .int sg) (((dg_uf_F e_3466 0 3).trans (m_2.1 0 3 _ sM_0 (by decide))).trans f_sg) dX12_operand_314 ?_
                      refine lv_iconst (v := 2) hx hb dX12_operand_317 (by decide +kernel) ?_
                      have J_4660 : ∀ (x_4561 : Int32), ((-1) ≤ (x_4561).toInt ∧ (x_4561).toInt ≤ 6) → ((x_4561 : Int32).toInt ≠ -1 → (sg).toInt ≠ 0) → ∀ (H : Heap) (locs : List Loc), va_P D vwCl (dg_w g shM o rfM S_3466) H → va_S A s.heap H locs → ∀ ls : Array Slot, lv_has ls 4 [(2, .int 1), (1, .int x_5), (0, .ref (o + 0))] → W p l e ({ frames := 4, cells := 0, slots := 0, locals := 98 } : Room) s m args below meth c H locs 0 0 (MQ below (va_Qi (fun (r : Int32) S' => CM o S' ∧ dg_sm shM [(0, 3), (0, 4), (0, 5), (0, 6), (0, 7), (0, 8), (0, 9), (0, 12), (0, 34), (0, 42), (0, 43), (0, 45)] [18, 19, 22, 23, 24, 25, 26, 27] S S' ∧ (0 ≤ (r).toInt ∧ (r).toInt ≤ 1) ∧ (∃ y9_3 y9_4 y9_5 y9_8 y9_34 y9_42 y9_45 : Int32, S'.1 0 3 = .int y9_3 ∧ S'.1 0 4 = .int y9_4 ∧ S'.1 0 5 = .int y9_5 ∧ S'.1 0 8 = .int y9_8 ∧ S'.1 0 34 = .int y9_34 ∧ S'.1 0 42 = .int y9_42 ∧ S'.1 0 45 = .int y9_45 ∧ (((y9_4).toInt ≤ (y9_5).toInt ∧ (y9_5).toInt ≤ (sl).toInt ∧ ((y9_3).toInt ≠ 0 → (y9_4).toInt + 1 ≤ (y9_5).toInt)) ∧ (sa).toInt ≤ (y9_4).toInt ∧ ((fk).toInt ≠ 0 → (y9_8).toInt ≠ 0) ∧ (((y9_8).toInt = 0 → (sa).toInt + 1 ≤ (y9_4).toInt) ∧ ((y9_8).toInt = 0 → (y9_34).toInt + (y9_45).toInt + (y9_42).toInt ≤ (y9_4).toInt)))) ∧ (∀ k9 : Int32, S'.1 0 8 = .int k9 → k9.toInt = 0 → ((r).toInt = 1 → P1M S') ∧ ((r).toInt = 0 → P0M S')) ∧ ZWM S' ∧ True) (dg_B g D shM o rfM) A) args s 0 0 A) (F0 m 411 ls [.int x_4561]) := by
                        intro x_4561 b_x_4561 rel_0 H locs hP hS ls hl
                        refine lv_istore_n (lv' := [(3, .int x_4561), (2, .int 1), (1, .int x_5), (0, .ref (o + 0))]) hx hb dX12_operand_411 rfl hl (by decide) rfl (fun ls hl => ?_)
                        refine lv_iload_n hx hb dX12_operand_412 rfl (lv_at hl 0 rfl) ?_
                        refine lv_iconst (v := 4) hx hb dX12_operand_413 (by decide +kernel) ?_
                        refine lv_icmp_lt (tgt := 444) hx hb dX12_operand_414 (by decide) (fun c_4661 => ?_) (fun c_4661 => ?_)
                        · have jc_4661 := dk_ltc (k := 4) (by decide +kernel) c_4661
                          refine lv_iload_n hx hb dX12_operand_444 rfl (lv_at hl 0 rfl) ?_
                          refine lv_iconst (v := (-1)) hx hb dX12_operand_445 (by decide +kernel) ?_
                          refine lv_icmp_ne (tgt := 458) hx hb dX12_operand_446 (by decide) (fun c_4662 => ?_) (fun c_4662 => ?_)
                          · have jc_4662 := dk_neqc (k := (-1)) (by decide +kernel) c_4662
                            refine lv_aload_n hx hb dX12_operand_458 rfl (lv_at hl 3 rfl) ?_
                            refine dg_get (C := RX12) (T := TX12) (N := 77) hx hb hts (fun w h => bw_mem (wU_X12 w h)) hown K hP sM_0 rfl 8 (by decide) (hts _ (bw_mem wB_1109)) (fun _ h9 => h9) (v := .int y_3) ((dg_uf_F e_3466 0 8).trans f_y_3) dX12_operand_459 ?_
                            refine lv_if_le (tgt := 467) hx hb dX12_operand_462 (by decide) (fun _ => ?_) (fun c => absurd (dk_lep (k := 0) (by decide +kernel) (by omega)) c)
                            refine lv_aload_n hx hb dX12_operand_467 rfl (lv_at hl 3 rfl) ?_
                            refine lv_iload_n hx hb dX12_operand_468 rfl (lv_at hl 0 rfl) ?_
                            refine lv_aload_n hx hb dX12_operand_469 rfl (lv_at hl 3 rfl) ?_
                            refine dg_get (C := RX12) (T := TX12) (N := 77) hx hb hts (fun w h => bw_mem (wU_X12 w h)) hown K hP sM_0 rfl 6 (by decide) (hts _ (bw_mem wB_1117)) (fun _ h9 => h9) (v := .int va) (((dg_uf_F e_3466 0 6).trans (m_2.1 0 6 _ sM_0 (by decide))).trans f_va) dX12_operand_470 ?_
                            refine dg_callv hS hA1 hA (va_runV (As := [.int x_4561, .int va]) (rest := []) F (c_m_add l g D o S_3466 x_4561 (by omega) va cd (((dg_uf_F e_3466 0 34).trans (m_2.1 0 34 _ sM_0 (by decide))).trans f_cd) (by omega) (ZWM.keep (ZWM.keep ZW m_2 (by decide) (by decide) (by decide) (by decide)) (dg_sm.uf (WF := []) (WA := [24]) dg_sm.rf e_3466 sM_24 (by decide)) (by decide) (by decide) (by decide) (by decide)) (ZKM.keep (ZKM.keep ZK m_2 (by decide) (by decide)) (dg_sm.uf (WF := []) (WA := [24]) dg_sm.rf e_3466 sM_24 (by decide)) (by decide) (by decide)) I_3466 H.size) (cwV 2 hts (bw_V wB_1185 wB_1186 wB_1187 wB_857 wB_1184) rfl rfl rfl (by decide +kernel) ⟨Nat.le_of_ble_eq_true rfl, Nat.le_of_ble_eq_true rfl⟩) (dg_preV sM_0 rfl K ST hP hS hA1 hA) rfl rfl hl.1 rfl (lv_room (Nat.le_of_ble_eq_true rfl)) dX12_operand_473 ⟨Nat.le_of_ble_eq_true rfl, Nat.le_of_ble_eq_true rfl⟩) (fun S_4663 hw_4663 H locs hP hS => ?_)
                            obtain ⟨I_4663, m_4663, w_4663_0, w_4663_1, w_4663_2, -⟩ := hw_4663
                            have M_4663 := dg_sm.tr M_3466 m_4663 (by decide) (by decide)
                            obtain ⟨y_4664, f_y_4664, w_4663_0⟩ := w_4663_0
                            have w_4663_0 : (y_4664).toInt = (cd).toInt + 1 := w_4663_0
                            have b_y_4664 : 0 ≤ (y_4664).toInt ∧ (y_4664).toInt ≤ 1600 := dg_I.intb (lo := 0) (hi := 1600) I_4663 sM_0 (by decide +kernel) f_y_4664
                            have w_4663_1 : ADM S_3466 S_4663 x_4561 := w_4663_1
                            have P1_4663 : P1M S_4663 := PBM.leaf PB_3466 (((dg_uf_F e_3466 0 42).trans (m_2.1 0 42 _ sM_0 (by decide))).trans f_dp) (((dg_uf_F e_3466 0 43).trans (m_2.1 0 43 _ sM_0 (by decide))).trans f_on) (((dg_uf_F e_3466 0 45).trans (m_2.1 0 45 _ sM_0 (by decide))).trans f_om) m_4663 w_4663_1 (by omega)
                            refine lv_aload_n hx hb dX12_operand_476 rfl (lv_at hl 3 rfl) ?_
                            refine dg_callv hS hA1 hA (va_runV (As := []) (rest := []) F (c_m_ahead l g D o S_4663 se (((m_4663.1 0 5 _ sM_0 (by decide)).trans ((dg_uf_F e_3466 0 5).trans (m_2.1 0 5 _ sM_0 (by decide)))).trans f_se) (by omega) sl (((m_4663.1 0 2 _ sM_0 (by decide)).trans ((dg_uf_F e_3466 0 2).trans (m_2.1 0 2 _ sM_0 (by decide)))).trans f_sl) (by omega) (by omega) I_4663 H.size) (cwV 0 hts (bw_V wB_1137 wB_1138 wB_1139 wB_857 wB_1136) rfl rfl rfl (by decide +kernel) ⟨Nat.le_of_ble_eq_true rfl, Nat.le_of_ble_eq_true rfl⟩) (dg_preV sM_0 rfl K ST hP hS hA1 hA) rfl rfl hl.1 rfl (lv_room (Nat.le_of_ble_eq_true rfl)) dX12_operand_477 ⟨Nat.le_of_ble_eq_true rfl, Nat.le_of_ble_eq_true rfl⟩) (fun S_4665 hw_4665 H locs hP hS => ?_)
                            obtain ⟨I_4665, m_4665, w_4665_0, -⟩ := hw_4665
                            have M_4665 := dg_sm.tr M_4663 m_4665 (by decide) (by decide)
                            obtain ⟨y_4666, y_4667, y_4668, f_y_4666, f_y_4667, f_y_4668, w_4665_0⟩ := w_4665_0
                            have w_4665_0 : (se).toInt ≤ (y_4667).toInt ∧ (y_4667).toInt ≤ (y_4668).toInt ∧ (y_4668).toInt ≤ (sl).toInt ∧ ((y_4666).toInt ≠ 0 → (y_4667).toInt + 1 ≤ (y_4668).toInt) := w_4665_0
                            have b_y_4666 : 0 ≤ (y_4666).toInt ∧ (y_4666).toInt ≤ 3 := dg_I.intb (lo := 0) (hi := 3) I_4665 sM_0 (by decide +kernel) f_y_4666
                            have b_y_4667 : 0 ≤ (y_4667).toInt ∧ (y_4667).toInt ≤ 1600 := dg_I.intb (lo := 0) (hi := 1600) I_4665 sM_0 (by decide +kernel) f_y_4667
                            have b_y_4668 : 0 ≤ (y_4668).toInt ∧ (y_4668).toInt ≤ 1600 := dg_I.intb (lo := 0) (hi := 1600) I_4665 sM_0 (by decide +kernel) f_y_4668
                            refine lv_iconst (v := 1) hx hb dX12_operand_480 (by decide +kernel) ?_
                            have hz_4669 : (1 : Int32).toInt = 1 := by decide +kernel
                            have hz_4670 : (1 : Int32).toInt = 1 := by decide +kernel
                            have hz_4671 : (1 : Int32).toInt = 1 := by decide +kernel
                            have hz_4672 : (1 : Int32).toInt = 1 := by decide +kernel
                            refine W.widen (k := 0) (n := 0) (Nat.le_of_ble_eq_true rfl) (Nat.le_of_ble_eq_true rfl) ?_
                            exact dg_iret hx hb hr hlocks (by decide +kernel) hP hS ⟨I_4665, M_4665, (by decide +kernel), ⟨y_4666, y_4667, y_4668, y_3, y_4664, dp, om, f_y_4666, f_y_4667, f_y_4668, (((m_4665.1 0 8 _ sM_0 (by decide)).trans ((m_4663.1 0 8 _ sM_0 (by decide)).trans (dg_uf_F e_3466 0 8))).trans f_y_3), ((m_4665.1 0 34 _ sM_0 (by decide)).trans f_y_4664), (((m_4665.1 0 42 _ sM_0 (by decide)).trans ((m_4663.1 0 42 _ sM_0 (by decide)).trans ((dg_uf_F e_3466 0 42).trans (m_2.1 0 42 _ sM_0 (by decide))))).trans f_dp), (((m_4665.1 0 45 _ sM_0 (by decide)).trans ((m_4663.1 0 45 _ sM_0 (by decide)).trans ((dg_uf_F e_3466 0 45).trans (m_2.1 0 45 _ sM_0 (by decide))))).trans f_om), (by omega)⟩, (fun k9 hk9 hk0 => ⟨fun _ => (P1M.keep P1_4663 m_4665 (by decide) (by decide) (by decide) (by decide) (by decide) (by decide) (by decide) (by decide) (by decide) (by decide) (by decide) (by decide) (by decide) (by decide) (by decide)), fun h9 => absurd h9 (by decide +kernel)⟩), (ZWM.keep w_4663_2 m_4665 (by decide) (by decide) (by decide) (by decide)), trivial⟩ dX12_operand_481
                          · have jc_4662 := dk_eqc (k := (-1)) (by decide +kernel) c_4662
                            refine lv_aload_n hx hb dX12_operand_449 rfl (lv_at hl 3 rfl) ?_
                            refine lv_iconst (v := 1) hx hb dX12_operand_450 (by decide +kernel) ?_
                            refine lv_aload_n hx hb dX12_operand_451 rfl (lv_at hl 3 rfl) ?_
                            refine dg_get (C := RX12) (T := TX12) (N := 77) hx hb hts (fun w h => bw_mem (wU_X12 w h)) hown K hP sM_0 rfl 4 (by decide) (hts _ (bw_mem wB_1121)) (fun _ h9 => h9) (v := .int sa) (((dg_uf_F e_3466 0 4).trans (m_2.1 0 4 _ sM_0 (by decide))).trans f_sa) dX12_operand_452 ?_
                            have hz_4673 : (1 : Int32).toInt = 1 := by decide +kernel
                            refine dg_callv hS hA1 hA (va_runV (As := [.int 1, .int sa]) (rest := []) F (c_m_blame l g D o S_3466 1 (by decide +kernel) sa y_3 ((dg_uf_F e_3466 0 8).trans f_y_3) (by omega) I_3466 H.size) (cwV 2 hts (bw_V wB_1113 wB_1114 wB_1115 wB_857 wB_1112) rfl rfl rfl (by decide +kernel) ⟨Nat.le_of_ble_eq_true rfl, Nat.le_of_ble_eq_true rfl⟩) (dg_preV sM_0 rfl K ST hP hS hA1 hA) rfl rfl hl.1 rfl (lv_room (Nat.le_of_ble_eq_true rfl)) dX12_operand_455 ⟨Nat.le_of_ble_eq_true rfl, Nat.le_of_ble_eq_true rfl⟩) (fun S_4674 hw_4674 H locs hP hS => ?_)
                            obtain ⟨I_4674, m_4674, w_4674_0, -⟩ := hw_4674
                            have M_4674 := dg_sm.tr M_3466 m_4674 (by decide) (by decide)
                            have hz_4675 : (1 : Int32).toInt = 1 := by decide +kernel
                            obtain ⟨y_4676, f_y_4676, w_4674_0⟩ := w_4674_0
                            have w_4674_0 : ((y_3).toInt ≠ 0 → (y_4676).toInt = (y_3).toInt) ∧ ((y_3).toInt = 0 → (y_4676).toInt = ((1 : Int32)).toInt) := w_4674_0
                            have b_y_4676 : 0 ≤ (y_4676).toInt ∧ (y_4676).toInt ≤ 6 := dg_I.intb (lo := 0) (hi := 6) I_4674 sM_0 (by decide +kernel) f_y_4676
                            refine lv_aload_n hx hb dX12_operand_458 rfl (lv_at hl 3 rfl) ?_
                            refine dg_get (C := RX12) (T := TX12) (N := 77) hx hb hts (fun w h => bw_mem (wU_X12 w h)) hown K hP sM_0 rfl 8 (by decide) (hts _ (bw_mem wB_1109)) (fun _ h9 => h9) (v := .int y_4676) f_y_4676 dX12_operand_459 ?_
                            refine lv_if_le (tgt := 467) hx hb dX12_operand_462 (by decide) (fun c_4677 => ?_) (fun c_4677 => ?_)
                            · have jc_4677 := dk_lec (k := 0) (by decide +kernel) c_4677
                              refine lv_aload_n hx hb dX12_operand_467 rfl (lv_at hl 3 rfl) ?_
                              refine lv_iload_n hx hb dX12_operand_468 rfl (lv_at hl 0 rfl) ?_
                              refine lv_aload_n hx hb dX12_operand_469 rfl (lv_at hl 3 rfl) ?_
                              refine dg_get (C := RX12) (T := TX12) (N := 77) hx hb hts (fun w h => bw_mem (wU_X12 w h)) hown K hP sM_0 rfl 6 (by decide) (hts _ (bw_mem wB_1117)) (fun _ h9 => h9) (v := .int va) (((m_4674.1 0 6 _ sM_0 (by decide)).trans ((dg_uf_F e_3466 0 6).trans (m_2.1 0 6 _ sM_0 (by decide)))).trans f_va) dX12_operand_470 ?_
                              refine dg_callv hS hA1 hA (va_runV (As := [.int x_4561, .int va]) (rest := []) F (c_m_add l g D o S_4674 x_4561 (by omega) va cd (((m_4674.1 0 34 _ sM_0 (by decide)).trans ((dg_uf_F e_3466 0 34).trans (m_2.1 0 34 _ sM_0 (by decide)))).trans f_cd) (by omega) (ZWM.keep (ZWM.keep (ZWM.keep ZW m_2 (by decide) (by decide) (by decide) (by decide)) (dg_sm.uf (WF := []) (WA := [24]) dg_sm.rf e_3466 sM_24 (by decide)) (by decide) (by decide) (by decide) (by decide)) m_4674 (by decide) (by decide) (by decide) (by decide)) (ZKM.keep (ZKM.keep (ZKM.keep ZK m_2 (by decide) (by decide)) (dg_sm.uf (WF := []) (WA := [24]) dg_sm.rf e_3466 sM_24 (by decide)) (by decide) (by decide)) m_4674 (by decide) (by decide)) I_4674 H.size) (cwV 2 hts (bw_V wB_1185 wB_1186 wB_1187 wB_857 wB_1184) rfl rfl rfl (by decide +kernel) ⟨Nat.le_of_ble_eq_true rfl, Nat.le_of_ble_eq_true rfl⟩) (dg_preV sM_0 rfl K ST hP hS hA1 hA) rfl rfl hl.1 rfl (lv_room (Nat.le_of_ble_eq_true rfl)) dX12_operand_473 ⟨Nat.le_of_ble_eq_true rfl, Nat.le_of_ble_eq_true rfl⟩) (fun S_4678 hw_4678 H locs hP hS => ?_)
                              obtain ⟨I_4678, m_4678, w_4678_0, w_4678_1, w_4678_2, -⟩ := hw_4678
                              have M_4678 := dg_sm.tr M_4674 m_4678 (by decide) (by decide)
                              obtain ⟨y_4679, f_y_4679, w_4678_0⟩ := w_4678_0
                              have w_4678_0 : (y_4679).toInt = (cd).toInt + 1 := w_4678_0
                              have b_y_4679 : 0 ≤ (y_4679).toInt ∧ (y_4679).toInt ≤ 1600 := dg_I.intb (lo := 0) (hi := 1600) I_4678 sM_0 (by decide +kernel) f_y_4679
                              have w_4678_1 : ADM S_4674 S_4678 x_4561 := w_4678_1
                              have P1_4678 : P1M S_4678 := PBM.leaf (PBM.keep PB_3466 m_4674 (by decide) (by decide) (by decide) (by decide) (by decide) (by decide) (by decide) (by decide) (by decide) (by decide) (by decide) (by decide) (by decide) (by decide) (by decide)) (((m_4674.1 0 42 _ sM_0 (by decide)).trans ((dg_uf_F e_3466 0 42).trans (m_2.1 0 42 _ sM_0 (by decide)))).trans f_dp) (((m_4674.1 0 43 _ sM_0 (by decide)).trans ((dg_uf_F e_3466 0 43).trans (m_2.1 0 43 _ sM_0 (by decide)))).trans f_on) (((m_4674.1 0 45 _ sM_0 (by decide)).trans ((dg_uf_F e_3466 0 45).trans (m_2.1 0 45 _ sM_0 (by decide)))).trans f_om) m_4678 w_4678_1 (by omega)
                              refine lv_aload_n hx hb dX12_operand_476 rfl (lv_at hl 3 rfl) ?_
                              refine dg_callv hS hA1 hA (va_runV (As := []) (rest := []) F (c_m_ahead l g D o S_4678 se (((m_4678.1 0 5 _ sM_0 (by decide)).trans ((m_4674.1 0 5 _ sM_0 (by decide)).trans ((dg_uf_F e_3466 0 5).trans (m_2.1 0 5 _ sM_0 (by decide))))).trans f_se) (by omega) sl (((m_4678.1 0 2 _ sM_0 (by decide)).trans ((m_4674.1 0 2 _ sM_0 (by decide)).trans ((dg_uf_F e_3466 0 2).trans (m_2.1 0 2 _ sM_0 (by decide))))).trans f_sl) (by omega) (by omega) I_4678 H.size) (cwV 0 hts (bw_V wB_1137 wB_1138 wB_1139 wB_857 wB_1136) rfl rfl rfl (by decide +kernel) ⟨Nat.le_of_ble_eq_true rfl, Nat.le_of_ble_eq_true rfl⟩) (dg_preV sM_0 rfl K ST hP hS hA1 hA) rfl rfl hl.1 rfl (lv_room (Nat.le_of_ble_eq_true rfl)) dX12_operand_477 ⟨Nat.le_of_ble_eq_true rfl, Nat.le_of_ble_eq_true rfl⟩) (fun S_4680 hw_4680 H locs hP hS => ?_)
                              obtain ⟨I_4680, m_4680, w_4680_0, -⟩ := hw_4680
                              have M_4680 := dg_sm.tr M_4678 m_4680 (by decide) (by decide)
                              obtain ⟨y_4681, y_4682, y_4683, f_y_4681, f_y_4682, f_y_4683, w_4680_0⟩ := w_4680_0
                              have w_4680_0 : (se).toInt ≤ (y_4682).toInt ∧ (y_4682).toInt ≤ (y_4683).toInt ∧ (y_4683).toInt ≤ (sl).toInt ∧ ((y_4681).toInt ≠ 0 → (y_4682).toInt + 1 ≤ (y_4683).toInt) := w_4680_0
                              have b_y_4681 : 0 ≤ (y_4681).toInt ∧ (y_4681).toInt ≤ 3 := dg_I.intb (lo := 0) (hi := 3) I_4680 sM_0 (by decide +kernel) f_y_4681
                              have b_y_4682 : 0 ≤ (y_4682).toInt ∧ (y_4682).toInt ≤ 1600 := dg_I.intb (lo := 0) (hi := 1600) I_4680 sM_0 (by decide +kernel) f_y_4682
                              have b_y_4683 : 0 ≤ (y_4683).toInt ∧ (y_4683).toInt ≤ 1600 := dg_I.intb (lo := 0) (hi := 1600) I_4680 sM_0 (by decide +kernel) f_y_4683
                              refine lv_iconst (v := 1) hx hb dX12_operand_480 (by decide +kernel) ?_
                              have hz_4684 : (1 : Int32).toInt = 1 := by decide +kernel
                              have hz_4685 : (1 : Int32).toInt = 1 := by decide +kernel
                              have hz_4686 : (1 : Int32).toInt = 1 := by decide +kernel
                              have hz_4687 : (1 : Int32).toInt = 1 := by decide +kernel
                              refine W.widen (k := 0) (n := 0) (Nat.le_of_ble_eq_true rfl) (Nat.le_of_ble_eq_true rfl) ?_
                              exact dg_iret hx hb hr hlocks (by decide +kernel) hP hS ⟨I_4680, M_4680, (by decide +kernel), ⟨y_4681, y_4682, y_4683, y_4676, y_4679, dp, om, f_y_4681, f_y_4682, f_y_4683, (((m_4680.1 0 8 _ sM_0 (by decide)).trans (m_4678.1 0 8 _ sM_0 (by decide))).trans f_y_4676), ((m_4680.1 0 34 _ sM_0 (by decide)).trans f_y_4679), (((m_4680.1 0 42 _ sM_0 (by decide)).trans ((m_4678.1 0 42 _ sM_0 (by decide)).trans ((m_4674.1 0 42 _ sM_0 (by decide)).trans ((dg_uf_F e_3466 0 42).trans (m_2.1 0 42 _ sM_0 (by decide)))))).trans f_dp), (((m_4680.1 0 45 _ sM_0 (by decide)).trans ((m_4678.1 0 45 _ sM_0 (by decide)).trans ((m_4674.1 0 45 _ sM_0 (by decide)).trans ((dg_uf_F e_3466 0 45).trans (m_2.1 0 45 _ sM_0 (by decide)))))).trans f_om), (by omega)⟩, (fun k9 hk9 hk0 => ⟨fun _ => (P1M.keep P1_4678 m_4680 (by decide) (by decide) (by decide) (by decide) (by decide) (by decide) (by decide) (by decide) (by decide) (by decide) (by decide) (by decide) (by decide) (by decide) (by decide)), fun h9 => absurd h9 (by decide +kernel)⟩), (ZWM.keep w_4678_2 m_4680 (by decide) (by decide) (by decide) (by decide)), trivial⟩ dX12_operand_481
                            · have jc_4677 := dk_nlec (k := 0) (by decide +kernel) c_4677
                              refine lv_iconst (v := 1) hx hb dX12_operand_465 (by decide +kernel) ?_
                              have hz_4688 : (1 : Int32).toInt = 1 := by decide +kernel
                              have hz_4689 : (1 : Int32).toInt = 1 := by decide +kernel
                              have hz_4690 : (1 : Int32).toInt = 1 := by decide +kernel
                              have hz_4691 : (1 : Int32).toInt = 1 := by decide +kernel
                              refine W.widen (k := 0) (n := 0) (Nat.le_of_ble_eq_true rfl) (Nat.le_of_ble_eq_true rfl) ?_
                              exact dg_iret hx hb hr hlocks (by decide +kernel) hP hS ⟨I_4674, M_4674, (by decide +kernel), ⟨sg, sa, se, y_4676, cd, dp, om, (((m_4674.1 0 3 _ sM_0 (by decide)).trans ((dg_uf_F e_3466 0 3).trans (m_2.1 0 3 _ sM_0 (by decide)))).trans f_sg), (((m_4674.1 0 4 _ sM_0 (by decide)).trans ((dg_uf_F e_3466 0 4).trans (m_2.1 0 4 _ sM_0 (by decide)))).trans f_sa), (((m_4674.1 0 5 _ sM_0 (by decide)).trans ((dg_uf_F e_3466 0 5).trans (m_2.1 0 5 _ sM_0 (by decide)))).trans f_se), f_y_4676, (((m_4674.1 0 34 _ sM_0 (by decide)).trans ((dg_uf_F e_3466 0 34).trans (m_2.1 0 34 _ sM_0 (by decide)))).trans f_cd), (((m_4674.1 0 42 _ sM_0 (by decide)).trans ((dg_uf_F e_3466 0 42).trans (m_2.1 0 42 _ sM_0 (by decide)))).trans f_dp), (((m_4674.1 0 45 _ sM_0 (by decide)).trans ((dg_uf_F e_3466 0 45).trans (m_2.1 0 45 _ sM_0 (by decide)))).trans f_om), (by omega)⟩, (fun k9 hk9 hk0 => by have q9 := (f_y_4676).symm.trans hk9; cases q9; omega), (ZWM.keep (ZWM.keep (ZWM.keep ZW m_2 (by decide) (by decide) (by decide) (by decide)) (dg_sm.uf (WF := []) (WA := [24]) dg_sm.rf e_3466 sM_24 (by decide)) (by decide) (by decide) (by decide) (by decide)) m_4674 (by decide) (by decide) (by decide) (by decide)), trivial⟩ dX12_operand_466
                        · have jc_4661 := dk_nltc (k := 4) (by decide +kernel) c_4661
                          refine lv_iload_n hx hb dX12_operand_417 rfl (lv_at hl 0 rfl) ?_
                          refine lv_iconst (v := 4) hx hb dX12_operand_418 (by decide +kernel) ?_
                          refine lv_icmp_ne (tgt := 426) hx hb dX12_operand_419 (by decide) (fun c_4692 => ?_) (fun c_4692 => ?_)
                          · have jc_4692 := dk_neqc (k := 4) (by decide +kernel) c_4692
                            refine lv_iconst (v := 0) hx hb dX12_operand_426 (by decide +kernel) ?_
                            refine lv_aload_n hx hb dX12_operand_427 rfl (lv_at hl 3 rfl) ?_
                            obtain ⟨x_4693, f_x_4693, b_x_4693⟩ := dg_I.int (i := 0) (k := 36) (lo := 0) (hi := 2) I sM_0 (by decide +kernel)
                            refine dg_get (C := RX12) (T := TX12) (N := 77) hx hb hts (fun w h => bw_mem (wU_X12 w h)) hown K hP sM_0 rfl 36 (by decide) (hts _ (bw_mem wB_1199)) (fun _ h9 => h9) (v := .int x_4693) (((dg_uf_F e_3466 0 36).trans (m_2.1 0 36 _ sM_0 (by decide))).trans f_x_4693) dX12_operand_428 ?_
                            refine lv_if_ne (tgt := 438) hx hb dX12_operand_431 (by decide) (fun c_4694 => ?_) (fun c_4694 => ?_)
                            · have jc_4694 := dk_neqc (k := 0) (by decide +kernel) c_4694
                              refine lv_iconst (v := 0) hx hb dX12_operand_438 (by decide +kernel) ?_
                              refine lv_icmp_eq (tgt := 444) hx hb dX12_operand_439 (by decide) (fun _ => ?_) (fun c => absurd (by decide +kernel) c)
                              refine lv_iload_n hx hb dX12_operand_444 rfl (lv_at hl 0 rfl) ?_
                              refine lv_iconst (v := (-1)) hx hb dX12_operand_445 (by decide +kernel) ?_
                              refine lv_icmp_ne (tgt := 458) hx hb dX12_operand_446 (by decide) (fun _ => ?_) (fun c => absurd c (fun z => absurd (dk_eqc (k := (-1)) (by decide +kernel) z) (by omega)))
                              refine lv_aload_n hx hb dX12_operand_458 rfl (lv_at hl 3 rfl) ?_
                              refine dg_get (C := RX12) (T := TX12) (N := 77) hx hb hts (fun w h => bw_mem (wU_X12 w h)) hown K hP sM_0 rfl 8 (by decide) (hts _ (bw_mem wB_1109)) (fun _ h9 => h9) (v := .int y_3) ((dg_uf_F e_3466 0 8).trans f_y_3) dX12_operand_459 ?_
                              refine lv_if_le (tgt := 467) hx hb dX12_operand_462 (by decide) (fun _ => ?_) (fun c => absurd (dk_lep (k := 0) (by decide +kernel) (by omega)) c)
                              refine lv_aload_n hx hb dX12_operand_467 rfl (lv_at hl 3 rfl) ?_
                              refine lv_iload_n hx hb dX12_operand_468 rfl (lv_at hl 0 rfl) ?_
                              refine lv_aload_n hx hb dX12_operand_469 rfl (lv_at hl 3 rfl) ?_
                              refine dg_get (C := RX12) (T := TX12) (N := 77) hx hb hts (fun w h => bw_mem (wU_X12 w h)) hown K hP sM_0 rfl 6 (by decide) (hts _ (bw_mem wB_1117)) (fun _ h9 => h9) (v := .int va) (((dg_uf_F e_3466 0 6).trans (m_2.1 0 6 _ sM_0 (by decide))).trans f_va) dX12_operand_470 ?_
                              refine dg_callv hS hA1 hA (va_runV (As := [.int x_4561, .int va]) (rest := []) F (c_m_add l g D o S_3466 x_4561 (by omega) va cd (((dg_uf_F e_3466 0 34).trans (m_2.1 0 34 _ sM_0 (by decide))).trans f_cd) (by omega) (ZWM.keep (ZWM.keep ZW m_2 (by decide) (by decide) (by decide) (by decide)) (dg_sm.uf (WF := []) (WA := [24]) dg_sm.rf e_3466 sM_24 (by decide)) (by decide) (by decide) (by decide) (by decide)) (ZKM.keep (ZKM.keep ZK m_2 (by decide) (by decide)) (dg_sm.uf (WF := []) (WA := [24]) dg_sm.rf e_3466 sM_24 (by decide)) (by decide) (by decide)) I_3466 H.size) (cwV 2 hts (bw_V wB_1185 wB_1186 wB_1187 wB_857 wB_1184) rfl rfl rfl (by decide +kernel) ⟨Nat.le_of_ble_eq_true rfl, Nat.le_of_ble_eq_true rfl⟩) (dg_preV sM_0 rfl K ST hP hS hA1 hA) rfl rfl hl.1 rfl (lv_room (Nat.le_of_ble_eq_true rfl)) dX12_operand_473 ⟨Nat.le_of_ble_eq_true rfl, Nat.le_of_ble_eq_true rfl⟩) (fun S_4695 hw_4695 H locs hP hS => ?_)
                              obtain ⟨I_4695, m_4695, w_4695_0, w_4695_1, w_4695_2, -⟩ := hw_4695
                              have M_4695 := dg_sm.tr M_3466 m_4695 (by decide) (by decide)
                              obtain ⟨y_4696, f_y_4696, w_4695_0⟩ := w_4695_0
                              have w_4695_0 : (y_4696).toInt = (cd).toInt + 1 := w_4695_0
                              have b_y_4696 : 0 ≤ (y_4696).toInt ∧ (y_4696).toInt ≤ 1600 := dg_I.intb (lo := 0) (hi := 1600) I_4695 sM_0 (by decide +kernel) f_y_4696
                              have w_4695_1 : ADM S_3466 S_4695 x_4561 := w_4695_1
                              have P1_4695 : P1M S_4695 := PBM.leaf PB_3466 (((dg_uf_F e_3466 0 42).trans (m_2.1 0 42 _ sM_0 (by decide))).trans f_dp) (((dg_uf_F e_3466 0 43).trans (m_2.1 0 43 _ sM_0 (by decide))).trans f_on) (((dg_uf_F e_3466 0 45).trans (m_2.1 0 45 _ sM_0 (by decide))).trans f_om) m_4695 w_4695_1 (by omega)
                              refine lv_aload_n hx hb dX12_operand_476 rfl (lv_at hl 3 rfl) ?_
                              refine dg_callv hS hA1 hA (va_runV (As := []) (rest := []) F (c_m_ahead l g D o S_4695 se (((m_4695.1 0 5 _ sM_0 (by decide)).trans ((dg_uf_F e_3466 0 5).trans (m_2.1 0 5 _ sM_0 (by decide)))).trans f_se) (by omega) sl (((m_4695.1 0 2 _ sM_0 (by decide)).trans ((dg_uf_F e_3466 0 2).trans (m_2.1 0 2 _ sM_0 (by decide)))).trans f_sl) (by omega) (by omega) I_4695 H.size) (cwV 0 hts (bw_V wB_1137 wB_1138 wB_1139 wB_857 wB_1136) rfl rfl rfl (by decide +kernel) ⟨Nat.le_of_ble_eq_true rfl, Nat.le_of_ble_eq_true rfl⟩) (dg_preV sM_0 rfl K ST hP hS hA1 hA) rfl rfl hl.1 rfl (lv_room (Nat.le_of_ble_eq_true rfl)) dX12_operand_477 ⟨Nat.le_of_ble_eq_true rfl, Nat.le_of_ble_eq_true rfl⟩) (fun S_4697 hw_4697 H locs hP hS => ?_)
                              obtain ⟨I_4697, m_4697, w_4697_0, -⟩ := hw_4697
                              have M_4697 := dg_sm.tr M_4695 m_4697 (by decide) (by decide)
                              obtain ⟨y_4698, y_4699, y_4700, f_y_4698, f_y_4699, f_y_4700, w_4697_0⟩ := w_4697_0
                              have w_4697_0 : (se).toInt ≤ (y_4699).toInt ∧ (y_4699).toInt ≤ (y_4700).toInt ∧ (y_4700).toInt ≤ (sl).toInt ∧ ((y_4698).toInt ≠ 0 → (y_4699).toInt + 1 ≤ (y_4700).toInt) := w_4697_0
                              have b_y_4698 : 0 ≤ (y_4698).toInt ∧ (y_4698).toInt ≤ 3 := dg_I.intb (lo := 0) (hi := 3) I_4697 sM_0 (by decide +kernel) f_y_4698
                              have b_y_4699 : 0 ≤ (y_4699).toInt ∧ (y_4699).toInt ≤ 1600 := dg_I.intb (lo := 0) (hi := 1600) I_4697 sM_0 (by decide +kernel) f_y_4699
                              have b_y_4700 : 0 ≤ (y_4700).toInt ∧ (y_4700).toInt ≤ 1600 := dg_I.intb (lo := 0) (hi := 1600) I_4697 sM_0 (by decide +kernel) f_y_4700
                              refine lv_iconst (v := 1) hx hb dX12_operand_480 (by decide +kernel) ?_
                              have hz_4701 : (1 : Int32).toInt = 1 := by decide +kernel
                              have hz_4702 : (1 : Int32).toInt = 1 := by decide +kernel
                              have hz_4703 : (1 : Int32).toInt = 1 := by decide +kernel
                              have hz_4704 : (1 : Int32).toInt = 1 := by decide +kernel
                              refine W.widen (k := 0) (n := 0) (Nat.le_of_ble_eq_true rfl) (Nat.le_of_ble_eq_true rfl) ?_
                              exact dg_iret hx hb hr hlocks (by decide +kernel) hP hS ⟨I_4697, M_4697, (by decide +kernel), ⟨y_4698, y_4699, y_4700, y_3, y_4696, dp, om, f_y_4698, f_y_4699, f_y_4700, (((m_4697.1 0 8 _ sM_0 (by decide)).trans ((m_4695.1 0 8 _ sM_0 (by decide)).trans (dg_uf_F e_3466 0 8))).trans f_y_3), ((m_4697.1 0 34 _ sM_0 (by decide)).trans f_y_4696), (((m_4697.1 0 42 _ sM_0 (by decide)).trans ((m_4695.1 0 42 _ sM_0 (by decide)).trans ((dg_uf_F e_3466 0 42).trans (m_2.1 0 42 _ sM_0 (by decide))))).trans f_dp), (((m_4697.1 0 45 _ sM_0 (by decide)).trans ((m_4695.1 0 45 _ sM_0 (by decide)).trans ((dg_uf_F e_3466 0 45).trans (m_2.1 0 45 _ sM_0 (by decide))))).trans f_om), (by omega)⟩, (fun k9 hk9 hk0 => ⟨fun _ => (P1M.keep P1_4695 m_4697 (by decide) (by decide) (by decide) (by decide) (by decide) (by decide) (by decide) (by decide) (by decide) (by decide) (by decide) (by decide) (by decide) (by decide) (by decide)), fun h9 => absurd h9 (by decide +kernel)⟩), (ZWM.keep w_4695_2 m_4697 (by decide) (by decide) (by decide) (by decide)), trivial⟩ dX12_operand_481
                            · have jc_4694 := dk_eqc (k := 0) (by decide +kernel) c_4694
                              refine lv_iconst (v := 1) hx hb dX12_operand_434 (by decide +kernel) ?_
                              refine lv_goto (tgt := 439) hx hb dX12_operand_435 (by decide) ?_
                              refine lv_icmp_eq (tgt := 444) hx hb dX12_operand_439 (by decide) (fun c => absurd c (by decide +kernel)) (fun _ => ?_)
                              refine lv_iconst (v := (-1)) hx hb dX12_operand_442 (by decide +kernel) ?_
                              refine lv_istore_n (lv' := [(3, .int (-1)), (2, .int 1), (1, .int x_5), (0, .ref (o + 0))]) hx hb dX12_operand_443 rfl hl (by decide) rfl (fun ls hl => ?_)
                              refine lv_iload_n hx hb dX12_operand_444 rfl (lv_at hl 0 rfl) ?_
                              refine lv_iconst (v := (-1)) hx hb dX12_operand_445 (by decide +kernel) ?_
                              refine lv_icmp_ne (tgt := 458) hx hb dX12_operand_446 (by decide) (fun c => absurd (by decide +kernel) c) (fun _ => ?_)
                              refine lv_aload_n hx hb dX12_operand_449 rfl (lv_at hl 3 rfl) ?_
                              refine lv_iconst (v := 1) hx hb dX12_operand_450 (by decide +kernel) ?_
                              refine lv_aload_n hx hb dX12_operand_451 rfl (lv_at hl 3 rfl) ?_
                              refine dg_get (C := RX12) (T := TX12) (N := 77) hx hb hts (fun w h => bw_mem (wU_X12 w h)) hown K hP sM_0 rfl 4 (by decide) (hts _ (bw_mem wB_1121)) (fun _ h9 => h9) (v := .int sa) (((dg_uf_F e_3466 0 4).trans (m_2.1 0 4 _ sM_0 (by decide))).trans f_sa) dX12_operand_452 ?_
                              have hz_4705 : (1 : Int32).toInt = 1 := by decide +kernel
                              refine dg_callv hS hA1 hA (va_runV (As := [.int 1, .int sa]) (rest := []) F (c_m_blame l g D o S_3466 1 (by decide +kernel) sa y_3 ((dg_uf_F e_3466 0 8).trans f_y_3) (by omega) I_3466 H.size) (cwV 2 hts (bw_V wB_1113 wB_1114 wB_1115 wB_857 wB_1112) rfl rfl rfl (by decide +kernel) ⟨Nat.le_of_ble_eq_true rfl, Nat.le_of_ble_eq_true rfl⟩) (dg_preV sM_0 rfl K ST hP hS hA1 hA) rfl rfl hl.1 rfl (lv_room (Nat.le_of_ble_eq_true rfl)) dX12_operand_455 ⟨Nat.le_of_ble_eq_true rfl, Nat.le_of_ble_eq_true rfl⟩) (fun S_4706 hw_4706 H locs hP hS => ?_)
                              obtain ⟨I_4706, m_4706, w_4706_0, -⟩ := hw_4706
                              have M_4706 := dg_sm.tr M_3466 m_4706 (by decide) (by decide)
                              have hz_4707 : (1 : Int32).toInt = 1 := by decide +kernel
                              obtain ⟨y_4708, f_y_4708, w_4706_0⟩ := w_4706_0
                              have w_4706_0 : ((y_3).toInt ≠ 0 → (y_4708).toInt = (y_3).toInt) ∧ ((y_3).toInt = 0 → (y_4708).toInt = ((1 : Int32)).toInt) := w_4706_0
                              have b_y_4708 : 0 ≤ (y_4708).toInt ∧ (y_4708).toInt ≤ 6 := dg_I.intb (lo := 0) (hi := 6) I_4706 sM_0 (by decide +kernel) f_y_4708
                              refine lv_aload_n hx hb dX12_operand_458 rfl (lv_at hl 3 rfl) ?_
                              refine dg_get (C := RX12) (T := TX12) (N := 77) hx hb hts (fun w h => bw_mem (wU_X12 w h)) hown K hP sM_0 rfl 8 (by decide) (hts _ (bw_mem wB_1109)) (fun _ h9 => h9) (v := .int y_4708) f_y_4708 dX12_operand_459 ?_
                              refine lv_if_le (tgt := 467) hx hb dX12_operand_462 (by decide) (fun c_4709 => ?_) (fun c_4709 => ?_)
                              · have jc_4709 := dk_lec (k := 0) (by decide +kernel) c_4709
                                refine lv_aload_n hx hb dX12_operand_467 rfl (lv_at hl 3 rfl) ?_
                                refine lv_iload_n hx hb dX12_operand_468 rfl (lv_at hl 0 rfl) ?_
                                refine lv_aload_n hx hb dX12_operand_469 rfl (lv_at hl 3 rfl) ?_
                                refine dg_get (C := RX12) (T := TX12) (N := 77) hx hb hts (fun w h => bw_mem (wU_X12 w h)) hown K hP sM_0 rfl 6 (by decide) (hts _ (bw_mem wB_1117)) (fun _ h9 => h9) (v := .int va) (((m_4706.1 0 6 _ sM_0 (by decide)).trans ((dg_uf_F e_3466 0 6).trans (m_2.1 0 6 _ sM_0 (by decide)))).trans f_va) dX12_operand_470 ?_
                                have hz_4710 : (-1 : Int32).toInt = (-1) := by decide +kernel
                                refine dg_callv hS hA1 hA (va_runV (As := [.int (-1), .int va]) (rest := []) F (c_m_add l g D o S_4706 (-1) (by decide +kernel) va cd (((m_4706.1 0 34 _ sM_0 (by decide)).trans ((dg_uf_F e_3466 0 34).trans (m_2.1 0 34 _ sM_0 (by decide)))).trans f_cd) (by omega) (ZWM.keep (ZWM.keep (ZWM.keep ZW m_2 (by decide) (by decide) (by decide) (by decide)) (dg_sm.uf (WF := []) (WA := [24]) dg_sm.rf e_3466 sM_24 (by decide)) (by decide) (by decide) (by decide) (by decide)) m_4706 (by decide) (by decide) (by decide) (by decide)) (ZKM.keep (ZKM.keep (ZKM.keep ZK m_2 (by decide) (by decide)) (dg_sm.uf (WF := []) (WA := [24]) dg_sm.rf e_3466 sM_24 (by decide)) (by decide) (by decide)) m_4706 (by decide) (by decide)) I_4706 H.size) (cwV 2 hts (bw_V wB_1185 wB_1186 wB_1187 wB_857 wB_1184) rfl rfl rfl (by decide +kernel) ⟨Nat.le_of_ble_eq_true rfl, Nat.le_of_ble_eq_true rfl⟩) (dg_preV sM_0 rfl K ST hP hS hA1 hA) rfl rfl hl.1 rfl (lv_room (Nat.le_of_ble_eq_true rfl)) dX12_operand_473 ⟨Nat.le_of_ble_eq_true rfl, Nat.le_of_ble_eq_true rfl⟩) (fun S_4711 hw_4711 H locs hP hS => ?_)
                                obtain ⟨I_4711, m_4711, w_4711_0, w_4711_1, w_4711_2, -⟩ := hw_4711
                                have M_4711 := dg_sm.tr M_4706 m_4711 (by decide) (by decide)
                                have hz_4712 : (-1 : Int32).toInt = (-1) := by decide +kernel
                                obtain ⟨y_4713, f_y_4713, w_4711_0⟩ := w_4711_0
                                have w_4711_0 : (y_4713).toInt = (cd).toInt + 1 := w_4711_0
                                have b_y_4713 : 0 ≤ (y_4713).toInt ∧ (y_4713).toInt ≤ 1600 := dg_I.intb (lo := 0) (hi := 1600) I_4711 sM_0 (by decide +kernel) f_y_4713
                                have w_4711_1 : ADM S_4706 S_4711 (-1 : Int32) := w_4711_1
                                have P1_4711 : P1M S_4711 := PBM.leaf (PBM.keep PB_3466 m_4706 (by decide) (by decide) (by decide) (by decide) (by decide) (by decide) (by decide) (by decide) (by decide) (by decide) (by decide) (by decide) (by decide) (by decide) (by decide)) (((m_4706.1 0 42 _ sM_0 (by decide)).trans ((dg_uf_F e_3466 0 42).trans (m_2.1 0 42 _ sM_0 (by decide)))).trans f_dp) (((m_4706.1 0 43 _ sM_0 (by decide)).trans ((dg_uf_F e_3466 0 43).trans (m_2.1 0 43 _ sM_0 (by decide)))).trans f_on) (((m_4706.1 0 45 _ sM_0 (by decide)).trans ((dg_uf_F e_3466 0 45).trans (m_2.1 0 45 _ sM_0 (by decide)))).trans f_om) m_4711 w_4711_1 (by omega)
                                refine lv_aload_n hx hb dX12_operand_476 rfl (lv_at hl 3 rfl) ?_
                                refine dg_callv hS hA1 hA (va_runV (As := []) (rest := []) F (c_m_ahead l g D o S_4711 se (((m_4711.1 0 5 _ sM_0 (by decide)).trans ((m_4706.1 0 5 _ sM_0 (by decide)).trans ((dg_uf_F e_3466 0 5).trans (m_2.1 0 5 _ sM_0 (by decide))))).trans f_se) (by omega) sl (((m_4711.1 0 2 _ sM_0 (by decide)).trans ((m_4706.1 0 2 _ sM_0 (by decide)).trans ((dg_uf_F e_3466 0 2).trans (m_2.1 0 2 _ sM_0 (by decide))))).trans f_sl) (by omega) (by omega) I_4711 H.size) (cwV 0 hts (bw_V wB_1137 wB_1138 wB_1139 wB_857 wB_1136) rfl rfl rfl (by decide +kernel) ⟨Nat.le_of_ble_eq_true rfl, Nat.le_of_ble_eq_true rfl⟩) (dg_preV sM_0 rfl K ST hP hS hA1 hA) rfl rfl hl.1 rfl (lv_room (Nat.le_of_ble_eq_true rfl)) dX12_operand_477 ⟨Nat.le_of_ble_eq_true rfl, Nat.le_of_ble_eq_true rfl⟩) (fun S_4714 hw_4714 H locs hP hS => ?_)
                                obtain ⟨I_4714, m_4714, w_4714_0, -⟩ := hw_4714
                                have M_4714 := dg_sm.tr M_4711 m_4714 (by decide) (by decide)
                                obtain ⟨y_4715, y_4716, y_4717, f_y_4715, f_y_4716, f_y_4717, w_4714_0⟩ := w_4714_0
                                have w_4714_0 : (se).toInt ≤ (y_4716).toInt ∧ (y_4716).toInt ≤ (y_4717).toInt ∧ (y_4717).toInt ≤ (sl).toInt ∧ ((y_4715).toInt ≠ 0 → (y_4716).toInt + 1 ≤ (y_4717).toInt) := w_4714_0
                                have b_y_4715 : 0 ≤ (y_4715).toInt ∧ (y_4715).toInt ≤ 3 := dg_I.intb (lo := 0) (hi := 3) I_4714 sM_0 (by decide +kernel) f_y_4715
                                have b_y_4716 : 0 ≤ (y_4716).toInt ∧ (y_4716).toInt ≤ 1600 := dg_I.intb (lo := 0) (hi := 1600) I_4714 sM_0 (by decide +kernel) f_y_4716
                                have b_y_4717 : 0 ≤ (y_4717).toInt ∧ (y_4717).toInt ≤ 1600 := dg_I.intb (lo := 0) (hi := 1600) I_4714 sM_0 (by decide +kernel) f_y_4717
                                refine lv_iconst (v := 1) hx hb dX12_operand_480 (by decide +kernel) ?_
                                have hz_4718 : (1 : Int32).toInt = 1 := by decide +kernel
                                have hz_4719 : (1 : Int32).toInt = 1 := by decide +kernel
                                have hz_4720 : (1 : Int32).toInt = 1 := by decide +kernel
                                have hz_4721 : (1 : Int32).toInt = 1 := by decide +kernel
                                refine W.widen (k := 0) (n := 0) (Nat.le_of_ble_eq_true rfl) (Nat.le_of_ble_eq_true rfl) ?_
                                exact dg_iret hx hb hr hlocks (by decide +kernel) hP hS ⟨I_4714, M_4714, (by decide +kernel), ⟨y_4715, y_4716, y_4717, y_4708, y_4713, dp, om, f_y_4715, f_y_4716, f_y_4717, (((m_4714.1 0 8 _ sM_0 (by decide)).trans (m_4711.1 0 8 _ sM_0 (by decide))).trans f_y_4708), ((m_4714.1 0 34 _ sM_0 (by decide)).trans f_y_4713), (((m_4714.1 0 42 _ sM_0 (by decide)).trans ((m_4711.1 0 42 _ sM_0 (by decide)).trans ((m_4706.1 0 42 _ sM_0 (by decide)).trans ((dg_uf_F e_3466 0 42).trans (m_2.1 0 42 _ sM_0 (by decide)))))).trans f_dp), (((m_4714.1 0 45 _ sM_0 (by decide)).trans ((m_4711.1 0 45 _ sM_0 (by decide)).trans ((m_4706.1 0 45 _ sM_0 (by decide)).trans ((dg_uf_F e_3466 0 45).trans (m_2.1 0 45 _ sM_0 (by decide)))))).trans f_om), (by omega)⟩, (fun k9 hk9 hk0 => ⟨fun _ => (P1M.keep P1_4711 m_4714 (by decide) (by decide) (by decide) (by decide) (by decide) (by decide) (by decide) (by decide) (by decide) (by decide) (by decide) (by decide) (by decide) (by decide) (by decide)), fun h9 => absurd h9 (by decide +kernel)⟩), (ZWM.keep w_4711_2 m_4714 (by decide) (by decide) (by decide) (by decide)), trivial⟩ dX12_operand_481
                              · have jc_4709 := dk_nlec (k := 0) (by decide +kernel) c_4709
                                refine lv_iconst (v := 1) hx hb dX12_operand_465 (by decide +kernel) ?_
                                have hz_4722 : (1 : Int32).toInt = 1 := by decide +kernel
                                have hz_4723 : (1 : Int32).toInt = 1 := by decide +kernel
                                have hz_4724 : (1 : Int32).toInt = 1 := by decide +kernel
                                have hz_4725 : (1 : Int32).toInt = 1 := by decide +kernel
                                refine W.widen (k := 0) (n := 0) (Nat.le_of_ble_eq_true rfl) (Nat.le_of_ble_eq_true rfl) ?_
                                exact dg_iret hx hb hr hlocks (by decide +kernel) hP hS ⟨I_4706, M_4706, (by decide +kernel), ⟨sg, sa, se, y_4708, cd, dp, om, (((m_4706.1 0 3 _ sM_0 (by decide)).trans ((dg_uf_F e_3466 0 3).trans (m_2.1 0 3 _ sM_0 (by decide)))).trans f_sg), (((m_4706.1 0 4 _ sM_0 (by decide)).trans ((dg_uf_F e_3466 0 4).trans (m_2.1 0 4 _ sM_0 (by decide)))).trans f_sa), (((m_4706.1 0 5 _ sM_0 (by decide)).trans ((dg_uf_F e_3466 0 5).trans (m_2.1 0 5 _ sM_0 (by decide)))).trans f_se), f_y_4708, (((m_4706.1 0 34 _ sM_0 (by decide)).trans ((dg_uf_F e_3466 0 34).trans (m_2.1 0 34 _ sM_0 (by decide)))).trans f_cd), (((m_4706.1 0 42 _ sM_0 (by decide)).trans ((dg_uf_F e_3466 0 42).trans (m_2.1 0 42 _ sM_0 (by decide)))).trans f_dp), (((m_4706.1 0 45 _ sM_0 (by decide)).trans ((dg_uf_F e_3466 0 45).trans (m_2.1 0 45 _ sM_0 (by decide)))).trans f_om), (by omega)⟩, (fun k9 hk9 hk0 => by have q9 := (f_y_4708).symm.trans hk9; cases q9; omega), (ZWM.keep (ZWM.keep (ZWM.keep ZW m_2 (by decide) (by decide) (by decide) (by decide)) (dg_sm.uf (WF := []) (WA := [24]) dg_sm.rf e_3466 sM_24 (by decide)) (by decide) (by decide) (by decide) (by decide)) m_4706 (by decide) (by decide) (by decide) (by decide)), trivial⟩ dX12_operand_466
                          · have jc_4692 := dk_eqc (k := 4) (by decide +kernel) c_4692
                            refine lv_iconst (v := 1) hx hb dX12_operand_422 (by decide +kernel) ?_
                            refine lv_goto (tgt := 427) hx hb dX12_operand_423 (by decide) ?_
                            refine lv_aload_n hx hb dX12_operand_427 rfl (lv_at hl 3 rfl) ?_
                            obtain ⟨x_4726, f_x_4726, b_x_4726⟩ := dg_I.int (i := 0) (k := 36) (lo := 0) (hi := 2) I sM_0 (by decide +kernel)
                            refine dg_get (C := RX12) (T := TX12) (N := 77) hx hb hts (fun w h => bw_mem (wU_X12 w h)) hown K hP sM_0 rfl 36 (by decide) (hts _ (bw_mem wB_1199)) (fun _ h9 => h9) (v := .int x_4726) (((dg_uf_F e_3466 0 36).trans (m_2.1 0 36 _ sM_0 (by decide))).trans f_x_4726) dX12_operand_428 ?_
                            refine lv_if_ne (tgt := 438) hx hb dX12_operand_431 (by decide) (fun c_4727 => ?_) (fun c_4727 => ?_)
                            · have jc_4727 := dk_neqc (k := 0) (by decide +kernel) c_4727
                              refine lv_iconst (v := 0) hx hb dX12_operand_438 (by decide +kernel) ?_
                              refine lv_icmp_eq (tgt := 444) hx hb dX12_operand_439 (by decide) (fun c => absurd c (by decide +kernel)) (fun _ => ?_)
                              refine lv_iconst (v := (-1)) hx hb dX12_operand_442 (by decide +kernel) ?_
                              refine lv_istore_n (lv' := [(3, .int (-1)), (2, .int 1), (1, .int x_5), (0, .ref (o + 0))]) hx hb dX12_operand_443 rfl hl (by decide) rfl (fun ls hl => ?_)
                              refine lv_iload_n hx hb dX12_operand_444 rfl (lv_at hl 0 rfl) ?_
                              refine lv_iconst (v := (-1)) hx hb dX12_operand_445 (by decide +kernel) ?_
                              refine lv_icmp_ne (tgt := 458) hx hb dX12_operand_446 (by decide) (fun c => absurd (by decide +kernel) c) (fun _ => ?_)
                              refine lv_aload_n hx hb dX12_operand_449 rfl (lv_at hl 3 rfl) ?_
                              refine lv_iconst (v := 1) hx hb dX12_operand_450 (by decide +kernel) ?_
                              refine lv_aload_n hx hb dX12_operand_451 rfl (lv_at hl 3 rfl) ?_
                              refine dg_get (C := RX12) (T := TX12) (N := 77) hx hb hts (fun w h => bw_mem (wU_X12 w h)) hown K hP sM_0 rfl 4 (by decide) (hts _ (bw_mem wB_1121)) (fun _ h9 => h9) (v := .int sa) (((dg_uf_F e_3466 0 4).trans (m_2.1 0 4 _ sM_0 (by decide))).trans f_sa) dX12_operand_452 ?_
                              have hz_4728 : (1 : Int32).toInt = 1 := by decide +kernel
                              refine dg_callv hS hA1 hA (va_runV (As := [.int 1, .int sa]) (rest := []) F (c_m_blame l g D o S_3466 1 (by decide +kernel) sa y_3 ((dg_uf_F e_3466 0 8).trans f_y_3) (by omega) I_3466 H.size) (cwV 2 hts (bw_V wB_1113 wB_1114 wB_1115 wB_857 wB_1112) rfl rfl rfl (by decide +kernel) ⟨Nat.le_of_ble_eq_true rfl, Nat.le_of_ble_eq_true rfl⟩) (dg_preV sM_0 rfl K ST hP hS hA1 hA) rfl rfl hl.1 rfl (lv_room (Nat.le_of_ble_eq_true rfl)) dX12_operand_455 ⟨Nat.le_of_ble_eq_true rfl, Nat.le_of_ble_eq_true rfl⟩) (fun S_4729 hw_4729 H locs hP hS => ?_)
                              obtain ⟨I_4729, m_4729, w_4729_0, -⟩ := hw_4729
                              have M_4729 := dg_sm.tr M_3466 m_4729 (by decide) (by decide)
                              have hz_4730 : (1 : Int32).toInt = 1 := by decide +kernel
                              obtain ⟨y_4731, f_y_4731, w_4729_0⟩ := w_4729_0
                              have w_4729_0 : ((y_3).toInt ≠ 0 → (y_4731).toInt = (y_3).toInt) ∧ ((y_3).toInt = 0 → (y_4731).toInt = ((1 : Int32)).toInt) := w_4729_0
                              have b_y_4731 : 0 ≤ (y_4731).toInt ∧ (y_4731).toInt ≤ 6 := dg_I.intb (lo := 0) (hi := 6) I_4729 sM_0 (by decide +kernel) f_y_4731
                              refine lv_aload_n hx hb dX12_operand_458 rfl (lv_at hl 3 rfl) ?_
                              refine dg_get (C := RX12) (T := TX12) (N := 77) hx hb hts (fun w h => bw_mem (wU_X12 w h)) hown K hP sM_0 rfl 8 (by decide) (hts _ (bw_mem wB_1109)) (fun _ h9 => h9) (v := .int y_4731) f_y_4731 dX12_operand_459 ?_
                              refine lv_if_le (tgt := 467) hx hb dX12_operand_462 (by decide) (fun c_4732 => ?_) (fun c_4732 => ?_)
                              · have jc_4732 := dk_lec (k := 0) (by decide +kernel) c_4732
                                refine lv_aload_n hx hb dX12_operand_467 rfl (lv_at hl 3 rfl) ?_
                                refine lv_iload_n hx hb dX12_operand_468 rfl (lv_at hl 0 rfl) ?_
                                refine lv_aload_n hx hb dX12_operand_469 rfl (lv_at hl 3 rfl) ?_
                                refine dg_get (C := RX12) (T := TX12) (N := 77) hx hb hts (fun w h => bw_mem (wU_X12 w h)) hown K hP sM_0 rfl 6 (by decide) (hts _ (bw_mem wB_1117)) (fun _ h9 => h9) (v := .int va) (((m_4729.1 0 6 _ sM_0 (by decide)).trans ((dg_uf_F e_3466 0 6).trans (m_2.1 0 6 _ sM_0 (by decide)))).trans f_va) dX12_operand_470 ?_
                                have hz_4733 : (-1 : Int32).toInt = (-1) := by decide +kernel
                                refine dg_callv hS hA1 hA (va_runV (As := [.int (-1), .int va]) (rest := []) F (c_m_add l g D o S_4729 (-1) (by decide +kernel) va cd (((m_4729.1 0 34 _ sM_0 (by decide)).trans ((dg_uf_F e_3466 0 34).trans (m_2.1 0 34 _ sM_0 (by decide)))).trans f_cd) (by omega) (ZWM.keep (ZWM.keep (ZWM.keep ZW m_2 (by decide) (by decide) (by decide) (by decide)) (dg_sm.uf (WF := []) (WA := [24]) dg_sm.rf e_3466 sM_24 (by decide)) (by decide) (by decide) (by decide) (by decide)) m_4729 (by decide) (by decide) (by decide) (by decide)) (ZKM.keep (ZKM.keep (ZKM.keep ZK m_2 (by decide) (by decide)) (dg_sm.uf (WF := []) (WA := [24]) dg_sm.rf e_3466 sM_24 (by decide)) (by decide) (by decide)) m_4729 (by decide) (by decide)) I_4729 H.size) (cwV 2 hts (bw_V wB_1185 wB_1186 wB_1187 wB_857 wB_1184) rfl rfl rfl (by decide +kernel) ⟨Nat.le_of_ble_eq_true rfl, Nat.le_of_ble_eq_true rfl⟩) (dg_preV sM_0 rfl K ST hP hS hA1 hA) rfl rfl hl.1 rfl (lv_room (Nat.le_of_ble_eq_true rfl)) dX12_operand_473 ⟨Nat.le_of_ble_eq_true rfl, Nat.le_of_ble_eq_true rfl⟩) (fun S_4734 hw_4734 H locs hP hS => ?_)
                                obtain ⟨I_4734, m_4734, w_4734_0, w_4734_1, w_4734_2, -⟩ := hw_4734
                                have M_4734 := dg_sm.tr M_4729 m_4734 (by decide) (by decide)
                                have hz_4735 : (-1 : Int32).toInt = (-1) := by decide +kernel
                                obtain ⟨y_4736, f_y_4736, w_4734_0⟩ := w_4734_0
                                have w_4734_0 : (y_4736).toInt = (cd).toInt + 1 := w_4734_0
                                have b_y_4736 : 0 ≤ (y_4736).toInt ∧ (y_4736).toInt ≤ 1600 := dg_I.intb (lo := 0) (hi := 1600) I_4734 sM_0 (by decide +kernel) f_y_4736
                                have w_4734_1 : ADM S_4729 S_4734 (-1 : Int32) := w_4734_1
                                have P1_4734 : P1M S_4734 := PBM.leaf (PBM.keep PB_3466 m_4729 (by decide) (by decide) (by decide) (by decide) (by decide) (by decide) (by decide) (by decide) (by decide) (by decide) (by decide) (by decide) (by decide) (by decide) (by decide)) (((m_4729.1 0 42 _ sM_0 (by decide)).trans ((dg_uf_F e_3466 0 42).trans (m_2.1 0 42 _ sM_0 (by decide)))).trans f_dp) (((m_4729.1 0 43 _ sM_0 (by decide)).trans ((dg_uf_F e_3466 0 43).trans (m_2.1 0 43 _ sM_0 (by decide)))).trans f_on) (((m_4729.1 0 45 _ sM_0 (by decide)).trans ((dg_uf_F e_3466 0 45).trans (m_2.1 0 45 _ sM_0 (by decide)))).trans f_om) m_4734 w_4734_1 (by omega)
                                refine lv_aload_n hx hb dX12_operand_476 rfl (lv_at hl 3 rfl) ?_
                                refine dg_callv hS hA1 hA (va_runV (As := []) (rest := []) F (c_m_ahead l g D o S_4734 se (((m_4734.1 0 5 _ sM_0 (by decide)).trans ((m_4729.1 0 5 _ sM_0 (by decide)).trans ((dg_uf_F e_3466 0 5).trans (m_2.1 0 5 _ sM_0 (by decide))))).trans f_se) (by omega) sl (((m_4734.1 0 2 _ sM_0 (by decide)).trans ((m_4729.1 0 2 _ sM_0 (by decide)).trans ((dg_uf_F e_3466 0 2).trans (m_2.1 0 2 _ sM_0 (by decide))))).trans f_sl) (by omega) (by omega) I_4734 H.size) (cwV 0 hts (bw_V wB_1137 wB_1138 wB_1139 wB_857 wB_1136) rfl rfl rfl (by decide +kernel) ⟨Nat.le_of_ble_eq_true rfl, Nat.le_of_ble_eq_true rfl⟩) (dg_preV sM_0 rfl K ST hP hS hA1 hA) rfl rfl hl.1 rfl (lv_room (Nat.le_of_ble_eq_true rfl)) dX12_operand_477 ⟨Nat.le_of_ble_eq_true rfl, Nat.le_of_ble_eq_true rfl⟩) (fun S_4737 hw_4737 H locs hP hS => ?_)
                                obtain ⟨I_4737, m_4737, w_4737_0, -⟩ := hw_4737
                                have M_4737 := dg_sm.tr M_4734 m_4737 (by decide) (by decide)
                                obtain ⟨y_4738, y_4739, y_4740, f_y_4738, f_y_4739, f_y_4740, w_4737_0⟩ := w_4737_0
                                have w_4737_0 : (se).toInt ≤ (y_4739).toInt ∧ (y_4739).toInt ≤ (y_4740).toInt ∧ (y_4740).toInt ≤ (sl).toInt ∧ ((y_4738).toInt ≠ 0 → (y_4739).toInt + 1 ≤ (y_4740).toInt) := w_4737_0
                                have b_y_4738 : 0 ≤ (y_4738).toInt ∧ (y_4738).toInt ≤ 3 := dg_I.intb (lo := 0) (hi := 3) I_4737 sM_0 (by decide +kernel) f_y_4738
                                have b_y_4739 : 0 ≤ (y_4739).toInt ∧ (y_4739).toInt ≤ 1600 := dg_I.intb (lo := 0) (hi := 1600) I_4737 sM_0 (by decide +kernel) f_y_4739
                                have b_y_4740 : 0 ≤ (y_4740).toInt ∧ (y_4740).toInt ≤ 1600 := dg_I.intb (lo := 0) (hi := 1600) I_4737 sM_0 (by decide +kernel) f_y_4740
                                refine lv_iconst (v := 1) hx hb dX12_operand_480 (by decide +kernel) ?_
                                have hz_4741 : (1 : Int32).toInt = 1 := by decide +kernel
                                have hz_4742 : (1 : Int32).toInt = 1 := by decide +kernel
                                have hz_4743 : (1 : Int32).toInt = 1 := by decide +kernel
                                have hz_4744 : (1 : Int32).toInt = 1 := by decide +kernel
                                refine W.widen (k := 0) (n := 0) (Nat.le_of_ble_eq_true rfl) (Nat.le_of_ble_eq_true rfl) ?_
                                exact dg_iret hx hb hr hlocks (by decide +kernel) hP hS ⟨I_4737, M_4737, (by decide +kernel), ⟨y_4738, y_4739, y_4740, y_4731, y_4736, dp, om, f_y_4738, f_y_4739, f_y_4740, (((m_4737.1 0 8 _ sM_0 (by decide)).trans (m_4734.1 0 8 _ sM_0 (by decide))).trans f_y_4731), ((m_4737.1 0 34 _ sM_0 (by decide)).trans f_y_4736), (((m_4737.1 0 42 _ sM_0 (by decide)).trans ((m_4734.1 0 42 _ sM_0 (by decide)).trans ((m_4729.1 0 42 _ sM_0 (by decide)).trans ((dg_uf_F e_3466 0 42).trans (m_2.1 0 42 _ sM_0 (by decide)))))).trans f_dp), (((m_4737.1 0 45 _ sM_0 (by decide)).trans ((m_4734.1 0 45 _ sM_0 (by decide)).trans ((m_4729.1 0 45 _ sM_0 (by decide)).trans ((dg_uf_F e_3466 0 45).trans (m_2.1 0 45 _ sM_0 (by decide)))))).trans f_om), (by omega)⟩, (fun k9 hk9 hk0 => ⟨fun _ => (P1M.keep P1_4734 m_4737 (by decide) (by decide) (by decide) (by decide) (by decide) (by decide) (by decide) (by decide) (by decide) (by decide) (by decide) (by decide) (by decide) (by decide) (by decide)), fun h9 => absurd h9 (by decide +kernel)⟩), (ZWM.keep w_4734_2 m_4737 (by decide) (by decide) (by decide) (by decide)), trivial⟩ dX12_operand_481
                              · have jc_4732 := dk_nlec (k := 0) (by decide +kernel) c_4732
                                refine lv_iconst (v := 1) hx hb dX12_operand_465 (by decide +kernel) ?_
                                have hz_4745 : (1 : Int32).toInt = 1 := by decide +kernel
                                have hz_4746 : (1 : Int32).toInt = 1 := by decide +kernel
                                have hz_4747 : (1 : Int32).toInt = 1 := by decide +kernel
                                have hz_4748 : (1 : Int32).toInt = 1 := by decide +kernel
                                refine W.widen (k := 0) (n := 0) (Nat.le_of_ble_eq_true rfl) (Nat.le_of_ble_eq_true rfl) ?_
                                exact dg_iret hx hb hr hlocks (by decide +kernel) hP hS ⟨I_4729, M_4729, (by decide +kernel), ⟨sg, sa, se, y_4731, cd, dp, om, (((m_4729.1 0 3 _ sM_0 (by decide)).trans ((dg_uf_F e_3466 0 3).trans (m_2.1 0 3 _ sM_0 (by decide)))).trans f_sg), (((m_4729.1 0 4 _ sM_0 (by decide)).trans ((dg_uf_F e_3466 0 4).trans (m_2.1 0 4 _ sM_0 (by decide)))).trans f_sa), (((m_4729.1 0 5 _ sM_0 (by decide)).trans ((dg_uf_F e_3466 0 5).trans (m_2.1 0 5 _ sM_0 (by decide)))).trans f_se), f_y_4731, (((m_4729.1 0 34 _ sM_0 (by decide)).trans ((dg_uf_F e_3466 0 34).trans (m_2.1 0 34 _ sM_0 (by decide)))).trans f_cd), (((m_4729.1 0 42 _ sM_0 (by decide)).trans ((dg_uf_F e_3466 0 42).trans (m_2.1 0 42 _ sM_0 (by decide)))).trans f_dp), (((m_4729.1 0 45 _ sM_0 (by decide)).trans ((dg_uf_F e_3466 0 45).trans (m_2.1 0 45 _ sM_0 (by decide)))).trans f_om), (by omega)⟩, (fun k9 hk9 hk0 => by have q9 := (f_y_4731).symm.trans hk9; cases q9; omega), (ZWM.keep (ZWM.keep (ZWM.keep ZW m_2 (by decide) (by decide) (by decide) (by decide)) (dg_sm.uf (WF := []) (WA := [24]) dg_sm.rf e_3466 sM_24 (by decide)) (by decide) (by decide) (by decide) (by decide)) m_4729 (by decide) (by decide) (by decide) (by decide)), trivial⟩ dX12_operand_466
                            · have jc_4727 := dk_eqc (k := 0) (by decide +kernel) c_4727
                              refine lv_iconst (v := 1) hx hb dX12_operand_434 (by decide +kernel) ?_
                              refine lv_goto (tgt := 439) hx hb dX12_operand_435 (by decide) ?_
                              refine lv_icmp_eq (tgt := 444) hx hb dX12_operand_439 (by decide) (fun _ => ?_) (fun c => absurd (by decide +kernel) c)
                              refine lv_iload_n hx hb dX12_operand_444 rfl (lv_at hl 0 rfl) ?_
                              refine lv_iconst (v := (-1)) hx hb dX12_operand_445 (by decide +kernel) ?_
                              refine lv_icmp_ne (tgt := 458) hx hb dX12_operand_446 (by decide) (fun _ => ?_) (fun c => absurd c (fun z => absurd (dk_eqc (k := (-1)) (by decide +kernel) z) (by omega)))
                              refine lv_aload_n hx hb dX12_operand_458 rfl (lv_at hl 3 rfl) ?_
                              refine dg_get (C := RX12) (T := TX12) (N := 77) hx hb hts (fun w h => bw_mem (wU_X12 w h)) hown K hP sM_0 rfl 8 (by decide) (hts _ (bw_mem wB_1109)) (fun _ h9 => h9) (v := .int y_3) ((dg_uf_F e_3466 0 8).trans f_y_3) dX12_operand_459 ?_
                              refine lv_if_le (tgt := 467) hx hb dX12_operand_462 (by decide) (fun _ => ?_) (fun c => absurd (dk_lep (k := 0) (by decide +kernel) (by omega)) c)
                              refine lv_aload_n hx hb dX12_operand_467 rfl (lv_at hl 3 rfl) ?_
                              refine lv_iload_n hx hb dX12_operand_468 rfl (lv_at hl 0 rfl) ?_
                              refine lv_aload_n hx hb dX12_operand_469 rfl (lv_at hl 3 rfl) ?_
                              refine dg_get (C := RX12) (T := TX12) (N := 77) hx hb hts (fun w h => bw_mem (wU_X12 w h)) hown K hP sM_0 rfl 6 (by decide) (hts _ (bw_mem wB_1117)) (fun _ h9 => h9) (v := .int va) (((dg_uf_F e_3466 0 6).trans (m_2.1 0 6 _ sM_0 (by decide))).trans f_va) dX12_operand_470 ?_
                              refine dg_callv hS hA1 hA (va_runV (As := [.int x_4561, .int va]) (rest := []) F (c_m_add l g D o S_3466 x_4561 (by omega) va cd (((dg_uf_F e_3466 0 34).trans (m_2.1 0 34 _ sM_0 (by decide))).trans f_cd) (by omega) (ZWM.keep (ZWM.keep ZW m_2 (by decide) (by decide) (by decide) (by decide)) (dg_sm.uf (WF := []) (WA := [24]) dg_sm.rf e_3466 sM_24 (by decide)) (by decide) (by decide) (by decide) (by decide)) (ZKM.keep (ZKM.keep ZK m_2 (by decide) (by decide)) (dg_sm.uf (WF := []) (WA := [24]) dg_sm.rf e_3466 sM_24 (by decide)) (by decide) (by decide)) I_3466 H.size) (cwV 2 hts (bw_V wB_1185 wB_1186 wB_1187 wB_857 wB_1184) rfl rfl rfl (by decide +kernel) ⟨Nat.le_of_ble_eq_true rfl, Nat.le_of_ble_eq_true rfl⟩) (dg_preV sM_0 rfl K ST hP hS hA1 hA) rfl rfl hl.1 rfl (lv_room (Nat.le_of_ble_eq_true rfl)) dX12_operand_473 ⟨Nat.le_of_ble_eq_true rfl, Nat.le_of_ble_eq_true rfl⟩) (fun S_4749 hw_4749 H locs hP hS => ?_)
                              obtain ⟨I_4749, m_4749, w_4749_0, w_4749_1, w_4749_2, -⟩ := hw_4749
                              have M_4749 := dg_sm.tr M_3466 m_4749 (by decide) (by decide)
                              obtain ⟨y_4750, f_y_4750, w_4749_0⟩ := w_4749_0
                              have w_4749_0 : (y_4750).toInt = (cd).toInt + 1 := w_4749_0
                              have b_y_4750 : 0 ≤ (y_4750).toInt ∧ (y_4750).toInt ≤ 1600 := dg_I.intb (lo := 0) (hi := 1600) I_4749 sM_0 (by decide +kernel) f_y_4750
                              have w_4749_1 : ADM S_3466 S_4749 x_4561 := w_4749_1
                              have P1_4749 : P1M S_4749 := PBM.leaf PB_3466 (((dg_uf_F e_3466 0 42).trans (m_2.1 0 42 _ sM_0 (by decide))).trans f_dp) (((dg_uf_F e_3466 0 43).trans (m_2.1 0 43 _ sM_0 (by decide))).trans f_on) (((dg_uf_F e_3466 0 45).trans (m_2.1 0 45 _ sM_0 (by decide))).trans f_om) m_4749 w_4749_1 (by omega)
                              refine lv_aload_n hx hb dX12_operand_476 rfl (lv_at hl 3 rfl) ?_
                              refine dg_callv hS hA1 hA (va_runV (As := []) (rest := []) F (c_m_ahead l g D o S_4749 se (((m_4749.1 0 5 _ sM_0 (by decide)).trans ((dg_uf_F e_3466 0 5).trans (m_2.1 0 5 _ sM_0 (by decide)))).trans f_se) (by omega) sl (((m_4749.1 0 2 _ sM_0 (by decide)).trans ((dg_uf_F e_3466 0 2).trans (m_2.1 0 2 _ sM_0 (by decide)))).trans f_sl) (by omega) (by omega) I_4749 H.size) (cwV 0 hts (bw_V wB_1137 wB_1138 wB_1139 wB_857 wB_1136) rfl rfl rfl (by decide +kernel) ⟨Nat.le_of_ble_eq_true rfl, Nat.le_of_ble_eq_true rfl⟩) (dg_preV sM_0 rfl K ST hP hS hA1 hA) rfl rfl hl.1 rfl (lv_room (Nat.le_of_ble_eq_true rfl)) dX12_operand_477 ⟨Nat.le_of_ble_eq_true rfl, Nat.le_of_ble_eq_true rfl⟩) (fun S_4751 hw_4751 H locs hP hS => ?_)
                              obtain ⟨I_4751, m_4751, w_4751_0, -⟩ := hw_4751
                              have M_4751 := dg_sm.tr M_4749 m_4751 (by decide) (by decide)
                              obtain ⟨y_4752, y_4753, y_4754, f_y_4752, f_y_4753, f_y_4754, w_4751_0⟩ := w_4751_0
                              have w_4751_0 : (se).toInt ≤ (y_4753).toInt ∧ (y_4753).toInt ≤ (y_4754).toInt ∧ (y_4754).toInt ≤ (sl).toInt ∧ ((y_4752).toInt ≠ 0 → (y_4753).toInt + 1 ≤ (y_4754).toInt) := w_4751_0
                              have b_y_4752 : 0 ≤ (y_4752).toInt ∧ (y_4752).toInt ≤ 3 := dg_I.intb (lo := 0) (hi := 3) I_4751 sM_0 (by decide +kernel) f_y_4752
                              have b_y_4753 : 0 ≤ (y_4753).toInt ∧ (y_4753).toInt ≤ 1600 := dg_I.intb (lo := 0) (hi := 1600) I_4751 sM_0 (by decide +kernel) f_y_4753
                              have b_y_4754 : 0 ≤ (y_4754).toInt ∧ (y_4754).toInt ≤ 1600 := dg_I.intb (lo := 0) (hi := 1600) I_4751 sM_0 (by decide +kernel) f_y_4754
                              refine lv_iconst (v := 1) hx hb dX12_operand_480 (by decide +kernel) ?_
                              have hz_4755 : (1 : Int32).toInt = 1 := by decide +kernel
                              have hz_4756 : (1 : Int32).toInt = 1 := by decide +kernel
                              have hz_4757 : (1 : Int32).toInt = 1 := by decide +kernel
                              have hz_4758 : (1 : Int32).toInt = 1 := by decide +kernel
                              refine W.widen (k := 0) (n := 0) (Nat.le_of_ble_eq_true rfl) (Nat.le_of_ble_eq_true rfl) ?_
                              exact dg_iret hx hb hr hlocks (by decide +kernel) hP hS ⟨I_4751, M_4751, (by decide +kernel), ⟨y_4752, y_4753, y_4754, y_3, y_4750, dp, om, f_y_4752, f_y_4753, f_y_4754, (((m_4751.1 0 8 _ sM_0 (by decide)).trans ((m_4749.1 0 8 _ sM_0 (by decide)).trans (dg_uf_F e_3466 0 8))).trans f_y_3), ((m_4751.1 0 34 _ sM_0 (by decide)).trans f_y_4750), (((m_4751.1 0 42 _ sM_0 (by decide)).trans ((m_4749.1 0 42 _ sM_0 (by decide)).trans ((dg_uf_F e_3466 0 42).trans (m_2.1 0 42 _ sM_0 (by decide))))).trans f_dp), (((m_4751.1 0 45 _ sM_0 (by decide)).trans ((m_4749.1 0 45 _ sM_0 (by decide)).trans ((dg_uf_F e_3466 0 45).trans (m_2.1 0 45 _ sM_0 (by decide))))).trans f_om), (by omega)⟩, (fun k9 hk9 hk0 => ⟨fun _ => (P1M.keep P1_4749 m_4751 (by decide) (by decide) (by decide) (by decide) (by decide) (by decide) (by decide) (by decide) (by decide) (by decide) (by decide) (by decide) (by decide) (by decide) (by decide)), fun h9 => absurd h9 (by decide +kernel)⟩), (ZWM.keep w_4749_2 m_4751 (by decide) (by decide) (by decide) (by decide)), trivial⟩ dX12_operand_481
                      refine lv_icmp_ne (tgt := 325) hx hb dX12_operand_318 (by decide) (fun c_4759 => ?_) (fun c_4759 => ?_)
                      · have jc_4759 := dk_neqc (k := 2) (by decide +kernel) c_4759
                        refine lv_aload_n hx hb dX12_operand_325 rfl (lv_at hl 2 rfl) ?_
                        refine lv_ldc2 hx hb hown (hts _ (bw_mem wB_1149)) dX12_operand_326 ?_
                        refine dg_calli hS hA1 hA (va_runV (As := [.long 444300616805]) (rest := []) F (c_m_isWord l g D o S_3466 444300616805 sg (((dg_uf_F e_3466 0 3).trans (m_2.1 0 3 _ sM_0 (by decide))).trans f_sg) (by omega) I_3466 H.size) (cwV 1 hts (bw_V wB_1141 wB_1142 wB_1143 wB_857 wB_1140) rfl rfl rfl (by decide +kernel) ⟨Nat.le_of_ble_eq_true rfl, Nat.le_of_ble_eq_true rfl⟩) (dg_preV sM_0 rfl K ST hP hS hA1 hA) rfl rfl hl.1 rfl (lv_room (Nat.le_of_ble_eq_true rfl)) dX12_operand_329 ⟨Nat.le_of_ble_eq_true rfl, Nat.le_of_ble_eq_true rfl⟩) (fun x_4760 S_4761 hw_4761 H locs hP hS => ?_)
                        rw [hw_4761.1] at hP
                        obtain ⟨hq_4761, w_4761_0, w_4761_1, -⟩ := hw_4761
                        have w_4761_0 : 0 ≤ (x_4760).toInt ∧ (x_4760).toInt ≤ 1 := w_4761_0
                        have w_4761_1 : (x_4760).toInt = 1 → (sg).toInt = 1 := w_4761_1
                        refine lv_if_eq (tgt := 339) hx hb dX12_operand_332 (by decide) (fun c_4762 => ?_) (fun c_4762 => ?_)
                        · have jc_4762 := dk_eqc (k := 0) (by decide +kernel) c_4762
                          refine lv_aload_n hx hb dX12_operand_339 rfl (lv_at hl 2 rfl) ?_
                          refine lv_ldc2 hx hb hown (hts _ (bw_mem wB_1159)) dX12_operand_340 ?_
                          refine dg_calli hS hA1 hA (va_runV (As := [.long 431198598248]) (rest := []) F (c_m_isWord l g D o S_3466 431198598248 sg (((dg_uf_F e_3466 0 3).trans (m_2.1 0 3 _ sM_0 (by decide))).trans f_sg) (by omega) I_3466 H.size) (cwV 1 hts (bw_V wB_1141 wB_1142 wB_1143 wB_857 wB_1140) rfl rfl rfl (by decide +kernel) ⟨Nat.le_of_ble_eq_true rfl, Nat.le_of_ble_eq_true rfl⟩) (dg_preV sM_0 rfl K ST hP hS hA1 hA) rfl rfl hl.1 rfl (lv_room (Nat.le_of_ble_eq_true rfl)) dX12_operand_343 ⟨Nat.le_of_ble_eq_true rfl, Nat.le_of_ble_eq_true rfl⟩) (fun x_4763 S_4764 hw_4764 H locs hP hS => ?_)
                          rw [hw_4764.1] at hP
                          obtain ⟨hq_4764, w_4764_0, w_4764_1, -⟩ := hw_4764
                          have w_4764_0 : 0 ≤ (x_4763).toInt ∧ (x_4763).toInt ≤ 1 := w_4764_0
                          have w_4764_1 : (x_4763).toInt = 1 → (sg).toInt = 1 := w_4764_1
                          refine lv_if_eq (tgt := 353) hx hb dX12_operand_346 (by decide) (fun c_4765 => ?_) (fun c_4765 => ?_)
                          · have jc_4765 := dk_eqc (k := 0) (by decide +kernel) c_4765
                            refine lv_aload_n hx hb dX12_operand_353 rfl (lv_at hl 2 rfl) ?_
                            refine lv_ldc2 hx hb hown (hts _ (bw_mem wB_1160)) dX12_operand_354 ?_
                            refine dg_calli hS hA1 hA (va_runV (As := [.long 495672977012]) (rest := []) F (c_m_isWord l g D o S_3466 495672977012 sg (((dg_uf_F e_3466 0 3).trans (m_2.1 0 3 _ sM_0 (by decide))).trans f_sg) (by omega) I_3466 H.size) (cwV 1 hts (bw_V wB_1141 wB_1142 wB_1143 wB_857 wB_1140) rfl rfl rfl (by decide +kernel) ⟨Nat.le_of_ble_eq_true rfl, Nat.le_of_ble_eq_true rfl⟩) (dg_preV sM_0 rfl K ST hP hS hA1 hA) rfl rfl hl.1 rfl (lv_room (Nat.le_of_ble_eq_true rfl)) dX12_operand_357 ⟨Nat.le_of_ble_eq_true rfl, Nat.le_of_ble_eq_true rfl⟩) (fun x_4766 S_4767 hw_4767 H locs hP hS => ?_)
                            rw [hw_4767.1] at hP
                            obtain ⟨hq_4767, w_4767_0, w_4767_1, -⟩ := hw_4767
                            have w_4767_0 : 0 ≤ (x_4766).toInt ∧ (x_4766).toInt ≤ 1 := w_4767_0
                            have w_4767_1 : (x_4766).toInt = 1 → (sg).toInt = 1 := w_4767_1
                            refine lv_if_eq (tgt := 367) hx hb dX12_operand_360 (by decide) (fun c_4768 => ?_) (fun c_4768 => ?_)
                            · have jc_4768 := dk_eqc (k := 0) (by decide +kernel) c_4768
                              refine lv_aload_n hx hb dX12_operand_367 rfl (lv_at hl 2 rfl) ?_
                              refine lv_ldc2 hx hb hown (hts _ (bw_mem wB_1161)) dX12_operand_368 ?_
                              refine dg_calli hS hA1 hA (va_runV (As := [.long 6709618]) (rest := []) F (c_m_isWord l g D o S_3466 6709618 sg (((dg_uf_F e_3466 0 3).trans (m_2.1 0 3 _ sM_0 (by decide))).trans f_sg) (by omega) I_3466 H.size) (cwV 1 hts (bw_V wB_1141 wB_1142 wB_1143 wB_857 wB_1140) rfl rfl rfl (by decide +kernel) ⟨Nat.le_of_ble_eq_true rfl, Nat.le_of_ble_eq_true rfl⟩) (dg_preV sM_0 rfl K ST hP hS hA1 hA) rfl rfl hl.1 rfl (lv_room (Nat.le_of_ble_eq_true rfl)) dX12_operand_371 ⟨Nat.le_of_ble_eq_true rfl, Nat.le_of_ble_eq_true rfl⟩) (fun x_4769 S_4770 hw_4770 H locs hP hS => ?_)
                              rw [hw_4770.1] at hP
                              obtain ⟨hq_4770, w_4770_0, w_4770_1, -⟩ := hw_4770
                              have w_4770_0 : 0 ≤ (x_4769).toInt ∧ (x_4769).toInt ≤ 1 := w_4770_0
                              have w_4770_1 : (x_4769).toInt = 1 → (sg).toInt = 1 := w_4770_1
                              refine lv_if_eq (tgt := 381) hx hb dX12_operand_374 (by decide) (fun c_4771 => ?_) (fun c_4771 => ?_)
                              · have jc_4771 := dk_eqc (k := 0) (by decide +kernel) c_4771
                                refine lv_aload_n hx hb dX12_operand_381 rfl (lv_at hl 2 rfl) ?_
                                refine lv_ldc2 hx hb hown (hts _ (bw_mem wB_1162)) dX12_operand_382 ?_
                                refine dg_calli hS hA1 hA (va_runV (As := [.long 1869636974]) (rest := []) F (c_m_isWord l g D o S_3466 1869636974 sg (((dg_uf_F e_3466 0 3).trans (m_2.1 0 3 _ sM_0 (by decide))).trans f_sg) (by omega) I_3466 H.size) (cwV 1 hts (bw_V wB_1141 wB_1142 wB_1143 wB_857 wB_1140) rfl rfl rfl (by decide +kernel) ⟨Nat.le_of_ble_eq_true rfl, Nat.le_of_ble_eq_true rfl⟩) (dg_preV sM_0 rfl K ST hP hS hA1 hA) rfl rfl hl.1 rfl (lv_room (Nat.le_of_ble_eq_true rfl)) dX12_operand_385 ⟨Nat.le_of_ble_eq_true rfl, Nat.le_of_ble_eq_true rfl⟩) (fun x_4772 S_4773 hw_4773 H locs hP hS => ?_)
                                rw [hw_4773.1] at hP
                                obtain ⟨hq_4773, w_4773_0, w_4773_1, -⟩ := hw_4773
                                have w_4773_0 : 0 ≤ (x_4772).toInt ∧ (x_4772).toInt ≤ 1 := w_4773_0
                                have w_4773_1 : (x_4772).toInt = 1 → (sg).toInt = 1 := w_4773_1
                                refine lv_if_eq (tgt := 395) hx hb dX12_operand_388 (by decide) (fun c_4774 => ?_) (fun c_4774 => ?_)
                                · have jc_4774 := dk_eqc (k := 0) (by decide +kernel) c_4774
                                  refine lv_aload_n hx hb dX12_operand_395 rfl (lv_at hl 2 rfl) ?_
                                  refine lv_ldc2 hx hb hown (hts _ (bw_mem wB_1163)) dX12_operand_396 ?_
                                  refine dg_calli hS hA1 hA (va_runV (As := [.long 7104884]) (rest := []) F (c_m_isWord l g D o S_3466 7104884 sg (((dg_uf_F e_3466 0 3).trans (m_2.1 0 3 _ sM_0 (by decide))).trans f_sg) (by omega) I_3466 H.size) (cwV 1 hts (bw_V wB_1141 wB_1142 wB_1143 wB_857 wB_1140) rfl rfl rfl (by decide +kernel) ⟨Nat.le_of_ble_eq_true rfl, Nat.le_of_ble_eq_true rfl⟩) (dg_preV sM_0 rfl K ST hP hS hA1 hA) rfl rfl hl.1 rfl (lv_room (Nat.le_of_ble_eq_true rfl)) dX12_operand_399 ⟨Nat.le_of_ble_eq_true rfl, Nat.le_of_ble_eq_true rfl⟩) (fun x_4775 S_4776 hw_4776 H locs hP hS => ?_)
                                  rw [hw_4776.1] at hP
                                  obtain ⟨hq_4776, w_4776_0, w_4776_1, -⟩ := hw_4776
                                  have w_4776_0 : 0 ≤ (x_4775).toInt ∧ (x_4775).toInt ≤ 1 := w_4776_0
                                  have w_4776_1 : (x_4775).toInt = 1 → (sg).toInt = 1 := w_4776_1
                                  refine lv_if_eq (tgt := 410) hx hb dX12_operand_402 (by decide) (fun c_4777 => ?_) (fun c_4777 => ?_)
                                  · have jc_4777 := dk_eqc (k := 0) (by decide +kernel) c_4777
                                    refine lv_iconst (v := (-1)) hx hb dX12_operand_410 (by decide +kernel) ?_
                                    have hz_4778 : (-1 : Int32).toInt = (-1) := by decide +kernel
                                    have hz_4779 : (-1 : Int32).toInt = (-1) := by decide +kernel
                                    exact J_4660 (-1) (by decide +kernel) (by omega) _ _ hP hS _ (lv_sub hl [0, 1, 2] rfl)
                                  · have jc_4777 := dk_neqc (k := 0) (by decide +kernel) c_4777
                                    refine lv_bipush (v := 6) hx hb dX12_operand_405 (by decide +kernel) ?_
                                    refine lv_goto (tgt := 411) hx hb dX12_operand_407 (by decide) ?_
                                    have hz_4780 : (6 : Int32).toInt = 6 := by decide +kernel
                                    have hz_4781 : (6 : Int32).toInt = 6 := by decide +kernel
                                    exact J_4660 6 (by decide +kernel) (by omega) _ _ hP hS _ (lv_sub hl [0, 1, 2] rfl)
                                · have jc_4774 := dk_neqc (k := 0) (by decide +kernel) c_4774
                                  refine lv_iconst (v := 5) hx hb dX12_operand_391 (by decide +kernel) ?_
                                  refine lv_goto (tgt := 411) hx hb dX12_operand_392 (by decide) ?_
                                  have hz_4782 : (5 : Int32).toInt = 5 := by decide +kernel
                                  have hz_4783 : (5 : Int32).toInt = 5 := by decide +kernel
                                  exact J_4660 5 (by decide +kernel) (by omega) _ _ hP hS _ (lv_sub hl [0, 1, 2] rfl)
                              · have jc_4771 := dk_neqc (k := 0) (by decide +kernel) c_4771
                                refine lv_iconst (v := 4) hx hb dX12_operand_377 (by decide +kernel) ?_
                                refine lv_goto (tgt := 411) hx hb dX12_operand_378 (by decide) ?_
                                have hz_4784 : (4 : Int32).toInt = 4 := by decide +kernel
                                have hz_4785 : (4 : Int32).toInt = 4 := by decide +kernel
                                exact J_4660 4 (by decide +kernel) (by omega) _ _ hP hS _ (lv_sub hl [0, 1, 2] rfl)
                            · have jc_4768 := dk_neqc (k := 0) (by decide +kernel) c_4768
                              refine lv_iconst (v := 3) hx hb dX12_operand_363 (by decide +kernel) ?_
                              refine lv_goto (tgt := 411) hx hb dX12_operand_364 (by decide) ?_
                              have hz_4786 : (3 : Int32).toInt = 3 := by decide +kernel
                              have hz_4787 : (3 : Int32).toInt = 3 := by decide +kernel
                              exact J_4660 3 (by decide +kernel) (by omega) _ _ hP hS _ (lv_sub hl [0, 1, 2] rfl)
                          · have jc_4765 := dk_neqc (k := 0) (by decide +kernel) c_4765
                            refine lv_iconst (v := 2) hx hb dX12_operand_349 (by decide +kernel) ?_
                            refine lv_goto (tgt := 411) hx hb dX12_operand_350 (by decide) ?_
                            have hz_4788 : (2 : Int32).toInt = 2 := by decide +kernel
                            have hz_4789 : (2 : Int32).toInt = 2 := by decide +kernel
                            exact J_4660 2 (by decide +kernel) (by omega) _ _ hP hS _ (lv_sub hl [0, 1, 2] rfl)
                        · have jc_4762 := dk_neqc (k := 0) (by decide +kernel) c_4762
                          refine lv_iconst (v := 1) hx hb dX12_operand_335 (by decide +kernel) ?_
                          refine lv_goto (tgt := 411) hx hb dX12_operand_336 (by decide) ?_
                          have hz_4790 : (1 : Int32).toInt = 1 := by decide +kernel
                          have hz_4791 : (1 : Int32).toInt = 1 := by decide +kernel
                          exact J_4660 1 (by decide +kernel) (by omega) _ _ hP hS _ (lv_sub hl [0, 1, 2] rfl)
                      · have jc_4759 := dk_eqc (k := 2) (by decide +kernel) c_4759
                        refine lv_iconst (v := 0) hx hb dX12_operand_321 (by decide +kernel) ?_
                        refine lv_goto (tgt := 411) hx hb dX12_operand_322 (by decide) ?_
                        have hz_4792 : (0 : Int32).toInt = 0 := by decide +kernel
                        have hz_4793 : (0 : Int32).toInt = 0 := by decide +kernel
                        exact J_4660 0 (by decide +kernel) (by omega) _ _ hP hS _ (lv_sub hl [0, 1, 2] rfl)
                    · have jc_4541 := dk_neqc (k := 0) (by decide +kernel) c_4541
                      exact J_4298  (by omega) _ _ hP hS _ (lv_sub hl [0, 1, 2] rfl)
              · have jc_4054 := dk_neqc (k := 0) (by decide +kernel) c_4054
                refine lv_aload_n hx hb dX12_operand_180 rfl (lv_at hl 2 rfl) ?_
                refine lv_iconst (v := 2) hx hb dX12_operand_181 (by decide +kernel) ?_
                have hz_4794 : (2 : Int32).toInt = 2 := by decide +kernel
                refine dg_callv hS hA1 hA (va_runV (As := [.int 2]) (rest := []) F (c_m_frames l g D o S_3466 2 (by decide +kernel) sg (((dg_uf_F e_3466 0 3).trans (m_2.1 0 3 _ sM_0 (by decide))).trans f_sg) (by omega) sa (((dg_uf_F e_3466 0 4).trans (m_2.1 0 4 _ sM_0 (by decide))).trans f_sa) (by omega) se (((dg_uf_F e_3466 0 5).trans (m_2.1 0 5 _ sM_0 (by decide))).trans f_se) (by omega) sl (((dg_uf_F e_3466 0 2).trans (m_2.1 0 2 _ sM_0 (by decide))).trans f_sl) (by omega) y_3 ((dg_uf_F e_3466 0 8).trans f_y_3) (by omega) dp (((dg_uf_F e_3466 0 42).trans (m_2.1 0 42 _ sM_0 (by decide))).trans f_dp) (by omega) om (((dg_uf_F e_3466 0 45).trans (m_2.1 0 45 _ sM_0 (by decide))).trans f_om) (by omega) on (((dg_uf_F e_3466 0 43).trans (m_2.1 0 43 _ sM_0 (by decide))).trans f_on) (by omega) (by omega) I_3466 H.size) (cwV 1 hts (bw_V wB_1201 wB_1202 wB_1203 wB_857 wB_1200) rfl rfl rfl (by decide +kernel) ⟨Nat.le_of_ble_eq_true rfl, Nat.le_of_ble_eq_true rfl⟩) (dg_preV sM_0 rfl K ST hP hS hA1 hA) rfl rfl hl.1 rfl (lv_room (Nat.le_of_ble_eq_true rfl)) dX12_operand_182 ⟨Nat.le_of_ble_eq_true rfl, Nat.le_of_ble_eq_true rfl⟩) (fun S_4795 hw_4795 H locs hP hS => ?_)
                obtain ⟨I_4795, m_4795, w_4795_0, w_4795_1, -⟩ := hw_4795
                have M_4795 := dg_sm.tr M_3466 m_4795 (by decide) (by decide)
                have hz_4796 : (2 : Int32).toInt = 2 := by decide +kernel
                obtain ⟨y_4797, y_4798, y_4799, y_4800, y_4801, f_y_4797, f_y_4798, f_y_4799, f_y_4800, f_y_4801, w_4795_0⟩ := w_4795_0
                have w_4795_0 : ((y_4798).toInt ≤ (y_4799).toInt ∧ (y_4799).toInt ≤ (sl).toInt ∧ ((y_4797).toInt ≠ 0 → (y_4798).toInt + 1 ≤ (y_4799).toInt)) ∧ (sa).toInt ≤ (y_4798).toInt ∧ ((y_3).toInt ≠ 0 → (y_4800).toInt ≠ 0) ∧ (((y_4800).toInt = 0 → ((sa).toInt + 1 ≤ (y_4798).toInt ∧ (y_4801).toInt = (dp).toInt + 1))) := w_4795_0
                have b_y_4797 : 0 ≤ (y_4797).toInt ∧ (y_4797).toInt ≤ 3 := dg_I.intb (lo := 0) (hi := 3) I_4795 sM_0 (by decide +kernel) f_y_4797
                have b_y_4798 : 0 ≤ (y_4798).toInt ∧ (y_4798).toInt ≤ 1600 := dg_I.intb (lo := 0) (hi := 1600) I_4795 sM_0 (by decide +kernel) f_y_4798
                have b_y_4799 : 0 ≤ (y_4799).toInt ∧ (y_4799).toInt ≤ 1600 := dg_I.intb (lo := 0) (hi := 1600) I_4795 sM_0 (by decide +kernel) f_y_4799
                have b_y_4800 : 0 ≤ (y_4800).toInt ∧ (y_4800).toInt ≤ 6 := dg_I.intb (lo := 0) (hi := 6) I_4795 sM_0 (by decide +kernel) f_y_4800
                have b_y_4801 : 0 ≤ (y_4801).toInt ∧ (y_4801).toInt ≤ 20 := dg_I.intb (lo := 0) (hi := 20) I_4795 sM_0 (by decide +kernel) f_y_4801
                have w_4795_1 : ∀ k9 : Int32, S_4795.1 0 8 = .int k9 → k9.toInt = 0 → FRM S_3466 S_4795 (2 : Int32) := w_4795_1
                obtain ⟨x_4802, f_x_4802, b_x_4802⟩ := dg_I.int (i := 0) (k := 42) (lo := 0) (hi := 20) I_3466 sM_0 (by decide +kernel)
                refine lv_iconst (v := 0) hx hb dX12_operand_185 (by decide +kernel) ?_
                have hz_4803 : (0 : Int32).toInt = 0 := by decide +kernel
                have hz_4804 : (0 : Int32).toInt = 0 := by decide +kernel
                obtain ⟨x_4805, f_x_4805, b_x_4805⟩ := dg_I.int (i := 0) (k := 42) (lo := 0) (hi := 20) I_4795 sM_0 (by decide +kernel)
                have hz_4806 : (0 : Int32).toInt = 0 := by decide +kernel
                have hz_4807 : (0 : Int32).toInt = 0 := by decide +kernel
                refine W.widen (k := 0) (n := 0) (Nat.le_of_ble_eq_true rfl) (Nat.le_of_ble_eq_true rfl) ?_
                exact dg_iret hx hb hr hlocks (by decide +kernel) hP hS ⟨I_4795, M_4795, (by decide +kernel), ⟨y_4797, y_4798, y_4799, y_4800, cd, x_4805, om, f_y_4797, f_y_4798, f_y_4799, f_y_4800, (((m_4795.1 0 34 _ sM_0 (by decide)).trans ((dg_uf_F e_3466 0 34).trans (m_2.1 0 34 _ sM_0 (by decide)))).trans f_cd), f_x_4805, (((m_4795.1 0 45 _ sM_0 (by decide)).trans ((dg_uf_F e_3466 0 45).trans (m_2.1 0 45 _ sM_0 (by decide)))).trans f_om), (by omega)⟩, (fun k9 hk9 hk0 => ⟨fun h9 => absurd h9 (by decide +kernel), fun _ => by first | (exact PBM.opens PB_3466 f_x_4802 (((dg_uf_F e_3466 0 43).trans (m_2.1 0 43 _ sM_0 (by decide))).trans f_on) (((dg_uf_F e_3466 0 45).trans (m_2.1 0 45 _ sM_0 (by decide))).trans f_om) (w_4795_1 k9 hk9 hk0) m_4795 (by decide) (by decide) (by decide) (by decide) (by omega)) | (have q9 := (f_y_4800).symm.trans hk9; cases q9; omega)⟩), (ZWM.keep (ZWM.keep (ZWM.keep ZW m_2 (by decide) (by decide) (by decide) (by decide)) (dg_sm.uf (WF := []) (WA := [24]) dg_sm.rf e_3466 sM_24 (by decide)) (by decide) (by decide) (by decide) (by decide)) m_4795 (by decide) (by decide) (by decide) (by decide)), trivial⟩ dX12_operand_186
            refine lv_if_eq (tgt := 171) hx hb dX12_operand_138 (by decide) (fun c => absurd c (by decide +kernel)) (fun _ => ?_)
            refine lv_aload_n hx hb dX12_operand_141 rfl (lv_at hl 2 rfl) ?_
            refine lv_ldc2 hx hb hown (hts _ (bw_mem wB_1168)) dX12_operand_142 ?_
            refine dg_calli hS hA1 hA (va_runV (As := [.long 6384748]) (rest := []) F (c_m_isWord l g D o S_3466 6384748 sg (((dg_uf_F e_3466 0 3).trans (m_2.1 0 3 _ sM_0 (by decide))).trans f_sg) (by omega) I_3466 H.size) (cwV 1 hts (bw_V wB_1141 wB_1142 wB_1143 wB_857 wB_1140) rfl rfl rfl (by decide +kernel) ⟨Nat.le_of_ble_eq_true rfl, Nat.le_of_ble_eq_true rfl⟩) (dg_preV sM_0 rfl K ST hP hS hA1 hA) rfl rfl hl.1 rfl (lv_room (Nat.le_of_ble_eq_true rfl)) dX12_operand_145 ⟨Nat.le_of_ble_eq_true rfl, Nat.le_of_ble_eq_true rfl⟩) (fun x_4808 S_4809 hw_4809 H locs hP hS => ?_)
            rw [hw_4809.1] at hP
            obtain ⟨hq_4809, w_4809_0, w_4809_1, -⟩ := hw_4809
            have w_4809_0 : 0 ≤ (x_4808).toInt ∧ (x_4808).toInt ≤ 1 := w_4809_0
            have w_4809_1 : (x_4808).toInt = 1 → (sg).toInt = 1 := w_4809_1
            refine lv_if_eq (tgt := 171) hx hb dX12_operand_148 (by decide) (fun c_4810 => ?_) (fun c_4810 => ?_)
            · have jc_4810 := dk_eqc (k := 0) (by decide +kernel) c_4810
              exact J_4050   _ _ hP hS _ (lv_sub hl [0, 1, 2] rfl)
            · have jc_4810 := dk_neqc (k := 0) (by decide +kernel) c_4810
              refine lv_aload_n hx hb dX12_operand_151 rfl (lv_at hl 2 rfl) ?_
              refine lv_bipush (v := 30) hx hb dX12_operand_152 (by decide +kernel) ?_
              refine lv_iconst (v := 0) hx hb dX12_operand_154 (by decide +kernel) ?_
              have hz_4811 : (30 : Int32).toInt = 30 := by decide +kernel
              refine dg_callv hS hA1 hA (va_runV (As := [.int 30, .int 0]) (rest := []) F (c_m_add l g D o S_3466 30 (by decide +kernel) 0 cd (((dg_uf_F e_3466 0 34).trans (m_2.1 0 34 _ sM_0 (by decide))).trans f_cd) (by omega) (ZWM.keep (ZWM.keep ZW m_2 (by decide) (by decide) (by decide) (by decide)) (dg_sm.uf (WF := []) (WA := [24]) dg_sm.rf e_3466 sM_24 (by decide)) (by decide) (by decide) (by decide) (by decide)) (ZKM.keep (ZKM.keep ZK m_2 (by decide) (by decide)) (dg_sm.uf (WF := []) (WA := [24]) dg_sm.rf e_3466 sM_24 (by decide)) (by decide) (by decide)) I_3466 H.size) (cwV 2 hts (bw_V wB_1185 wB_1186 wB_1187 wB_857 wB_1184) rfl rfl rfl (by decide +kernel) ⟨Nat.le_of_ble_eq_true rfl, Nat.le_of_ble_eq_true rfl⟩) (dg_preV sM_0 rfl K ST hP hS hA1 hA) rfl rfl hl.1 rfl (lv_room (Nat.le_of_ble_eq_true rfl)) dX12_operand_155 ⟨Nat.le_of_ble_eq_true rfl, Nat.le_of_ble_eq_true rfl⟩) (fun S_4812 hw_4812 H locs hP hS => ?_)
              obtain ⟨I_4812, m_4812, w_4812_0, w_4812_1, w_4812_2, -⟩ := hw_4812
              have M_4812 := dg_sm.tr M_3466 m_4812 (by decide) (by decide)
              have hz_4813 : (30 : Int32).toInt = 30 := by decide +kernel
              have hz_4814 : (0 : Int32).toInt = 0 := by decide +kernel
              obtain ⟨y_4815, f_y_4815, w_4812_0⟩ := w_4812_0
              have w_4812_0 : (y_4815).toInt = (cd).toInt + 1 := w_4812_0
              have b_y_4815 : 0 ≤ (y_4815).toInt ∧ (y_4815).toInt ≤ 1600 := dg_I.intb (lo := 0) (hi := 1600) I_4812 sM_0 (by decide +kernel) f_y_4815
              have w_4812_1 : ADM S_3466 S_4812 (30 : Int32) := w_4812_1
              have P1_4812 : P1M S_4812 := PBM.leaf PB_3466 (((dg_uf_F e_3466 0 42).trans (m_2.1 0 42 _ sM_0 (by decide))).trans f_dp) (((dg_uf_F e_3466 0 43).trans (m_2.1 0 43 _ sM_0 (by decide))).trans f_on) (((dg_uf_F e_3466 0 45).trans (m_2.1 0 45 _ sM_0 (by decide))).trans f_om) m_4812 w_4812_1 (by omega)
              refine lv_aload_n hx hb dX12_operand_158 rfl (lv_at hl 2 rfl) ?_
              refine dg_get (C := RX12) (T := TX12) (N := 77) hx hb hts (fun w h => bw_mem (wU_X12 w h)) hown K hP sM_0 rfl 38 (by decide) (hts _ (bw_mem wB_1190)) (fun _ h9 => h9) (v := .ref (o + 23)) (show S_4812.1 0 38 = .ref (o + 23) from dg_I.rel (d := 23) I_4812 sM_0 (by decide +kernel)) dX12_operand_159 ?_
              refine lv_iload_n hx hb dX12_operand_162 rfl (lv_at hl 1 rfl) ?_
              refine lv_iconst (v := 2) hx hb dX12_operand_163 (by decide +kernel) ?_
              have hin_4816 : vp_in x_5 20 := (dk_inv (by omega) (by omega))
              have hz_4818 : (2 : Int32).toInt = 2 := by decide +kernel
              refine dg_iast hx hb K hP hS hA1 sM_23 hin_4816 dX12_operand_164 (fun S_4817 e_4817 H locs hP hS => ?_)
              have I_4817 := dg_I.ufu (lo := 0) (hi := 2) I_4812 e_4817 sM_23 (by decide +kernel) (show 0 ≤ ((2 : Int32)).toInt ∧ ((2 : Int32)).toInt ≤ 2 from (by decide +kernel))
              have M_4817 := dg_sm.uf M_4812 e_4817 sM_23 (by decide)
              have hz_4819 : (2 : Int32).toInt = 2 := by decide +kernel
              have P1_4817 : P1M S_4817 := P1M.close5 P1_4812 (((m_4812.1 0 42 _ sM_0 (by decide)).trans ((dg_uf_F e_3466 0 42).trans (m_2.1 0 42 _ sM_0 (by decide)))).trans f_dp) (by omega) (by omega) (by omega) e_4817
              refine lv_aload_n hx hb dX12_operand_165 rfl (lv_at hl 2 rfl) ?_
              refine dg_callv hS hA1 hA (va_runV (As := []) (rest := []) F (c_m_ahead l g D o S_4817 se (((dg_uf_F e_4817 0 5).trans ((m_4812.1 0 5 _ sM_0 (by decide)).trans ((dg_uf_F e_3466 0 5).trans (m_2.1 0 5 _ sM_0 (by decide))))).trans f_se) (by omega) sl (((dg_uf_F e_4817 0 2).trans ((m_4812.1 0 2 _ sM_0 (by decide)).trans ((dg_uf_F e_3466 0 2).trans (m_2.1 0 2 _ sM_0 (by decide))))).trans f_sl) (by omega) (by omega) I_4817 H.size) (cwV 0 hts (bw_V wB_1137 wB_1138 wB_1139 wB_857 wB_1136) rfl rfl rfl (by decide +kernel) ⟨Nat.le_of_ble_eq_true rfl, Nat.le_of_ble_eq_true rfl⟩) (dg_preV sM_0 rfl K ST hP hS hA1 hA) rfl rfl hl.1 rfl (lv_room (Nat.le_of_ble_eq_true rfl)) dX12_operand_166 ⟨Nat.le_of_ble_eq_true rfl, Nat.le_of_ble_eq_true rfl⟩) (fun S_4820 hw_4820 H locs hP hS => ?_)
              obtain ⟨I_4820, m_4820, w_4820_0, -⟩ := hw_4820
              have M_4820 := dg_sm.tr M_4817 m_4820 (by decide) (by decide)
              obtain ⟨y_4821, y_4822, y_4823, f_y_4821, f_y_4822, f_y_4823, w_4820_0⟩ := w_4820_0
              have w_4820_0 : (se).toInt ≤ (y_4822).toInt ∧ (y_4822).toInt ≤ (y_4823).toInt ∧ (y_4823).toInt ≤ (sl).toInt ∧ ((y_4821).toInt ≠ 0 → (y_4822).toInt + 1 ≤ (y_4823).toInt) := w_4820_0
              have b_y_4821 : 0 ≤ (y_4821).toInt ∧ (y_4821).toInt ≤ 3 := dg_I.intb (lo := 0) (hi := 3) I_4820 sM_0 (by decide +kernel) f_y_4821
              have b_y_4822 : 0 ≤ (y_4822).toInt ∧ (y_4822).toInt ≤ 1600 := dg_I.intb (lo := 0) (hi := 1600) I_4820 sM_0 (by decide +kernel) f_y_4822
              have b_y_4823 : 0 ≤ (y_4823).toInt ∧ (y_4823).toInt ≤ 1600 := dg_I.intb (lo := 0) (hi := 1600) I_4820 sM_0 (by decide +kernel) f_y_4823
              refine lv_iconst (v := 1) hx hb dX12_operand_169 (by decide +kernel) ?_
              have hz_4824 : (1 : Int32).toInt = 1 := by decide +kernel
              have hz_4825 : (1 : Int32).toInt = 1 := by decide +kernel
              have hz_4826 : (1 : Int32).toInt = 1 := by decide +kernel
              have hz_4827 : (1 : Int32).toInt = 1 := by decide +kernel
              refine W.widen (k := 0) (n := 0) (Nat.le_of_ble_eq_true rfl) (Nat.le_of_ble_eq_true rfl) ?_
              exact dg_iret hx hb hr hlocks (by decide +kernel) hP hS ⟨I_4820, M_4820, (by decide +kernel), ⟨y_4821, y_4822, y_4823, y_3, y_4815, dp, om, f_y_4821, f_y_4822, f_y_4823, (((m_4820.1 0 8 _ sM_0 (by decide)).trans ((dg_uf_F e_4817 0 8).trans ((m_4812.1 0 8 _ sM_0 (by decide)).trans (dg_uf_F e_3466 0 8)))).trans f_y_3), (((m_4820.1 0 34 _ sM_0 (by decide)).trans (dg_uf_F e_4817 0 34)).trans f_y_4815), (((m_4820.1 0 42 _ sM_0 (by decide)).trans ((dg_uf_F e_4817 0 42).trans ((m_4812.1 0 42 _ sM_0 (by decide)).trans ((dg_uf_F e_3466 0 42).trans (m_2.1 0 42 _ sM_0 (by decide)))))).trans f_dp), (((m_4820.1 0 45 _ sM_0 (by decide)).trans ((dg_uf_F e_4817 0 45).trans ((m_4812.1 0 45 _ sM_0 (by decide)).trans ((dg_uf_F e_3466 0 45).trans (m_2.1 0 45 _ sM_0 (by decide)))))).trans f_om), (by omega)⟩, (fun k9 hk9 hk0 => ⟨fun _ => (P1M.keep P1_4817 m_4820 (by decide) (by decide) (by decide) (by decide) (by decide) (by decide) (by decide) (by decide) (by decide) (by decide) (by decide) (by decide) (by decide) (by decide) (by decide)), fun h9 => absurd h9 (by decide +kernel)⟩), (ZWM.keep (ZWM.keep w_4812_2 (dg_sm.uf (WF := []) (WA := [23]) dg_sm.rf e_4817 sM_23 (by decide)) (by decide) (by decide) (by decide) (by decide)) m_4820 (by decide) (by decide) (by decide) (by decide)), trivial⟩ dX12_operand_170
          refine lv_if_eq (tgt := 137) hx hb dX12_operand_118 (by decide) (fun c => absurd c (by decide +kernel)) (fun _ => ?_)
          refine lv_aload_n hx hb dX12_operand_121 rfl (lv_at hl 2 rfl) ?_
          refine lv_bipush (v := 91) hx hb dX12_operand_122 (by decide +kernel) ?_
          refine dg_calli hS hA1 hA (va_runV (As := [.int 91]) (rest := []) F (c_m_isSign l g D o S_3466 91 sg (((dg_uf_F e_3466 0 3).trans (m_2.1 0 3 _ sM_0 (by decide))).trans f_sg) (by omega) va (((dg_uf_F e_3466 0 6).trans (m_2.1 0 6 _ sM_0 (by decide))).trans f_va) (by omega) I_3466 H.size) (cwV 1 hts (bw_V wB_1133 wB_1134 wB_1135 wB_857 wB_1132) rfl rfl rfl (by decide +kernel) ⟨Nat.le_of_ble_eq_true rfl, Nat.le_of_ble_eq_true rfl⟩) (dg_preV sM_0 rfl K ST hP hS hA1 hA) rfl rfl hl.1 rfl (lv_room (Nat.le_of_ble_eq_true rfl)) dX12_operand_124 ⟨Nat.le_of_ble_eq_true rfl, Nat.le_of_ble_eq_true rfl⟩) (fun x_4828 S_4829 hw_4829 H locs hP hS => ?_)
          rw [hw_4829.1] at hP
          obtain ⟨hq_4829, w_4829_0, w_4829_1, -⟩ := hw_4829
          have hz_4830 : (91 : Int32).toInt = 91 := by decide +kernel
          have w_4829_0 : 0 ≤ (x_4828).toInt ∧ (x_4828).toInt ≤ 1 := w_4829_0
          have w_4829_1 : (x_4828).toInt = 1 ↔ ((sg).toInt = 3 ∧ (va).toInt = ((91 : Int32)).toInt) := w_4829_1
          refine lv_if_eq (tgt := 137) hx hb dX12_operand_127 (by decide) (fun c_4831 => ?_) (fun c_4831 => ?_)
          · have jc_4831 := dk_eqc (k := 0) (by decide +kernel) c_4831
            exact J_3768   _ _ hP hS _ (lv_sub hl [0, 1, 2] rfl)
          · have jc_4831 := dk_neqc (k := 0) (by decide +kernel) c_4831
            refine lv_aload_n hx hb dX12_operand_130 rfl (lv_at hl 2 rfl) ?_
            refine lv_iconst (v := 5) hx hb dX12_operand_131 (by decide +kernel) ?_
            have hz_4832 : (5 : Int32).toInt = 5 := by decide +kernel
            refine dg_callv hS hA1 hA (va_runV (As := [.int 5]) (rest := []) F (c_m_frames l g D o S_3466 5 (by decide +kernel) sg (((dg_uf_F e_3466 0 3).trans (m_2.1 0 3 _ sM_0 (by decide))).trans f_sg) (by omega) sa (((dg_uf_F e_3466 0 4).trans (m_2.1 0 4 _ sM_0 (by decide))).trans f_sa) (by omega) se (((dg_uf_F e_3466 0 5).trans (m_2.1 0 5 _ sM_0 (by decide))).trans f_se) (by omega) sl (((dg_uf_F e_3466 0 2).trans (m_2.1 0 2 _ sM_0 (by decide))).trans f_sl) (by omega) y_3 ((dg_uf_F e_3466 0 8).trans f_y_3) (by omega) dp (((dg_uf_F e_3466 0 42).trans (m_2.1 0 42 _ sM_0 (by decide))).trans f_dp) (by omega) om (((dg_uf_F e_3466 0 45).trans (m_2.1 0 45 _ sM_0 (by decide))).trans f_om) (by omega) on (((dg_uf_F e_3466 0 43).trans (m_2.1 0 43 _ sM_0 (by decide))).trans f_on) (by omega) (by omega) I_3466 H.size) (cwV 1 hts (bw_V wB_1201 wB_1202 wB_1203 wB_857 wB_1200) rfl rfl rfl (by decide +kernel) ⟨Nat.le_of_ble_eq_true rfl, Nat.le_of_ble_eq_true rfl⟩) (dg_preV sM_0 rfl K ST hP hS hA1 hA) rfl rfl hl.1 rfl (lv_room (Nat.le_of_ble_eq_true rfl)) dX12_operand_132 ⟨Nat.le_of_ble_eq_true rfl, Nat.le_of_ble_eq_true rfl⟩) (fun S_4833 hw_4833 H locs hP hS => ?_)
            obtain ⟨I_4833, m_4833, w_4833_0, w_4833_1, -⟩ := hw_4833
            have M_4833 := dg_sm.tr M_3466 m_4833 (by decide) (by decide)
            have hz_4834 : (5 : Int32).toInt = 5 := by decide +kernel
            obtain ⟨y_4835, y_4836, y_4837, y_4838, y_4839, f_y_4835, f_y_4836, f_y_4837, f_y_4838, f_y_4839, w_4833_0⟩ := w_4833_0
            have w_4833_0 : ((y_4836).toInt ≤ (y_4837).toInt ∧ (y_4837).toInt ≤ (sl).toInt ∧ ((y_4835).toInt ≠ 0 → (y_4836).toInt + 1 ≤ (y_4837).toInt)) ∧ (sa).toInt ≤ (y_4836).toInt ∧ ((y_3).toInt ≠ 0 → (y_4838).toInt ≠ 0) ∧ (((y_4838).toInt = 0 → ((sa).toInt + 1 ≤ (y_4836).toInt ∧ (y_4839).toInt = (dp).toInt + 1))) := w_4833_0
            have b_y_4835 : 0 ≤ (y_4835).toInt ∧ (y_4835).toInt ≤ 3 := dg_I.intb (lo := 0) (hi := 3) I_4833 sM_0 (by decide +kernel) f_y_4835
            have b_y_4836 : 0 ≤ (y_4836).toInt ∧ (y_4836).toInt ≤ 1600 := dg_I.intb (lo := 0) (hi := 1600) I_4833 sM_0 (by decide +kernel) f_y_4836
            have b_y_4837 : 0 ≤ (y_4837).toInt ∧ (y_4837).toInt ≤ 1600 := dg_I.intb (lo := 0) (hi := 1600) I_4833 sM_0 (by decide +kernel) f_y_4837
            have b_y_4838 : 0 ≤ (y_4838).toInt ∧ (y_4838).toInt ≤ 6 := dg_I.intb (lo := 0) (hi := 6) I_4833 sM_0 (by decide +kernel) f_y_4838
            have b_y_4839 : 0 ≤ (y_4839).toInt ∧ (y_4839).toInt ≤ 20 := dg_I.intb (lo := 0) (hi := 20) I_4833 sM_0 (by decide +kernel) f_y_4839
            have w_4833_1 : ∀ k9 : Int32, S_4833.1 0 8 = .int k9 → k9.toInt = 0 → FRM S_3466 S_4833 (5 : Int32) := w_4833_1
            obtain ⟨x_4840, f_x_4840, b_x_4840⟩ := dg_I.int (i := 0) (k := 42) (lo := 0) (hi := 20) I_3466 sM_0 (by decide +kernel)
            refine lv_iconst (v := 0) hx hb dX12_operand_135 (by decide +kernel) ?_
            have hz_4841 : (0 : Int32).toInt = 0 := by decide +kernel
            have hz_4842 : (0 : Int32).toInt = 0 := by decide +kernel
            obtain ⟨x_4843, f_x_4843, b_x_4843⟩ := dg_I.int (i := 0) (k := 42) (lo := 0) (hi := 20) I_4833 sM_0 (by decide +kernel)
            have hz_4844 : (0 : Int32).toInt = 0 := by decide +kernel
            have hz_4845 : (0 : Int32).toInt = 0 := by decide +kernel
            refine W.widen (k := 0) (n := 0) (Nat.le_of_ble_eq_true rfl) (Nat.le_of_ble_eq_true rfl) ?_
            exact dg_iret hx hb hr hlocks (by decide +kernel) hP hS ⟨I_4833, M_4833, (by decide +kernel), ⟨y_4835, y_4836, y_4837, y_4838, cd, x_4843, om, f_y_4835, f_y_4836, f_y_4837, f_y_4838, (((m_4833.1 0 34 _ sM_0 (by decide)).trans ((dg_uf_F e_3466 0 34).trans (m_2.1 0 34 _ sM_0 (by decide)))).trans f_cd), f_x_4843, (((m_4833.1 0 45 _ sM_0 (by decide)).trans ((dg_uf_F e_3466 0 45).trans (m_2.1 0 45 _ sM_0 (by decide)))).trans f_om), (by omega)⟩, (fun k9 hk9 hk0 => ⟨fun h9 => absurd h9 (by decide +kernel), fun _ => by first | (exact PBM.opens PB_3466 f_x_4840 (((dg_uf_F e_3466 0 43).trans (m_2.1 0 43 _ sM_0 (by decide))).trans f_on) (((dg_uf_F e_3466 0 45).trans (m_2.1 0 45 _ sM_0 (by decide))).trans f_om) (w_4833_1 k9 hk9 hk0) m_4833 (by decide) (by decide) (by decide) (by decide) (by omega)) | (have q9 := (f_y_4838).symm.trans hk9; cases q9; omega)⟩), (ZWM.keep (ZWM.keep (ZWM.keep ZW m_2 (by decide) (by decide) (by decide) (by decide)) (dg_sm.uf (WF := []) (WA := [24]) dg_sm.rf e_3466 sM_24 (by decide)) (by decide) (by decide) (by decide) (by decide)) m_4833 (by decide) (by decide) (by decide) (by decide)), trivial⟩ dX12_operand_136
        refine lv_if_eq (tgt := 110) hx hb dX12_operand_48 (by decide) (fun c => absurd c (by decide +kernel)) (fun _ => ?_)
        refine lv_aload_n hx hb dX12_operand_51 rfl (lv_at hl 2 rfl) ?_
        refine lv_ldc2 hx hb hown (hts _ (bw_mem wB_1167)) dX12_operand_52 ?_
        refine dg_calli hS hA1 hA (va_runV (As := [.long 7237492]) (rest := []) F (c_m_isWord l g D o S_2 7237492 sg ((m_2.1 0 3 _ sM_0 (by decide)).trans f_sg) (by omega) I_2 H.size) (cwV 1 hts (bw_V wB_1141 wB_1142 wB_1143 wB_857 wB_1140) rfl rfl rfl (by decide +kernel) ⟨Nat.le_of_ble_eq_true rfl, Nat.le_of_ble_eq_true rfl⟩) (dg_preV sM_0 rfl K ST hP hS hA1 hA) rfl rfl hl.1 rfl (lv_room (Nat.le_of_ble_eq_true rfl)) dX12_operand_55 ⟨Nat.le_of_ble_eq_true rfl, Nat.le_of_ble_eq_true rfl⟩) (fun x_4846 S_4847 hw_4847 H locs hP hS => ?_)
        rw [hw_4847.1] at hP
        obtain ⟨hq_4847, w_4847_0, w_4847_1, -⟩ := hw_4847
        have w_4847_0 : 0 ≤ (x_4846).toInt ∧ (x_4846).toInt ≤ 1 := w_4847_0
        have w_4847_1 : (x_4846).toInt = 1 → (sg).toInt = 1 := w_4847_1
        refine lv_if_eq (tgt := 110) hx hb dX12_operand_58 (by decide) (fun c_4848 => ?_) (fun c_4848 => ?_)
        · have jc_4848 := dk_eqc (k := 0) (by decide +kernel) c_4848
          exact J_3464   _ _ hP hS _ (lv_sub hl [0, 1, 2] rfl)
        · have jc_4848 := dk_neqc (k := 0) (by decide +kernel) c_4848
          refine lv_aload_n hx hb dX12_operand_61 rfl (lv_at hl 2 rfl) ?_
          refine dg_get (C := RX12) (T := TX12) (N := 77) hx hb hts (fun w h => bw_mem (wU_X12 w h)) hown K hP sM_0 rfl 43 (by decide) (hts _ (bw_mem wB_1188)) (fun _ h9 => h9) (v := .int on) ((m_2.1 0 43 _ sM_0 (by decide)).trans f_on) dX12_operand_62 ?_
          refine lv_bipush (v := 7) hx hb dX12_operand_65 (by decide +kernel) ?_
          refine lv_icmp_ne (tgt := 79) hx hb dX12_operand_67 (by decide) (fun c_4849 => ?_) (fun c_4849 => ?_)
          · have jc_4849 := dk_neqc (k := 7) (by decide +kernel) c_4849
            refine lv_aload_n hx hb dX12_operand_79 rfl (lv_at hl 2 rfl) ?_
            refine dg_get (C := RX12) (T := TX12) (N := 77) hx hb hts (fun w h => bw_mem (wU_X12 w h)) hown K hP sM_0 rfl 8 (by decide) (hts _ (bw_mem wB_1109)) (fun _ h9 => h9) (v := .int y_3) f_y_3 dX12_operand_80 ?_
            refine lv_if_le (tgt := 88) hx hb dX12_operand_83 (by decide) (fun _ => ?_) (fun c => absurd (dk_lep (k := 0) (by decide +kernel) (by omega)) c)
            refine lv_aload_n hx hb dX12_operand_88 rfl (lv_at hl 2 rfl) ?_
            refine lv_dup hx hb dX12_operand_89 rfl ?_
            refine dg_get (C := RX12) (T := TX12) (N := 77) hx hb hts (fun w h => bw_mem (wU_X12 w h)) hown K hP sM_0 rfl 43 (by decide) (hts _ (bw_mem wB_1188)) (fun _ h9 => h9) (v := .int on) ((m_2.1 0 43 _ sM_0 (by decide)).trans f_on) dX12_operand_90 ?_
            refine lv_iconst (v := 1) hx hb dX12_operand_93 (by decide +kernel) ?_
            refine lv_iadd hx hb dX12_operand_94 ?_
            refine lv_topi (fun x_4850 ex_4850 => ?_)
            refine dg_put (ci := 12) (v := .int x_4850) (ty := tyX12 43) (C := RX12) (T := TX12) (N := 77) hx hb hts (fun w h => bw_mem (wU_X12 w h)) tyX12 tyX12_ok nmX12 hown K hP hS hA1 sM_0 rfl 43 (by decide) (hts _ (bw_mem wB_1188)) (fun _ h9 => h9) rfl (by decide +kernel) rfl rfl dX12_operand_95 (fun S_4851 e_4851 H locs hP hS => ?_)
            have I_4851 := dg_I.uFi (lo := (-2147483648)) (hi := 2147483647) I_2 e_4851 sM_0 (by decide +kernel) (show (-2147483648) ≤ (x_4850).toInt ∧ (x_4850).toInt ≤ 2147483647 from (dk_full _))
            have M_4851 := dg_sm.uF M_2 e_4851 sM_0 (by decide)
            refine lv_aload_n hx hb dX12_operand_98 rfl (lv_at hl 2 rfl) ?_
            refine lv_bipush (v := 43) hx hb dX12_operand_99 (by decide +kernel) ?_
            refine dg_callv hS hA1 hA (va_runV (As := [.int 43]) (rest := []) F (c_m_holdsBack l g D o S_4851 43 om (((dg_uF_ne e_4851 (fun z => absurd z.2 (by decide))).trans (m_2.1 0 45 _ sM_0 (by decide))).trans f_om) (by omega) I_4851 H.size) (cwV 1 hts (bw_V wB_1206 wB_1207 wB_1208 wB_857 wB_1205) rfl rfl rfl (by decide +kernel) ⟨Nat.le_of_ble_eq_true rfl, Nat.le_of_ble_eq_true rfl⟩) (dg_preV sM_0 rfl K ST hP hS hA1 hA) rfl rfl hl.1 rfl (lv_room (Nat.le_of_ble_eq_true rfl)) dX12_operand_101 ⟨Nat.le_of_ble_eq_true rfl, Nat.le_of_ble_eq_true rfl⟩) (fun S_4852 hw_4852 H locs hP hS => ?_)
            obtain ⟨I_4852, m_4852, w_4852_0, w_4852_1, -⟩ := hw_4852
            have M_4852 := dg_sm.tr M_4851 m_4852 (by decide) (by decide)
            have hz_4853 : (43 : Int32).toInt = 43 := by decide +kernel
            obtain ⟨y_4854, f_y_4854, w_4852_0⟩ := w_4852_0
            have w_4852_0 : (y_4854).toInt = (om).toInt + 1 := w_4852_0
            have b_y_4854 : 0 ≤ (y_4854).toInt ∧ (y_4854).toInt ≤ 500 := dg_I.intb (lo := 0) (hi := 500) I_4852 sM_0 (by decide +kernel) f_y_4854
            have w_4852_1 : HBM S_4851 S_4852 (43 : Int32) := w_4852_1
            obtain ⟨x_4855, f_x_4855, b_x_4855⟩ := dg_I.int (i := 0) (k := 43) (lo := (-2147483648)) (hi := 2147483647) I_2 sM_0 (by decide +kernel)
            obtain ⟨x_4856, f_x_4856, b_x_4856⟩ := dg_I.int (i := 0) (k := 45) (lo := 0) (hi := 500) I_2 sM_0 (by decide +kernel)
            have P0_4852 : P0M S_4852 := P0M.not (P0M.keep P0 m_2 (by decide) (by decide) (by decide) (by decide) (by decide) (by decide) (by decide) (by decide) (by decide) (by decide) (by decide) (by decide) (by decide) (by decide) (by decide)) ((m_2.1 0 42 _ sM_0 (by decide)).trans f_dp) f_x_4855 f_x_4856 (fx := x_5) (by omega) ex_7.symm (by unfold dk_ts; omega) (by rw [ex_1563.symm]; omega) (by omega) e_4851 (by omega) m_4852 w_4852_1 (by omega)
            refine lv_aload_n hx hb dX12_operand_104 rfl (lv_at hl 2 rfl) ?_
            refine dg_callv hS hA1 hA (va_runV (As := []) (rest := []) F (c_m_ahead l g D o S_4852 se (((m_4852.1 0 5 _ sM_0 (by decide)).trans ((dg_uF_ne e_4851 (fun z => absurd z.2 (by decide))).trans (m_2.1 0 5 _ sM_0 (by decide)))).trans f_se) (by omega) sl (((m_4852.1 0 2 _ sM_0 (by decide)).trans ((dg_uF_ne e_4851 (fun z => absurd z.2 (by decide))).trans (m_2.1 0 2 _ sM_0 (by decide)))).trans f_sl) (by omega) (by omega) I_4852 H.size) (cwV 0 hts (bw_V wB_1137 wB_1138 wB_1139 wB_857 wB_1136) rfl rfl rfl (by decide +kernel) ⟨Nat.le_of_ble_eq_true rfl, Nat.le_of_ble_eq_true rfl⟩) (dg_preV sM_0 rfl K ST hP hS hA1 hA) rfl rfl hl.1 rfl (lv_room (Nat.le_of_ble_eq_true rfl)) dX12_operand_105 ⟨Nat.le_of_ble_eq_true rfl, Nat.le_of_ble_eq_true rfl⟩) (fun S_4857 hw_4857 H locs hP hS => ?_)
            obtain ⟨I_4857, m_4857, w_4857_0, -⟩ := hw_4857
            have M_4857 := dg_sm.tr M_4852 m_4857 (by decide) (by decide)
            obtain ⟨y_4858, y_4859, y_4860, f_y_4858, f_y_4859, f_y_4860, w_4857_0⟩ := w_4857_0
            have w_4857_0 : (se).toInt ≤ (y_4859).toInt ∧ (y_4859).toInt ≤ (y_4860).toInt ∧ (y_4860).toInt ≤ (sl).toInt ∧ ((y_4858).toInt ≠ 0 → (y_4859).toInt + 1 ≤ (y_4860).toInt) := w_4857_0
            have b_y_4858 : 0 ≤ (y_4858).toInt ∧ (y_4858).toInt ≤ 3 := dg_I.intb (lo := 0) (hi := 3) I_4857 sM_0 (by decide +kernel) f_y_4858
            have b_y_4859 : 0 ≤ (y_4859).toInt ∧ (y_4859).toInt ≤ 1600 := dg_I.intb (lo := 0) (hi := 1600) I_4857 sM_0 (by decide +kernel) f_y_4859
            have b_y_4860 : 0 ≤ (y_4860).toInt ∧ (y_4860).toInt ≤ 1600 := dg_I.intb (lo := 0) (hi := 1600) I_4857 sM_0 (by decide +kernel) f_y_4860
            refine lv_iconst (v := 0) hx hb dX12_operand_108 (by decide +kernel) ?_
            have hz_4861 : (0 : Int32).toInt = 0 := by decide +kernel
            have hz_4862 : (0 : Int32).toInt = 0 := by decide +kernel
            obtain ⟨x_4863, f_x_4863, b_x_4863⟩ := dg_I.int (i := 0) (k := 45) (lo := 0) (hi := 500) I_4857 sM_0 (by decide +kernel)
            have hz_4864 : (0 : Int32).toInt = 0 := by decide +kernel
            have hz_4865 : (0 : Int32).toInt = 0 := by decide +kernel
            refine W.widen (k := 0) (n := 0) (Nat.le_of_ble_eq_true rfl) (Nat.le_of_ble_eq_true rfl) ?_
            exact dg_iret hx hb hr hlocks (by decide +kernel) hP hS ⟨I_4857, M_4857, (by decide +kernel), ⟨y_4858, y_4859, y_4860, y_3, cd, dp, x_4863, f_y_4858, f_y_4859, f_y_4860, (((m_4857.1 0 8 _ sM_0 (by decide)).trans ((m_4852.1 0 8 _ sM_0 (by decide)).trans (dg_uF_ne e_4851 (fun z => absurd z.2 (by decide))))).trans f_y_3), (((m_4857.1 0 34 _ sM_0 (by decide)).trans ((m_4852.1 0 34 _ sM_0 (by decide)).trans ((dg_uF_ne e_4851 (fun z => absurd z.2 (by decide))).trans (m_2.1 0 34 _ sM_0 (by decide))))).trans f_cd), (((m_4857.1 0 42 _ sM_0 (by decide)).trans ((m_4852.1 0 42 _ sM_0 (by decide)).trans ((dg_uF_ne e_4851 (fun z => absurd z.2 (by decide))).trans (m_2.1 0 42 _ sM_0 (by decide))))).trans f_dp), f_x_4863, (by omega)⟩, (fun k9 hk9 hk0 => ⟨fun h9 => absurd h9 (by decide +kernel), fun _ => (P0M.keep P0_4852 m_4857 (by decide) (by decide) (by decide) (by decide) (by decide) (by decide) (by decide) (by decide) (by decide) (by decide) (by decide) (by decide) (by decide) (by decide) (by decide))⟩), (ZWM.keep (ZWM.keep (ZWM.keep (ZWM.keep ZW m_2 (by decide) (by decide) (by decide) (by decide)) (dg_sm.uF (WF := [(0, 43)]) (WA := []) dg_sm.rf e_4851 sM_0 (by decide)) (by decide) (by decide) (by decide) (by decide)) m_4852 (by decide) (by decide) (by decide) (by decide)) m_4857 (by decide) (by decide) (by decide) (by decide)), trivial⟩ dX12_operand_109
          · have jc_4849 := dk_eqc (k := 7) (by decide +kernel) c_4849
            refine lv_aload_n hx hb dX12_operand_70 rfl (lv_at hl 2 rfl) ?_
            refine lv_iconst (v := 5) hx hb dX12_operand_71 (by decide +kernel) ?_
            refine lv_aload_n hx hb dX12_operand_72 rfl (lv_at hl 2 rfl) ?_
            refine dg_get (C := RX12) (T := TX12) (N := 77) hx hb hts (fun w h => bw_mem (wU_X12 w h)) hown K hP sM_0 rfl 4 (by decide) (hts _ (bw_mem wB_1121)) (fun _ h9 => h9) (v := .int sa) ((m_2.1 0 4 _ sM_0 (by decide)).trans f_sa) dX12_operand_73 ?_
            have hz_4866 : (5 : Int32).toInt = 5 := by decide +kernel
            refine dg_callv hS hA1 hA (va_runV (As := [.int 5, .int sa]) (rest := []) F (c_m_blame l g D o S_2 5 (by decide +kernel) sa y_3 f_y_3 (by omega) I_2 H.size) (cwV 2 hts (bw_V wB_1113 wB_1114 wB_1115 wB_857 wB_1112) rfl rfl rfl (by decide +kernel) ⟨Nat.le_of_ble_eq_true rfl, Nat.le_of_ble_eq_true rfl⟩) (dg_preV sM_0 rfl K ST hP hS hA1 hA) rfl rfl hl.1 rfl (lv_room (Nat.le_of_ble_eq_true rfl)) dX12_operand_76 ⟨Nat.le_of_ble_eq_true rfl, Nat.le_of_ble_eq_true rfl⟩) (fun S_4867 hw_4867 H locs hP hS => ?_)
            obtain ⟨I_4867, m_4867, w_4867_0, -⟩ := hw_4867
            have M_4867 := dg_sm.tr M_2 m_4867 (by decide) (by decide)
            have hz_4868 : (5 : Int32).toInt = 5 := by decide +kernel
            obtain ⟨y_4869, f_y_4869, w_4867_0⟩ := w_4867_0
            have w_4867_0 : ((y_3).toInt ≠ 0 → (y_4869).toInt = (y_3).toInt) ∧ ((y_3).toInt = 0 → (y_4869).toInt = ((5 : Int32)).toInt) := w_4867_0
            have b_y_4869 : 0 ≤ (y_4869).toInt ∧ (y_4869).toInt ≤ 6 := dg_I.intb (lo := 0) (hi := 6) I_4867 sM_0 (by decide +kernel) f_y_4869
            refine lv_aload_n hx hb dX12_operand_79 rfl (lv_at hl 2 rfl) ?_
            refine dg_get (C := RX12) (T := TX12) (N := 77) hx hb hts (fun w h => bw_mem (wU_X12 w h)) hown K hP sM_0 rfl 8 (by decide) (hts _ (bw_mem wB_1109)) (fun _ h9 => h9) (v := .int y_4869) f_y_4869 dX12_operand_80 ?_
            refine lv_if_le (tgt := 88) hx hb dX12_operand_83 (by decide) (fun c_4870 => ?_) (fun c_4870 => ?_)
            · have jc_4870 := dk_lec (k := 0) (by decide +kernel) c_4870
              refine lv_aload_n hx hb dX12_operand_88 rfl (lv_at hl 2 rfl) ?_
              refine lv_dup hx hb dX12_operand_89 rfl ?_
              refine dg_get (C := RX12) (T := TX12) (N := 77) hx hb hts (fun w h => bw_mem (wU_X12 w h)) hown K hP sM_0 rfl 43 (by decide) (hts _ (bw_mem wB_1188)) (fun _ h9 => h9) (v := .int on) (((m_4867.1 0 43 _ sM_0 (by decide)).trans (m_2.1 0 43 _ sM_0 (by decide))).trans f_on) dX12_operand_90 ?_
              refine lv_iconst (v := 1) hx hb dX12_operand_93 (by decide +kernel) ?_
              refine lv_iadd hx hb dX12_operand_94 ?_
              refine lv_topi (fun x_4871 ex_4871 => ?_)
              have jx_4871 : (x_4871).toInt = (on).toInt + 1 := by rw [ex_4871]; exact dk_addT rfl (by decide +kernel) (by omega) (by omega)
              refine dg_put (ci := 12) (v := .int x_4871) (ty := tyX12 43) (C := RX12) (T := TX12) (N := 77) hx hb hts (fun w h => bw_mem (wU_X12 w h)) tyX12 tyX12_ok nmX12 hown K hP hS hA1 sM_0 rfl 43 (by decide) (hts _ (bw_mem wB_1188)) (fun _ h9 => h9) rfl (by decide +kernel) rfl rfl dX12_operand_95 (fun S_4872 e_4872 H locs hP hS => ?_)
              have I_4872 := dg_I.uFi (lo := (-2147483648)) (hi := 2147483647) I_4867 e_4872 sM_0 (by decide +kernel) (show (-2147483648) ≤ (x_4871).toInt ∧ (x_4871).toInt ≤ 2147483647 from (dk_full _))
              have M_4872 := dg_sm.uF M_4867 e_4872 sM_0 (by decide)
              refine lv_aload_n hx hb dX12_operand_98 rfl (lv_at hl 2 rfl) ?_
              refine lv_bipush (v := 43) hx hb dX12_operand_99 (by decide +kernel) ?_
              refine dg_callv hS hA1 hA (va_runV (As := [.int 43]) (rest := []) F (c_m_holdsBack l g D o S_4872 43 om (((dg_uF_ne e_4872 (fun z => absurd z.2 (by decide))).trans ((m_4867.1 0 45 _ sM_0 (by decide)).trans (m_2.1 0 45 _ sM_0 (by decide)))).trans f_om) (by omega) I_4872 H.size) (cwV 1 hts (bw_V wB_1206 wB_1207 wB_1208 wB_857 wB_1205) rfl rfl rfl (by decide +kernel) ⟨Nat.le_of_ble_eq_true rfl, Nat.le_of_ble_eq_true rfl⟩) (dg_preV sM_0 rfl K ST hP hS hA1 hA) rfl rfl hl.1 rfl (lv_room (Nat.le_of_ble_eq_true rfl)) dX12_operand_101 ⟨Nat.le_of_ble_eq_true rfl, Nat.le_of_ble_eq_true rfl⟩) (fun S_4873 hw_4873 H locs hP hS => ?_)
              obtain ⟨I_4873, m_4873, w_4873_0, w_4873_1, -⟩ := hw_4873
              have M_4873 := dg_sm.tr M_4872 m_4873 (by decide) (by decide)
              have hz_4874 : (43 : Int32).toInt = 43 := by decide +kernel
              obtain ⟨y_4875, f_y_4875, w_4873_0⟩ := w_4873_0
              have w_4873_0 : (y_4875).toInt = (om).toInt + 1 := w_4873_0
              have b_y_4875 : 0 ≤ (y_4875).toInt ∧ (y_4875).toInt ≤ 500 := dg_I.intb (lo := 0) (hi := 500) I_4873 sM_0 (by decide +kernel) f_y_4875
              have w_4873_1 : HBM S_4872 S_4873 (43 : Int32) := w_4873_1
              obtain ⟨x_4876, f_x_4876, b_x_4876⟩ := dg_I.int (i := 0) (k := 43) (lo := (-2147483648)) (hi := 2147483647) I_4867 sM_0 (by decide +kernel)
              obtain ⟨x_4877, f_x_4877, b_x_4877⟩ := dg_I.int (i := 0) (k := 45) (lo := 0) (hi := 500) I_4867 sM_0 (by decide +kernel)
              have P0_4873 : P0M S_4873 := P0M.not (P0M.keep (P0M.keep P0 m_2 (by decide) (by decide) (by decide) (by decide) (by decide) (by decide) (by decide) (by decide) (by decide) (by decide) (by decide) (by decide) (by decide) (by decide) (by decide)) m_4867 (by decide) (by decide) (by decide) (by decide) (by decide) (by decide) (by decide) (by decide) (by decide) (by decide) (by decide) (by decide) (by decide) (by decide) (by decide)) (((m_4867.1 0 42 _ sM_0 (by decide)).trans (m_2.1 0 42 _ sM_0 (by decide))).trans f_dp) f_x_4876 f_x_4877 (fx := x_5) (by omega) ((congrFun (m_4867.2 22 _ sM_22 (by decide)).1 _).trans ex_7.symm) (by unfold dk_ts; omega) (by rw [((congrFun (m_4867.2 24 _ sM_24 (by decide)).1 _).trans ex_1563.symm)]; omega) (by omega) e_4872 (by omega) m_4873 w_4873_1 (by omega)
              refine lv_aload_n hx hb dX12_operand_104 rfl (lv_at hl 2 rfl) ?_
              refine dg_callv hS hA1 hA (va_runV (As := []) (rest := []) F (c_m_ahead l g D o S_4873 se (((m_4873.1 0 5 _ sM_0 (by decide)).trans ((dg_uF_ne e_4872 (fun z => absurd z.2 (by decide))).trans ((m_4867.1 0 5 _ sM_0 (by decide)).trans (m_2.1 0 5 _ sM_0 (by decide))))).trans f_se) (by omega) sl (((m_4873.1 0 2 _ sM_0 (by decide)).trans ((dg_uF_ne e_4872 (fun z => absurd z.2 (by decide))).trans ((m_4867.1 0 2 _ sM_0 (by decide)).trans (m_2.1 0 2 _ sM_0 (by decide))))).trans f_sl) (by omega) (by omega) I_4873 H.size) (cwV 0 hts (bw_V wB_1137 wB_1138 wB_1139 wB_857 wB_1136) rfl rfl rfl (by decide +kernel) ⟨Nat.le_of_ble_eq_true rfl, Nat.le_of_ble_eq_true rfl⟩) (dg_preV sM_0 rfl K ST hP hS hA1 hA) rfl rfl hl.1 rfl (lv_room (Nat.le_of_ble_eq_true rfl)) dX12_operand_105 ⟨Nat.le_of_ble_eq_true rfl, Nat.le_of_ble_eq_true rfl⟩) (fun S_4878 hw_4878 H locs hP hS => ?_)
              obtain ⟨I_4878, m_4878, w_4878_0, -⟩ := hw_4878
              have M_4878 := dg_sm.tr M_4873 m_4878 (by decide) (by decide)
              obtain ⟨y_4879, y_4880, y_4881, f_y_4879, f_y_4880, f_y_4881, w_4878_0⟩ := w_4878_0
              have w_4878_0 : (se).toInt ≤ (y_4880).toInt ∧ (y_4880).toInt ≤ (y_4881).toInt ∧ (y_4881).toInt ≤ (sl).toInt ∧ ((y_4879).toInt ≠ 0 → (y_4880).toInt + 1 ≤ (y_4881).toInt) := w_4878_0
              have b_y_4879 : 0 ≤ (y_4879).toInt ∧ (y_4879).toInt ≤ 3 := dg_I.intb (lo := 0) (hi := 3) I_4878 sM_0 (by decide +kernel) f_y_4879
              have b_y_4880 : 0 ≤ (y_4880).toInt ∧ (y_4880).toInt ≤ 1600 := dg_I.intb (lo := 0) (hi := 1600) I_4878 sM_0 (by decide +kernel) f_y_4880
              have b_y_4881 : 0 ≤ (y_4881).toInt ∧ (y_4881).toInt ≤ 1600 := dg_I.intb (lo := 0) (hi := 1600) I_4878 sM_0 (by decide +kernel) f_y_4881
              refine lv_iconst (v := 0) hx hb dX12_operand_108 (by decide +kernel) ?_
              have hz_4882 : (0 : Int32).toInt = 0 := by decide +kernel
              have hz_4883 : (0 : Int32).toInt = 0 := by decide +kernel
              obtain ⟨x_4884, f_x_4884, b_x_4884⟩ := dg_I.int (i := 0) (k := 45) (lo := 0) (hi := 500) I_4878 sM_0 (by decide +kernel)
              have hz_4885 : (0 : Int32).toInt = 0 := by decide +kernel
              have hz_4886 : (0 : Int32).toInt = 0 := by decide +kernel
              refine W.widen (k := 0) (n := 0) (Nat.le_of_ble_eq_true rfl) (Nat.le_of_ble_eq_true rfl) ?_
              exact dg_iret hx hb hr hlocks (by decide +kernel) hP hS ⟨I_4878, M_4878, (by decide +kernel), ⟨y_4879, y_4880, y_4881, y_4869, cd, dp, x_4884, f_y_4879, f_y_4880, f_y_4881, (((m_4878.1 0 8 _ sM_0 (by decide)).trans ((m_4873.1 0 8 _ sM_0 (by decide)).trans (dg_uF_ne e_4872 (fun z => absurd z.2 (by decide))))).trans f_y_4869), (((m_4878.1 0 34 _ sM_0 (by decide)).trans ((m_4873.1 0 34 _ sM_0 (by decide)).trans ((dg_uF_ne e_4872 (fun z => absurd z.2 (by decide))).trans ((m_4867.1 0 34 _ sM_0 (by decide)).trans (m_2.1 0 34 _ sM_0 (by decide)))))).trans f_cd), (((m_4878.1 0 42 _ sM_0 (by decide)).trans ((m_4873.1 0 42 _ sM_0 (by decide)).trans ((dg_uF_ne e_4872 (fun z => absurd z.2 (by decide))).trans ((m_4867.1 0 42 _ sM_0 (by decide)).trans (m_2.1 0 42 _ sM_0 (by decide)))))).trans f_dp), f_x_4884, (by omega)⟩, (fun k9 hk9 hk0 => ⟨fun h9 => absurd h9 (by decide +kernel), fun _ => (P0M.keep P0_4873 m_4878 (by decide) (by decide) (by decide) (by decide) (by decide) (by decide) (by decide) (by decide) (by decide) (by decide) (by decide) (by decide) (by decide) (by decide) (by decide))⟩), (ZWM.keep (ZWM.keep (ZWM.keep (ZWM.keep (ZWM.keep ZW m_2 (by decide) (by decide) (by decide) (by decide)) m_4867 (by decide) (by decide) (by decide) (by decide)) (dg_sm.uF (WF := [(0, 43)]) (WA := []) dg_sm.rf e_4872 sM_0 (by decide)) (by decide) (by decide) (by decide) (by decide)) m_4873 (by decide) (by decide) (by decide) (by decide)) m_4878 (by decide) (by decide) (by decide) (by decide)), trivial⟩ dX12_operand_109
            · have jc_4870 := dk_nlec (k := 0) (by decide +kernel) c_4870
              refine lv_iconst (v := 1) hx hb dX12_operand_86 (by decide +kernel) ?_
              have hz_4887 : (1 : Int32).toInt = 1 := by decide +kernel
              have hz_4888 : (1 : Int32).toInt = 1 := by decide +kernel
              have hz_4889 : (1 : Int32).toInt = 1 := by decide +kernel
              have hz_4890 : (1 : Int32).toInt = 1 := by decide +kernel
              refine W.widen (k := 0) (n := 0) (Nat.le_of_ble_eq_true rfl) (Nat.le_of_ble_eq_true rfl) ?_
              exact dg_iret hx hb hr hlocks (by decide +kernel) hP hS ⟨I_4867, M_4867, (by decide +kernel), ⟨sg, sa, se, y_4869, cd, dp, om, (((m_4867.1 0 3 _ sM_0 (by decide)).trans (m_2.1 0 3 _ sM_0 (by decide))).trans f_sg), (((m_4867.1 0 4 _ sM_0 (by decide)).trans (m_2.1 0 4 _ sM_0 (by decide))).trans f_sa), (((m_4867.1 0 5 _ sM_0 (by decide)).trans (m_2.1 0 5 _ sM_0 (by decide))).trans f_se), f_y_4869, (((m_4867.1 0 34 _ sM_0 (by decide)).trans (m_2.1 0 34 _ sM_0 (by decide))).trans f_cd), (((m_4867.1 0 42 _ sM_0 (by decide)).trans (m_2.1 0 42 _ sM_0 (by decide))).trans f_dp), (((m_4867.1 0 45 _ sM_0 (by decide)).trans (m_2.1 0 45 _ sM_0 (by decide))).trans f_om), (by omega)⟩, (fun k9 hk9 hk0 => by have q9 := (f_y_4869).symm.trans hk9; cases q9; omega), (ZWM.keep (ZWM.keep ZW m_2 (by decide) (by decide) (by decide) (by decide)) m_4867 (by decide) (by decide) (by decide) (by decide)), trivial⟩ dX12_operand_87
  · have jc_4 := dk_nlec (k := 0) (by decide +kernel) c_4
    refine lv_iconst (v := 1) hx hb dX12_operand_11 (by decide +kernel) ?_
    have hz_4891 : (1 : Int32).toInt = 1 := by decide +kernel
    have hz_4892 : (1 : Int32).toInt = 1 := by decide +kernel
    have hz_4893 : (1 : Int32).toInt = 1 := by decide +kernel
    have hz_4894 : (1 : Int32).toInt = 1 := by decide +kernel
    refine W.widen (k := 0) (n := 0) (Nat.le_of_ble_eq_true rfl) (Nat.le_of_ble_eq_true rfl) ?_
    exact dg_iret hx hb hr hlocks (by decide +kernel) hP hS ⟨I_2, M_2, (by decide +kernel), ⟨sg, sa, se, y_3, cd, dp, om, ((m_2.1 0 3 _ sM_0 (by decide)).trans f_sg), ((m_2.1 0 4 _ sM_0 (by decide)).trans f_sa), ((m_2.1 0 5 _ sM_0 (by decide)).trans f_se), f_y_3, ((m_2.1 0 34 _ sM_0 (by decide)).trans f_cd), ((m_2.1 0 42 _ sM_0 (by decide)).trans f_dp), ((m_2.1 0 45 _ sM_0 (by decide)).trans f_om), (by omega)⟩, (fun k9 hk9 hk0 => by have q9 := (f_y_3).symm.trans hk9; cases q9; omega), (ZWM.keep ZW m_2 (by decide) (by decide) (by decide) (by decide)), trivial⟩ dX12_operand_12
