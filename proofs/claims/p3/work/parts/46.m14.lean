/-! 46.m14.lean.txt -/
theorem dX12_isCounted_0 : decode cX12_isCounted 0 = .ok (.aload_n 0, 1) := by decide +kernel
theorem dX12_isCounted_1 : decode cX12_isCounted 1 = .ok (.getfield 36, 3) := by decide +kernel
theorem dX12_isCounted_4 : decode cX12_isCounted 4 = .ok (.ifCond .ne 17, 3) := by decide +kernel
theorem dX12_isCounted_7 : decode cX12_isCounted 7 = .ok (.iload_n 1, 1) := by decide +kernel
theorem dX12_isCounted_8 : decode cX12_isCounted 8 = .ok (.ifCond .eq 13, 3) := by decide +kernel
theorem dX12_isCounted_11 : decode cX12_isCounted 11 = .ok (.aload_n 0, 1) := by decide +kernel
theorem dX12_isCounted_12 : decode cX12_isCounted 12 = .ok (.bipush 6, 2) := by decide +kernel
theorem dX12_isCounted_14 : decode cX12_isCounted 14 = .ok (.aload_n 0, 1) := by decide +kernel
theorem dX12_isCounted_15 : decode cX12_isCounted 15 = .ok (.getfield 23, 3) := by decide +kernel
theorem dX12_isCounted_18 : decode cX12_isCounted 18 = .ok (.invokevirtual 255, 3) := by decide +kernel
theorem dX12_isCounted_21 : decode cX12_isCounted 21 = .ok (.aload_n 0, 1) := by decide +kernel
theorem dX12_isCounted_22 : decode cX12_isCounted 22 = .ok (.getfield 36, 3) := by decide +kernel
theorem dX12_isCounted_25 : decode cX12_isCounted 25 = .ok (.ifCond .ne 7, 3) := by decide +kernel
theorem dX12_isCounted_28 : decode cX12_isCounted 28 = .ok (.aload_n 0, 1) := by decide +kernel
theorem dX12_isCounted_29 : decode cX12_isCounted 29 = .ok (.invokevirtual 272, 3) := by decide +kernel
theorem dX12_isCounted_32 : decode cX12_isCounted 32 = .ok (.aload_n 0, 1) := by decide +kernel
theorem dX12_isCounted_33 : decode cX12_isCounted 33 = .ok (.getfield 36, 3) := by decide +kernel
theorem dX12_isCounted_36 : decode cX12_isCounted 36 = .ok (.ifCond .ne 7, 3) := by decide +kernel
theorem dX12_isCounted_39 : decode cX12_isCounted 39 = .ok (.iconst 1, 1) := by decide +kernel
theorem dX12_isCounted_40 : decode cX12_isCounted 40 = .ok (.goto 4, 3) := by decide +kernel
theorem dX12_isCounted_43 : decode cX12_isCounted 43 = .ok (.iconst 0, 1) := by decide +kernel
theorem dX12_isCounted_44 : decode cX12_isCounted 44 = .ok (.ireturn, 1) := by decide +kernel
theorem dX12_fresh_0 : decode cX12_fresh 0 = .ok (.aload_n 0, 1) := by decide +kernel
theorem dX12_fresh_1 : decode cX12_fresh 1 = .ok (.invokevirtual 266, 3) := by decide +kernel
theorem dX12_fresh_4 : decode cX12_fresh 4 = .ok (.aload_n 0, 1) := by decide +kernel
theorem dX12_fresh_5 : decode cX12_fresh 5 = .ok (.getfield 36, 3) := by decide +kernel
theorem dX12_fresh_8 : decode cX12_fresh 8 = .ok (.ifCond .le 5, 3) := by decide +kernel
theorem dX12_fresh_11 : decode cX12_fresh 11 = .ok (.lconst 0, 1) := by decide +kernel
theorem dX12_fresh_12 : decode cX12_fresh 12 = .ok (.lreturn, 1) := by decide +kernel
theorem dX12_fresh_13 : decode cX12_fresh 13 = .ok (.aload_n 0, 1) := by decide +kernel
theorem dX12_fresh_14 : decode cX12_fresh 14 = .ok (.getfield 20, 3) := by decide +kernel
theorem dX12_fresh_17 : decode cX12_fresh 17 = .ok (.iconst 1, 1) := by decide +kernel
theorem dX12_fresh_18 : decode cX12_fresh 18 = .ok (.if_icmp .ne 14, 3) := by decide +kernel
theorem dX12_fresh_21 : decode cX12_fresh 21 = .ok (.aload_n 0, 1) := by decide +kernel
theorem dX12_fresh_22 : decode cX12_fresh 22 = .ok (.aload_n 0, 1) := by decide +kernel
theorem dX12_fresh_23 : decode cX12_fresh 23 = .ok (.getfield 32, 3) := by decide +kernel
theorem dX12_fresh_26 : decode cX12_fresh 26 = .ok (.invokevirtual 368, 3) := by decide +kernel
theorem dX12_fresh_29 : decode cX12_fresh 29 = .ok (.ifCond .eq 12, 3) := by decide +kernel
theorem dX12_fresh_32 : decode cX12_fresh 32 = .ok (.aload_n 0, 1) := by decide +kernel
theorem dX12_fresh_33 : decode cX12_fresh 33 = .ok (.iconst 1, 1) := by decide +kernel
theorem dX12_fresh_34 : decode cX12_fresh 34 = .ok (.aload_n 0, 1) := by decide +kernel
theorem dX12_fresh_35 : decode cX12_fresh 35 = .ok (.getfield 23, 3) := by decide +kernel
theorem dX12_fresh_38 : decode cX12_fresh 38 = .ok (.invokevirtual 255, 3) := by decide +kernel
theorem dX12_fresh_41 : decode cX12_fresh 41 = .ok (.aload_n 0, 1) := by decide +kernel
theorem dX12_fresh_42 : decode cX12_fresh 42 = .ok (.getfield 36, 3) := by decide +kernel
theorem dX12_fresh_45 : decode cX12_fresh 45 = .ok (.ifCond .ne 23, 3) := by decide +kernel
theorem dX12_fresh_48 : decode cX12_fresh 48 = .ok (.aload_n 0, 1) := by decide +kernel
theorem dX12_fresh_49 : decode cX12_fresh 49 = .ok (.aload_n 0, 1) := by decide +kernel
theorem dX12_fresh_50 : decode cX12_fresh 50 = .ok (.getfield 32, 3) := by decide +kernel
theorem dX12_fresh_53 : decode cX12_fresh 53 = .ok (.invokevirtual 371, 3) := by decide +kernel
theorem dX12_fresh_56 : decode cX12_fresh 56 = .ok (.ifCond .eq 12, 3) := by decide +kernel
theorem dX12_fresh_59 : decode cX12_fresh 59 = .ok (.aload_n 0, 1) := by decide +kernel
theorem dX12_fresh_60 : decode cX12_fresh 60 = .ok (.iconst 2, 1) := by decide +kernel
theorem dX12_fresh_61 : decode cX12_fresh 61 = .ok (.aload_n 0, 1) := by decide +kernel
theorem dX12_fresh_62 : decode cX12_fresh 62 = .ok (.getfield 23, 3) := by decide +kernel
theorem dX12_fresh_65 : decode cX12_fresh 65 = .ok (.invokevirtual 255, 3) := by decide +kernel
theorem dX12_fresh_68 : decode cX12_fresh 68 = .ok (.aload_n 0, 1) := by decide +kernel
theorem dX12_fresh_69 : decode cX12_fresh 69 = .ok (.getfield 32, 3) := by decide +kernel
theorem dX12_fresh_72 : decode cX12_fresh 72 = .ok (.lstore_n 1, 1) := by decide +kernel
theorem dX12_fresh_73 : decode cX12_fresh 73 = .ok (.aload_n 0, 1) := by decide +kernel
theorem dX12_fresh_74 : decode cX12_fresh 74 = .ok (.getfield 36, 3) := by decide +kernel
theorem dX12_fresh_77 : decode cX12_fresh 77 = .ok (.ifCond .ne 7, 3) := by decide +kernel
theorem dX12_fresh_80 : decode cX12_fresh 80 = .ok (.aload_n 0, 1) := by decide +kernel
theorem dX12_fresh_81 : decode cX12_fresh 81 = .ok (.invokevirtual 272, 3) := by decide +kernel
theorem dX12_fresh_84 : decode cX12_fresh 84 = .ok (.lload_n 1, 1) := by decide +kernel
theorem dX12_fresh_85 : decode cX12_fresh 85 = .ok (.lreturn, 1) := by decide +kernel
theorem dX12_cellTold_0 : decode cX12_cellTold 0 = .ok (.aload_n 0, 1) := by decide +kernel
theorem dX12_cellTold_1 : decode cX12_cellTold 1 = .ok (.iconst 0, 1) := by decide +kernel
theorem dX12_cellTold_2 : decode cX12_cellTold 2 = .ok (.aload_n 0, 1) := by decide +kernel
theorem dX12_cellTold_3 : decode cX12_cellTold 3 = .ok (.getfield 54, 3) := by decide +kernel
theorem dX12_cellTold_6 : decode cX12_cellTold 6 = .ok (.aload_n 0, 1) := by decide +kernel
theorem dX12_cellTold_7 : decode cX12_cellTold 7 = .ok (.getfield 118, 3) := by decide +kernel
theorem dX12_cellTold_10 : decode cX12_cellTold 10 = .ok (.iaload, 1) := by decide +kernel
theorem dX12_cellTold_11 : decode cX12_cellTold 11 = .ok (.iconst 1, 1) := by decide +kernel
theorem dX12_cellTold_12 : decode cX12_cellTold 12 = .ok (.isub, 1) := by decide +kernel
theorem dX12_cellTold_13 : decode cX12_cellTold 13 = .ok (.invokevirtual 374, 3) := by decide +kernel
theorem dX12_cellTold_16 : decode cX12_cellTold 16 = .ok (.istore_n 1, 1) := by decide +kernel
theorem dX12_cellTold_17 : decode cX12_cellTold 17 = .ok (.aload_n 0, 1) := by decide +kernel
theorem dX12_cellTold_18 : decode cX12_cellTold 18 = .ok (.iconst 0, 1) := by decide +kernel
theorem dX12_cellTold_19 : decode cX12_cellTold 19 = .ok (.aload_n 0, 1) := by decide +kernel
theorem dX12_cellTold_20 : decode cX12_cellTold 20 = .ok (.getfield 57, 3) := by decide +kernel
theorem dX12_cellTold_23 : decode cX12_cellTold 23 = .ok (.aload_n 0, 1) := by decide +kernel
theorem dX12_cellTold_24 : decode cX12_cellTold 24 = .ok (.getfield 118, 3) := by decide +kernel
theorem dX12_cellTold_27 : decode cX12_cellTold 27 = .ok (.iaload, 1) := by decide +kernel
theorem dX12_cellTold_28 : decode cX12_cellTold 28 = .ok (.iconst 1, 1) := by decide +kernel
theorem dX12_cellTold_29 : decode cX12_cellTold 29 = .ok (.isub, 1) := by decide +kernel
theorem dX12_cellTold_30 : decode cX12_cellTold 30 = .ok (.invokevirtual 374, 3) := by decide +kernel
theorem dX12_cellTold_33 : decode cX12_cellTold 33 = .ok (.istore_n 2, 1) := by decide +kernel
theorem dX12_cellTold_34 : decode cX12_cellTold 34 = .ok (.aload_n 0, 1) := by decide +kernel
theorem dX12_cellTold_35 : decode cX12_cellTold 35 = .ok (.getfield 36, 3) := by decide +kernel
theorem dX12_cellTold_38 : decode cX12_cellTold 38 = .ok (.ifCond .le 7, 3) := by decide +kernel
theorem dX12_cellTold_41 : decode cX12_cellTold 41 = .ok (.iconst 0, 1) := by decide +kernel
theorem dX12_cellTold_42 : decode cX12_cellTold 42 = .ok (.goto 9, 3) := by decide +kernel
theorem dX12_cellTold_45 : decode cX12_cellTold 45 = .ok (.bipush 8, 2) := by decide +kernel
theorem dX12_cellTold_47 : decode cX12_cellTold 47 = .ok (.iload_n 2, 1) := by decide +kernel
theorem dX12_cellTold_48 : decode cX12_cellTold 48 = .ok (.imul, 1) := by decide +kernel
theorem dX12_cellTold_49 : decode cX12_cellTold 49 = .ok (.iload_n 1, 1) := by decide +kernel
theorem dX12_cellTold_50 : decode cX12_cellTold 50 = .ok (.iadd, 1) := by decide +kernel
theorem dX12_cellTold_51 : decode cX12_cellTold 51 = .ok (.ireturn, 1) := by decide +kernel
theorem dX12_seaming_0 : decode cX12_seaming 0 = .ok (.aload_n 0, 1) := by decide +kernel
theorem dX12_seaming_1 : decode cX12_seaming 1 = .ok (.ldc2_w 275, 3) := by decide +kernel
theorem dX12_seaming_4 : decode cX12_seaming 4 = .ok (.invokevirtual 378, 3) := by decide +kernel
theorem dX12_seaming_7 : decode cX12_seaming 7 = .ok (.aload_n 0, 1) := by decide +kernel
theorem dX12_seaming_8 : decode cX12_seaming 8 = .ok (.getfield 54, 3) := by decide +kernel
theorem dX12_seaming_11 : decode cX12_seaming 11 = .ok (.aload_n 0, 1) := by decide +kernel
theorem dX12_seaming_12 : decode cX12_seaming 12 = .ok (.getfield 118, 3) := by decide +kernel
theorem dX12_seaming_15 : decode cX12_seaming 15 = .ok (.aload_n 0, 1) := by decide +kernel
theorem dX12_seaming_16 : decode cX12_seaming 16 = .ok (.iconst 3, 1) := by decide +kernel
theorem dX12_seaming_17 : decode cX12_seaming 17 = .ok (.bipush 7, 2) := by decide +kernel
theorem dX12_seaming_19 : decode cX12_seaming 19 = .ok (.invokevirtual 374, 3) := by decide +kernel
theorem dX12_seaming_22 : decode cX12_seaming 22 = .ok (.iastore, 1) := by decide +kernel
theorem dX12_seaming_23 : decode cX12_seaming 23 = .ok (.aload_n 0, 1) := by decide +kernel
theorem dX12_seaming_24 : decode cX12_seaming 24 = .ok (.ldc2_w 277, 3) := by decide +kernel
theorem dX12_seaming_27 : decode cX12_seaming 27 = .ok (.invokevirtual 378, 3) := by decide +kernel
theorem dX12_seaming_30 : decode cX12_seaming 30 = .ok (.aload_n 0, 1) := by decide +kernel
theorem dX12_seaming_31 : decode cX12_seaming 31 = .ok (.getfield 57, 3) := by decide +kernel
theorem dX12_seaming_34 : decode cX12_seaming 34 = .ok (.aload_n 0, 1) := by decide +kernel
theorem dX12_seaming_35 : decode cX12_seaming 35 = .ok (.getfield 118, 3) := by decide +kernel
theorem dX12_seaming_38 : decode cX12_seaming 38 = .ok (.aload_n 0, 1) := by decide +kernel
theorem dX12_seaming_39 : decode cX12_seaming 39 = .ok (.iconst 3, 1) := by decide +kernel
theorem dX12_seaming_40 : decode cX12_seaming 40 = .ok (.bipush 7, 2) := by decide +kernel
theorem dX12_seaming_42 : decode cX12_seaming 42 = .ok (.invokevirtual 374, 3) := by decide +kernel
theorem dX12_seaming_45 : decode cX12_seaming 45 = .ok (.iastore, 1) := by decide +kernel
theorem dX12_seaming_46 : decode cX12_seaming 46 = .ok (.return_, 1) := by decide +kernel
theorem dX12_telling_0 : decode cX12_telling 0 = .ok (.aload_n 0, 1) := by decide +kernel
theorem dX12_telling_1 : decode cX12_telling 1 = .ok (.iconst 0, 1) := by decide +kernel
theorem dX12_telling_2 : decode cX12_telling 2 = .ok (.invokevirtual 382, 3) := by decide +kernel
theorem dX12_telling_5 : decode cX12_telling 5 = .ok (.ifCond .ne 5, 3) := by decide +kernel
theorem dX12_telling_8 : decode cX12_telling 8 = .ok (.iconst 0, 1) := by decide +kernel
theorem dX12_telling_9 : decode cX12_telling 9 = .ok (.ireturn, 1) := by decide +kernel
theorem dX12_telling_10 : decode cX12_telling 10 = .ok (.aload_n 0, 1) := by decide +kernel
theorem dX12_telling_11 : decode cX12_telling 11 = .ok (.iconst 0, 1) := by decide +kernel
theorem dX12_telling_12 : decode cX12_telling 12 = .ok (.iload_n 1, 1) := by decide +kernel
theorem dX12_telling_13 : decode cX12_telling 13 = .ok (.invokevirtual 374, 3) := by decide +kernel
theorem dX12_telling_16 : decode cX12_telling 16 = .ok (.ireturn, 1) := by decide +kernel
theorem dX12_grading_0 : decode cX12_grading 0 = .ok (.aload_n 0, 1) := by decide +kernel
theorem dX12_grading_1 : decode cX12_grading 1 = .ok (.iconst 0, 1) := by decide +kernel
theorem dX12_grading_2 : decode cX12_grading 2 = .ok (.invokevirtual 382, 3) := by decide +kernel
theorem dX12_grading_5 : decode cX12_grading 5 = .ok (.ifCond .ne 4, 3) := by decide +kernel
theorem dX12_grading_8 : decode cX12_grading 8 = .ok (.return_, 1) := by decide +kernel
theorem dX12_grading_9 : decode cX12_grading 9 = .ok (.aload_n 0, 1) := by decide +kernel
theorem dX12_grading_10 : decode cX12_grading 10 = .ok (.invokevirtual 386, 3) := by decide +kernel
theorem dX12_grading_13 : decode cX12_grading 13 = .ok (.istore_n 1, 1) := by decide +kernel
theorem dX12_grading_14 : decode cX12_grading 14 = .ok (.aload_n 0, 1) := by decide +kernel
theorem dX12_grading_15 : decode cX12_grading 15 = .ok (.iconst 0, 1) := by decide +kernel
theorem dX12_grading_16 : decode cX12_grading 16 = .ok (.bipush 9, 2) := by decide +kernel
theorem dX12_grading_18 : decode cX12_grading 18 = .ok (.invokevirtual 374, 3) := by decide +kernel
theorem dX12_grading_21 : decode cX12_grading 21 = .ok (.istore_n 2, 1) := by decide +kernel
theorem dX12_grading_22 : decode cX12_grading 22 = .ok (.aload_n 0, 1) := by decide +kernel
theorem dX12_grading_23 : decode cX12_grading 23 = .ok (.getfield 36, 3) := by decide +kernel
theorem dX12_grading_26 : decode cX12_grading 26 = .ok (.ifCond .ne 18, 3) := by decide +kernel
theorem dX12_grading_29 : decode cX12_grading 29 = .ok (.aload_n 0, 1) := by decide +kernel
theorem dX12_grading_30 : decode cX12_grading 30 = .ok (.getfield 69, 3) := by decide +kernel
theorem dX12_grading_33 : decode cX12_grading 33 = .ok (.bipush 64, 2) := by decide +kernel
theorem dX12_grading_35 : decode cX12_grading 35 = .ok (.aload_n 0, 1) := by decide +kernel
theorem dX12_grading_36 : decode cX12_grading 36 = .ok (.getfield 118, 3) := by decide +kernel
theorem dX12_grading_39 : decode cX12_grading 39 = .ok (.imul, 1) := by decide +kernel
theorem dX12_grading_40 : decode cX12_grading 40 = .ok (.iload_n 1, 1) := by decide +kernel
theorem dX12_grading_41 : decode cX12_grading 41 = .ok (.iadd, 1) := by decide +kernel
theorem dX12_grading_42 : decode cX12_grading 42 = .ok (.iload_n 2, 1) := by decide +kernel
theorem dX12_grading_43 : decode cX12_grading 43 = .ok (.iastore, 1) := by decide +kernel
theorem dX12_grading_44 : decode cX12_grading 44 = .ok (.return_, 1) := by decide +kernel
theorem dX12_mining_0 : decode cX12_mining 0 = .ok (.aload_n 0, 1) := by decide +kernel
theorem dX12_mining_1 : decode cX12_mining 1 = .ok (.aload_n 0, 1) := by decide +kernel
theorem dX12_mining_2 : decode cX12_mining 2 = .ok (.getfield 72, 3) := by decide +kernel
theorem dX12_mining_5 : decode cX12_mining 5 = .ok (.aload_n 0, 1) := by decide +kernel
theorem dX12_mining_6 : decode cX12_mining 6 = .ok (.getfield 118, 3) := by decide +kernel
theorem dX12_mining_9 : decode cX12_mining 9 = .ok (.iaload, 1) := by decide +kernel
theorem dX12_mining_10 : decode cX12_mining 10 = .ok (.bipush 6, 2) := by decide +kernel
theorem dX12_mining_12 : decode cX12_mining 12 = .ok (.if_icmp .ne 7, 3) := by decide +kernel
theorem dX12_mining_15 : decode cX12_mining 15 = .ok (.iconst 1, 1) := by decide +kernel
theorem dX12_mining_16 : decode cX12_mining 16 = .ok (.goto 4, 3) := by decide +kernel
theorem dX12_mining_19 : decode cX12_mining 19 = .ok (.iconst 0, 1) := by decide +kernel
theorem dX12_mining_20 : decode cX12_mining 20 = .ok (.invokevirtual 382, 3) := by decide +kernel
theorem dX12_mining_23 : decode cX12_mining 23 = .ok (.ifCond .ne 4, 3) := by decide +kernel
theorem dX12_mining_26 : decode cX12_mining 26 = .ok (.return_, 1) := by decide +kernel
theorem dX12_mining_27 : decode cX12_mining 27 = .ok (.aload_n 0, 1) := by decide +kernel
theorem dX12_mining_28 : decode cX12_mining 28 = .ok (.getfield 108, 3) := by decide +kernel
theorem dX12_mining_31 : decode cX12_mining 31 = .ok (.bipush 6, 2) := by decide +kernel
theorem dX12_mining_33 : decode cX12_mining 33 = .ok (.aload_n 0, 1) := by decide +kernel
theorem dX12_mining_34 : decode cX12_mining 34 = .ok (.getfield 118, 3) := by decide +kernel
theorem dX12_mining_37 : decode cX12_mining 37 = .ok (.imul, 1) := by decide +kernel
theorem dX12_mining_38 : decode cX12_mining 38 = .ok (.aload_n 0, 1) := by decide +kernel
theorem dX12_mining_39 : decode cX12_mining 39 = .ok (.getfield 72, 3) := by decide +kernel
theorem dX12_mining_42 : decode cX12_mining 42 = .ok (.aload_n 0, 1) := by decide +kernel
theorem dX12_mining_43 : decode cX12_mining 43 = .ok (.getfield 118, 3) := by decide +kernel
theorem dX12_mining_46 : decode cX12_mining 46 = .ok (.iaload, 1) := by decide +kernel
theorem dX12_mining_47 : decode cX12_mining 47 = .ok (.iadd, 1) := by decide +kernel
theorem dX12_mining_48 : decode cX12_mining 48 = .ok (.aload_n 0, 1) := by decide +kernel
theorem dX12_mining_49 : decode cX12_mining 49 = .ok (.invokevirtual 390, 3) := by decide +kernel
theorem dX12_mining_52 : decode cX12_mining 52 = .ok (.lastore, 1) := by decide +kernel
theorem dX12_mining_53 : decode cX12_mining 53 = .ok (.aload_n 0, 1) := by decide +kernel
theorem dX12_mining_54 : decode cX12_mining 54 = .ok (.getfield 36, 3) := by decide +kernel
theorem dX12_mining_57 : decode cX12_mining 57 = .ok (.ifCond .ne 16, 3) := by decide +kernel
theorem dX12_mining_60 : decode cX12_mining 60 = .ok (.aload_n 0, 1) := by decide +kernel
theorem dX12_mining_61 : decode cX12_mining 61 = .ok (.getfield 72, 3) := by decide +kernel
theorem dX12_mining_64 : decode cX12_mining 64 = .ok (.aload_n 0, 1) := by decide +kernel
theorem dX12_mining_65 : decode cX12_mining 65 = .ok (.getfield 118, 3) := by decide +kernel
theorem dX12_mining_68 : decode cX12_mining 68 = .ok (.dup2, 1) := by decide +kernel
theorem dX12_mining_69 : decode cX12_mining 69 = .ok (.iaload, 1) := by decide +kernel
theorem dX12_mining_70 : decode cX12_mining 70 = .ok (.iconst 1, 1) := by decide +kernel
theorem dX12_mining_71 : decode cX12_mining 71 = .ok (.iadd, 1) := by decide +kernel
theorem dX12_mining_72 : decode cX12_mining 72 = .ok (.iastore, 1) := by decide +kernel
theorem dX12_mining_73 : decode cX12_mining 73 = .ok (.return_, 1) := by decide +kernel
theorem dX12_digging_0 : decode cX12_digging 0 = .ok (.aload_n 0, 1) := by decide +kernel
theorem dX12_digging_1 : decode cX12_digging 1 = .ok (.aload_n 0, 1) := by decide +kernel
theorem dX12_digging_2 : decode cX12_digging 2 = .ok (.getfield 75, 3) := by decide +kernel
theorem dX12_digging_5 : decode cX12_digging 5 = .ok (.aload_n 0, 1) := by decide +kernel
theorem dX12_digging_6 : decode cX12_digging 6 = .ok (.getfield 118, 3) := by decide +kernel
theorem dX12_digging_9 : decode cX12_digging 9 = .ok (.iaload, 1) := by decide +kernel
theorem dX12_digging_10 : decode cX12_digging 10 = .ok (.bipush 16, 2) := by decide +kernel
theorem dX12_digging_12 : decode cX12_digging 12 = .ok (.if_icmp .ne 7, 3) := by decide +kernel
theorem dX12_digging_15 : decode cX12_digging 15 = .ok (.iconst 1, 1) := by decide +kernel
theorem dX12_digging_16 : decode cX12_digging 16 = .ok (.goto 4, 3) := by decide +kernel
theorem dX12_digging_19 : decode cX12_digging 19 = .ok (.iconst 0, 1) := by decide +kernel
theorem dX12_digging_20 : decode cX12_digging 20 = .ok (.invokevirtual 382, 3) := by decide +kernel
theorem dX12_digging_23 : decode cX12_digging 23 = .ok (.ifCond .ne 4, 3) := by decide +kernel
theorem dX12_digging_26 : decode cX12_digging 26 = .ok (.return_, 1) := by decide +kernel
theorem dX12_digging_27 : decode cX12_digging 27 = .ok (.aload_n 0, 1) := by decide +kernel
theorem dX12_digging_28 : decode cX12_digging 28 = .ok (.invokevirtual 266, 3) := by decide +kernel
theorem dX12_digging_31 : decode cX12_digging 31 = .ok (.aload_n 0, 1) := by decide +kernel
theorem dX12_digging_32 : decode cX12_digging 32 = .ok (.getfield 36, 3) := by decide +kernel
theorem dX12_digging_35 : decode cX12_digging 35 = .ok (.ifCond .le 4, 3) := by decide +kernel
theorem dX12_digging_38 : decode cX12_digging 38 = .ok (.return_, 1) := by decide +kernel
theorem dX12_digging_39 : decode cX12_digging 39 = .ok (.aload_n 0, 1) := by decide +kernel
theorem dX12_digging_40 : decode cX12_digging 40 = .ok (.getfield 20, 3) := by decide +kernel
theorem dX12_digging_43 : decode cX12_digging 43 = .ok (.iconst 1, 1) := by decide +kernel
theorem dX12_digging_44 : decode cX12_digging 44 = .ok (.if_icmp .ne 14, 3) := by decide +kernel
theorem dX12_digging_47 : decode cX12_digging 47 = .ok (.aload_n 0, 1) := by decide +kernel
theorem dX12_digging_48 : decode cX12_digging 48 = .ok (.aload_n 0, 1) := by decide +kernel
theorem dX12_digging_49 : decode cX12_digging 49 = .ok (.getfield 32, 3) := by decide +kernel
theorem dX12_digging_52 : decode cX12_digging 52 = .ok (.invokevirtual 368, 3) := by decide +kernel
theorem dX12_digging_55 : decode cX12_digging 55 = .ok (.ifCond .eq 12, 3) := by decide +kernel
theorem dX12_digging_58 : decode cX12_digging 58 = .ok (.aload_n 0, 1) := by decide +kernel
theorem dX12_digging_59 : decode cX12_digging 59 = .ok (.iconst 1, 1) := by decide +kernel
theorem dX12_digging_60 : decode cX12_digging 60 = .ok (.aload_n 0, 1) := by decide +kernel
theorem dX12_digging_61 : decode cX12_digging 61 = .ok (.getfield 23, 3) := by decide +kernel
theorem dX12_digging_64 : decode cX12_digging 64 = .ok (.invokevirtual 255, 3) := by decide +kernel
theorem dX12_digging_67 : decode cX12_digging 67 = .ok (.aload_n 0, 1) := by decide +kernel
theorem dX12_digging_68 : decode cX12_digging 68 = .ok (.getfield 36, 3) := by decide +kernel
theorem dX12_digging_71 : decode cX12_digging 71 = .ok (.ifCond .le 7, 3) := by decide +kernel
theorem dX12_digging_74 : decode cX12_digging 74 = .ok (.iconst 0, 1) := by decide +kernel
theorem dX12_digging_75 : decode cX12_digging 75 = .ok (.goto 11, 3) := by decide +kernel
theorem dX12_digging_78 : decode cX12_digging 78 = .ok (.aload_n 0, 1) := by decide +kernel
theorem dX12_digging_79 : decode cX12_digging 79 = .ok (.aload_n 0, 1) := by decide +kernel
theorem dX12_digging_80 : decode cX12_digging 80 = .ok (.getfield 32, 3) := by decide +kernel
theorem dX12_digging_83 : decode cX12_digging 83 = .ok (.invokevirtual 329, 3) := by decide +kernel
theorem dX12_digging_86 : decode cX12_digging 86 = .ok (.istore_n 1, 1) := by decide +kernel
theorem dX12_digging_87 : decode cX12_digging 87 = .ok (.aload_n 0, 1) := by decide +kernel
theorem dX12_digging_88 : decode cX12_digging 88 = .ok (.getfield 36, 3) := by decide +kernel
theorem dX12_digging_91 : decode cX12_digging 91 = .ok (.ifCond .ne 17, 3) := by decide +kernel
theorem dX12_digging_94 : decode cX12_digging 94 = .ok (.iload_n 1, 1) := by decide +kernel
theorem dX12_digging_95 : decode cX12_digging 95 = .ok (.iconst (-1), 1) := by decide +kernel
theorem dX12_digging_96 : decode cX12_digging 96 = .ok (.if_icmp .ne 12, 3) := by decide +kernel
theorem dX12_digging_99 : decode cX12_digging 99 = .ok (.aload_n 0, 1) := by decide +kernel
theorem dX12_digging_100 : decode cX12_digging 100 = .ok (.iconst 3, 1) := by decide +kernel
theorem dX12_digging_101 : decode cX12_digging 101 = .ok (.aload_n 0, 1) := by decide +kernel
theorem dX12_digging_102 : decode cX12_digging 102 = .ok (.getfield 23, 3) := by decide +kernel
theorem dX12_digging_105 : decode cX12_digging 105 = .ok (.invokevirtual 255, 3) := by decide +kernel
theorem dX12_digging_108 : decode cX12_digging 108 = .ok (.aload_n 0, 1) := by decide +kernel
theorem dX12_digging_109 : decode cX12_digging 109 = .ok (.getfield 36, 3) := by decide +kernel
theorem dX12_digging_112 : decode cX12_digging 112 = .ok (.ifCond .le 4, 3) := by decide +kernel
theorem dX12_digging_115 : decode cX12_digging 115 = .ok (.return_, 1) := by decide +kernel
theorem dX12_digging_116 : decode cX12_digging 116 = .ok (.aload_n 0, 1) := by decide +kernel
theorem dX12_digging_117 : decode cX12_digging 117 = .ok (.invokevirtual 272, 3) := by decide +kernel
theorem dX12_digging_120 : decode cX12_digging 120 = .ok (.aload_n 0, 1) := by decide +kernel
theorem dX12_digging_121 : decode cX12_digging 121 = .ok (.ldc2_w 291, 3) := by decide +kernel
theorem dX12_digging_124 : decode cX12_digging 124 = .ok (.invokevirtual 378, 3) := by decide +kernel
theorem dX12_digging_127 : decode cX12_digging 127 = .ok (.bipush 16, 2) := by decide +kernel
theorem dX12_digging_129 : decode cX12_digging 129 = .ok (.aload_n 0, 1) := by decide +kernel
theorem dX12_digging_130 : decode cX12_digging 130 = .ok (.getfield 118, 3) := by decide +kernel
theorem dX12_digging_133 : decode cX12_digging 133 = .ok (.imul, 1) := by decide +kernel
theorem dX12_digging_134 : decode cX12_digging 134 = .ok (.aload_n 0, 1) := by decide +kernel
theorem dX12_digging_135 : decode cX12_digging 135 = .ok (.getfield 75, 3) := by decide +kernel
theorem dX12_digging_138 : decode cX12_digging 138 = .ok (.aload_n 0, 1) := by decide +kernel
theorem dX12_digging_139 : decode cX12_digging 139 = .ok (.getfield 118, 3) := by decide +kernel
theorem dX12_digging_142 : decode cX12_digging 142 = .ok (.iaload, 1) := by decide +kernel
theorem dX12_digging_143 : decode cX12_digging 143 = .ok (.iadd, 1) := by decide +kernel
theorem dX12_digging_144 : decode cX12_digging 144 = .ok (.istore_n 2, 1) := by decide +kernel
theorem dX12_digging_145 : decode cX12_digging 145 = .ok (.aload_n 0, 1) := by decide +kernel
theorem dX12_digging_146 : decode cX12_digging 146 = .ok (.getfield 78, 3) := by decide +kernel
theorem dX12_digging_149 : decode cX12_digging 149 = .ok (.iload_n 2, 1) := by decide +kernel
theorem dX12_digging_150 : decode cX12_digging 150 = .ok (.iload_n 1, 1) := by decide +kernel
theorem dX12_digging_151 : decode cX12_digging 151 = .ok (.iastore, 1) := by decide +kernel
theorem dX12_digging_152 : decode cX12_digging 152 = .ok (.aload_n 0, 1) := by decide +kernel
theorem dX12_digging_153 : decode cX12_digging 153 = .ok (.getfield 81, 3) := by decide +kernel
theorem dX12_digging_156 : decode cX12_digging 156 = .ok (.iload_n 2, 1) := by decide +kernel
theorem dX12_digging_157 : decode cX12_digging 157 = .ok (.aload_n 0, 1) := by decide +kernel
theorem dX12_digging_158 : decode cX12_digging 158 = .ok (.invokevirtual 386, 3) := by decide +kernel
theorem dX12_digging_161 : decode cX12_digging 161 = .ok (.iastore, 1) := by decide +kernel
theorem dX12_digging_162 : decode cX12_digging 162 = .ok (.aload_n 0, 1) := by decide +kernel
theorem dX12_digging_163 : decode cX12_digging 163 = .ok (.getfield 36, 3) := by decide +kernel
theorem dX12_digging_166 : decode cX12_digging 166 = .ok (.ifCond .ne 16, 3) := by decide +kernel
theorem dX12_digging_169 : decode cX12_digging 169 = .ok (.aload_n 0, 1) := by decide +kernel
theorem dX12_digging_170 : decode cX12_digging 170 = .ok (.getfield 75, 3) := by decide +kernel
theorem dX12_digging_173 : decode cX12_digging 173 = .ok (.aload_n 0, 1) := by decide +kernel
theorem dX12_digging_174 : decode cX12_digging 174 = .ok (.getfield 118, 3) := by decide +kernel
theorem dX12_digging_177 : decode cX12_digging 177 = .ok (.dup2, 1) := by decide +kernel
theorem dX12_digging_178 : decode cX12_digging 178 = .ok (.iaload, 1) := by decide +kernel
theorem dX12_digging_179 : decode cX12_digging 179 = .ok (.iconst 1, 1) := by decide +kernel
theorem dX12_digging_180 : decode cX12_digging 180 = .ok (.iadd, 1) := by decide +kernel
theorem dX12_digging_181 : decode cX12_digging 181 = .ok (.iastore, 1) := by decide +kernel
theorem dX12_digging_182 : decode cX12_digging 182 = .ok (.return_, 1) := by decide +kernel
theorem dX12_ordering_0 : decode cX12_ordering 0 = .ok (.aload_n 0, 1) := by decide +kernel
theorem dX12_ordering_1 : decode cX12_ordering 1 = .ok (.aload_n 0, 1) := by decide +kernel
theorem dX12_ordering_2 : decode cX12_ordering 2 = .ok (.getfield 84, 3) := by decide +kernel
theorem dX12_ordering_5 : decode cX12_ordering 5 = .ok (.aload_n 0, 1) := by decide +kernel
theorem dX12_ordering_6 : decode cX12_ordering 6 = .ok (.getfield 118, 3) := by decide +kernel
theorem dX12_ordering_9 : decode cX12_ordering 9 = .ok (.iaload, 1) := by decide +kernel
theorem dX12_ordering_10 : decode cX12_ordering 10 = .ok (.iconst 5, 1) := by decide +kernel
theorem dX12_ordering_11 : decode cX12_ordering 11 = .ok (.if_icmp .ne 7, 3) := by decide +kernel
theorem dX12_ordering_14 : decode cX12_ordering 14 = .ok (.iconst 1, 1) := by decide +kernel
theorem dX12_ordering_15 : decode cX12_ordering 15 = .ok (.goto 4, 3) := by decide +kernel
theorem dX12_ordering_18 : decode cX12_ordering 18 = .ok (.iconst 0, 1) := by decide +kernel
theorem dX12_ordering_19 : decode cX12_ordering 19 = .ok (.invokevirtual 382, 3) := by decide +kernel
theorem dX12_ordering_22 : decode cX12_ordering 22 = .ok (.ifCond .ne 4, 3) := by decide +kernel
theorem dX12_ordering_25 : decode cX12_ordering 25 = .ok (.return_, 1) := by decide +kernel
theorem dX12_ordering_26 : decode cX12_ordering 26 = .ok (.iconst 5, 1) := by decide +kernel
theorem dX12_ordering_27 : decode cX12_ordering 27 = .ok (.aload_n 0, 1) := by decide +kernel
theorem dX12_ordering_28 : decode cX12_ordering 28 = .ok (.getfield 118, 3) := by decide +kernel
theorem dX12_ordering_31 : decode cX12_ordering 31 = .ok (.imul, 1) := by decide +kernel
theorem dX12_ordering_32 : decode cX12_ordering 32 = .ok (.aload_n 0, 1) := by decide +kernel
theorem dX12_ordering_33 : decode cX12_ordering 33 = .ok (.getfield 84, 3) := by decide +kernel
theorem dX12_ordering_36 : decode cX12_ordering 36 = .ok (.aload_n 0, 1) := by decide +kernel
theorem dX12_ordering_37 : decode cX12_ordering 37 = .ok (.getfield 118, 3) := by decide +kernel
theorem dX12_ordering_40 : decode cX12_ordering 40 = .ok (.iaload, 1) := by decide +kernel
theorem dX12_ordering_41 : decode cX12_ordering 41 = .ok (.iadd, 1) := by decide +kernel
theorem dX12_ordering_42 : decode cX12_ordering 42 = .ok (.istore_n 1, 1) := by decide +kernel
theorem dX12_ordering_43 : decode cX12_ordering 43 = .ok (.aload_n 0, 1) := by decide +kernel
theorem dX12_ordering_44 : decode cX12_ordering 44 = .ok (.getfield 112, 3) := by decide +kernel
theorem dX12_ordering_47 : decode cX12_ordering 47 = .ok (.iload_n 1, 1) := by decide +kernel
theorem dX12_ordering_48 : decode cX12_ordering 48 = .ok (.aload_n 0, 1) := by decide +kernel
theorem dX12_ordering_49 : decode cX12_ordering 49 = .ok (.invokevirtual 390, 3) := by decide +kernel
theorem dX12_ordering_52 : decode cX12_ordering 52 = .ok (.lastore, 1) := by decide +kernel
theorem dX12_ordering_53 : decode cX12_ordering 53 = .ok (.aload_n 0, 1) := by decide +kernel
theorem dX12_ordering_54 : decode cX12_ordering 54 = .ok (.ldc2_w 285, 3) := by decide +kernel
theorem dX12_ordering_57 : decode cX12_ordering 57 = .ok (.invokevirtual 378, 3) := by decide +kernel
theorem dX12_ordering_60 : decode cX12_ordering 60 = .ok (.aload_n 0, 1) := by decide +kernel
theorem dX12_ordering_61 : decode cX12_ordering 61 = .ok (.getfield 87, 3) := by decide +kernel
theorem dX12_ordering_64 : decode cX12_ordering 64 = .ok (.iload_n 1, 1) := by decide +kernel
theorem dX12_ordering_65 : decode cX12_ordering 65 = .ok (.aload_n 0, 1) := by decide +kernel
theorem dX12_ordering_66 : decode cX12_ordering 66 = .ok (.iconst 0, 1) := by decide +kernel
theorem dX12_ordering_67 : decode cX12_ordering 67 = .ok (.bipush 9, 2) := by decide +kernel
theorem dX12_ordering_69 : decode cX12_ordering 69 = .ok (.invokevirtual 374, 3) := by decide +kernel
theorem dX12_ordering_72 : decode cX12_ordering 72 = .ok (.iastore, 1) := by decide +kernel
theorem dX12_ordering_73 : decode cX12_ordering 73 = .ok (.aload_n 0, 1) := by decide +kernel
theorem dX12_ordering_74 : decode cX12_ordering 74 = .ok (.ldc2_w 295, 3) := by decide +kernel
theorem dX12_ordering_77 : decode cX12_ordering 77 = .ok (.invokevirtual 378, 3) := by decide +kernel
theorem dX12_ordering_80 : decode cX12_ordering 80 = .ok (.aload_n 0, 1) := by decide +kernel
theorem dX12_ordering_81 : decode cX12_ordering 81 = .ok (.getfield 90, 3) := by decide +kernel
theorem dX12_ordering_84 : decode cX12_ordering 84 = .ok (.iload_n 1, 1) := by decide +kernel
theorem dX12_ordering_85 : decode cX12_ordering 85 = .ok (.aload_n 0, 1) := by decide +kernel
theorem dX12_ordering_86 : decode cX12_ordering 86 = .ok (.iconst 1, 1) := by decide +kernel
theorem dX12_ordering_87 : decode cX12_ordering 87 = .ok (.bipush 9, 2) := by decide +kernel
theorem dX12_ordering_89 : decode cX12_ordering 89 = .ok (.invokevirtual 374, 3) := by decide +kernel
theorem dX12_ordering_92 : decode cX12_ordering 92 = .ok (.iastore, 1) := by decide +kernel
theorem dX12_ordering_93 : decode cX12_ordering 93 = .ok (.aload_n 0, 1) := by decide +kernel
theorem dX12_ordering_94 : decode cX12_ordering 94 = .ok (.ldc2_w 297, 3) := by decide +kernel
theorem dX12_ordering_97 : decode cX12_ordering 97 = .ok (.invokevirtual 378, 3) := by decide +kernel
theorem dX12_ordering_100 : decode cX12_ordering 100 = .ok (.aload_n 0, 1) := by decide +kernel
theorem dX12_ordering_101 : decode cX12_ordering 101 = .ok (.getfield 93, 3) := by decide +kernel
theorem dX12_ordering_104 : decode cX12_ordering 104 = .ok (.iload_n 1, 1) := by decide +kernel
theorem dX12_ordering_105 : decode cX12_ordering 105 = .ok (.aload_n 0, 1) := by decide +kernel
theorem dX12_ordering_106 : decode cX12_ordering 106 = .ok (.iconst 0, 1) := by decide +kernel
theorem dX12_ordering_107 : decode cX12_ordering 107 = .ok (.sipush 999, 3) := by decide +kernel
theorem dX12_ordering_110 : decode cX12_ordering 110 = .ok (.invokevirtual 374, 3) := by decide +kernel
theorem dX12_ordering_113 : decode cX12_ordering 113 = .ok (.iastore, 1) := by decide +kernel
theorem dX12_ordering_114 : decode cX12_ordering 114 = .ok (.aload_n 0, 1) := by decide +kernel
theorem dX12_ordering_115 : decode cX12_ordering 115 = .ok (.getfield 36, 3) := by decide +kernel
theorem dX12_ordering_118 : decode cX12_ordering 118 = .ok (.ifCond .ne 16, 3) := by decide +kernel
theorem dX12_ordering_121 : decode cX12_ordering 121 = .ok (.aload_n 0, 1) := by decide +kernel
theorem dX12_ordering_122 : decode cX12_ordering 122 = .ok (.getfield 84, 3) := by decide +kernel
theorem dX12_ordering_125 : decode cX12_ordering 125 = .ok (.aload_n 0, 1) := by decide +kernel
theorem dX12_ordering_126 : decode cX12_ordering 126 = .ok (.getfield 118, 3) := by decide +kernel
theorem dX12_ordering_129 : decode cX12_ordering 129 = .ok (.dup2, 1) := by decide +kernel
theorem dX12_ordering_130 : decode cX12_ordering 130 = .ok (.iaload, 1) := by decide +kernel
theorem dX12_ordering_131 : decode cX12_ordering 131 = .ok (.iconst 1, 1) := by decide +kernel
theorem dX12_ordering_132 : decode cX12_ordering 132 = .ok (.iadd, 1) := by decide +kernel
theorem dX12_ordering_133 : decode cX12_ordering 133 = .ok (.iastore, 1) := by decide +kernel
theorem dX12_ordering_134 : decode cX12_ordering 134 = .ok (.return_, 1) := by decide +kernel
theorem dX12_reading_0 : decode cX12_reading 0 = .ok (.iconst 3, 1) := by decide +kernel
theorem dX12_reading_1 : decode cX12_reading 1 = .ok (.aload_n 0, 1) := by decide +kernel
theorem dX12_reading_2 : decode cX12_reading 2 = .ok (.getfield 118, 3) := by decide +kernel
theorem dX12_reading_5 : decode cX12_reading 5 = .ok (.imul, 1) := by decide +kernel
theorem dX12_reading_6 : decode cX12_reading 6 = .ok (.iload_n 1, 1) := by decide +kernel
theorem dX12_reading_7 : decode cX12_reading 7 = .ok (.iadd, 1) := by decide +kernel
theorem dX12_reading_8 : decode cX12_reading 8 = .ok (.istore_n 2, 1) := by decide +kernel
theorem dX12_reading_9 : decode cX12_reading 9 = .ok (.aload_n 0, 1) := by decide +kernel
theorem dX12_reading_10 : decode cX12_reading 10 = .ok (.aload_n 0, 1) := by decide +kernel
theorem dX12_reading_11 : decode cX12_reading 11 = .ok (.getfield 96, 3) := by decide +kernel
theorem dX12_reading_14 : decode cX12_reading 14 = .ok (.iload_n 2, 1) := by decide +kernel
theorem dX12_reading_15 : decode cX12_reading 15 = .ok (.iaload, 1) := by decide +kernel
theorem dX12_reading_16 : decode cX12_reading 16 = .ok (.iconst (-1), 1) := by decide +kernel
theorem dX12_reading_17 : decode cX12_reading 17 = .ok (.if_icmp .eq 7, 3) := by decide +kernel
theorem dX12_reading_20 : decode cX12_reading 20 = .ok (.iconst 1, 1) := by decide +kernel
theorem dX12_reading_21 : decode cX12_reading 21 = .ok (.goto 4, 3) := by decide +kernel
theorem dX12_reading_24 : decode cX12_reading 24 = .ok (.iconst 0, 1) := by decide +kernel
theorem dX12_reading_25 : decode cX12_reading 25 = .ok (.invokevirtual 382, 3) := by decide +kernel
theorem dX12_reading_28 : decode cX12_reading 28 = .ok (.ifCond .ne 4, 3) := by decide +kernel
theorem dX12_reading_31 : decode cX12_reading 31 = .ok (.return_, 1) := by decide +kernel
theorem dX12_reading_32 : decode cX12_reading 32 = .ok (.aload_n 0, 1) := by decide +kernel
theorem dX12_reading_33 : decode cX12_reading 33 = .ok (.iload_n 1, 1) := by decide +kernel
theorem dX12_reading_34 : decode cX12_reading 34 = .ok (.putfield 121, 3) := by decide +kernel
theorem dX12_reading_37 : decode cX12_reading 37 = .ok (.aload_n 0, 1) := by decide +kernel
theorem dX12_reading_38 : decode cX12_reading 38 = .ok (.getfield 96, 3) := by decide +kernel
theorem dX12_reading_41 : decode cX12_reading 41 = .ok (.iload_n 2, 1) := by decide +kernel
theorem dX12_reading_42 : decode cX12_reading 42 = .ok (.aload_n 0, 1) := by decide +kernel
theorem dX12_reading_43 : decode cX12_reading 43 = .ok (.getfield 115, 3) := by decide +kernel
theorem dX12_reading_46 : decode cX12_reading 46 = .ok (.iastore, 1) := by decide +kernel
theorem dX12_reading_47 : decode cX12_reading 47 = .ok (.aload_n 0, 1) := by decide +kernel
theorem dX12_reading_48 : decode cX12_reading 48 = .ok (.iload_n 1, 1) := by decide +kernel
theorem dX12_reading_49 : decode cX12_reading 49 = .ok (.iconst 1, 1) := by decide +kernel
theorem dX12_reading_50 : decode cX12_reading 50 = .ok (.if_icmp .ne 7, 3) := by decide +kernel
theorem dX12_reading_53 : decode cX12_reading 53 = .ok (.iconst 1, 1) := by decide +kernel
theorem dX12_reading_54 : decode cX12_reading 54 = .ok (.goto 4, 3) := by decide +kernel
theorem dX12_reading_57 : decode cX12_reading 57 = .ok (.iconst 0, 1) := by decide +kernel
theorem dX12_reading_58 : decode cX12_reading 58 = .ok (.invokevirtual 394, 3) := by decide +kernel
theorem dX12_reading_61 : decode cX12_reading 61 = .ok (.aload_n 0, 1) := by decide +kernel
theorem dX12_reading_62 : decode cX12_reading 62 = .ok (.getfield 99, 3) := by decide +kernel
theorem dX12_reading_65 : decode cX12_reading 65 = .ok (.iload_n 2, 1) := by decide +kernel
theorem dX12_reading_66 : decode cX12_reading 66 = .ok (.aload_n 0, 1) := by decide +kernel
theorem dX12_reading_67 : decode cX12_reading 67 = .ok (.getfield 115, 3) := by decide +kernel
theorem dX12_reading_70 : decode cX12_reading 70 = .ok (.iastore, 1) := by decide +kernel
theorem dX12_reading_71 : decode cX12_reading 71 = .ok (.return_, 1) := by decide +kernel
theorem dX12_statement_0 : decode cX12_statement 0 = .ok (.aload_n 0, 1) := by decide +kernel
theorem dX12_statement_1 : decode cX12_statement 1 = .ok (.invokevirtual 266, 3) := by decide +kernel
theorem dX12_statement_4 : decode cX12_statement 4 = .ok (.aload_n 0, 1) := by decide +kernel
theorem dX12_statement_5 : decode cX12_statement 5 = .ok (.getfield 36, 3) := by decide +kernel
theorem dX12_statement_8 : decode cX12_statement 8 = .ok (.ifCond .le 4, 3) := by decide +kernel
theorem dX12_statement_11 : decode cX12_statement 11 = .ok (.return_, 1) := by decide +kernel
theorem dX12_statement_12 : decode cX12_statement 12 = .ok (.aload_n 0, 1) := by decide +kernel
theorem dX12_statement_13 : decode cX12_statement 13 = .ok (.ldc2_w 279, 3) := by decide +kernel
theorem dX12_statement_16 : decode cX12_statement 16 = .ok (.invokevirtual 349, 3) := by decide +kernel
theorem dX12_statement_19 : decode cX12_statement 19 = .ok (.ifCond .eq 30, 3) := by decide +kernel
theorem dX12_statement_22 : decode cX12_statement 22 = .ok (.aload_n 0, 1) := by decide +kernel
theorem dX12_statement_23 : decode cX12_statement 23 = .ok (.getfield 60, 3) := by decide +kernel
theorem dX12_statement_26 : decode cX12_statement 26 = .ok (.aload_n 0, 1) := by decide +kernel
theorem dX12_statement_27 : decode cX12_statement 27 = .ok (.getfield 118, 3) := by decide +kernel
theorem dX12_statement_30 : decode cX12_statement 30 = .ok (.aload_n 0, 1) := by decide +kernel
theorem dX12_statement_31 : decode cX12_statement 31 = .ok (.aload_n 0, 1) := by decide +kernel
theorem dX12_statement_32 : decode cX12_statement 32 = .ok (.getfield 54, 3) := by decide +kernel
theorem dX12_statement_35 : decode cX12_statement 35 = .ok (.aload_n 0, 1) := by decide +kernel
theorem dX12_statement_36 : decode cX12_statement 36 = .ok (.getfield 118, 3) := by decide +kernel
theorem dX12_statement_39 : decode cX12_statement 39 = .ok (.iaload, 1) := by decide +kernel
theorem dX12_statement_40 : decode cX12_statement 40 = .ok (.iconst 1, 1) := by decide +kernel
theorem dX12_statement_41 : decode cX12_statement 41 = .ok (.isub, 1) := by decide +kernel
theorem dX12_statement_42 : decode cX12_statement 42 = .ok (.invokevirtual 398, 3) := by decide +kernel
theorem dX12_statement_45 : decode cX12_statement 45 = .ok (.iastore, 1) := by decide +kernel
theorem dX12_statement_46 : decode cX12_statement 46 = .ok (.goto 190, 3) := by decide +kernel
theorem dX12_statement_49 : decode cX12_statement 49 = .ok (.aload_n 0, 1) := by decide +kernel
theorem dX12_statement_50 : decode cX12_statement 50 = .ok (.ldc2_w 281, 3) := by decide +kernel
theorem dX12_statement_53 : decode cX12_statement 53 = .ok (.invokevirtual 349, 3) := by decide +kernel
theorem dX12_statement_56 : decode cX12_statement 56 = .ok (.ifCond .eq 21, 3) := by decide +kernel
theorem dX12_statement_59 : decode cX12_statement 59 = .ok (.aload_n 0, 1) := by decide +kernel
theorem dX12_statement_60 : decode cX12_statement 60 = .ok (.getfield 63, 3) := by decide +kernel
theorem dX12_statement_63 : decode cX12_statement 63 = .ok (.aload_n 0, 1) := by decide +kernel
theorem dX12_statement_64 : decode cX12_statement 64 = .ok (.getfield 118, 3) := by decide +kernel
theorem dX12_statement_67 : decode cX12_statement 67 = .ok (.aload_n 0, 1) := by decide +kernel
theorem dX12_statement_68 : decode cX12_statement 68 = .ok (.bipush 20, 2) := by decide +kernel
theorem dX12_statement_70 : decode cX12_statement 70 = .ok (.invokevirtual 398, 3) := by decide +kernel
theorem dX12_statement_73 : decode cX12_statement 73 = .ok (.iastore, 1) := by decide +kernel
theorem dX12_statement_74 : decode cX12_statement 74 = .ok (.goto 162, 3) := by decide +kernel
theorem dX12_statement_77 : decode cX12_statement 77 = .ok (.aload_n 0, 1) := by decide +kernel
theorem dX12_statement_78 : decode cX12_statement 78 = .ok (.ldc2_w 283, 3) := by decide +kernel
theorem dX12_statement_81 : decode cX12_statement 81 = .ok (.invokevirtual 349, 3) := by decide +kernel
theorem dX12_statement_84 : decode cX12_statement 84 = .ok (.ifCond .eq 21, 3) := by decide +kernel
theorem dX12_statement_87 : decode cX12_statement 87 = .ok (.aload_n 0, 1) := by decide +kernel
theorem dX12_statement_88 : decode cX12_statement 88 = .ok (.getfield 66, 3) := by decide +kernel
theorem dX12_statement_91 : decode cX12_statement 91 = .ok (.aload_n 0, 1) := by decide +kernel
theorem dX12_statement_92 : decode cX12_statement 92 = .ok (.getfield 118, 3) := by decide +kernel
theorem dX12_statement_95 : decode cX12_statement 95 = .ok (.aload_n 0, 1) := by decide +kernel
theorem dX12_statement_96 : decode cX12_statement 96 = .ok (.bipush 100, 2) := by decide +kernel
theorem dX12_statement_98 : decode cX12_statement 98 = .ok (.invokevirtual 398, 3) := by decide +kernel
theorem dX12_statement_101 : decode cX12_statement 101 = .ok (.iastore, 1) := by decide +kernel
theorem dX12_statement_102 : decode cX12_statement 102 = .ok (.goto 134, 3) := by decide +kernel
theorem dX12_statement_105 : decode cX12_statement 105 = .ok (.aload_n 0, 1) := by decide +kernel
theorem dX12_statement_106 : decode cX12_statement 106 = .ok (.ldc2_w 285, 3) := by decide +kernel
theorem dX12_statement_109 : decode cX12_statement 109 = .ok (.invokevirtual 349, 3) := by decide +kernel
theorem dX12_statement_112 : decode cX12_statement 112 = .ok (.ifCond .eq 10, 3) := by decide +kernel
theorem dX12_statement_115 : decode cX12_statement 115 = .ok (.aload_n 0, 1) := by decide +kernel
theorem dX12_statement_116 : decode cX12_statement 116 = .ok (.invokevirtual 401, 3) := by decide +kernel
theorem dX12_statement_119 : decode cX12_statement 119 = .ok (.goto 117, 3) := by decide +kernel
theorem dX12_statement_122 : decode cX12_statement 122 = .ok (.aload_n 0, 1) := by decide +kernel
theorem dX12_statement_123 : decode cX12_statement 123 = .ok (.ldc2_w 287, 3) := by decide +kernel
theorem dX12_statement_126 : decode cX12_statement 126 = .ok (.invokevirtual 349, 3) := by decide +kernel
theorem dX12_statement_129 : decode cX12_statement 129 = .ok (.ifCond .eq 10, 3) := by decide +kernel
theorem dX12_statement_132 : decode cX12_statement 132 = .ok (.aload_n 0, 1) := by decide +kernel
theorem dX12_statement_133 : decode cX12_statement 133 = .ok (.invokevirtual 404, 3) := by decide +kernel
theorem dX12_statement_136 : decode cX12_statement 136 = .ok (.goto 100, 3) := by decide +kernel
theorem dX12_statement_139 : decode cX12_statement 139 = .ok (.aload_n 0, 1) := by decide +kernel
theorem dX12_statement_140 : decode cX12_statement 140 = .ok (.ldc2_w 289, 3) := by decide +kernel
theorem dX12_statement_143 : decode cX12_statement 143 = .ok (.invokevirtual 349, 3) := by decide +kernel
theorem dX12_statement_146 : decode cX12_statement 146 = .ok (.ifCond .eq 10, 3) := by decide +kernel
theorem dX12_statement_149 : decode cX12_statement 149 = .ok (.aload_n 0, 1) := by decide +kernel
theorem dX12_statement_150 : decode cX12_statement 150 = .ok (.invokevirtual 407, 3) := by decide +kernel
theorem dX12_statement_153 : decode cX12_statement 153 = .ok (.goto 83, 3) := by decide +kernel
theorem dX12_statement_156 : decode cX12_statement 156 = .ok (.aload_n 0, 1) := by decide +kernel
theorem dX12_statement_157 : decode cX12_statement 157 = .ok (.ldc2_w 293, 3) := by decide +kernel
theorem dX12_statement_160 : decode cX12_statement 160 = .ok (.invokevirtual 349, 3) := by decide +kernel
theorem dX12_statement_163 : decode cX12_statement 163 = .ok (.ifCond .eq 10, 3) := by decide +kernel
theorem dX12_statement_166 : decode cX12_statement 166 = .ok (.aload_n 0, 1) := by decide +kernel
theorem dX12_statement_167 : decode cX12_statement 167 = .ok (.invokevirtual 410, 3) := by decide +kernel
theorem dX12_statement_170 : decode cX12_statement 170 = .ok (.goto 66, 3) := by decide +kernel
theorem dX12_statement_173 : decode cX12_statement 173 = .ok (.aload_n 0, 1) := by decide +kernel
theorem dX12_statement_174 : decode cX12_statement 174 = .ok (.ldc2_w 299, 3) := by decide +kernel
theorem dX12_statement_177 : decode cX12_statement 177 = .ok (.invokevirtual 349, 3) := by decide +kernel
theorem dX12_statement_180 : decode cX12_statement 180 = .ok (.ifCond .eq 11, 3) := by decide +kernel
theorem dX12_statement_183 : decode cX12_statement 183 = .ok (.aload_n 0, 1) := by decide +kernel
theorem dX12_statement_184 : decode cX12_statement 184 = .ok (.iconst 0, 1) := by decide +kernel
theorem dX12_statement_185 : decode cX12_statement 185 = .ok (.invokevirtual 413, 3) := by decide +kernel
theorem dX12_statement_188 : decode cX12_statement 188 = .ok (.goto 48, 3) := by decide +kernel
theorem dX12_statement_191 : decode cX12_statement 191 = .ok (.aload_n 0, 1) := by decide +kernel
theorem dX12_statement_192 : decode cX12_statement 192 = .ok (.ldc2_w 301, 3) := by decide +kernel
theorem dX12_statement_195 : decode cX12_statement 195 = .ok (.invokevirtual 349, 3) := by decide +kernel
theorem dX12_statement_198 : decode cX12_statement 198 = .ok (.ifCond .eq 11, 3) := by decide +kernel
theorem dX12_statement_201 : decode cX12_statement 201 = .ok (.aload_n 0, 1) := by decide +kernel
theorem dX12_statement_202 : decode cX12_statement 202 = .ok (.iconst 1, 1) := by decide +kernel
theorem dX12_statement_203 : decode cX12_statement 203 = .ok (.invokevirtual 413, 3) := by decide +kernel
theorem dX12_statement_206 : decode cX12_statement 206 = .ok (.goto 30, 3) := by decide +kernel
theorem dX12_statement_209 : decode cX12_statement 209 = .ok (.aload_n 0, 1) := by decide +kernel
theorem dX12_statement_210 : decode cX12_statement 210 = .ok (.ldc2_w 303, 3) := by decide +kernel
theorem dX12_statement_213 : decode cX12_statement 213 = .ok (.invokevirtual 349, 3) := by decide +kernel
theorem dX12_statement_216 : decode cX12_statement 216 = .ok (.ifCond .eq 11, 3) := by decide +kernel
theorem dX12_statement_219 : decode cX12_statement 219 = .ok (.aload_n 0, 1) := by decide +kernel
theorem dX12_statement_220 : decode cX12_statement 220 = .ok (.iconst 2, 1) := by decide +kernel
theorem dX12_statement_221 : decode cX12_statement 221 = .ok (.invokevirtual 413, 3) := by decide +kernel
theorem dX12_statement_224 : decode cX12_statement 224 = .ok (.goto 12, 3) := by decide +kernel
theorem dX12_statement_227 : decode cX12_statement 227 = .ok (.aload_n 0, 1) := by decide +kernel
theorem dX12_statement_228 : decode cX12_statement 228 = .ok (.iconst 1, 1) := by decide +kernel
theorem dX12_statement_229 : decode cX12_statement 229 = .ok (.aload_n 0, 1) := by decide +kernel
theorem dX12_statement_230 : decode cX12_statement 230 = .ok (.getfield 23, 3) := by decide +kernel
theorem dX12_statement_233 : decode cX12_statement 233 = .ok (.invokevirtual 255, 3) := by decide +kernel
theorem dX12_statement_236 : decode cX12_statement 236 = .ok (.return_, 1) := by decide +kernel
theorem dX12_finishes_0 : decode cX12_finishes 0 = .ok (.aload_n 0, 1) := by decide +kernel
theorem dX12_finishes_1 : decode cX12_finishes 1 = .ok (.invokevirtual 266, 3) := by decide +kernel
theorem dX12_finishes_4 : decode cX12_finishes 4 = .ok (.aload_n 0, 1) := by decide +kernel
theorem dX12_finishes_5 : decode cX12_finishes 5 = .ok (.getfield 36, 3) := by decide +kernel
theorem dX12_finishes_8 : decode cX12_finishes 8 = .ok (.ifCond .le 4, 3) := by decide +kernel
theorem dX12_finishes_11 : decode cX12_finishes 11 = .ok (.return_, 1) := by decide +kernel
theorem dX12_finishes_12 : decode cX12_finishes 12 = .ok (.aload_n 0, 1) := by decide +kernel
theorem dX12_finishes_13 : decode cX12_finishes 13 = .ok (.getfield 26, 3) := by decide +kernel
theorem dX12_finishes_16 : decode cX12_finishes 16 = .ok (.istore_n 2, 1) := by decide +kernel
theorem dX12_finishes_17 : decode cX12_finishes 17 = .ok (.iload_n 2, 1) := by decide +kernel
theorem dX12_finishes_18 : decode cX12_finishes 18 = .ok (.aload_n 0, 1) := by decide +kernel
theorem dX12_finishes_19 : decode cX12_finishes 19 = .ok (.getfield 17, 3) := by decide +kernel
theorem dX12_finishes_22 : decode cX12_finishes 22 = .ok (.if_icmp .ge 31, 3) := by decide +kernel
theorem dX12_finishes_25 : decode cX12_finishes 25 = .ok (.aload_n 0, 1) := by decide +kernel
theorem dX12_finishes_26 : decode cX12_finishes 26 = .ok (.getfield 7, 3) := by decide +kernel
theorem dX12_finishes_29 : decode cX12_finishes 29 = .ok (.iload_n 2, 1) := by decide +kernel
theorem dX12_finishes_30 : decode cX12_finishes 30 = .ok (.iaload, 1) := by decide +kernel
theorem dX12_finishes_31 : decode cX12_finishes 31 = .ok (.bipush 32, 2) := by decide +kernel
theorem dX12_finishes_33 : decode cX12_finishes 33 = .ok (.if_icmp .eq 14, 3) := by decide +kernel
theorem dX12_finishes_36 : decode cX12_finishes 36 = .ok (.aload_n 0, 1) := by decide +kernel
theorem dX12_finishes_37 : decode cX12_finishes 37 = .ok (.getfield 7, 3) := by decide +kernel
theorem dX12_finishes_40 : decode cX12_finishes 40 = .ok (.iload_n 2, 1) := by decide +kernel
theorem dX12_finishes_41 : decode cX12_finishes 41 = .ok (.iaload, 1) := by decide +kernel
theorem dX12_finishes_42 : decode cX12_finishes 42 = .ok (.bipush 10, 2) := by decide +kernel
theorem dX12_finishes_44 : decode cX12_finishes 44 = .ok (.if_icmp .ne 9, 3) := by decide +kernel
theorem dX12_finishes_47 : decode cX12_finishes 47 = .ok (.iinc 2 1, 3) := by decide +kernel
theorem dX12_finishes_50 : decode cX12_finishes 50 = .ok (.goto (-33), 3) := by decide +kernel
theorem dX12_finishes_53 : decode cX12_finishes 53 = .ok (.aload_n 0, 1) := by decide +kernel
theorem dX12_finishes_54 : decode cX12_finishes 54 = .ok (.bipush 59, 2) := by decide +kernel
theorem dX12_finishes_56 : decode cX12_finishes 56 = .ok (.invokevirtual 269, 3) := by decide +kernel
theorem dX12_finishes_59 : decode cX12_finishes 59 = .ok (.ifCond .eq 24, 3) := by decide +kernel
theorem dX12_finishes_62 : decode cX12_finishes 62 = .ok (.iload_n 1, 1) := by decide +kernel
theorem dX12_finishes_63 : decode cX12_finishes 63 = .ok (.bipush 80, 2) := by decide +kernel
theorem dX12_finishes_65 : decode cX12_finishes 65 = .ok (.if_icmp .ne 18, 3) := by decide +kernel
theorem dX12_finishes_68 : decode cX12_finishes 68 = .ok (.iload_n 2, 1) := by decide +kernel
theorem dX12_finishes_69 : decode cX12_finishes 69 = .ok (.aload_n 0, 1) := by decide +kernel
theorem dX12_finishes_70 : decode cX12_finishes 70 = .ok (.getfield 17, 3) := by decide +kernel
theorem dX12_finishes_73 : decode cX12_finishes 73 = .ok (.if_icmp .ge 10, 3) := by decide +kernel
theorem dX12_finishes_76 : decode cX12_finishes 76 = .ok (.aload_n 0, 1) := by decide +kernel
theorem dX12_finishes_77 : decode cX12_finishes 77 = .ok (.bipush 6, 2) := by decide +kernel
theorem dX12_finishes_79 : decode cX12_finishes 79 = .ok (.iload_n 2, 1) := by decide +kernel
theorem dX12_finishes_80 : decode cX12_finishes 80 = .ok (.invokevirtual 255, 3) := by decide +kernel
theorem dX12_finishes_83 : decode cX12_finishes 83 = .ok (.aload_n 0, 1) := by decide +kernel
theorem dX12_finishes_84 : decode cX12_finishes 84 = .ok (.bipush 59, 2) := by decide +kernel
theorem dX12_finishes_86 : decode cX12_finishes 86 = .ok (.invokevirtual 416, 3) := by decide +kernel
theorem dX12_finishes_89 : decode cX12_finishes 89 = .ok (.return_, 1) := by decide +kernel
theorem wB_1246 : Cond.code yX12_isOwn cX12_isOwn 3 (some .boolean) ∈ dgB := List.mem_filter.mpr ⟨tbl_8 _ (List.mem_of_getElem? (i := 24) rfl), rfl⟩
theorem wB_1247 : Cond.methodLink RX12 368 yX12_isOwn ∈ dgB := List.mem_filter.mpr ⟨tbl_8 _ (List.mem_of_getElem? (i := 21) (by decide +kernel)), by decide +kernel⟩
theorem wB_1248 : Cond.instanceMethod yX12_isOwn ∈ dgB := List.mem_filter.mpr ⟨tbl_8 _ (List.mem_of_getElem? (i := 23) (by decide +kernel)), by decide +kernel⟩
theorem wB_1249 : Cond.selects RX12 yX12_isOwn yX12_isOwn ∈ dgB := List.mem_filter.mpr ⟨List.mem_of_getElem? (i := 100) (by decide +kernel), by decide +kernel⟩
theorem wB_1250 : Cond.code yX12_isNamed cX12_isNamed 4 (some .boolean) ∈ dgB := List.mem_filter.mpr ⟨tbl_8 _ (List.mem_of_getElem? (i := 48) rfl), rfl⟩
theorem wB_1251 : Cond.methodLink RX12 371 yX12_isNamed ∈ dgB := List.mem_filter.mpr ⟨tbl_8 _ (List.mem_of_getElem? (i := 45) (by decide +kernel)), by decide +kernel⟩
theorem wB_1252 : Cond.instanceMethod yX12_isNamed ∈ dgB := List.mem_filter.mpr ⟨tbl_8 _ (List.mem_of_getElem? (i := 47) (by decide +kernel)), by decide +kernel⟩
theorem wB_1253 : Cond.selects RX12 yX12_isNamed yX12_isNamed ∈ dgB := List.mem_filter.mpr ⟨List.mem_of_getElem? (i := 101) (by decide +kernel), by decide +kernel⟩
theorem wB_1254 : Cond.code yX12_number cX12_number 4 (some .int) ∈ dgB := List.mem_filter.mpr ⟨tbl_7 _ (List.mem_of_getElem? (i := 211) rfl), rfl⟩
theorem wB_1255 : Cond.methodLink RX12 374 yX12_number ∈ dgB := List.mem_filter.mpr ⟨tbl_7 _ (List.mem_of_getElem? (i := 208) (by decide +kernel)), by decide +kernel⟩
theorem wB_1256 : Cond.instanceMethod yX12_number ∈ dgB := List.mem_filter.mpr ⟨tbl_7 _ (List.mem_of_getElem? (i := 210) (by decide +kernel)), by decide +kernel⟩
theorem wB_1257 : Cond.selects RX12 yX12_number yX12_number ∈ dgB := List.mem_filter.mpr ⟨List.mem_of_getElem? (i := 89) (by decide +kernel), by decide +kernel⟩
theorem wB_1258 : Cond.code yX12_must_ cX12_must_ 3 none ∈ dgB := List.mem_filter.mpr ⟨tbl_7 _ (List.mem_of_getElem? (i := 195) rfl), rfl⟩
theorem wB_1259 : Cond.methodLink RX12 378 yX12_must_ ∈ dgB := List.mem_filter.mpr ⟨tbl_7 _ (List.mem_of_getElem? (i := 192) (by decide +kernel)), by decide +kernel⟩
theorem wB_1260 : Cond.instanceMethod yX12_must_ ∈ dgB := List.mem_filter.mpr ⟨tbl_7 _ (List.mem_of_getElem? (i := 194) (by decide +kernel)), by decide +kernel⟩
theorem wB_1261 : Cond.selects RX12 yX12_must_ yX12_must_ ∈ dgB := List.mem_filter.mpr ⟨List.mem_of_getElem? (i := 85) (by decide +kernel), by decide +kernel⟩
theorem wB_1262 : Cond.code yX12_isCounted cX12_isCounted 2 (some .boolean) ∈ dgB := List.mem_filter.mpr ⟨tbl_8 _ (List.mem_of_getElem? (i := 0) rfl), rfl⟩
theorem wB_1263 : Cond.methodLink RX12 382 yX12_isCounted ∈ dgB := List.mem_filter.mpr ⟨tbl_7 _ (List.mem_of_getElem? (i := 237) (by decide +kernel)), by decide +kernel⟩
theorem wB_1264 : Cond.instanceMethod yX12_isCounted ∈ dgB := List.mem_filter.mpr ⟨tbl_7 _ (List.mem_of_getElem? (i := 239) (by decide +kernel)), by decide +kernel⟩
theorem wB_1265 : Cond.selects RX12 yX12_isCounted yX12_isCounted ∈ dgB := List.mem_filter.mpr ⟨List.mem_of_getElem? (i := 95) (by decide +kernel), by decide +kernel⟩
theorem wB_1266 : Cond.code yX12_cellTold cX12_cellTold 3 (some .int) ∈ dgB := List.mem_filter.mpr ⟨tbl_8 _ (List.mem_of_getElem? (i := 11) rfl), rfl⟩
theorem wB_1267 : Cond.methodLink RX12 386 yX12_cellTold ∈ dgB := List.mem_filter.mpr ⟨tbl_8 _ (List.mem_of_getElem? (i := 8) (by decide +kernel)), by decide +kernel⟩
theorem wB_1268 : Cond.instanceMethod yX12_cellTold ∈ dgB := List.mem_filter.mpr ⟨tbl_8 _ (List.mem_of_getElem? (i := 10) (by decide +kernel)), by decide +kernel⟩
theorem wB_1269 : Cond.selects RX12 yX12_cellTold yX12_cellTold ∈ dgB := List.mem_filter.mpr ⟨List.mem_of_getElem? (i := 97) (by decide +kernel), by decide +kernel⟩
theorem wB_1270 : Cond.code yX12_fresh cX12_fresh 3 (some .long) ∈ dgB := List.mem_filter.mpr ⟨tbl_8 _ (List.mem_of_getElem? (i := 20) rfl), rfl⟩
theorem wB_1271 : Cond.methodLink RX12 390 yX12_fresh ∈ dgB := List.mem_filter.mpr ⟨tbl_8 _ (List.mem_of_getElem? (i := 17) (by decide +kernel)), by decide +kernel⟩
theorem wB_1272 : Cond.instanceMethod yX12_fresh ∈ dgB := List.mem_filter.mpr ⟨tbl_8 _ (List.mem_of_getElem? (i := 19) (by decide +kernel)), by decide +kernel⟩
theorem wB_1273 : Cond.selects RX12 yX12_fresh yX12_fresh ∈ dgB := List.mem_filter.mpr ⟨List.mem_of_getElem? (i := 99) (by decide +kernel), by decide +kernel⟩
theorem wB_1274 : Cond.code yX12_reads cX12_reads 3 none ∈ dgB := List.mem_filter.mpr ⟨tbl_8 _ (List.mem_of_getElem? (i := 68) rfl), rfl⟩
theorem wB_1275 : Cond.methodLink RX12 394 yX12_reads ∈ dgB := List.mem_filter.mpr ⟨tbl_8 _ (List.mem_of_getElem? (i := 65) (by decide +kernel)), by decide +kernel⟩
theorem wB_1276 : Cond.instanceMethod yX12_reads ∈ dgB := List.mem_filter.mpr ⟨tbl_8 _ (List.mem_of_getElem? (i := 67) (by decide +kernel)), by decide +kernel⟩
theorem wB_1277 : Cond.selects RX12 yX12_reads yX12_reads ∈ dgB := List.mem_filter.mpr ⟨List.mem_of_getElem? (i := 106) (by decide +kernel), by decide +kernel⟩
theorem wB_1278 : Cond.code yX12_reading cX12_reading 3 none ∈ dgB := List.mem_filter.mpr ⟨tbl_8 _ (List.mem_of_getElem? (i := 64) rfl), rfl⟩
theorem wB_1279 : Cond.methodLink RX12 413 yX12_reading ∈ dgB := List.mem_filter.mpr ⟨tbl_8 _ (List.mem_of_getElem? (i := 61) (by decide +kernel)), by decide +kernel⟩
theorem wB_1280 : Cond.instanceMethod yX12_reading ∈ dgB := List.mem_filter.mpr ⟨tbl_8 _ (List.mem_of_getElem? (i := 63) (by decide +kernel)), by decide +kernel⟩
theorem wB_1281 : Cond.selects RX12 yX12_reading yX12_reading ∈ dgB := List.mem_filter.mpr ⟨List.mem_of_getElem? (i := 105) (by decide +kernel), by decide +kernel⟩
theorem wB_1282 : Cond.code yX12_ordering cX12_ordering 2 none ∈ dgB := List.mem_filter.mpr ⟨tbl_8 _ (List.mem_of_getElem? (i := 60) rfl), rfl⟩
theorem wB_1283 : Cond.methodLink RX12 410 yX12_ordering ∈ dgB := List.mem_filter.mpr ⟨tbl_8 _ (List.mem_of_getElem? (i := 57) (by decide +kernel)), by decide +kernel⟩
theorem wB_1284 : Cond.instanceMethod yX12_ordering ∈ dgB := List.mem_filter.mpr ⟨tbl_8 _ (List.mem_of_getElem? (i := 59) (by decide +kernel)), by decide +kernel⟩
theorem wB_1285 : Cond.selects RX12 yX12_ordering yX12_ordering ∈ dgB := List.mem_filter.mpr ⟨List.mem_of_getElem? (i := 104) (by decide +kernel), by decide +kernel⟩
theorem wB_1286 : Cond.code yX12_digging cX12_digging 3 none ∈ dgB := List.mem_filter.mpr ⟨tbl_8 _ (List.mem_of_getElem? (i := 56) rfl), rfl⟩
theorem wB_1287 : Cond.methodLink RX12 407 yX12_digging ∈ dgB := List.mem_filter.mpr ⟨tbl_8 _ (List.mem_of_getElem? (i := 53) (by decide +kernel)), by decide +kernel⟩
theorem wB_1288 : Cond.instanceMethod yX12_digging ∈ dgB := List.mem_filter.mpr ⟨tbl_8 _ (List.mem_of_getElem? (i := 55) (by decide +kernel)), by decide +kernel⟩
theorem wB_1289 : Cond.selects RX12 yX12_digging yX12_digging ∈ dgB := List.mem_filter.mpr ⟨List.mem_of_getElem? (i := 103) (by decide +kernel), by decide +kernel⟩
theorem wB_1290 : Cond.code yX12_mining cX12_mining 1 none ∈ dgB := List.mem_filter.mpr ⟨tbl_8 _ (List.mem_of_getElem? (i := 16) rfl), rfl⟩
theorem wB_1291 : Cond.methodLink RX12 404 yX12_mining ∈ dgB := List.mem_filter.mpr ⟨tbl_8 _ (List.mem_of_getElem? (i := 13) (by decide +kernel)), by decide +kernel⟩
theorem wB_1292 : Cond.instanceMethod yX12_mining ∈ dgB := List.mem_filter.mpr ⟨tbl_8 _ (List.mem_of_getElem? (i := 15) (by decide +kernel)), by decide +kernel⟩
theorem wB_1293 : Cond.selects RX12 yX12_mining yX12_mining ∈ dgB := List.mem_filter.mpr ⟨List.mem_of_getElem? (i := 98) (by decide +kernel), by decide +kernel⟩
theorem wB_1294 : Cond.code yX12_grading cX12_grading 3 none ∈ dgB := List.mem_filter.mpr ⟨tbl_8 _ (List.mem_of_getElem? (i := 7) rfl), rfl⟩
theorem wB_1295 : Cond.methodLink RX12 401 yX12_grading ∈ dgB := List.mem_filter.mpr ⟨tbl_8 _ (List.mem_of_getElem? (i := 4) (by decide +kernel)), by decide +kernel⟩
theorem wB_1296 : Cond.instanceMethod yX12_grading ∈ dgB := List.mem_filter.mpr ⟨tbl_8 _ (List.mem_of_getElem? (i := 6) (by decide +kernel)), by decide +kernel⟩
theorem wB_1297 : Cond.selects RX12 yX12_grading yX12_grading ∈ dgB := List.mem_filter.mpr ⟨List.mem_of_getElem? (i := 96) (by decide +kernel), by decide +kernel⟩
theorem wB_1298 : Cond.code yX12_telling cX12_telling 2 (some .int) ∈ dgB := List.mem_filter.mpr ⟨tbl_7 _ (List.mem_of_getElem? (i := 236) rfl), rfl⟩
theorem wB_1299 : Cond.methodLink RX12 398 yX12_telling ∈ dgB := List.mem_filter.mpr ⟨tbl_7 _ (List.mem_of_getElem? (i := 233) (by decide +kernel)), by decide +kernel⟩
theorem wB_1300 : Cond.instanceMethod yX12_telling ∈ dgB := List.mem_filter.mpr ⟨tbl_7 _ (List.mem_of_getElem? (i := 235) (by decide +kernel)), by decide +kernel⟩
theorem wB_1301 : Cond.selects RX12 yX12_telling yX12_telling ∈ dgB := List.mem_filter.mpr ⟨List.mem_of_getElem? (i := 94) (by decide +kernel), by decide +kernel⟩
theorem wB_1302 : Cond.code yX12_must cX12_must 2 none ∈ dgB := List.mem_filter.mpr ⟨tbl_7 _ (List.mem_of_getElem? (i := 227) rfl), rfl⟩
theorem wB_1303 : Cond.methodLink RX12 416 yX12_must ∈ dgB := List.mem_filter.mpr ⟨tbl_7 _ (List.mem_of_getElem? (i := 224) (by decide +kernel)), by decide +kernel⟩
theorem wB_1304 : Cond.instanceMethod yX12_must ∈ dgB := List.mem_filter.mpr ⟨tbl_7 _ (List.mem_of_getElem? (i := 226) (by decide +kernel)), by decide +kernel⟩
theorem wB_1305 : Cond.selects RX12 yX12_must yX12_must ∈ dgB := List.mem_filter.mpr ⟨List.mem_of_getElem? (i := 92) (by decide +kernel), by decide +kernel⟩
set_option maxHeartbeats 8000000 in
set_option maxRecDepth 100000 in
theorem c_m_isCounted (l : Launch) (g : Nat → ClassId) (D : va_G) (o : Nat) (S : dg_S) (a1 : Int32) (b_a1 : 0 ≤ (a1).toInt ∧ (a1).toInt ≤ 1) (sg : Int32) (f_sg : S.1 0 3 = .int sg) (b_sg : 0 ≤ (sg).toInt ∧ (sg).toInt ≤ 3) (sa : Int32) (f_sa : S.1 0 4 = .int sa) (b_sa : 0 ≤ (sa).toInt ∧ (sa).toInt ≤ 1600) (se : Int32) (f_se : S.1 0 5 = .int se) (b_se : 0 ≤ (se).toInt ∧ (se).toInt ≤ 1600) (sl : Int32) (f_sl : S.1 0 2 = .int sl) (b_sl : 0 ≤ (sl).toInt ∧ (sl).toInt ≤ 1600) (fk : Int32) (f_fk : S.1 0 8 = .int fk) (b_fk : 0 ≤ (fk).toInt ∧ (fk).toInt ≤ 6) (hlx : (sa).toInt ≤ (se).toInt ∧ (se).toInt ≤ (sl).toInt ∧ ((sg).toInt ≠ 0 → (sa).toInt + 1 ≤ (se).toInt)) (I : CM o S) (sz : Nat) : Met l yX12_isCounted (bw yX12_isCounted cX12_isCounted 2 (some .boolean)) ({ frames := 3, cells := 0, slots := 0, locals := 77 } : Room) (dk_Pc g D (dg_w g shM o rfM S) sz [.ref (o + 0), .int a1]) (va_Qi (fun (r : Int32) S' => CM o S' ∧ dg_sm shM [(0, 3), (0, 4), (0, 5), (0, 6), (0, 7), (0, 8), (0, 9), (0, 12)] [] S S' ∧ (0 ≤ (r).toInt ∧ (r).toInt ≤ 1) ∧ (∃ y9_3 y9_4 y9_5 y9_8 : Int32, S'.1 0 3 = .int y9_3 ∧ S'.1 0 4 = .int y9_4 ∧ S'.1 0 5 = .int y9_5 ∧ S'.1 0 8 = .int y9_8 ∧ (((y9_4).toInt ≤ (y9_5).toInt ∧ (y9_5).toInt ≤ (sl).toInt ∧ ((y9_3).toInt ≠ 0 → (y9_4).toInt + 1 ≤ (y9_5).toInt)) ∧ (sa).toInt ≤ (y9_4).toInt ∧ ((fk).toInt ≠ 0 → (y9_8).toInt ≠ 0) ∧ (((r).toInt = 1 → ((y9_8).toInt = 0 ∧ (fk).toInt = 0 ∧ (a1).toInt = 0 ∧ ((sg).toInt ≠ 0 → (sa).toInt + 1 ≤ (y9_4).toInt))) ∧ ((r).toInt = 0 → (y9_8).toInt ≠ 0)))) ∧ True) (dg_B g D shM o rfM) (dg_A o shM.length sz)) 0 0 (dg_A o shM.length sz) := by
  refine dg_met (cc := cX12_isCounted) (maxL := 2) (ret := (some .boolean)) (by decide) rfl (Nat.le_of_ble_eq_true rfl) ?_
  intro p e s m args below meth c A hAe harg hx hb hr hml hts hown hlocks hin hP K hS hA1 hA ST hsz ls hl
  rw [← hAe]
  have F : CallFix p m c cX12_isCounted 2 s args (bw yX12_isCounted cX12_isCounted 2 (some .boolean)) RX12 := ⟨hx, hb, hml, hown, hts⟩
  have hl : lv_has ls 2 [(0, .ref (o + 0)), (1, .int a1)] := hl
  have M_0 : dg_sm shM [(0, 3), (0, 4), (0, 5), (0, 6), (0, 7), (0, 8), (0, 9), (0, 12)] [] S S := dg_sm.rf
  obtain ⟨Q9, hQ9⟩ : ∃ Q : State → Prop, Q = MQ below (va_Qi (fun (r : Int32) S' => CM o S' ∧ dg_sm shM [(0, 3), (0, 4), (0, 5), (0, 6), (0, 7), (0, 8), (0, 9), (0, 12)] [] S S' ∧ (0 ≤ (r).toInt ∧ (r).toInt ≤ 1) ∧ (∃ y9_3 y9_4 y9_5 y9_8 : Int32, S'.1 0 3 = .int y9_3 ∧ S'.1 0 4 = .int y9_4 ∧ S'.1 0 5 = .int y9_5 ∧ S'.1 0 8 = .int y9_8 ∧ (((y9_4).toInt ≤ (y9_5).toInt ∧ (y9_5).toInt ≤ (sl).toInt ∧ ((y9_3).toInt ≠ 0 → (y9_4).toInt + 1 ≤ (y9_5).toInt)) ∧ (sa).toInt ≤ (y9_4).toInt ∧ ((fk).toInt ≠ 0 → (y9_8).toInt ≠ 0) ∧ (((r).toInt = 1 → ((y9_8).toInt = 0 ∧ (fk).toInt = 0 ∧ (a1).toInt = 0 ∧ ((sg).toInt ≠ 0 → (sa).toInt + 1 ≤ (y9_4).toInt))) ∧ ((r).toInt = 0 → (y9_8).toInt ≠ 0)))) ∧ True) (dg_B g D shM o rfM) A) args s 0 0 A := ⟨_, rfl⟩
  rw [← hQ9]
  obtain ⟨hlx_0, hlx_1, hlx_2⟩ := hlx
  refine lv_aload_n hx hb dX12_isCounted_0 rfl (lv_at hl 0 rfl) ?_
  refine dg_get (C := RX12) (T := TX12) (N := 77) hx hb hts (fun w h => bw_mem (wU_X12 w h)) hown K hP sM_0 rfl 8 (by decide) (hts _ (bw_mem wB_1133)) (fun _ h9 => h9) (v := .int fk) f_fk dX12_isCounted_1 ?_
  refine lv_if_ne (tgt := 21) hx hb dX12_isCounted_4 (by decide) (fun c_1 => ?_) (fun c_1 => ?_)
  · have jc_1 := dk_neqc (k := 0) (by decide +kernel) c_1
    have jbc_1 : 1 ≤ (fk).toInt := by omega
    clear jc_1
    refine lv_aload_n hx hb dX12_isCounted_21 rfl (lv_at hl 0 rfl) ?_
    refine dg_get (C := RX12) (T := TX12) (N := 77) hx hb hts (fun w h => bw_mem (wU_X12 w h)) hown K hP sM_0 rfl 8 (by decide) (hts _ (bw_mem wB_1133)) (fun _ h9 => h9) (v := .int fk) f_fk dX12_isCounted_22 ?_
    refine lv_if_ne (tgt := 32) hx hb dX12_isCounted_25 (by decide) (fun _ => ?_) (fun c => absurd c (fun z => absurd (dk_eqc (k := 0) (by decide +kernel) z) (by omega)))
    refine lv_aload_n hx hb dX12_isCounted_32 rfl (lv_at hl 0 rfl) ?_
    refine dg_get (C := RX12) (T := TX12) (N := 77) hx hb hts (fun w h => bw_mem (wU_X12 w h)) hown K hP sM_0 rfl 8 (by decide) (hts _ (bw_mem wB_1133)) (fun _ h9 => h9) (v := .int fk) f_fk dX12_isCounted_33 ?_
    refine lv_if_ne (tgt := 43) hx hb dX12_isCounted_36 (by decide) (fun _ => ?_) (fun c => absurd c (fun z => absurd (dk_eqc (k := 0) (by decide +kernel) z) (by omega)))
    refine lv_iconst (v := 0) hx hb dX12_isCounted_43 (by decide +kernel) ?_
    have hz_2 : (0 : Int32).toInt = 0 := by decide +kernel
    have hz_3 : (0 : Int32).toInt = 0 := by decide +kernel
    refine W.widen (k := 0) (n := 0) (Nat.le_of_ble_eq_true rfl) (Nat.le_of_ble_eq_true rfl) ?_
    rw [hQ9]
    exact dg_iret hx hb hr hlocks (by decide +kernel) hP hS ⟨I, M_0, (by decide +kernel), ⟨sg, sa, se, fk, f_sg, f_sa, f_se, f_fk, (by omega)⟩, trivial⟩ dX12_isCounted_44
  · have jc_1 := dk_eqc (k := 0) (by decide +kernel) c_1
    refine lv_iload_n hx hb dX12_isCounted_7 rfl (lv_at hl 1 rfl) ?_
    refine lv_if_eq (tgt := 21) hx hb dX12_isCounted_8 (by decide) (fun c_4 => ?_) (fun c_4 => ?_)
    · have jc_4 := dk_eqc (k := 0) (by decide +kernel) c_4
      refine lv_aload_n hx hb dX12_isCounted_21 rfl (lv_at hl 0 rfl) ?_
      refine dg_get (C := RX12) (T := TX12) (N := 77) hx hb hts (fun w h => bw_mem (wU_X12 w h)) hown K hP sM_0 rfl 8 (by decide) (hts _ (bw_mem wB_1133)) (fun _ h9 => h9) (v := .int fk) f_fk dX12_isCounted_22 ?_
      refine lv_if_ne (tgt := 32) hx hb dX12_isCounted_25 (by decide) (fun c => absurd (dk_eqp (k := 0) (by decide +kernel) (by omega)) c) (fun _ => ?_)
      refine lv_aload_n hx hb dX12_isCounted_28 rfl (lv_at hl 0 rfl) ?_
      refine dg_callv hS hA1 hA (va_runV (As := []) (rest := []) F (c_m_ahead l g D o S se f_se (by omega) sl f_sl (by omega) (by omega) I s.heap.size) (cwV 0 hts (bw_V wB_1161 wB_1162 wB_1163 wB_881 wB_1160) rfl rfl rfl (by decide +kernel) ⟨Nat.le_of_ble_eq_true rfl, Nat.le_of_ble_eq_true rfl⟩) (dg_preV sM_0 rfl K ST hP hS hA1 hA) rfl rfl hl.1 rfl (lv_room (Nat.le_of_ble_eq_true rfl)) dX12_isCounted_29 ⟨Nat.le_of_ble_eq_true rfl, Nat.le_of_ble_eq_true rfl⟩) (fun S_5 hw_5 H locs hP hS => ?_)
      obtain ⟨I_5, m_5, w_5_0, -⟩ := hw_5
      have M_5 := dg_sm.tr M_0 m_5 (by decide) (by decide)
      obtain ⟨y_6, y_7, y_8, f_y_6, f_y_7, f_y_8, w_5_0⟩ := w_5_0
      have w_5_0 : (se).toInt ≤ (y_7).toInt ∧ (y_7).toInt ≤ (y_8).toInt ∧ (y_8).toInt ≤ (sl).toInt ∧ ((y_6).toInt ≠ 0 → (y_7).toInt + 1 ≤ (y_8).toInt) := w_5_0
      obtain ⟨w_5_0_0, w_5_0_1, w_5_0_2, w_5_0_3⟩ := w_5_0
      have b_y_6 : 0 ≤ (y_6).toInt ∧ (y_6).toInt ≤ 3 := dg_I.intb (lo := 0) (hi := 3) I_5 sM_0 (by decide +kernel) f_y_6
      have b_y_7 : 0 ≤ (y_7).toInt ∧ (y_7).toInt ≤ 1600 := dg_I.intb (lo := 0) (hi := 1600) I_5 sM_0 (by decide +kernel) f_y_7
      have b_y_8 : 0 ≤ (y_8).toInt ∧ (y_8).toInt ≤ 1600 := dg_I.intb (lo := 0) (hi := 1600) I_5 sM_0 (by decide +kernel) f_y_8
      refine lv_aload_n hx hb dX12_isCounted_32 rfl (lv_at hl 0 rfl) ?_
      refine dg_get (C := RX12) (T := TX12) (N := 77) hx hb hts (fun w h => bw_mem (wU_X12 w h)) hown K hP sM_0 rfl 8 (by decide) (hts _ (bw_mem wB_1133)) (fun _ h9 => h9) (v := .int fk) ((m_5.1 0 8 _ sM_0 (by decide)).trans f_fk) dX12_isCounted_33 ?_
      refine lv_if_ne (tgt := 43) hx hb dX12_isCounted_36 (by decide) (fun c => absurd (dk_eqp (k := 0) (by decide +kernel) (by omega)) c) (fun _ => ?_)
      refine lv_iconst (v := 1) hx hb dX12_isCounted_39 (by decide +kernel) ?_
      refine lv_goto (tgt := 44) hx hb dX12_isCounted_40 (by decide) ?_
      have hz_9 : (1 : Int32).toInt = 1 := by decide +kernel
      have hz_10 : (1 : Int32).toInt = 1 := by decide +kernel
      refine W.widen (k := 0) (n := 0) (Nat.le_of_ble_eq_true rfl) (Nat.le_of_ble_eq_true rfl) ?_
      rw [hQ9]
      exact dg_iret hx hb hr hlocks (by decide +kernel) hP hS ⟨I_5, M_5, (by decide +kernel), ⟨y_6, y_7, y_8, fk, f_y_6, f_y_7, f_y_8, ((m_5.1 0 8 _ sM_0 (by decide)).trans f_fk), (by omega)⟩, trivial⟩ dX12_isCounted_44
    · have jc_4 := dk_neqc (k := 0) (by decide +kernel) c_4
      have jbc_4 : 1 ≤ (a1).toInt := by omega
      clear jc_4
      refine lv_aload_n hx hb dX12_isCounted_11 rfl (lv_at hl 0 rfl) ?_
      refine lv_bipush (v := 6) hx hb dX12_isCounted_12 (by decide +kernel) ?_
      refine lv_aload_n hx hb dX12_isCounted_14 rfl (lv_at hl 0 rfl) ?_
      refine dg_get (C := RX12) (T := TX12) (N := 77) hx hb hts (fun w h => bw_mem (wU_X12 w h)) hown K hP sM_0 rfl 4 (by decide) (hts _ (bw_mem wB_1145)) (fun _ h9 => h9) (v := .int sa) f_sa dX12_isCounted_15 ?_
      have hz_11 : (6 : Int32).toInt = 6 := by decide +kernel
      refine dg_callv hS hA1 hA (va_runV (As := [.int 6, .int sa]) (rest := []) F (c_m_blame l g D o S 6 (by decide +kernel) sa fk f_fk (by omega) I s.heap.size) (cwV 2 hts (bw_V wB_1137 wB_1138 wB_1139 wB_881 wB_1136) rfl rfl rfl (by decide +kernel) ⟨Nat.le_of_ble_eq_true rfl, Nat.le_of_ble_eq_true rfl⟩) (dg_preV sM_0 rfl K ST hP hS hA1 hA) rfl rfl hl.1 rfl (lv_room (Nat.le_of_ble_eq_true rfl)) dX12_isCounted_18 ⟨Nat.le_of_ble_eq_true rfl, Nat.le_of_ble_eq_true rfl⟩) (fun S_12 hw_12 H locs hP hS => ?_)
      obtain ⟨I_12, m_12, w_12_0, -⟩ := hw_12
      have M_12 := dg_sm.tr M_0 m_12 (by decide) (by decide)
      have hz_13 : (6 : Int32).toInt = 6 := by decide +kernel
      obtain ⟨y_14, f_y_14, w_12_0⟩ := w_12_0
      have w_12_0 : ((fk).toInt ≠ 0 → (y_14).toInt = (fk).toInt) ∧ ((fk).toInt = 0 → (y_14).toInt = ((6 : Int32)).toInt) := w_12_0
      obtain ⟨w_12_0_0, w_12_0_1⟩ := w_12_0
      clear w_12_0_0
      have w_12_0_1r := w_12_0_1 (by omega)
      clear w_12_0_1
      have b_y_14 : 0 ≤ (y_14).toInt ∧ (y_14).toInt ≤ 6 := dg_I.intb (lo := 0) (hi := 6) I_12 sM_0 (by decide +kernel) f_y_14
      have hbl_y_14 : 1 ≤ (y_14).toInt := by omega
      refine lv_aload_n hx hb dX12_isCounted_21 rfl (lv_at hl 0 rfl) ?_
      refine dg_get (C := RX12) (T := TX12) (N := 77) hx hb hts (fun w h => bw_mem (wU_X12 w h)) hown K hP sM_0 rfl 8 (by decide) (hts _ (bw_mem wB_1133)) (fun _ h9 => h9) (v := .int y_14) f_y_14 dX12_isCounted_22 ?_
      refine lv_if_ne (tgt := 32) hx hb dX12_isCounted_25 (by decide) (fun _ => ?_) (fun c => absurd c (fun z => absurd (dk_eqc (k := 0) (by decide +kernel) z) (by omega)))
      refine lv_aload_n hx hb dX12_isCounted_32 rfl (lv_at hl 0 rfl) ?_
      refine dg_get (C := RX12) (T := TX12) (N := 77) hx hb hts (fun w h => bw_mem (wU_X12 w h)) hown K hP sM_0 rfl 8 (by decide) (hts _ (bw_mem wB_1133)) (fun _ h9 => h9) (v := .int y_14) f_y_14 dX12_isCounted_33 ?_
      refine lv_if_ne (tgt := 43) hx hb dX12_isCounted_36 (by decide) (fun _ => ?_) (fun c => absurd c (fun z => absurd (dk_eqc (k := 0) (by decide +kernel) z) (by omega)))
      refine lv_iconst (v := 0) hx hb dX12_isCounted_43 (by decide +kernel) ?_
      have hz_15 : (0 : Int32).toInt = 0 := by decide +kernel
      have hz_16 : (0 : Int32).toInt = 0 := by decide +kernel
      refine W.widen (k := 0) (n := 0) (Nat.le_of_ble_eq_true rfl) (Nat.le_of_ble_eq_true rfl) ?_
      rw [hQ9]
      exact dg_iret hx hb hr hlocks (by decide +kernel) hP hS ⟨I_12, M_12, (by decide +kernel), ⟨sg, sa, se, y_14, ((m_12.1 0 3 _ sM_0 (by decide)).trans f_sg), ((m_12.1 0 4 _ sM_0 (by decide)).trans f_sa), ((m_12.1 0 5 _ sM_0 (by decide)).trans f_se), f_y_14, (by omega)⟩, trivial⟩ dX12_isCounted_44
set_option maxHeartbeats 8000000 in
set_option maxRecDepth 100000 in
theorem c_m_fresh (l : Launch) (g : Nat → ClassId) (D : va_G) (o : Nat) (S : dg_S) (sg : Int32) (f_sg : S.1 0 3 = .int sg) (b_sg : 0 ≤ (sg).toInt ∧ (sg).toInt ≤ 3) (sa : Int32) (f_sa : S.1 0 4 = .int sa) (b_sa : 0 ≤ (sa).toInt ∧ (sa).toInt ≤ 1600) (se : Int32) (f_se : S.1 0 5 = .int se) (b_se : 0 ≤ (se).toInt ∧ (se).toInt ≤ 1600) (sl : Int32) (f_sl : S.1 0 2 = .int sl) (b_sl : 0 ≤ (sl).toInt ∧ (sl).toInt ≤ 1600) (fk : Int32) (f_fk : S.1 0 8 = .int fk) (b_fk : 0 ≤ (fk).toInt ∧ (fk).toInt ≤ 6) (hlx : (sa).toInt ≤ (se).toInt ∧ (se).toInt ≤ (sl).toInt ∧ ((sg).toInt ≠ 0 → (sa).toInt + 1 ≤ (se).toInt)) (I : CM o S) (sz : Nat) : Met l yX12_fresh (bw yX12_fresh cX12_fresh 3 (some .long)) ({ frames := 3, cells := 0, slots := 0, locals := 78 } : Room) (dk_Pc g D (dg_w g shM o rfM S) sz [.ref (o + 0)]) (va_Ql (fun (r : Int64) S' => CM o S' ∧ dg_sm shM [(0, 3), (0, 4), (0, 5), (0, 6), (0, 7), (0, 8), (0, 9), (0, 12)] [] S S' ∧ (∃ y9_3 y9_4 y9_5 y9_8 : Int32, S'.1 0 3 = .int y9_3 ∧ S'.1 0 4 = .int y9_4 ∧ S'.1 0 5 = .int y9_5 ∧ S'.1 0 8 = .int y9_8 ∧ (((y9_4).toInt ≤ (y9_5).toInt ∧ (y9_5).toInt ≤ (sl).toInt ∧ ((y9_3).toInt ≠ 0 → (y9_4).toInt + 1 ≤ (y9_5).toInt)) ∧ (sa).toInt ≤ (y9_4).toInt ∧ ((fk).toInt ≠ 0 → (y9_8).toInt ≠ 0) ∧ ((y9_8).toInt = 0 → (sa).toInt + 1 ≤ (y9_4).toInt))) ∧ True) (dg_B g D shM o rfM) (dg_A o shM.length sz)) 0 0 (dg_A o shM.length sz) := by
  refine dg_met (cc := cX12_fresh) (maxL := 3) (ret := (some .long)) (by decide) rfl (Nat.le_of_ble_eq_true rfl) ?_
  intro p e s m args below meth c A hAe harg hx hb hr hml hts hown hlocks hin hP K hS hA1 hA ST hsz ls hl
  rw [← hAe]
  have F : CallFix p m c cX12_fresh 3 s args (bw yX12_fresh cX12_fresh 3 (some .long)) RX12 := ⟨hx, hb, hml, hown, hts⟩
  have hl : lv_has ls 3 [(0, .ref (o + 0))] := hl
  have M_0 : dg_sm shM [(0, 3), (0, 4), (0, 5), (0, 6), (0, 7), (0, 8), (0, 9), (0, 12)] [] S S := dg_sm.rf
  obtain ⟨Q9, hQ9⟩ : ∃ Q : State → Prop, Q = MQ below (va_Ql (fun (r : Int64) S' => CM o S' ∧ dg_sm shM [(0, 3), (0, 4), (0, 5), (0, 6), (0, 7), (0, 8), (0, 9), (0, 12)] [] S S' ∧ (∃ y9_3 y9_4 y9_5 y9_8 : Int32, S'.1 0 3 = .int y9_3 ∧ S'.1 0 4 = .int y9_4 ∧ S'.1 0 5 = .int y9_5 ∧ S'.1 0 8 = .int y9_8 ∧ (((y9_4).toInt ≤ (y9_5).toInt ∧ (y9_5).toInt ≤ (sl).toInt ∧ ((y9_3).toInt ≠ 0 → (y9_4).toInt + 1 ≤ (y9_5).toInt)) ∧ (sa).toInt ≤ (y9_4).toInt ∧ ((fk).toInt ≠ 0 → (y9_8).toInt ≠ 0) ∧ ((y9_8).toInt = 0 → (sa).toInt + 1 ≤ (y9_4).toInt))) ∧ True) (dg_B g D shM o rfM) A) args s 0 0 A := ⟨_, rfl⟩
  rw [← hQ9]
  obtain ⟨hlx_0, hlx_1, hlx_2⟩ := hlx
  refine lv_aload_n hx hb dX12_fresh_0 rfl (lv_at hl 0 rfl) ?_
  refine dg_callv hS hA1 hA (va_runV (As := []) (rest := []) F (c_m_lex l g D o S fk f_fk (by omega) I s.heap.size) (cwV 0 hts (bw_V wB_1153 wB_1154 wB_1155 wB_881 wB_1152) rfl rfl rfl (by decide +kernel) ⟨Nat.le_of_ble_eq_true rfl, Nat.le_of_ble_eq_true rfl⟩) (dg_preV sM_0 rfl K ST hP hS hA1 hA) rfl rfl hl.1 rfl (lv_room (Nat.le_of_ble_eq_true rfl)) dX12_fresh_1 ⟨Nat.le_of_ble_eq_true rfl, Nat.le_of_ble_eq_true rfl⟩) (fun S_1 hw_1 H locs hP hS => ?_)
  obtain ⟨I_1, m_1, w_1_0, -⟩ := hw_1
  have M_1 := dg_sm.tr M_0 m_1 (by decide) (by decide)
  obtain ⟨y_2, f_y_2, w_1_0⟩ := w_1_0
  have w_1_0 : (fk).toInt ≠ 0 → (y_2).toInt = (fk).toInt := w_1_0
  have b_y_2 : 0 ≤ (y_2).toInt ∧ (y_2).toInt ≤ 6 := dg_I.intb (lo := 0) (hi := 6) I_1 sM_0 (by decide +kernel) f_y_2
  refine lv_aload_n hx hb dX12_fresh_4 rfl (lv_at hl 0 rfl) ?_
  refine dg_get (C := RX12) (T := TX12) (N := 77) hx hb hts (fun w h => bw_mem (wU_X12 w h)) hown K hP sM_0 rfl 8 (by decide) (hts _ (bw_mem wB_1133)) (fun _ h9 => h9) (v := .int y_2) f_y_2 dX12_fresh_5 ?_
  refine lv_if_le (tgt := 13) hx hb dX12_fresh_8 (by decide) (fun c_3 => ?_) (fun c_3 => ?_)
  · have jc_3 := dk_lec (k := 0) (by decide +kernel) c_3
    have w_1_0c : (fk).toInt = 0 := by omega
    clear w_1_0
    refine lv_aload_n hx hb dX12_fresh_13 rfl (lv_at hl 0 rfl) ?_
    refine dg_get (C := RX12) (T := TX12) (N := 77) hx hb hts (fun w h => bw_mem (wU_X12 w h)) hown K hP sM_0 rfl 3 (by decide) (hts _ (bw_mem wB_1140)) (fun _ h9 => h9) (v := .int sg) ((m_1.1 0 3 _ sM_0 (by decide)).trans f_sg) dX12_fresh_14 ?_
    refine lv_iconst (v := 1) hx hb dX12_fresh_17 (by decide +kernel) ?_
    refine lv_icmp_ne (tgt := 32) hx hb dX12_fresh_18 (by decide) (fun c_4 => ?_) (fun c_4 => ?_)
    · have jc_4 := dk_neqc (k := 1) (by decide +kernel) c_4
      clear jc_4
      refine lv_aload_n hx hb dX12_fresh_32 rfl (lv_at hl 0 rfl) ?_
      refine lv_iconst (v := 1) hx hb dX12_fresh_33 (by decide +kernel) ?_
      refine lv_aload_n hx hb dX12_fresh_34 rfl (lv_at hl 0 rfl) ?_
      refine dg_get (C := RX12) (T := TX12) (N := 77) hx hb hts (fun w h => bw_mem (wU_X12 w h)) hown K hP sM_0 rfl 4 (by decide) (hts _ (bw_mem wB_1145)) (fun _ h9 => h9) (v := .int sa) ((m_1.1 0 4 _ sM_0 (by decide)).trans f_sa) dX12_fresh_35 ?_
      have hz_5 : (1 : Int32).toInt = 1 := by decide +kernel
      refine dg_callv hS hA1 hA (va_runV (As := [.int 1, .int sa]) (rest := []) F (c_m_blame l g D o S_1 1 (by decide +kernel) sa y_2 f_y_2 (by omega) I_1 H.size) (cwV 2 hts (bw_V wB_1137 wB_1138 wB_1139 wB_881 wB_1136) rfl rfl rfl (by decide +kernel) ⟨Nat.le_of_ble_eq_true rfl, Nat.le_of_ble_eq_true rfl⟩) (dg_preV sM_0 rfl K ST hP hS hA1 hA) rfl rfl hl.1 rfl (lv_room (Nat.le_of_ble_eq_true rfl)) dX12_fresh_38 ⟨Nat.le_of_ble_eq_true rfl, Nat.le_of_ble_eq_true rfl⟩) (fun S_6 hw_6 H locs hP hS => ?_)
      obtain ⟨I_6, m_6, w_6_0, -⟩ := hw_6
      have M_6 := dg_sm.tr M_1 m_6 (by decide) (by decide)
      have hz_7 : (1 : Int32).toInt = 1 := by decide +kernel
      obtain ⟨y_8, f_y_8, w_6_0⟩ := w_6_0
      have w_6_0 : ((y_2).toInt ≠ 0 → (y_8).toInt = (y_2).toInt) ∧ ((y_2).toInt = 0 → (y_8).toInt = ((1 : Int32)).toInt) := w_6_0
      obtain ⟨w_6_0_0, w_6_0_1⟩ := w_6_0
      clear w_6_0_0
      have w_6_0_1r := w_6_0_1 (by omega)
      clear w_6_0_1
      have b_y_8 : 0 ≤ (y_8).toInt ∧ (y_8).toInt ≤ 6 := dg_I.intb (lo := 0) (hi := 6) I_6 sM_0 (by decide +kernel) f_y_8
      have hbl_y_8 : 1 ≤ (y_8).toInt := by omega
      refine lv_aload_n hx hb dX12_fresh_41 rfl (lv_at hl 0 rfl) ?_
      refine dg_get (C := RX12) (T := TX12) (N := 77) hx hb hts (fun w h => bw_mem (wU_X12 w h)) hown K hP sM_0 rfl 8 (by decide) (hts _ (bw_mem wB_1133)) (fun _ h9 => h9) (v := .int y_8) f_y_8 dX12_fresh_42 ?_
      refine lv_if_ne (tgt := 68) hx hb dX12_fresh_45 (by decide) (fun _ => ?_) (fun c => absurd c (fun z => absurd (dk_eqc (k := 0) (by decide +kernel) z) (by omega)))
      refine lv_aload_n hx hb dX12_fresh_68 rfl (lv_at hl 0 rfl) ?_
      obtain ⟨x_9, f_x_9⟩ := dg_I.long (i := 0) (k := 7) I_6 sM_0 (by decide +kernel)
      refine dg_get (C := RX12) (T := TX12) (N := 77) hx hb hts (fun w h => bw_mem (wU_X12 w h)) hown K hP sM_0 rfl 7 (by decide) (hts _ (bw_mem wB_1142)) (fun _ h9 => h9) (v := .long x_9) f_x_9 dX12_fresh_69 ?_
      refine lv_lstore_n (lv' := [(1, .long x_9), (0, .ref (o + 0))]) hx hb dX12_fresh_72 rfl hl (by decide) rfl (fun ls hl => ?_)
      refine lv_aload_n hx hb dX12_fresh_73 rfl (lv_at hl 1 rfl) ?_
      refine dg_get (C := RX12) (T := TX12) (N := 77) hx hb hts (fun w h => bw_mem (wU_X12 w h)) hown K hP sM_0 rfl 8 (by decide) (hts _ (bw_mem wB_1133)) (fun _ h9 => h9) (v := .int y_8) f_y_8 dX12_fresh_74 ?_
      refine lv_if_ne (tgt := 84) hx hb dX12_fresh_77 (by decide) (fun _ => ?_) (fun c => absurd c (fun z => absurd (dk_eqc (k := 0) (by decide +kernel) z) (by omega)))
      refine lv_lload_n hx hb dX12_fresh_84 rfl (lv_at hl 0 rfl) ?_
      refine W.widen (k := 0) (n := 0) (Nat.le_of_ble_eq_true rfl) (Nat.le_of_ble_eq_true rfl) ?_
      rw [hQ9]
      exact dg_lret hx hb hr hlocks hP hS ⟨I_6, M_6, ⟨sg, sa, se, y_8, (((m_6.1 0 3 _ sM_0 (by decide)).trans (m_1.1 0 3 _ sM_0 (by decide))).trans f_sg), (((m_6.1 0 4 _ sM_0 (by decide)).trans (m_1.1 0 4 _ sM_0 (by decide))).trans f_sa), (((m_6.1 0 5 _ sM_0 (by decide)).trans (m_1.1 0 5 _ sM_0 (by decide))).trans f_se), f_y_8, (by omega)⟩, trivial⟩ dX12_fresh_85
    · have jc_4 := dk_eqc (k := 1) (by decide +kernel) c_4
      have hlx_2r := hlx_2 (by omega)
      clear hlx_2
      refine lv_aload_n hx hb dX12_fresh_21 rfl (lv_at hl 0 rfl) ?_
      refine lv_aload_n hx hb dX12_fresh_22 rfl (lv_at hl 0 rfl) ?_
      obtain ⟨x_10, f_x_10⟩ := dg_I.long (i := 0) (k := 7) I_1 sM_0 (by decide +kernel)
      refine dg_get (C := RX12) (T := TX12) (N := 77) hx hb hts (fun w h => bw_mem (wU_X12 w h)) hown K hP sM_0 rfl 7 (by decide) (hts _ (bw_mem wB_1142)) (fun _ h9 => h9) (v := .long x_10) f_x_10 dX12_fresh_23 ?_
      refine dg_calli hS hA1 hA (va_runV (As := [.long x_10]) (rest := []) F (c_m_isOwn l g D o S_1 x_10 I_1 H.size) (cwV 1 hts (bw_V wB_1247 wB_1248 wB_1249 wB_881 wB_1246) rfl rfl rfl (by decide +kernel) ⟨Nat.le_of_ble_eq_true rfl, Nat.le_of_ble_eq_true rfl⟩) (dg_preV sM_0 rfl K ST hP hS hA1 hA) rfl rfl hl.1 rfl (lv_room (Nat.le_of_ble_eq_true rfl)) dX12_fresh_26 ⟨Nat.le_of_ble_eq_true rfl, Nat.le_of_ble_eq_true rfl⟩) (fun x_11 S_12 hw_12 H locs hP hS => ?_)
      rw [hw_12.1] at hP
      obtain ⟨hq_12, w_12_0, -⟩ := hw_12
      have w_12_0 : 0 ≤ (x_11).toInt ∧ (x_11).toInt ≤ 1 := w_12_0
      refine lv_if_eq (tgt := 41) hx hb dX12_fresh_29 (by decide) (fun c_13 => ?_) (fun c_13 => ?_)
      · have jc_13 := dk_eqc (k := 0) (by decide +kernel) c_13
        refine lv_aload_n hx hb dX12_fresh_41 rfl (lv_at hl 0 rfl) ?_
        refine dg_get (C := RX12) (T := TX12) (N := 77) hx hb hts (fun w h => bw_mem (wU_X12 w h)) hown K hP sM_0 rfl 8 (by decide) (hts _ (bw_mem wB_1133)) (fun _ h9 => h9) (v := .int y_2) f_y_2 dX12_fresh_42 ?_
        refine lv_if_ne (tgt := 68) hx hb dX12_fresh_45 (by decide) (fun c => absurd (dk_eqp (k := 0) (by decide +kernel) (by omega)) c) (fun _ => ?_)
        refine lv_aload_n hx hb dX12_fresh_48 rfl (lv_at hl 0 rfl) ?_
        refine lv_aload_n hx hb dX12_fresh_49 rfl (lv_at hl 0 rfl) ?_
        refine dg_get (C := RX12) (T := TX12) (N := 77) hx hb hts (fun w h => bw_mem (wU_X12 w h)) hown K hP sM_0 rfl 7 (by decide) (hts _ (bw_mem wB_1142)) (fun _ h9 => h9) (v := .long x_10) f_x_10 dX12_fresh_50 ?_
        refine dg_calli hS hA1 hA (va_runV (As := [.long x_10]) (rest := []) F (c_m_isNamed l g D o S_1 x_10 I_1 H.size) (cwV 1 hts (bw_V wB_1251 wB_1252 wB_1253 wB_881 wB_1250) rfl rfl rfl (by decide +kernel) ⟨Nat.le_of_ble_eq_true rfl, Nat.le_of_ble_eq_true rfl⟩) (dg_preV sM_0 rfl K ST hP hS hA1 hA) rfl rfl hl.1 rfl (lv_room (Nat.le_of_ble_eq_true rfl)) dX12_fresh_53 ⟨Nat.le_of_ble_eq_true rfl, Nat.le_of_ble_eq_true rfl⟩) (fun x_14 S_15 hw_15 H locs hP hS => ?_)
        rw [hw_15.1] at hP
        obtain ⟨hq_15, w_15_0, -⟩ := hw_15
        have w_15_0 : 0 ≤ (x_14).toInt ∧ (x_14).toInt ≤ 1 := w_15_0
        refine lv_if_eq (tgt := 68) hx hb dX12_fresh_56 (by decide) (fun c_16 => ?_) (fun c_16 => ?_)
        · have jc_16 := dk_eqc (k := 0) (by decide +kernel) c_16
          refine lv_aload_n hx hb dX12_fresh_68 rfl (lv_at hl 0 rfl) ?_
          refine dg_get (C := RX12) (T := TX12) (N := 77) hx hb hts (fun w h => bw_mem (wU_X12 w h)) hown K hP sM_0 rfl 7 (by decide) (hts _ (bw_mem wB_1142)) (fun _ h9 => h9) (v := .long x_10) f_x_10 dX12_fresh_69 ?_
          refine lv_lstore_n (lv' := [(1, .long x_10), (0, .ref (o + 0))]) hx hb dX12_fresh_72 rfl hl (by decide) rfl (fun ls hl => ?_)
          refine lv_aload_n hx hb dX12_fresh_73 rfl (lv_at hl 1 rfl) ?_
          refine dg_get (C := RX12) (T := TX12) (N := 77) hx hb hts (fun w h => bw_mem (wU_X12 w h)) hown K hP sM_0 rfl 8 (by decide) (hts _ (bw_mem wB_1133)) (fun _ h9 => h9) (v := .int y_2) f_y_2 dX12_fresh_74 ?_
          refine lv_if_ne (tgt := 84) hx hb dX12_fresh_77 (by decide) (fun c => absurd (dk_eqp (k := 0) (by decide +kernel) (by omega)) c) (fun _ => ?_)
          refine lv_aload_n hx hb dX12_fresh_80 rfl (lv_at hl 1 rfl) ?_
          refine dg_callv hS hA1 hA (va_runV (As := []) (rest := []) F (c_m_ahead l g D o S_1 se ((m_1.1 0 5 _ sM_0 (by decide)).trans f_se) (by omega) sl ((m_1.1 0 2 _ sM_0 (by decide)).trans f_sl) (by omega) (by omega) I_1 H.size) (cwV 0 hts (bw_V wB_1161 wB_1162 wB_1163 wB_881 wB_1160) rfl rfl rfl (by decide +kernel) ⟨Nat.le_of_ble_eq_true rfl, Nat.le_of_ble_eq_true rfl⟩) (dg_preV sM_0 rfl K ST hP hS hA1 hA) rfl rfl hl.1 rfl (lv_room (Nat.le_of_ble_eq_true rfl)) dX12_fresh_81 ⟨Nat.le_of_ble_eq_true rfl, Nat.le_of_ble_eq_true rfl⟩) (fun S_17 hw_17 H locs hP hS => ?_)
          obtain ⟨I_17, m_17, w_17_0, -⟩ := hw_17
          have M_17 := dg_sm.tr M_1 m_17 (by decide) (by decide)
          obtain ⟨y_18, y_19, y_20, f_y_18, f_y_19, f_y_20, w_17_0⟩ := w_17_0
          have w_17_0 : (se).toInt ≤ (y_19).toInt ∧ (y_19).toInt ≤ (y_20).toInt ∧ (y_20).toInt ≤ (sl).toInt ∧ ((y_18).toInt ≠ 0 → (y_19).toInt + 1 ≤ (y_20).toInt) := w_17_0
          obtain ⟨w_17_0_0, w_17_0_1, w_17_0_2, w_17_0_3⟩ := w_17_0
          have b_y_18 : 0 ≤ (y_18).toInt ∧ (y_18).toInt ≤ 3 := dg_I.intb (lo := 0) (hi := 3) I_17 sM_0 (by decide +kernel) f_y_18
          have b_y_19 : 0 ≤ (y_19).toInt ∧ (y_19).toInt ≤ 1600 := dg_I.intb (lo := 0) (hi := 1600) I_17 sM_0 (by decide +kernel) f_y_19
          have b_y_20 : 0 ≤ (y_20).toInt ∧ (y_20).toInt ≤ 1600 := dg_I.intb (lo := 0) (hi := 1600) I_17 sM_0 (by decide +kernel) f_y_20
          refine lv_lload_n hx hb dX12_fresh_84 rfl (lv_at hl 0 rfl) ?_
          refine W.widen (k := 0) (n := 0) (Nat.le_of_ble_eq_true rfl) (Nat.le_of_ble_eq_true rfl) ?_
          rw [hQ9]
          exact dg_lret hx hb hr hlocks hP hS ⟨I_17, M_17, ⟨y_18, y_19, y_20, y_2, f_y_18, f_y_19, f_y_20, ((m_17.1 0 8 _ sM_0 (by decide)).trans f_y_2), (by omega)⟩, trivial⟩ dX12_fresh_85
        · have jc_16 := dk_neqc (k := 0) (by decide +kernel) c_16
          have jbc_16 : 1 ≤ (x_14).toInt := by omega
          clear jc_16
          refine lv_aload_n hx hb dX12_fresh_59 rfl (lv_at hl 0 rfl) ?_
          refine lv_iconst (v := 2) hx hb dX12_fresh_60 (by decide +kernel) ?_
          refine lv_aload_n hx hb dX12_fresh_61 rfl (lv_at hl 0 rfl) ?_
          refine dg_get (C := RX12) (T := TX12) (N := 77) hx hb hts (fun w h => bw_mem (wU_X12 w h)) hown K hP sM_0 rfl 4 (by decide) (hts _ (bw_mem wB_1145)) (fun _ h9 => h9) (v := .int sa) ((m_1.1 0 4 _ sM_0 (by decide)).trans f_sa) dX12_fresh_62 ?_
          have hz_21 : (2 : Int32).toInt = 2 := by decide +kernel
          refine dg_callv hS hA1 hA (va_runV (As := [.int 2, .int sa]) (rest := []) F (c_m_blame l g D o S_1 2 (by decide +kernel) sa y_2 f_y_2 (by omega) I_1 H.size) (cwV 2 hts (bw_V wB_1137 wB_1138 wB_1139 wB_881 wB_1136) rfl rfl rfl (by decide +kernel) ⟨Nat.le_of_ble_eq_true rfl, Nat.le_of_ble_eq_true rfl⟩) (dg_preV sM_0 rfl K ST hP hS hA1 hA) rfl rfl hl.1 rfl (lv_room (Nat.le_of_ble_eq_true rfl)) dX12_fresh_65 ⟨Nat.le_of_ble_eq_true rfl, Nat.le_of_ble_eq_true rfl⟩) (fun S_22 hw_22 H locs hP hS => ?_)
          obtain ⟨I_22, m_22, w_22_0, -⟩ := hw_22
          have M_22 := dg_sm.tr M_1 m_22 (by decide) (by decide)
          have hz_23 : (2 : Int32).toInt = 2 := by decide +kernel
          obtain ⟨y_24, f_y_24, w_22_0⟩ := w_22_0
          have w_22_0 : ((y_2).toInt ≠ 0 → (y_24).toInt = (y_2).toInt) ∧ ((y_2).toInt = 0 → (y_24).toInt = ((2 : Int32)).toInt) := w_22_0
          obtain ⟨w_22_0_0, w_22_0_1⟩ := w_22_0
          clear w_22_0_0
          have w_22_0_1r := w_22_0_1 (by omega)
          clear w_22_0_1
          have b_y_24 : 0 ≤ (y_24).toInt ∧ (y_24).toInt ≤ 6 := dg_I.intb (lo := 0) (hi := 6) I_22 sM_0 (by decide +kernel) f_y_24
          have hbl_y_24 : 1 ≤ (y_24).toInt := by omega
          refine lv_aload_n hx hb dX12_fresh_68 rfl (lv_at hl 0 rfl) ?_
          refine dg_get (C := RX12) (T := TX12) (N := 77) hx hb hts (fun w h => bw_mem (wU_X12 w h)) hown K hP sM_0 rfl 7 (by decide) (hts _ (bw_mem wB_1142)) (fun _ h9 => h9) (v := .long x_10) ((m_22.1 0 7 _ sM_0 (by decide)).trans f_x_10) dX12_fresh_69 ?_
          refine lv_lstore_n (lv' := [(1, .long x_10), (0, .ref (o + 0))]) hx hb dX12_fresh_72 rfl hl (by decide) rfl (fun ls hl => ?_)
          refine lv_aload_n hx hb dX12_fresh_73 rfl (lv_at hl 1 rfl) ?_
          refine dg_get (C := RX12) (T := TX12) (N := 77) hx hb hts (fun w h => bw_mem (wU_X12 w h)) hown K hP sM_0 rfl 8 (by decide) (hts _ (bw_mem wB_1133)) (fun _ h9 => h9) (v := .int y_24) f_y_24 dX12_fresh_74 ?_
          refine lv_if_ne (tgt := 84) hx hb dX12_fresh_77 (by decide) (fun _ => ?_) (fun c => absurd c (fun z => absurd (dk_eqc (k := 0) (by decide +kernel) z) (by omega)))
          refine lv_lload_n hx hb dX12_fresh_84 rfl (lv_at hl 0 rfl) ?_
          refine W.widen (k := 0) (n := 0) (Nat.le_of_ble_eq_true rfl) (Nat.le_of_ble_eq_true rfl) ?_
          rw [hQ9]
          exact dg_lret hx hb hr hlocks hP hS ⟨I_22, M_22, ⟨sg, sa, se, y_24, (((m_22.1 0 3 _ sM_0 (by decide)).trans (m_1.1 0 3 _ sM_0 (by decide))).trans f_sg), (((m_22.1 0 4 _ sM_0 (by decide)).trans (m_1.1 0 4 _ sM_0 (by decide))).trans f_sa), (((m_22.1 0 5 _ sM_0 (by decide)).trans (m_1.1 0 5 _ sM_0 (by decide))).trans f_se), f_y_24, (by omega)⟩, trivial⟩ dX12_fresh_85
      · have jc_13 := dk_neqc (k := 0) (by decide +kernel) c_13
        have jbc_13 : 1 ≤ (x_11).toInt := by omega
        clear jc_13
        refine lv_aload_n hx hb dX12_fresh_32 rfl (lv_at hl 0 rfl) ?_
        refine lv_iconst (v := 1) hx hb dX12_fresh_33 (by decide +kernel) ?_
        refine lv_aload_n hx hb dX12_fresh_34 rfl (lv_at hl 0 rfl) ?_
        refine dg_get (C := RX12) (T := TX12) (N := 77) hx hb hts (fun w h => bw_mem (wU_X12 w h)) hown K hP sM_0 rfl 4 (by decide) (hts _ (bw_mem wB_1145)) (fun _ h9 => h9) (v := .int sa) ((m_1.1 0 4 _ sM_0 (by decide)).trans f_sa) dX12_fresh_35 ?_
        have hz_25 : (1 : Int32).toInt = 1 := by decide +kernel
        refine dg_callv hS hA1 hA (va_runV (As := [.int 1, .int sa]) (rest := []) F (c_m_blame l g D o S_1 1 (by decide +kernel) sa y_2 f_y_2 (by omega) I_1 H.size) (cwV 2 hts (bw_V wB_1137 wB_1138 wB_1139 wB_881 wB_1136) rfl rfl rfl (by decide +kernel) ⟨Nat.le_of_ble_eq_true rfl, Nat.le_of_ble_eq_true rfl⟩) (dg_preV sM_0 rfl K ST hP hS hA1 hA) rfl rfl hl.1 rfl (lv_room (Nat.le_of_ble_eq_true rfl)) dX12_fresh_38 ⟨Nat.le_of_ble_eq_true rfl, Nat.le_of_ble_eq_true rfl⟩) (fun S_26 hw_26 H locs hP hS => ?_)
        obtain ⟨I_26, m_26, w_26_0, -⟩ := hw_26
        have M_26 := dg_sm.tr M_1 m_26 (by decide) (by decide)
        have hz_27 : (1 : Int32).toInt = 1 := by decide +kernel
        obtain ⟨y_28, f_y_28, w_26_0⟩ := w_26_0
        have w_26_0 : ((y_2).toInt ≠ 0 → (y_28).toInt = (y_2).toInt) ∧ ((y_2).toInt = 0 → (y_28).toInt = ((1 : Int32)).toInt) := w_26_0
        obtain ⟨w_26_0_0, w_26_0_1⟩ := w_26_0
        clear w_26_0_0
        have w_26_0_1r := w_26_0_1 (by omega)
        clear w_26_0_1
        have b_y_28 : 0 ≤ (y_28).toInt ∧ (y_28).toInt ≤ 6 := dg_I.intb (lo := 0) (hi := 6) I_26 sM_0 (by decide +kernel) f_y_28
        have hbl_y_28 : 1 ≤ (y_28).toInt := by omega
        refine lv_aload_n hx hb dX12_fresh_41 rfl (lv_at hl 0 rfl) ?_
        refine dg_get (C := RX12) (T := TX12) (N := 77) hx hb hts (fun w h => bw_mem (wU_X12 w h)) hown K hP sM_0 rfl 8 (by decide) (hts _ (bw_mem wB_1133)) (fun _ h9 => h9) (v := .int y_28) f_y_28 dX12_fresh_42 ?_
        refine lv_if_ne (tgt := 68) hx hb dX12_fresh_45 (by decide) (fun _ => ?_) (fun c => absurd c (fun z => absurd (dk_eqc (k := 0) (by decide +kernel) z) (by omega)))
        refine lv_aload_n hx hb dX12_fresh_68 rfl (lv_at hl 0 rfl) ?_
        refine dg_get (C := RX12) (T := TX12) (N := 77) hx hb hts (fun w h => bw_mem (wU_X12 w h)) hown K hP sM_0 rfl 7 (by decide) (hts _ (bw_mem wB_1142)) (fun _ h9 => h9) (v := .long x_10) ((m_26.1 0 7 _ sM_0 (by decide)).trans f_x_10) dX12_fresh_69 ?_
        refine lv_lstore_n (lv' := [(1, .long x_10), (0, .ref (o + 0))]) hx hb dX12_fresh_72 rfl hl (by decide) rfl (fun ls hl => ?_)
        refine lv_aload_n hx hb dX12_fresh_73 rfl (lv_at hl 1 rfl) ?_
        refine dg_get (C := RX12) (T := TX12) (N := 77) hx hb hts (fun w h => bw_mem (wU_X12 w h)) hown K hP sM_0 rfl 8 (by decide) (hts _ (bw_mem wB_1133)) (fun _ h9 => h9) (v := .int y_28) f_y_28 dX12_fresh_74 ?_
        refine lv_if_ne (tgt := 84) hx hb dX12_fresh_77 (by decide) (fun _ => ?_) (fun c => absurd c (fun z => absurd (dk_eqc (k := 0) (by decide +kernel) z) (by omega)))
        refine lv_lload_n hx hb dX12_fresh_84 rfl (lv_at hl 0 rfl) ?_
        refine W.widen (k := 0) (n := 0) (Nat.le_of_ble_eq_true rfl) (Nat.le_of_ble_eq_true rfl) ?_
        rw [hQ9]
        exact dg_lret hx hb hr hlocks hP hS ⟨I_26, M_26, ⟨sg, sa, se, y_28, (((m_26.1 0 3 _ sM_0 (by decide)).trans (m_1.1 0 3 _ sM_0 (by decide))).trans f_sg), (((m_26.1 0 4 _ sM_0 (by decide)).trans (m_1.1 0 4 _ sM_0 (by decide))).trans f_sa), (((m_26.1 0 5 _ sM_0 (by decide)).trans (m_1.1 0 5 _ sM_0 (by decide))).trans f_se), f_y_28, (by omega)⟩, trivial⟩ dX12_fresh_85
  · have jc_3 := dk_nlec (k := 0) (by decide +kernel) c_3
    refine lv_lconst (v := 0) hx hb dX12_fresh_11 (by decide +kernel) ?_
    refine W.widen (k := 0) (n := 0) (Nat.le_of_ble_eq_true rfl) (Nat.le_of_ble_eq_true rfl) ?_
    rw [hQ9]
    exact dg_lret hx hb hr hlocks hP hS ⟨I_1, M_1, ⟨sg, sa, se, y_2, ((m_1.1 0 3 _ sM_0 (by decide)).trans f_sg), ((m_1.1 0 4 _ sM_0 (by decide)).trans f_sa), ((m_1.1 0 5 _ sM_0 (by decide)).trans f_se), f_y_2, (by omega)⟩, trivial⟩ dX12_fresh_12
set_option maxHeartbeats 8000000 in
set_option maxRecDepth 100000 in
theorem c_m_cellTold (l : Launch) (g : Nat → ClassId) (D : va_G) (o : Nat) (S : dg_S) (sg : Int32) (f_sg : S.1 0 3 = .int sg) (b_sg : 0 ≤ (sg).toInt ∧ (sg).toInt ≤ 3) (sa : Int32) (f_sa : S.1 0 4 = .int sa) (b_sa : 0 ≤ (sa).toInt ∧ (sa).toInt ≤ 1600) (se : Int32) (f_se : S.1 0 5 = .int se) (b_se : 0 ≤ (se).toInt ∧ (se).toInt ≤ 1600) (sl : Int32) (f_sl : S.1 0 2 = .int sl) (b_sl : 0 ≤ (sl).toInt ∧ (sl).toInt ≤ 1600) (fk : Int32) (f_fk : S.1 0 8 = .int fk) (b_fk : 0 ≤ (fk).toInt ∧ (fk).toInt ≤ 6) (hlx : (sa).toInt ≤ (se).toInt ∧ (se).toInt ≤ (sl).toInt ∧ ((sg).toInt ≠ 0 → (sa).toInt + 1 ≤ (se).toInt)) (ZC : ZCM S) (I : CM o S) (sz : Nat) : Met l yX12_cellTold (bw yX12_cellTold cX12_cellTold 3 (some .int)) ({ frames := 4, cells := 0, slots := 0, locals := 100 } : Room) (dk_Pc g D (dg_w g shM o rfM S) sz [.ref (o + 0)]) (va_Qi (fun (r : Int32) S' => CM o S' ∧ dg_sm shM [(0, 3), (0, 4), (0, 5), (0, 6), (0, 7), (0, 8), (0, 9), (0, 12)] [] S S' ∧ (0 ≤ (r).toInt ∧ (r).toInt ≤ 54) ∧ (∃ y9_3 y9_4 y9_5 y9_8 : Int32, S'.1 0 3 = .int y9_3 ∧ S'.1 0 4 = .int y9_4 ∧ S'.1 0 5 = .int y9_5 ∧ S'.1 0 8 = .int y9_8 ∧ (((y9_4).toInt ≤ (y9_5).toInt ∧ (y9_5).toInt ≤ (sl).toInt ∧ ((y9_3).toInt ≠ 0 → (y9_4).toInt + 1 ≤ (y9_5).toInt)) ∧ (sa).toInt ≤ (y9_4).toInt ∧ ((fk).toInt ≠ 0 → (y9_8).toInt ≠ 0) ∧ ((sa).toInt ≤ (sa).toInt))) ∧ True) (dg_B g D shM o rfM) (dg_A o shM.length sz)) 0 0 (dg_A o shM.length sz) := by
  refine dg_met (cc := cX12_cellTold) (maxL := 3) (ret := (some .int)) (by decide) rfl (Nat.le_of_ble_eq_true rfl) ?_
  intro p e s m args below meth c A hAe harg hx hb hr hml hts hown hlocks hin hP K hS hA1 hA ST hsz ls hl
  rw [← hAe]
  have F : CallFix p m c cX12_cellTold 3 s args (bw yX12_cellTold cX12_cellTold 3 (some .int)) RX12 := ⟨hx, hb, hml, hown, hts⟩
  have hl : lv_has ls 3 [(0, .ref (o + 0))] := hl
  have M_0 : dg_sm shM [(0, 3), (0, 4), (0, 5), (0, 6), (0, 7), (0, 8), (0, 9), (0, 12)] [] S S := dg_sm.rf
  obtain ⟨Q9, hQ9⟩ : ∃ Q : State → Prop, Q = MQ below (va_Qi (fun (r : Int32) S' => CM o S' ∧ dg_sm shM [(0, 3), (0, 4), (0, 5), (0, 6), (0, 7), (0, 8), (0, 9), (0, 12)] [] S S' ∧ (0 ≤ (r).toInt ∧ (r).toInt ≤ 54) ∧ (∃ y9_3 y9_4 y9_5 y9_8 : Int32, S'.1 0 3 = .int y9_3 ∧ S'.1 0 4 = .int y9_4 ∧ S'.1 0 5 = .int y9_5 ∧ S'.1 0 8 = .int y9_8 ∧ (((y9_4).toInt ≤ (y9_5).toInt ∧ (y9_5).toInt ≤ (sl).toInt ∧ ((y9_3).toInt ≠ 0 → (y9_4).toInt + 1 ≤ (y9_5).toInt)) ∧ (sa).toInt ≤ (y9_4).toInt ∧ ((fk).toInt ≠ 0 → (y9_8).toInt ≠ 0) ∧ ((sa).toInt ≤ (sa).toInt))) ∧ True) (dg_B g D shM o rfM) A) args s 0 0 A := ⟨_, rfl⟩
  rw [← hQ9]
  obtain ⟨hlx_0, hlx_1, hlx_2⟩ := hlx
  refine lv_aload_n hx hb dX12_cellTold_0 rfl (lv_at hl 0 rfl) ?_
  refine lv_iconst (v := 0) hx hb dX12_cellTold_1 (by decide +kernel) ?_
  refine lv_aload_n hx hb dX12_cellTold_2 rfl (lv_at hl 0 rfl) ?_
  refine dg_get (C := RX12) (T := TX12) (N := 77) hx hb hts (fun w h => bw_mem (wU_X12 w h)) hown K hP sM_0 rfl 14 (by decide) (hts _ (bw_mem wB_892)) (fun _ h9 => h9) (v := .ref (o + 2)) (show S.1 0 14 = .ref (o + 2) from dg_I.rel (d := 2) I sM_0 (by decide +kernel)) dX12_cellTold_3 ?_
  refine lv_aload_n hx hb dX12_cellTold_6 rfl (lv_at hl 0 rfl) ?_
  obtain ⟨x_1, f_x_1, b_x_1⟩ := dg_I.int (i := 0) (k := 35) (lo := 0) (hi := 1) I sM_0 (by decide +kernel)
  refine dg_get (C := RX12) (T := TX12) (N := 77) hx hb hts (fun w h => bw_mem (wU_X12 w h)) hown K hP sM_0 rfl 35 (by decide) (hts _ (bw_mem wB_1195)) (fun _ h9 => h9) (v := .int x_1) f_x_1 dX12_cellTold_7 ?_
  have hin_2 : vp_in x_1 2 := (dk_inv (by omega) (by omega))
  refine dg_iald hx hb K hP sM_2 hin_2 dX12_cellTold_10 (fun x_3 ex_3 => ?_)
  have b_x_3 := dk_all_at (dg_I.row (lo := 0) (hi := 9999) I sM_2 (by decide +kernel)) hin_2 ex_3
  have zc_x_3 : 3 ≤ (x_3).toInt ∧ (x_3).toInt ≤ 7 := by rw [ex_3]; exact ⟨(ZC _ f_x_1).1, (ZC _ f_x_1).2.1⟩
  refine lv_iconst (v := 1) hx hb dX12_cellTold_11 (by decide +kernel) ?_
  refine lv_isub hx hb dX12_cellTold_12 ?_
  refine lv_topi (fun x_4 ex_4 => ?_)
  have jx_4 : (x_4).toInt = (x_3).toInt - 1 := by rw [ex_4]; exact dk_subT rfl (by decide +kernel) (by omega) (by omega)
  refine dg_calli hS hA1 hA (va_runV (As := [.int 0, .int x_4]) (rest := []) F (c_m_number l g D o S 0 x_4 sg f_sg (by omega) sa f_sa (by omega) se f_se (by omega) sl f_sl (by omega) fk f_fk (by omega) (by omega) I s.heap.size) (cwV 2 hts (bw_V wB_1255 wB_1256 wB_1257 wB_881 wB_1254) rfl rfl rfl (by decide +kernel) ⟨Nat.le_of_ble_eq_true rfl, Nat.le_of_ble_eq_true rfl⟩) (dg_preV sM_0 rfl K ST hP hS hA1 hA) rfl rfl hl.1 rfl (lv_room (Nat.le_of_ble_eq_true rfl)) dX12_cellTold_13 ⟨Nat.le_of_ble_eq_true rfl, Nat.le_of_ble_eq_true rfl⟩) (fun x_5 S_6 hw_6 H locs hP hS => ?_)
  obtain ⟨I_6, m_6, w_6_0, w_6_1, -⟩ := hw_6
  have M_6 := dg_sm.tr M_0 m_6 (by decide) (by decide)
  have hz_7 : (0 : Int32).toInt = 0 := by decide +kernel
  have w_6_0 : 0 ≤ (x_5).toInt ∧ (x_5).toInt ≤ 9999 := w_6_0
  obtain ⟨y_8, y_9, y_10, y_11, f_y_8, f_y_9, f_y_10, f_y_11, w_6_1⟩ := w_6_1
  have w_6_1 : ((y_9).toInt ≤ (y_10).toInt ∧ (y_10).toInt ≤ (sl).toInt ∧ ((y_8).toInt ≠ 0 → (y_9).toInt + 1 ≤ (y_10).toInt)) ∧ (sa).toInt ≤ (y_9).toInt ∧ ((fk).toInt ≠ 0 → (y_11).toInt ≠ 0) ∧ ((y_11).toInt = 0 → (((0 : Int32)).toInt ≤ (x_5).toInt ∧ (x_5).toInt ≤ (x_4).toInt ∧ (sa).toInt + 1 ≤ (y_9).toInt)) := w_6_1
  obtain ⟨⟨w_6_1_0, w_6_1_1, w_6_1_2⟩, w_6_1_3, w_6_1_4, w_6_1_5⟩ := w_6_1
  have b_y_8 : 0 ≤ (y_8).toInt ∧ (y_8).toInt ≤ 3 := dg_I.intb (lo := 0) (hi := 3) I_6 sM_0 (by decide +kernel) f_y_8
  have b_y_9 : 0 ≤ (y_9).toInt ∧ (y_9).toInt ≤ 1600 := dg_I.intb (lo := 0) (hi := 1600) I_6 sM_0 (by decide +kernel) f_y_9
  have b_y_10 : 0 ≤ (y_10).toInt ∧ (y_10).toInt ≤ 1600 := dg_I.intb (lo := 0) (hi := 1600) I_6 sM_0 (by decide +kernel) f_y_10
  have b_y_11 : 0 ≤ (y_11).toInt ∧ (y_11).toInt ≤ 6 := dg_I.intb (lo := 0) (hi := 6) I_6 sM_0 (by decide +kernel) f_y_11
  refine lv_istore_n (lv' := [(1, .int x_5), (0, .ref (o + 0))]) hx hb dX12_cellTold_16 rfl hl (by decide) rfl (fun ls hl => ?_)
  refine lv_aload_n hx hb dX12_cellTold_17 rfl (lv_at hl 1 rfl) ?_
  refine lv_iconst (v := 0) hx hb dX12_cellTold_18 (by decide +kernel) ?_
  refine lv_aload_n hx hb dX12_cellTold_19 rfl (lv_at hl 1 rfl) ?_
  refine dg_get (C := RX12) (T := TX12) (N := 77) hx hb hts (fun w h => bw_mem (wU_X12 w h)) hown K hP sM_0 rfl 15 (by decide) (hts _ (bw_mem wB_894)) (fun _ h9 => h9) (v := .ref (o + 3)) (show S_6.1 0 15 = .ref (o + 3) from dg_I.rel (d := 3) I_6 sM_0 (by decide +kernel)) dX12_cellTold_20 ?_
  refine lv_aload_n hx hb dX12_cellTold_23 rfl (lv_at hl 1 rfl) ?_
  refine dg_get (C := RX12) (T := TX12) (N := 77) hx hb hts (fun w h => bw_mem (wU_X12 w h)) hown K hP sM_0 rfl 35 (by decide) (hts _ (bw_mem wB_1195)) (fun _ h9 => h9) (v := .int x_1) ((m_6.1 0 35 _ sM_0 (by decide)).trans f_x_1) dX12_cellTold_24 ?_
  have hin_12 : vp_in x_1 2 := (dk_inv (by omega) (by omega))
  refine dg_iald hx hb K hP sM_3 hin_12 dX12_cellTold_27 (fun x_13 ex_13 => ?_)
  have b_x_13 := dk_all_at (dg_I.row (lo := 0) (hi := 9999) I_6 sM_3 (by decide +kernel)) hin_12 ex_13
  have zc_x_13 : 3 ≤ (x_13).toInt ∧ (x_13).toInt ≤ 7 := by rw [ex_13]; exact ⟨((ZCM.keep ZC m_6 (by decide) (by decide) (by decide) (by decide)) _ ((m_6.1 0 35 _ sM_0 (by decide)).trans f_x_1)).2.2.1, ((ZCM.keep ZC m_6 (by decide) (by decide) (by decide) (by decide)) _ ((m_6.1 0 35 _ sM_0 (by decide)).trans f_x_1)).2.2.2.1⟩
  refine lv_iconst (v := 1) hx hb dX12_cellTold_28 (by decide +kernel) ?_
  refine lv_isub hx hb dX12_cellTold_29 ?_
  refine lv_topi (fun x_14 ex_14 => ?_)
  have jx_14 : (x_14).toInt = (x_13).toInt - 1 := by rw [ex_14]; exact dk_subT rfl (by decide +kernel) (by omega) (by omega)
  refine dg_calli hS hA1 hA (va_runV (As := [.int 0, .int x_14]) (rest := []) F (c_m_number l g D o S_6 0 x_14 y_8 f_y_8 (by omega) y_9 f_y_9 (by omega) y_10 f_y_10 (by omega) sl ((m_6.1 0 2 _ sM_0 (by decide)).trans f_sl) (by omega) y_11 f_y_11 (by omega) (by omega) I_6 H.size) (cwV 2 hts (bw_V wB_1255 wB_1256 wB_1257 wB_881 wB_1254) rfl rfl rfl (by decide +kernel) ⟨Nat.le_of_ble_eq_true rfl, Nat.le_of_ble_eq_true rfl⟩) (dg_preV sM_0 rfl K ST hP hS hA1 hA) rfl rfl hl.1 rfl (lv_room (Nat.le_of_ble_eq_true rfl)) dX12_cellTold_30 ⟨Nat.le_of_ble_eq_true rfl, Nat.le_of_ble_eq_true rfl⟩) (fun x_15 S_16 hw_16 H locs hP hS => ?_)
  obtain ⟨I_16, m_16, w_16_0, w_16_1, -⟩ := hw_16
  have M_16 := dg_sm.tr M_6 m_16 (by decide) (by decide)
  have hz_17 : (0 : Int32).toInt = 0 := by decide +kernel
  have w_16_0 : 0 ≤ (x_15).toInt ∧ (x_15).toInt ≤ 9999 := w_16_0
  obtain ⟨y_18, y_19, y_20, y_21, f_y_18, f_y_19, f_y_20, f_y_21, w_16_1⟩ := w_16_1
  have w_16_1 : ((y_19).toInt ≤ (y_20).toInt ∧ (y_20).toInt ≤ (sl).toInt ∧ ((y_18).toInt ≠ 0 → (y_19).toInt + 1 ≤ (y_20).toInt)) ∧ (y_9).toInt ≤ (y_19).toInt ∧ ((y_11).toInt ≠ 0 → (y_21).toInt ≠ 0) ∧ ((y_21).toInt = 0 → (((0 : Int32)).toInt ≤ (x_15).toInt ∧ (x_15).toInt ≤ (x_14).toInt ∧ (y_9).toInt + 1 ≤ (y_19).toInt)) := w_16_1
  obtain ⟨⟨w_16_1_0, w_16_1_1, w_16_1_2⟩, w_16_1_3, w_16_1_4, w_16_1_5⟩ := w_16_1
  have b_y_18 : 0 ≤ (y_18).toInt ∧ (y_18).toInt ≤ 3 := dg_I.intb (lo := 0) (hi := 3) I_16 sM_0 (by decide +kernel) f_y_18
  have b_y_19 : 0 ≤ (y_19).toInt ∧ (y_19).toInt ≤ 1600 := dg_I.intb (lo := 0) (hi := 1600) I_16 sM_0 (by decide +kernel) f_y_19
  have b_y_20 : 0 ≤ (y_20).toInt ∧ (y_20).toInt ≤ 1600 := dg_I.intb (lo := 0) (hi := 1600) I_16 sM_0 (by decide +kernel) f_y_20
  have b_y_21 : 0 ≤ (y_21).toInt ∧ (y_21).toInt ≤ 6 := dg_I.intb (lo := 0) (hi := 6) I_16 sM_0 (by decide +kernel) f_y_21
  refine lv_istore_n (lv' := [(2, .int x_15), (1, .int x_5), (0, .ref (o + 0))]) hx hb dX12_cellTold_33 rfl hl (by decide) rfl (fun ls hl => ?_)
  refine lv_aload_n hx hb dX12_cellTold_34 rfl (lv_at hl 2 rfl) ?_
  refine dg_get (C := RX12) (T := TX12) (N := 77) hx hb hts (fun w h => bw_mem (wU_X12 w h)) hown K hP sM_0 rfl 8 (by decide) (hts _ (bw_mem wB_1133)) (fun _ h9 => h9) (v := .int y_21) f_y_21 dX12_cellTold_35 ?_
  refine lv_if_le (tgt := 45) hx hb dX12_cellTold_38 (by decide) (fun c_22 => ?_) (fun c_22 => ?_)
  · have jc_22 := dk_lec (k := 0) (by decide +kernel) c_22
    have w_16_1_4c : (y_11).toInt = 0 := by omega
    clear w_16_1_4
    have w_16_1_5r := w_16_1_5 (by omega)
    clear w_16_1_5
    obtain ⟨w_16_1_5r_0, w_16_1_5r_1, w_16_1_5r_2⟩ := w_16_1_5r
    have w_6_1_4c : (fk).toInt = 0 := by omega
    clear w_6_1_4
    have w_6_1_5r := w_6_1_5 (by omega)
    clear w_6_1_5
    obtain ⟨w_6_1_5r_0, w_6_1_5r_1, w_6_1_5r_2⟩ := w_6_1_5r
    refine lv_bipush (v := 8) hx hb dX12_cellTold_45 (by decide +kernel) ?_
    refine lv_iload_n hx hb dX12_cellTold_47 rfl (lv_at hl 0 rfl) ?_
    refine lv_imul hx hb dX12_cellTold_48 ?_
    refine lv_topi (fun x_23 ex_23 => ?_)
    have jx_23 : (x_23).toInt = 8 * (x_15).toInt := by rw [ex_23]; exact dk_mulT (by decide +kernel) rfl (by omega) (by omega)
    refine lv_iload_n hx hb dX12_cellTold_49 rfl (lv_at hl 1 rfl) ?_
    refine lv_iadd hx hb dX12_cellTold_50 ?_
    refine lv_topi (fun x_24 ex_24 => ?_)
    have jx_24 : (x_24).toInt = (x_23).toInt + (x_5).toInt := by rw [ex_24]; exact dk_addT rfl rfl (by omega) (by omega)
    refine W.widen (k := 0) (n := 0) (Nat.le_of_ble_eq_true rfl) (Nat.le_of_ble_eq_true rfl) ?_
    rw [hQ9]
    exact dg_iret hx hb hr hlocks rfl hP hS ⟨I_16, M_16, (by omega), ⟨y_18, y_19, y_20, y_21, f_y_18, f_y_19, f_y_20, f_y_21, (by omega)⟩, trivial⟩ dX12_cellTold_51
  · have jc_22 := dk_nlec (k := 0) (by decide +kernel) c_22
    clear w_16_1_5
    refine lv_iconst (v := 0) hx hb dX12_cellTold_41 (by decide +kernel) ?_
    refine lv_goto (tgt := 51) hx hb dX12_cellTold_42 (by decide) ?_
    have hz_25 : (0 : Int32).toInt = 0 := by decide +kernel
    have hz_26 : (0 : Int32).toInt = 0 := by decide +kernel
    refine W.widen (k := 0) (n := 0) (Nat.le_of_ble_eq_true rfl) (Nat.le_of_ble_eq_true rfl) ?_
    rw [hQ9]
    exact dg_iret hx hb hr hlocks rfl hP hS ⟨I_16, M_16, (by decide +kernel), ⟨y_18, y_19, y_20, y_21, f_y_18, f_y_19, f_y_20, f_y_21, (by omega)⟩, trivial⟩ dX12_cellTold_51
set_option maxHeartbeats 8000000 in
set_option maxRecDepth 100000 in
theorem c_m_seaming (l : Launch) (g : Nat → ClassId) (D : va_G) (o : Nat) (S : dg_S) (sg : Int32) (f_sg : S.1 0 3 = .int sg) (b_sg : 0 ≤ (sg).toInt ∧ (sg).toInt ≤ 3) (sa : Int32) (f_sa : S.1 0 4 = .int sa) (b_sa : 0 ≤ (sa).toInt ∧ (sa).toInt ≤ 1600) (se : Int32) (f_se : S.1 0 5 = .int se) (b_se : 0 ≤ (se).toInt ∧ (se).toInt ≤ 1600) (sl : Int32) (f_sl : S.1 0 2 = .int sl) (b_sl : 0 ≤ (sl).toInt ∧ (sl).toInt ≤ 1600) (fk : Int32) (f_fk : S.1 0 8 = .int fk) (b_fk : 0 ≤ (fk).toInt ∧ (fk).toInt ≤ 6) (hlx : (sa).toInt ≤ (se).toInt ∧ (se).toInt ≤ (sl).toInt ∧ ((sg).toInt ≠ 0 → (sa).toInt + 1 ≤ (se).toInt)) (ZB : ZBM S) (ZK : ZKM S) (I : CM o S) (sz : Nat) : Met l yX12_seaming (bw yX12_seaming cX12_seaming 1 none) ({ frames := 4, cells := 0, slots := 0, locals := 100 } : Room) (dk_Pc g D (dg_w g shM o rfM S) sz [.ref (o + 0)]) (va_Qv (fun S' => CM o S' ∧ dg_sm shM [(0, 3), (0, 4), (0, 5), (0, 6), (0, 7), (0, 8), (0, 9), (0, 12)] [2, 3] S S' ∧ (∃ y9_3 y9_4 y9_5 y9_8 : Int32, S'.1 0 3 = .int y9_3 ∧ S'.1 0 4 = .int y9_4 ∧ S'.1 0 5 = .int y9_5 ∧ S'.1 0 8 = .int y9_8 ∧ (((y9_4).toInt ≤ (y9_5).toInt ∧ (y9_5).toInt ≤ (sl).toInt ∧ ((y9_3).toInt ≠ 0 → (y9_4).toInt + 1 ≤ (y9_5).toInt)) ∧ (sa).toInt ≤ (y9_4).toInt ∧ ((fk).toInt ≠ 0 → (y9_8).toInt ≠ 0) ∧ ((y9_8).toInt = 0 → (sa).toInt + 1 ≤ (y9_4).toInt))) ∧ (∀ k9 : Int32, S'.1 0 8 = .int k9 → k9.toInt = 0 → SEM S') ∧ ZBM S' ∧ True) (dg_B g D shM o rfM) (dg_A o shM.length sz)) 0 0 (dg_A o shM.length sz) := by
  refine dg_met (cc := cX12_seaming) (maxL := 1) (ret := none) (by decide) rfl (Nat.le_of_ble_eq_true rfl) ?_
  intro p e s m args below meth c A hAe harg hx hb hr hml hts hown hlocks hin hP K hS hA1 hA ST hsz ls hl
  rw [← hAe]
  have F : CallFix p m c cX12_seaming 1 s args (bw yX12_seaming cX12_seaming 1 none) RX12 := ⟨hx, hb, hml, hown, hts⟩
  have hl : lv_has ls 1 [(0, .ref (o + 0))] := hl
  have M_0 : dg_sm shM [(0, 3), (0, 4), (0, 5), (0, 6), (0, 7), (0, 8), (0, 9), (0, 12)] [2, 3] S S := dg_sm.rf
  obtain ⟨Q9, hQ9⟩ : ∃ Q : State → Prop, Q = MQ below (va_Qv (fun S' => CM o S' ∧ dg_sm shM [(0, 3), (0, 4), (0, 5), (0, 6), (0, 7), (0, 8), (0, 9), (0, 12)] [2, 3] S S' ∧ (∃ y9_3 y9_4 y9_5 y9_8 : Int32, S'.1 0 3 = .int y9_3 ∧ S'.1 0 4 = .int y9_4 ∧ S'.1 0 5 = .int y9_5 ∧ S'.1 0 8 = .int y9_8 ∧ (((y9_4).toInt ≤ (y9_5).toInt ∧ (y9_5).toInt ≤ (sl).toInt ∧ ((y9_3).toInt ≠ 0 → (y9_4).toInt + 1 ≤ (y9_5).toInt)) ∧ (sa).toInt ≤ (y9_4).toInt ∧ ((fk).toInt ≠ 0 → (y9_8).toInt ≠ 0) ∧ ((y9_8).toInt = 0 → (sa).toInt + 1 ≤ (y9_4).toInt))) ∧ (∀ k9 : Int32, S'.1 0 8 = .int k9 → k9.toInt = 0 → SEM S') ∧ ZBM S' ∧ True) (dg_B g D shM o rfM) A) args s 0 0 A := ⟨_, rfl⟩
  rw [← hQ9]
  obtain ⟨hlx_0, hlx_1, hlx_2⟩ := hlx
  obtain ⟨x_1, f_x_1, b_x_1⟩ := dg_I.int (i := 0) (k := 13) (lo := 0) (hi := 1) I sM_0 (by decide +kernel)
  obtain ⟨x_2, f_x_2, b_x_2⟩ := dg_I.int (i := 0) (k := 35) (lo := 0) (hi := 1) I sM_0 (by decide +kernel)
  have hzk := ZK _ _ f_x_1 f_x_2
  refine lv_aload_n hx hb dX12_seaming_0 rfl (lv_at hl 0 rfl) ?_
  refine lv_ldc2 hx hb hown (hts _ (bw_mem wB_1168)) dX12_seaming_1 ?_
  refine dg_callv hS hA1 hA (va_runV (As := [.long 1936023917]) (rest := []) F (c_m_must_ l g D o S 1936023917 sg f_sg (by omega) sa f_sa (by omega) se f_se (by omega) sl f_sl (by omega) fk f_fk (by omega) (by omega) I s.heap.size) (cwV 1 hts (bw_V wB_1259 wB_1260 wB_1261 wB_881 wB_1258) rfl rfl rfl (by decide +kernel) ⟨Nat.le_of_ble_eq_true rfl, Nat.le_of_ble_eq_true rfl⟩) (dg_preV sM_0 rfl K ST hP hS hA1 hA) rfl rfl hl.1 rfl (lv_room (Nat.le_of_ble_eq_true rfl)) dX12_seaming_4 ⟨Nat.le_of_ble_eq_true rfl, Nat.le_of_ble_eq_true rfl⟩) (fun S_3 hw_3 H locs hP hS => ?_)
  obtain ⟨I_3, m_3, w_3_0, -⟩ := hw_3
  have M_3 := dg_sm.tr M_0 m_3 (by decide) (by decide)
  obtain ⟨y_4, y_5, y_6, y_7, f_y_4, f_y_5, f_y_6, f_y_7, w_3_0⟩ := w_3_0
  have w_3_0 : ((y_5).toInt ≤ (y_6).toInt ∧ (y_6).toInt ≤ (sl).toInt ∧ ((y_4).toInt ≠ 0 → (y_5).toInt + 1 ≤ (y_6).toInt)) ∧ (sa).toInt ≤ (y_5).toInt ∧ ((fk).toInt ≠ 0 → (y_7).toInt ≠ 0) ∧ ((y_7).toInt = 0 → (sa).toInt + 1 ≤ (y_5).toInt) := w_3_0
  obtain ⟨⟨w_3_0_0, w_3_0_1, w_3_0_2⟩, w_3_0_3, w_3_0_4, w_3_0_5⟩ := w_3_0
  have b_y_4 : 0 ≤ (y_4).toInt ∧ (y_4).toInt ≤ 3 := dg_I.intb (lo := 0) (hi := 3) I_3 sM_0 (by decide +kernel) f_y_4
  have b_y_5 : 0 ≤ (y_5).toInt ∧ (y_5).toInt ≤ 1600 := dg_I.intb (lo := 0) (hi := 1600) I_3 sM_0 (by decide +kernel) f_y_5
  have b_y_6 : 0 ≤ (y_6).toInt ∧ (y_6).toInt ≤ 1600 := dg_I.intb (lo := 0) (hi := 1600) I_3 sM_0 (by decide +kernel) f_y_6
  have b_y_7 : 0 ≤ (y_7).toInt ∧ (y_7).toInt ≤ 6 := dg_I.intb (lo := 0) (hi := 6) I_3 sM_0 (by decide +kernel) f_y_7
  refine lv_aload_n hx hb dX12_seaming_7 rfl (lv_at hl 0 rfl) ?_
  refine dg_get (C := RX12) (T := TX12) (N := 77) hx hb hts (fun w h => bw_mem (wU_X12 w h)) hown K hP sM_0 rfl 14 (by decide) (hts _ (bw_mem wB_892)) (fun _ h9 => h9) (v := .ref (o + 2)) (show S_3.1 0 14 = .ref (o + 2) from dg_I.rel (d := 2) I_3 sM_0 (by decide +kernel)) dX12_seaming_8 ?_
  refine lv_aload_n hx hb dX12_seaming_11 rfl (lv_at hl 0 rfl) ?_
  refine dg_get (C := RX12) (T := TX12) (N := 77) hx hb hts (fun w h => bw_mem (wU_X12 w h)) hown K hP sM_0 rfl 35 (by decide) (hts _ (bw_mem wB_1195)) (fun _ h9 => h9) (v := .int x_2) ((m_3.1 0 35 _ sM_0 (by decide)).trans f_x_2) dX12_seaming_12 ?_
  refine lv_aload_n hx hb dX12_seaming_15 rfl (lv_at hl 0 rfl) ?_
  refine lv_iconst (v := 3) hx hb dX12_seaming_16 (by decide +kernel) ?_
  refine lv_bipush (v := 7) hx hb dX12_seaming_17 (by decide +kernel) ?_
  refine dg_calli hS hA1 hA (va_runV (As := [.int 3, .int 7]) (rest := [.int x_2, .ref (o + 2)]) F (c_m_number l g D o S_3 3 7 y_4 f_y_4 (by omega) y_5 f_y_5 (by omega) y_6 f_y_6 (by omega) sl ((m_3.1 0 2 _ sM_0 (by decide)).trans f_sl) (by omega) y_7 f_y_7 (by omega) (by omega) I_3 H.size) (cwV 2 hts (bw_V wB_1255 wB_1256 wB_1257 wB_881 wB_1254) rfl rfl rfl (by decide +kernel) ⟨Nat.le_of_ble_eq_true rfl, Nat.le_of_ble_eq_true rfl⟩) (dg_preV sM_0 rfl K ST hP hS hA1 hA) rfl rfl hl.1 rfl (lv_room (Nat.le_of_ble_eq_true rfl)) dX12_seaming_19 ⟨Nat.le_of_ble_eq_true rfl, Nat.le_of_ble_eq_true rfl⟩) (fun x_8 S_9 hw_9 H locs hP hS => ?_)
  obtain ⟨I_9, m_9, w_9_0, w_9_1, -⟩ := hw_9
  have M_9 := dg_sm.tr M_3 m_9 (by decide) (by decide)
  have hz_10 : (3 : Int32).toInt = 3 := by decide +kernel
  have hz_11 : (7 : Int32).toInt = 7 := by decide +kernel
  have w_9_0 : 0 ≤ (x_8).toInt ∧ (x_8).toInt ≤ 9999 := w_9_0
  obtain ⟨y_12, y_13, y_14, y_15, f_y_12, f_y_13, f_y_14, f_y_15, w_9_1⟩ := w_9_1
  have w_9_1 : ((y_13).toInt ≤ (y_14).toInt ∧ (y_14).toInt ≤ (sl).toInt ∧ ((y_12).toInt ≠ 0 → (y_13).toInt + 1 ≤ (y_14).toInt)) ∧ (y_5).toInt ≤ (y_13).toInt ∧ ((y_7).toInt ≠ 0 → (y_15).toInt ≠ 0) ∧ ((y_15).toInt = 0 → (((3 : Int32)).toInt ≤ (x_8).toInt ∧ (x_8).toInt ≤ ((7 : Int32)).toInt ∧ (y_5).toInt + 1 ≤ (y_13).toInt)) := w_9_1
  obtain ⟨⟨w_9_1_0, w_9_1_1, w_9_1_2⟩, w_9_1_3, w_9_1_4, w_9_1_5⟩ := w_9_1
  have b_y_12 : 0 ≤ (y_12).toInt ∧ (y_12).toInt ≤ 3 := dg_I.intb (lo := 0) (hi := 3) I_9 sM_0 (by decide +kernel) f_y_12
  have b_y_13 : 0 ≤ (y_13).toInt ∧ (y_13).toInt ≤ 1600 := dg_I.intb (lo := 0) (hi := 1600) I_9 sM_0 (by decide +kernel) f_y_13
  have b_y_14 : 0 ≤ (y_14).toInt ∧ (y_14).toInt ≤ 1600 := dg_I.intb (lo := 0) (hi := 1600) I_9 sM_0 (by decide +kernel) f_y_14
  have b_y_15 : 0 ≤ (y_15).toInt ∧ (y_15).toInt ≤ 6 := dg_I.intb (lo := 0) (hi := 6) I_9 sM_0 (by decide +kernel) f_y_15
  have hin_16 : vp_in x_2 2 := (dk_inv (by omega) (by omega))
  refine dg_iast hx hb K hP hS hA1 sM_2 hin_16 dX12_seaming_22 (fun S_17 e_17 H locs hP hS => ?_)
  have I_17 := dg_I.ufu (lo := 0) (hi := 9999) I_9 e_17 sM_2 (by decide +kernel) (show 0 ≤ (x_8).toInt ∧ (x_8).toInt ≤ 9999 from (by omega))
  have M_17 := dg_sm.uf M_9 e_17 sM_2 (by decide)
  have ZB_17 : ZBM S_17 := ZBM.up (r := 2) (ZBM.keep (ZBM.keep ZB m_3 (by decide) (by decide) (by decide) (by decide) (by decide)) m_9 (by decide) (by decide) (by decide) (by decide) (by decide)) (by decide) (((m_9.1 0 13 _ sM_0 (by decide)).trans (m_3.1 0 13 _ sM_0 (by decide))).trans f_x_1) (by omega) e_17 (by omega)
  refine lv_aload_n hx hb dX12_seaming_23 rfl (lv_at hl 0 rfl) ?_
  refine lv_ldc2 hx hb hown (hts _ (bw_mem wB_1169)) dX12_seaming_24 ?_
  refine dg_callv hS hA1 hA (va_runV (As := [.long 25209]) (rest := []) F (c_m_must_ l g D o S_17 25209 y_12 ((dg_uf_F e_17 0 3).trans f_y_12) (by omega) y_13 ((dg_uf_F e_17 0 4).trans f_y_13) (by omega) y_14 ((dg_uf_F e_17 0 5).trans f_y_14) (by omega) sl (((dg_uf_F e_17 0 2).trans ((m_9.1 0 2 _ sM_0 (by decide)).trans (m_3.1 0 2 _ sM_0 (by decide)))).trans f_sl) (by omega) y_15 ((dg_uf_F e_17 0 8).trans f_y_15) (by omega) (by omega) I_17 H.size) (cwV 1 hts (bw_V wB_1259 wB_1260 wB_1261 wB_881 wB_1258) rfl rfl rfl (by decide +kernel) ⟨Nat.le_of_ble_eq_true rfl, Nat.le_of_ble_eq_true rfl⟩) (dg_preV sM_0 rfl K ST hP hS hA1 hA) rfl rfl hl.1 rfl (lv_room (Nat.le_of_ble_eq_true rfl)) dX12_seaming_27 ⟨Nat.le_of_ble_eq_true rfl, Nat.le_of_ble_eq_true rfl⟩) (fun S_18 hw_18 H locs hP hS => ?_)
  obtain ⟨I_18, m_18, w_18_0, -⟩ := hw_18
  have M_18 := dg_sm.tr M_17 m_18 (by decide) (by decide)
  obtain ⟨y_19, y_20, y_21, y_22, f_y_19, f_y_20, f_y_21, f_y_22, w_18_0⟩ := w_18_0
  have w_18_0 : ((y_20).toInt ≤ (y_21).toInt ∧ (y_21).toInt ≤ (sl).toInt ∧ ((y_19).toInt ≠ 0 → (y_20).toInt + 1 ≤ (y_21).toInt)) ∧ (y_13).toInt ≤ (y_20).toInt ∧ ((y_15).toInt ≠ 0 → (y_22).toInt ≠ 0) ∧ ((y_22).toInt = 0 → (y_13).toInt + 1 ≤ (y_20).toInt) := w_18_0
  obtain ⟨⟨w_18_0_0, w_18_0_1, w_18_0_2⟩, w_18_0_3, w_18_0_4, w_18_0_5⟩ := w_18_0
  have b_y_19 : 0 ≤ (y_19).toInt ∧ (y_19).toInt ≤ 3 := dg_I.intb (lo := 0) (hi := 3) I_18 sM_0 (by decide +kernel) f_y_19
  have b_y_20 : 0 ≤ (y_20).toInt ∧ (y_20).toInt ≤ 1600 := dg_I.intb (lo := 0) (hi := 1600) I_18 sM_0 (by decide +kernel) f_y_20
  have b_y_21 : 0 ≤ (y_21).toInt ∧ (y_21).toInt ≤ 1600 := dg_I.intb (lo := 0) (hi := 1600) I_18 sM_0 (by decide +kernel) f_y_21
  have b_y_22 : 0 ≤ (y_22).toInt ∧ (y_22).toInt ≤ 6 := dg_I.intb (lo := 0) (hi := 6) I_18 sM_0 (by decide +kernel) f_y_22
  refine lv_aload_n hx hb dX12_seaming_30 rfl (lv_at hl 0 rfl) ?_
  refine dg_get (C := RX12) (T := TX12) (N := 77) hx hb hts (fun w h => bw_mem (wU_X12 w h)) hown K hP sM_0 rfl 15 (by decide) (hts _ (bw_mem wB_894)) (fun _ h9 => h9) (v := .ref (o + 3)) (show S_18.1 0 15 = .ref (o + 3) from dg_I.rel (d := 3) I_18 sM_0 (by decide +kernel)) dX12_seaming_31 ?_
  refine lv_aload_n hx hb dX12_seaming_34 rfl (lv_at hl 0 rfl) ?_
  refine dg_get (C := RX12) (T := TX12) (N := 77) hx hb hts (fun w h => bw_mem (wU_X12 w h)) hown K hP sM_0 rfl 35 (by decide) (hts _ (bw_mem wB_1195)) (fun _ h9 => h9) (v := .int x_2) (((m_18.1 0 35 _ sM_0 (by decide)).trans ((dg_uf_F e_17 0 35).trans ((m_9.1 0 35 _ sM_0 (by decide)).trans (m_3.1 0 35 _ sM_0 (by decide))))).trans f_x_2) dX12_seaming_35 ?_
  refine lv_aload_n hx hb dX12_seaming_38 rfl (lv_at hl 0 rfl) ?_
  refine lv_iconst (v := 3) hx hb dX12_seaming_39 (by decide +kernel) ?_
  refine lv_bipush (v := 7) hx hb dX12_seaming_40 (by decide +kernel) ?_
  refine dg_calli hS hA1 hA (va_runV (As := [.int 3, .int 7]) (rest := [.int x_2, .ref (o + 3)]) F (c_m_number l g D o S_18 3 7 y_19 f_y_19 (by omega) y_20 f_y_20 (by omega) y_21 f_y_21 (by omega) sl (((m_18.1 0 2 _ sM_0 (by decide)).trans ((dg_uf_F e_17 0 2).trans ((m_9.1 0 2 _ sM_0 (by decide)).trans (m_3.1 0 2 _ sM_0 (by decide))))).trans f_sl) (by omega) y_22 f_y_22 (by omega) (by omega) I_18 H.size) (cwV 2 hts (bw_V wB_1255 wB_1256 wB_1257 wB_881 wB_1254) rfl rfl rfl (by decide +kernel) ⟨Nat.le_of_ble_eq_true rfl, Nat.le_of_ble_eq_true rfl⟩) (dg_preV sM_0 rfl K ST hP hS hA1 hA) rfl rfl hl.1 rfl (lv_room (Nat.le_of_ble_eq_true rfl)) dX12_seaming_42 ⟨Nat.le_of_ble_eq_true rfl, Nat.le_of_ble_eq_true rfl⟩) (fun x_23 S_24 hw_24 H locs hP hS => ?_)
  obtain ⟨I_24, m_24, w_24_0, w_24_1, -⟩ := hw_24
  have M_24 := dg_sm.tr M_18 m_24 (by decide) (by decide)
  have hz_25 : (3 : Int32).toInt = 3 := by decide +kernel
  have hz_26 : (7 : Int32).toInt = 7 := by decide +kernel
  have w_24_0 : 0 ≤ (x_23).toInt ∧ (x_23).toInt ≤ 9999 := w_24_0
  obtain ⟨y_27, y_28, y_29, y_30, f_y_27, f_y_28, f_y_29, f_y_30, w_24_1⟩ := w_24_1
  have w_24_1 : ((y_28).toInt ≤ (y_29).toInt ∧ (y_29).toInt ≤ (sl).toInt ∧ ((y_27).toInt ≠ 0 → (y_28).toInt + 1 ≤ (y_29).toInt)) ∧ (y_20).toInt ≤ (y_28).toInt ∧ ((y_22).toInt ≠ 0 → (y_30).toInt ≠ 0) ∧ ((y_30).toInt = 0 → (((3 : Int32)).toInt ≤ (x_23).toInt ∧ (x_23).toInt ≤ ((7 : Int32)).toInt ∧ (y_20).toInt + 1 ≤ (y_28).toInt)) := w_24_1
  obtain ⟨⟨w_24_1_0, w_24_1_1, w_24_1_2⟩, w_24_1_3, w_24_1_4, w_24_1_5⟩ := w_24_1
  have b_y_27 : 0 ≤ (y_27).toInt ∧ (y_27).toInt ≤ 3 := dg_I.intb (lo := 0) (hi := 3) I_24 sM_0 (by decide +kernel) f_y_27
  have b_y_28 : 0 ≤ (y_28).toInt ∧ (y_28).toInt ≤ 1600 := dg_I.intb (lo := 0) (hi := 1600) I_24 sM_0 (by decide +kernel) f_y_28
  have b_y_29 : 0 ≤ (y_29).toInt ∧ (y_29).toInt ≤ 1600 := dg_I.intb (lo := 0) (hi := 1600) I_24 sM_0 (by decide +kernel) f_y_29
  have b_y_30 : 0 ≤ (y_30).toInt ∧ (y_30).toInt ≤ 6 := dg_I.intb (lo := 0) (hi := 6) I_24 sM_0 (by decide +kernel) f_y_30
  have hin_31 : vp_in x_2 2 := (dk_inv (by omega) (by omega))
  refine dg_iast hx hb K hP hS hA1 sM_3 hin_31 dX12_seaming_45 (fun S_32 e_32 H locs hP hS => ?_)
  have I_32 := dg_I.ufu (lo := 0) (hi := 9999) I_24 e_32 sM_3 (by decide +kernel) (show 0 ≤ (x_23).toInt ∧ (x_23).toInt ≤ 9999 from (by omega))
  have M_32 := dg_sm.uf M_24 e_32 sM_3 (by decide)
  have ZB_32 : ZBM S_32 := ZBM.up (r := 3) (ZBM.keep (ZBM.keep ZB_17 m_18 (by decide) (by decide) (by decide) (by decide) (by decide)) m_24 (by decide) (by decide) (by decide) (by decide) (by decide)) (by decide) (((m_24.1 0 13 _ sM_0 (by decide)).trans ((m_18.1 0 13 _ sM_0 (by decide)).trans ((dg_uf_F e_17 0 13).trans ((m_9.1 0 13 _ sM_0 (by decide)).trans (m_3.1 0 13 _ sM_0 (by decide)))))).trans f_x_1) (by omega) e_32 (by omega)
  refine W.widen (k := 0) (n := 0) (Nat.le_of_ble_eq_true rfl) (Nat.le_of_ble_eq_true rfl) ?_
  rw [hQ9]
  exact dg_vret hx hb hr hlocks hP hS ⟨I_32, M_32, ⟨y_27, y_28, y_29, y_30, ((dg_uf_F e_32 0 3).trans f_y_27), ((dg_uf_F e_32 0 4).trans f_y_28), ((dg_uf_F e_32 0 5).trans f_y_29), ((dg_uf_F e_32 0 8).trans f_y_30), (by omega)⟩, (fun k9 hk9 hk0 => by have q9 := (((dg_uf_F e_32 0 8).trans f_y_30)).symm.trans hk9; cases q9; exact SEM.mk (((dg_uf_F e_32 0 35).trans ((m_24.1 0 35 _ sM_0 (by decide)).trans ((m_18.1 0 35 _ sM_0 (by decide)).trans ((dg_uf_F e_17 0 35).trans ((m_9.1 0 35 _ sM_0 (by decide)).trans (m_3.1 0 35 _ sM_0 (by decide))))))).trans f_x_2) ((congrFun ((dg_uf_ne e_32 (by decide)).trans ((m_24.2 2 _ sM_2 (by decide)).1.trans (m_18.2 2 _ sM_2 (by decide)).1)) _).trans ((congrFun (dg_uf_at e_17) _).trans (dg_upd_at rfl))) ((congrFun (dg_uf_at e_32) _).trans (dg_upd_at rfl)) (by omega)), ZB_32, trivial⟩ dX12_seaming_46
set_option maxHeartbeats 8000000 in
set_option maxRecDepth 100000 in
theorem c_m_telling (l : Launch) (g : Nat → ClassId) (D : va_G) (o : Nat) (S : dg_S) (a1 : Int32) (sg : Int32) (f_sg : S.1 0 3 = .int sg) (b_sg : 0 ≤ (sg).toInt ∧ (sg).toInt ≤ 3) (sa : Int32) (f_sa : S.1 0 4 = .int sa) (b_sa : 0 ≤ (sa).toInt ∧ (sa).toInt ≤ 1600) (se : Int32) (f_se : S.1 0 5 = .int se) (b_se : 0 ≤ (se).toInt ∧ (se).toInt ≤ 1600) (sl : Int32) (f_sl : S.1 0 2 = .int sl) (b_sl : 0 ≤ (sl).toInt ∧ (sl).toInt ≤ 1600) (fk : Int32) (f_fk : S.1 0 8 = .int fk) (b_fk : 0 ≤ (fk).toInt ∧ (fk).toInt ≤ 6) (hlx : (sa).toInt ≤ (se).toInt ∧ (se).toInt ≤ (sl).toInt ∧ ((sg).toInt ≠ 0 → (sa).toInt + 1 ≤ (se).toInt)) (I : CM o S) (sz : Nat) : Met l yX12_telling (bw yX12_telling cX12_telling 2 (some .int)) ({ frames := 4, cells := 0, slots := 0, locals := 100 } : Room) (dk_Pc g D (dg_w g shM o rfM S) sz [.ref (o + 0), .int a1]) (va_Qi (fun (r : Int32) S' => CM o S' ∧ dg_sm shM [(0, 3), (0, 4), (0, 5), (0, 6), (0, 7), (0, 8), (0, 9), (0, 12)] [] S S' ∧ (0 ≤ (r).toInt ∧ (r).toInt ≤ 9999) ∧ (∃ y9_3 y9_4 y9_5 y9_8 : Int32, S'.1 0 3 = .int y9_3 ∧ S'.1 0 4 = .int y9_4 ∧ S'.1 0 5 = .int y9_5 ∧ S'.1 0 8 = .int y9_8 ∧ (((y9_4).toInt ≤ (y9_5).toInt ∧ (y9_5).toInt ≤ (sl).toInt ∧ ((y9_3).toInt ≠ 0 → (y9_4).toInt + 1 ≤ (y9_5).toInt)) ∧ (sa).toInt ≤ (y9_4).toInt ∧ ((fk).toInt ≠ 0 → (y9_8).toInt ≠ 0) ∧ ((y9_8).toInt = 0 → (0 ≤ (r).toInt ∧ (r).toInt ≤ (a1).toInt ∧ (sa).toInt + 1 ≤ (y9_4).toInt)))) ∧ True) (dg_B g D shM o rfM) (dg_A o shM.length sz)) 0 0 (dg_A o shM.length sz) := by
  refine dg_met (cc := cX12_telling) (maxL := 2) (ret := (some .int)) (by decide) rfl (Nat.le_of_ble_eq_true rfl) ?_
  intro p e s m args below meth c A hAe harg hx hb hr hml hts hown hlocks hin hP K hS hA1 hA ST hsz ls hl
  rw [← hAe]
  have F : CallFix p m c cX12_telling 2 s args (bw yX12_telling cX12_telling 2 (some .int)) RX12 := ⟨hx, hb, hml, hown, hts⟩
  have hl : lv_has ls 2 [(0, .ref (o + 0)), (1, .int a1)] := hl
  have M_0 : dg_sm shM [(0, 3), (0, 4), (0, 5), (0, 6), (0, 7), (0, 8), (0, 9), (0, 12)] [] S S := dg_sm.rf
  obtain ⟨Q9, hQ9⟩ : ∃ Q : State → Prop, Q = MQ below (va_Qi (fun (r : Int32) S' => CM o S' ∧ dg_sm shM [(0, 3), (0, 4), (0, 5), (0, 6), (0, 7), (0, 8), (0, 9), (0, 12)] [] S S' ∧ (0 ≤ (r).toInt ∧ (r).toInt ≤ 9999) ∧ (∃ y9_3 y9_4 y9_5 y9_8 : Int32, S'.1 0 3 = .int y9_3 ∧ S'.1 0 4 = .int y9_4 ∧ S'.1 0 5 = .int y9_5 ∧ S'.1 0 8 = .int y9_8 ∧ (((y9_4).toInt ≤ (y9_5).toInt ∧ (y9_5).toInt ≤ (sl).toInt ∧ ((y9_3).toInt ≠ 0 → (y9_4).toInt + 1 ≤ (y9_5).toInt)) ∧ (sa).toInt ≤ (y9_4).toInt ∧ ((fk).toInt ≠ 0 → (y9_8).toInt ≠ 0) ∧ ((y9_8).toInt = 0 → (0 ≤ (r).toInt ∧ (r).toInt ≤ (a1).toInt ∧ (sa).toInt + 1 ≤ (y9_4).toInt)))) ∧ True) (dg_B g D shM o rfM) A) args s 0 0 A := ⟨_, rfl⟩
  rw [← hQ9]
  obtain ⟨hlx_0, hlx_1, hlx_2⟩ := hlx
  refine lv_aload_n hx hb dX12_telling_0 rfl (lv_at hl 0 rfl) ?_
  refine lv_iconst (v := 0) hx hb dX12_telling_1 (by decide +kernel) ?_
  have hz_1 : (0 : Int32).toInt = 0 := by decide +kernel
  refine dg_calli hS hA1 hA (va_runV (As := [.int 0]) (rest := []) F (c_m_isCounted l g D o S 0 (by decide +kernel) sg f_sg (by omega) sa f_sa (by omega) se f_se (by omega) sl f_sl (by omega) fk f_fk (by omega) (by omega) I s.heap.size) (cwV 1 hts (bw_V wB_1263 wB_1264 wB_1265 wB_881 wB_1262) rfl rfl rfl (by decide +kernel) ⟨Nat.le_of_ble_eq_true rfl, Nat.le_of_ble_eq_true rfl⟩) (dg_preV sM_0 rfl K ST hP hS hA1 hA) rfl rfl hl.1 rfl (lv_room (Nat.le_of_ble_eq_true rfl)) dX12_telling_2 ⟨Nat.le_of_ble_eq_true rfl, Nat.le_of_ble_eq_true rfl⟩) (fun x_2 S_3 hw_3 H locs hP hS => ?_)
  obtain ⟨I_3, m_3, w_3_0, w_3_1, -⟩ := hw_3
  have M_3 := dg_sm.tr M_0 m_3 (by decide) (by decide)
  have hz_4 : (0 : Int32).toInt = 0 := by decide +kernel
  have w_3_0 : 0 ≤ (x_2).toInt ∧ (x_2).toInt ≤ 1 := w_3_0
  obtain ⟨y_5, y_6, y_7, y_8, f_y_5, f_y_6, f_y_7, f_y_8, w_3_1⟩ := w_3_1
  have w_3_1 : ((y_6).toInt ≤ (y_7).toInt ∧ (y_7).toInt ≤ (sl).toInt ∧ ((y_5).toInt ≠ 0 → (y_6).toInt + 1 ≤ (y_7).toInt)) ∧ (sa).toInt ≤ (y_6).toInt ∧ ((fk).toInt ≠ 0 → (y_8).toInt ≠ 0) ∧ (((x_2).toInt = 1 → ((y_8).toInt = 0 ∧ (fk).toInt = 0 ∧ ((0 : Int32)).toInt = 0 ∧ ((sg).toInt ≠ 0 → (sa).toInt + 1 ≤ (y_6).toInt))) ∧ ((x_2).toInt = 0 → (y_8).toInt ≠ 0)) := w_3_1
  obtain ⟨⟨w_3_1_0, w_3_1_1, w_3_1_2⟩, w_3_1_3, w_3_1_4, ⟨w_3_1_5, w_3_1_6⟩⟩ := w_3_1
  have b_y_5 : 0 ≤ (y_5).toInt ∧ (y_5).toInt ≤ 3 := dg_I.intb (lo := 0) (hi := 3) I_3 sM_0 (by decide +kernel) f_y_5
  have b_y_6 : 0 ≤ (y_6).toInt ∧ (y_6).toInt ≤ 1600 := dg_I.intb (lo := 0) (hi := 1600) I_3 sM_0 (by decide +kernel) f_y_6
  have b_y_7 : 0 ≤ (y_7).toInt ∧ (y_7).toInt ≤ 1600 := dg_I.intb (lo := 0) (hi := 1600) I_3 sM_0 (by decide +kernel) f_y_7
  have b_y_8 : 0 ≤ (y_8).toInt ∧ (y_8).toInt ≤ 6 := dg_I.intb (lo := 0) (hi := 6) I_3 sM_0 (by decide +kernel) f_y_8
  refine lv_if_ne (tgt := 10) hx hb dX12_telling_5 (by decide) (fun c_9 => ?_) (fun c_9 => ?_)
  · have jc_9 := dk_neqc (k := 0) (by decide +kernel) c_9
    have jbc_9 : 1 ≤ (x_2).toInt := by omega
    clear jc_9
    have w_3_1_5r := w_3_1_5 (by omega)
    clear w_3_1_5
    clear w_3_1_6
    obtain ⟨w_3_1_5r_0, w_3_1_5r_1, w_3_1_5r_2, w_3_1_5r_3⟩ := w_3_1_5r
    clear w_3_1_4
    refine lv_aload_n hx hb dX12_telling_10 rfl (lv_at hl 0 rfl) ?_
    refine lv_iconst (v := 0) hx hb dX12_telling_11 (by decide +kernel) ?_
    refine lv_iload_n hx hb dX12_telling_12 rfl (lv_at hl 1 rfl) ?_
    refine dg_calli hS hA1 hA (va_runV (As := [.int 0, .int a1]) (rest := []) F (c_m_number l g D o S_3 0 a1 y_5 f_y_5 (by omega) y_6 f_y_6 (by omega) y_7 f_y_7 (by omega) sl ((m_3.1 0 2 _ sM_0 (by decide)).trans f_sl) (by omega) y_8 f_y_8 (by omega) (by omega) I_3 H.size) (cwV 2 hts (bw_V wB_1255 wB_1256 wB_1257 wB_881 wB_1254) rfl rfl rfl (by decide +kernel) ⟨Nat.le_of_ble_eq_true rfl, Nat.le_of_ble_eq_true rfl⟩) (dg_preV sM_0 rfl K ST hP hS hA1 hA) rfl rfl hl.1 rfl (lv_room (Nat.le_of_ble_eq_true rfl)) dX12_telling_13 ⟨Nat.le_of_ble_eq_true rfl, Nat.le_of_ble_eq_true rfl⟩) (fun x_10 S_11 hw_11 H locs hP hS => ?_)
    obtain ⟨I_11, m_11, w_11_0, w_11_1, -⟩ := hw_11
    have M_11 := dg_sm.tr M_3 m_11 (by decide) (by decide)
    have hz_12 : (0 : Int32).toInt = 0 := by decide +kernel
    have w_11_0 : 0 ≤ (x_10).toInt ∧ (x_10).toInt ≤ 9999 := w_11_0
    obtain ⟨y_13, y_14, y_15, y_16, f_y_13, f_y_14, f_y_15, f_y_16, w_11_1⟩ := w_11_1
    have w_11_1 : ((y_14).toInt ≤ (y_15).toInt ∧ (y_15).toInt ≤ (sl).toInt ∧ ((y_13).toInt ≠ 0 → (y_14).toInt + 1 ≤ (y_15).toInt)) ∧ (y_6).toInt ≤ (y_14).toInt ∧ ((y_8).toInt ≠ 0 → (y_16).toInt ≠ 0) ∧ ((y_16).toInt = 0 → (((0 : Int32)).toInt ≤ (x_10).toInt ∧ (x_10).toInt ≤ (a1).toInt ∧ (y_6).toInt + 1 ≤ (y_14).toInt)) := w_11_1
    obtain ⟨⟨w_11_1_0, w_11_1_1, w_11_1_2⟩, w_11_1_3, w_11_1_4, w_11_1_5⟩ := w_11_1
    clear w_11_1_4
    have b_y_13 : 0 ≤ (y_13).toInt ∧ (y_13).toInt ≤ 3 := dg_I.intb (lo := 0) (hi := 3) I_11 sM_0 (by decide +kernel) f_y_13
    have b_y_14 : 0 ≤ (y_14).toInt ∧ (y_14).toInt ≤ 1600 := dg_I.intb (lo := 0) (hi := 1600) I_11 sM_0 (by decide +kernel) f_y_14
    have b_y_15 : 0 ≤ (y_15).toInt ∧ (y_15).toInt ≤ 1600 := dg_I.intb (lo := 0) (hi := 1600) I_11 sM_0 (by decide +kernel) f_y_15
    have b_y_16 : 0 ≤ (y_16).toInt ∧ (y_16).toInt ≤ 6 := dg_I.intb (lo := 0) (hi := 6) I_11 sM_0 (by decide +kernel) f_y_16
    refine W.widen (k := 0) (n := 0) (Nat.le_of_ble_eq_true rfl) (Nat.le_of_ble_eq_true rfl) ?_
    rw [hQ9]
    exact dg_iret hx hb hr hlocks rfl hP hS ⟨I_11, M_11, (by omega), ⟨y_13, y_14, y_15, y_16, f_y_13, f_y_14, f_y_15, f_y_16, (by omega)⟩, trivial⟩ dX12_telling_16
  · have jc_9 := dk_eqc (k := 0) (by decide +kernel) c_9
    clear w_3_1_5
    have w_3_1_6r := w_3_1_6 (by omega)
    clear w_3_1_6
    have w_3_1_6rb : 1 ≤ (y_8).toInt := by omega
    clear w_3_1_6r
    refine lv_iconst (v := 0) hx hb dX12_telling_8 (by decide +kernel) ?_
    have hz_17 : (0 : Int32).toInt = 0 := by decide +kernel
    have hz_18 : (0 : Int32).toInt = 0 := by decide +kernel
    refine W.widen (k := 0) (n := 0) (Nat.le_of_ble_eq_true rfl) (Nat.le_of_ble_eq_true rfl) ?_
    rw [hQ9]
    exact dg_iret hx hb hr hlocks rfl hP hS ⟨I_3, M_3, (by decide +kernel), ⟨y_5, y_6, y_7, y_8, f_y_5, f_y_6, f_y_7, f_y_8, (by omega)⟩, trivial⟩ dX12_telling_9
set_option maxHeartbeats 8000000 in
set_option maxRecDepth 100000 in
theorem c_m_grading (l : Launch) (g : Nat → ClassId) (D : va_G) (o : Nat) (S : dg_S) (sg : Int32) (f_sg : S.1 0 3 = .int sg) (b_sg : 0 ≤ (sg).toInt ∧ (sg).toInt ≤ 3) (sa : Int32) (f_sa : S.1 0 4 = .int sa) (b_sa : 0 ≤ (sa).toInt ∧ (sa).toInt ≤ 1600) (se : Int32) (f_se : S.1 0 5 = .int se) (b_se : 0 ≤ (se).toInt ∧ (se).toInt ≤ 1600) (sl : Int32) (f_sl : S.1 0 2 = .int sl) (b_sl : 0 ≤ (sl).toInt ∧ (sl).toInt ≤ 1600) (fk : Int32) (f_fk : S.1 0 8 = .int fk) (b_fk : 0 ≤ (fk).toInt ∧ (fk).toInt ≤ 6) (hlx : (sa).toInt ≤ (se).toInt ∧ (se).toInt ≤ (sl).toInt ∧ ((sg).toInt ≠ 0 → (sa).toInt + 1 ≤ (se).toInt)) (ZC : ZCM S) (I : CM o S) (sz : Nat) : Met l yX12_grading (bw yX12_grading cX12_grading 3 none) ({ frames := 5, cells := 0, slots := 0, locals := 122 } : Room) (dk_Pc g D (dg_w g shM o rfM S) sz [.ref (o + 0)]) (va_Qv (fun S' => CM o S' ∧ dg_sm shM [(0, 3), (0, 4), (0, 5), (0, 6), (0, 7), (0, 8), (0, 9), (0, 12)] [7] S S' ∧ (∃ y9_3 y9_4 y9_5 y9_8 : Int32, S'.1 0 3 = .int y9_3 ∧ S'.1 0 4 = .int y9_4 ∧ S'.1 0 5 = .int y9_5 ∧ S'.1 0 8 = .int y9_8 ∧ (((y9_4).toInt ≤ (y9_5).toInt ∧ (y9_5).toInt ≤ (sl).toInt ∧ ((y9_3).toInt ≠ 0 → (y9_4).toInt + 1 ≤ (y9_5).toInt)) ∧ (sa).toInt ≤ (y9_4).toInt ∧ ((fk).toInt ≠ 0 → (y9_8).toInt ≠ 0) ∧ ((y9_8).toInt = 0 → (sa).toInt + 1 ≤ (y9_4).toInt))) ∧ True) (dg_B g D shM o rfM) (dg_A o shM.length sz)) 0 0 (dg_A o shM.length sz) := by
  refine dg_met (cc := cX12_grading) (maxL := 3) (ret := none) (by decide) rfl (Nat.le_of_ble_eq_true rfl) ?_
  intro p e s m args below meth c A hAe harg hx hb hr hml hts hown hlocks hin hP K hS hA1 hA ST hsz ls hl
  rw [← hAe]
  have F : CallFix p m c cX12_grading 3 s args (bw yX12_grading cX12_grading 3 none) RX12 := ⟨hx, hb, hml, hown, hts⟩
  have hl : lv_has ls 3 [(0, .ref (o + 0))] := hl
  have M_0 : dg_sm shM [(0, 3), (0, 4), (0, 5), (0, 6), (0, 7), (0, 8), (0, 9), (0, 12)] [7] S S := dg_sm.rf
  obtain ⟨Q9, hQ9⟩ : ∃ Q : State → Prop, Q = MQ below (va_Qv (fun S' => CM o S' ∧ dg_sm shM [(0, 3), (0, 4), (0, 5), (0, 6), (0, 7), (0, 8), (0, 9), (0, 12)] [7] S S' ∧ (∃ y9_3 y9_4 y9_5 y9_8 : Int32, S'.1 0 3 = .int y9_3 ∧ S'.1 0 4 = .int y9_4 ∧ S'.1 0 5 = .int y9_5 ∧ S'.1 0 8 = .int y9_8 ∧ (((y9_4).toInt ≤ (y9_5).toInt ∧ (y9_5).toInt ≤ (sl).toInt ∧ ((y9_3).toInt ≠ 0 → (y9_4).toInt + 1 ≤ (y9_5).toInt)) ∧ (sa).toInt ≤ (y9_4).toInt ∧ ((fk).toInt ≠ 0 → (y9_8).toInt ≠ 0) ∧ ((y9_8).toInt = 0 → (sa).toInt + 1 ≤ (y9_4).toInt))) ∧ True) (dg_B g D shM o rfM) A) args s 0 0 A := ⟨_, rfl⟩
  rw [← hQ9]
  obtain ⟨hlx_0, hlx_1, hlx_2⟩ := hlx
  refine lv_aload_n hx hb dX12_grading_0 rfl (lv_at hl 0 rfl) ?_
  refine lv_iconst (v := 0) hx hb dX12_grading_1 (by decide +kernel) ?_
  have hz_1 : (0 : Int32).toInt = 0 := by decide +kernel
  refine dg_calli hS hA1 hA (va_runV (As := [.int 0]) (rest := []) F (c_m_isCounted l g D o S 0 (by decide +kernel) sg f_sg (by omega) sa f_sa (by omega) se f_se (by omega) sl f_sl (by omega) fk f_fk (by omega) (by omega) I s.heap.size) (cwV 1 hts (bw_V wB_1263 wB_1264 wB_1265 wB_881 wB_1262) rfl rfl rfl (by decide +kernel) ⟨Nat.le_of_ble_eq_true rfl, Nat.le_of_ble_eq_true rfl⟩) (dg_preV sM_0 rfl K ST hP hS hA1 hA) rfl rfl hl.1 rfl (lv_room (Nat.le_of_ble_eq_true rfl)) dX12_grading_2 ⟨Nat.le_of_ble_eq_true rfl, Nat.le_of_ble_eq_true rfl⟩) (fun x_2 S_3 hw_3 H locs hP hS => ?_)
  obtain ⟨I_3, m_3, w_3_0, w_3_1, -⟩ := hw_3
  have M_3 := dg_sm.tr M_0 m_3 (by decide) (by decide)
  have hz_4 : (0 : Int32).toInt = 0 := by decide +kernel
  have w_3_0 : 0 ≤ (x_2).toInt ∧ (x_2).toInt ≤ 1 := w_3_0
  obtain ⟨y_5, y_6, y_7, y_8, f_y_5, f_y_6, f_y_7, f_y_8, w_3_1⟩ := w_3_1
  have w_3_1 : ((y_6).toInt ≤ (y_7).toInt ∧ (y_7).toInt ≤ (sl).toInt ∧ ((y_5).toInt ≠ 0 → (y_6).toInt + 1 ≤ (y_7).toInt)) ∧ (sa).toInt ≤ (y_6).toInt ∧ ((fk).toInt ≠ 0 → (y_8).toInt ≠ 0) ∧ (((x_2).toInt = 1 → ((y_8).toInt = 0 ∧ (fk).toInt = 0 ∧ ((0 : Int32)).toInt = 0 ∧ ((sg).toInt ≠ 0 → (sa).toInt + 1 ≤ (y_6).toInt))) ∧ ((x_2).toInt = 0 → (y_8).toInt ≠ 0)) := w_3_1
  obtain ⟨⟨w_3_1_0, w_3_1_1, w_3_1_2⟩, w_3_1_3, w_3_1_4, ⟨w_3_1_5, w_3_1_6⟩⟩ := w_3_1
  have b_y_5 : 0 ≤ (y_5).toInt ∧ (y_5).toInt ≤ 3 := dg_I.intb (lo := 0) (hi := 3) I_3 sM_0 (by decide +kernel) f_y_5
  have b_y_6 : 0 ≤ (y_6).toInt ∧ (y_6).toInt ≤ 1600 := dg_I.intb (lo := 0) (hi := 1600) I_3 sM_0 (by decide +kernel) f_y_6
  have b_y_7 : 0 ≤ (y_7).toInt ∧ (y_7).toInt ≤ 1600 := dg_I.intb (lo := 0) (hi := 1600) I_3 sM_0 (by decide +kernel) f_y_7
  have b_y_8 : 0 ≤ (y_8).toInt ∧ (y_8).toInt ≤ 6 := dg_I.intb (lo := 0) (hi := 6) I_3 sM_0 (by decide +kernel) f_y_8
  refine lv_if_ne (tgt := 9) hx hb dX12_grading_5 (by decide) (fun c_9 => ?_) (fun c_9 => ?_)
  · have jc_9 := dk_neqc (k := 0) (by decide +kernel) c_9
    have jbc_9 : 1 ≤ (x_2).toInt := by omega
    clear jc_9
    have w_3_1_5r := w_3_1_5 (by omega)
    clear w_3_1_5
    clear w_3_1_6
    obtain ⟨w_3_1_5r_0, w_3_1_5r_1, w_3_1_5r_2, w_3_1_5r_3⟩ := w_3_1_5r
    clear w_3_1_4
    refine lv_aload_n hx hb dX12_grading_9 rfl (lv_at hl 0 rfl) ?_
    refine dg_calli hS hA1 hA (va_runV (As := []) (rest := []) F (c_m_cellTold l g D o S_3 y_5 f_y_5 (by omega) y_6 f_y_6 (by omega) y_7 f_y_7 (by omega) sl ((m_3.1 0 2 _ sM_0 (by decide)).trans f_sl) (by omega) y_8 f_y_8 (by omega) (by omega) (ZCM.keep ZC m_3 (by decide) (by decide) (by decide) (by decide)) I_3 H.size) (cwV 0 hts (bw_V wB_1267 wB_1268 wB_1269 wB_881 wB_1266) rfl rfl rfl (by decide +kernel) ⟨Nat.le_of_ble_eq_true rfl, Nat.le_of_ble_eq_true rfl⟩) (dg_preV sM_0 rfl K ST hP hS hA1 hA) rfl rfl hl.1 rfl (lv_room (Nat.le_of_ble_eq_true rfl)) dX12_grading_10 ⟨Nat.le_of_ble_eq_true rfl, Nat.le_of_ble_eq_true rfl⟩) (fun x_10 S_11 hw_11 H locs hP hS => ?_)
    obtain ⟨I_11, m_11, w_11_0, w_11_1, -⟩ := hw_11
    have M_11 := dg_sm.tr M_3 m_11 (by decide) (by decide)
    have w_11_0 : 0 ≤ (x_10).toInt ∧ (x_10).toInt ≤ 54 := w_11_0
    obtain ⟨y_12, y_13, y_14, y_15, f_y_12, f_y_13, f_y_14, f_y_15, w_11_1⟩ := w_11_1
    have w_11_1 : ((y_13).toInt ≤ (y_14).toInt ∧ (y_14).toInt ≤ (sl).toInt ∧ ((y_12).toInt ≠ 0 → (y_13).toInt + 1 ≤ (y_14).toInt)) ∧ (y_6).toInt ≤ (y_13).toInt ∧ ((y_8).toInt ≠ 0 → (y_15).toInt ≠ 0) ∧ ((y_6).toInt ≤ (y_6).toInt) := w_11_1
    obtain ⟨⟨w_11_1_0, w_11_1_1, w_11_1_2⟩, w_11_1_3, w_11_1_4, w_11_1_5⟩ := w_11_1
    clear w_11_1_4
    have b_y_12 : 0 ≤ (y_12).toInt ∧ (y_12).toInt ≤ 3 := dg_I.intb (lo := 0) (hi := 3) I_11 sM_0 (by decide +kernel) f_y_12
    have b_y_13 : 0 ≤ (y_13).toInt ∧ (y_13).toInt ≤ 1600 := dg_I.intb (lo := 0) (hi := 1600) I_11 sM_0 (by decide +kernel) f_y_13
    have b_y_14 : 0 ≤ (y_14).toInt ∧ (y_14).toInt ≤ 1600 := dg_I.intb (lo := 0) (hi := 1600) I_11 sM_0 (by decide +kernel) f_y_14
    have b_y_15 : 0 ≤ (y_15).toInt ∧ (y_15).toInt ≤ 6 := dg_I.intb (lo := 0) (hi := 6) I_11 sM_0 (by decide +kernel) f_y_15
    refine lv_istore_n (lv' := [(1, .int x_10), (0, .ref (o + 0))]) hx hb dX12_grading_13 rfl hl (by decide) rfl (fun ls hl => ?_)
    refine lv_aload_n hx hb dX12_grading_14 rfl (lv_at hl 1 rfl) ?_
    refine lv_iconst (v := 0) hx hb dX12_grading_15 (by decide +kernel) ?_
    refine lv_bipush (v := 9) hx hb dX12_grading_16 (by decide +kernel) ?_
    refine dg_calli hS hA1 hA (va_runV (As := [.int 0, .int 9]) (rest := []) F (c_m_number l g D o S_11 0 9 y_12 f_y_12 (by omega) y_13 f_y_13 (by omega) y_14 f_y_14 (by omega) sl (((m_11.1 0 2 _ sM_0 (by decide)).trans (m_3.1 0 2 _ sM_0 (by decide))).trans f_sl) (by omega) y_15 f_y_15 (by omega) (by omega) I_11 H.size) (cwV 2 hts (bw_V wB_1255 wB_1256 wB_1257 wB_881 wB_1254) rfl rfl rfl (by decide +kernel) ⟨Nat.le_of_ble_eq_true rfl, Nat.le_of_ble_eq_true rfl⟩) (dg_preV sM_0 rfl K ST hP hS hA1 hA) rfl rfl hl.1 rfl (lv_room (Nat.le_of_ble_eq_true rfl)) dX12_grading_18 ⟨Nat.le_of_ble_eq_true rfl, Nat.le_of_ble_eq_true rfl⟩) (fun x_16 S_17 hw_17 H locs hP hS => ?_)
    obtain ⟨I_17, m_17, w_17_0, w_17_1, -⟩ := hw_17
    have M_17 := dg_sm.tr M_11 m_17 (by decide) (by decide)
    have hz_18 : (0 : Int32).toInt = 0 := by decide +kernel
    have hz_19 : (9 : Int32).toInt = 9 := by decide +kernel
    have w_17_0 : 0 ≤ (x_16).toInt ∧ (x_16).toInt ≤ 9999 := w_17_0
    obtain ⟨y_20, y_21, y_22, y_23, f_y_20, f_y_21, f_y_22, f_y_23, w_17_1⟩ := w_17_1
    have w_17_1 : ((y_21).toInt ≤ (y_22).toInt ∧ (y_22).toInt ≤ (sl).toInt ∧ ((y_20).toInt ≠ 0 → (y_21).toInt + 1 ≤ (y_22).toInt)) ∧ (y_13).toInt ≤ (y_21).toInt ∧ ((y_15).toInt ≠ 0 → (y_23).toInt ≠ 0) ∧ ((y_23).toInt = 0 → (((0 : Int32)).toInt ≤ (x_16).toInt ∧ (x_16).toInt ≤ ((9 : Int32)).toInt ∧ (y_13).toInt + 1 ≤ (y_21).toInt)) := w_17_1
    obtain ⟨⟨w_17_1_0, w_17_1_1, w_17_1_2⟩, w_17_1_3, w_17_1_4, w_17_1_5⟩ := w_17_1
    have b_y_20 : 0 ≤ (y_20).toInt ∧ (y_20).toInt ≤ 3 := dg_I.intb (lo := 0) (hi := 3) I_17 sM_0 (by decide +kernel) f_y_20
    have b_y_21 : 0 ≤ (y_21).toInt ∧ (y_21).toInt ≤ 1600 := dg_I.intb (lo := 0) (hi := 1600) I_17 sM_0 (by decide +kernel) f_y_21
    have b_y_22 : 0 ≤ (y_22).toInt ∧ (y_22).toInt ≤ 1600 := dg_I.intb (lo := 0) (hi := 1600) I_17 sM_0 (by decide +kernel) f_y_22
    have b_y_23 : 0 ≤ (y_23).toInt ∧ (y_23).toInt ≤ 6 := dg_I.intb (lo := 0) (hi := 6) I_17 sM_0 (by decide +kernel) f_y_23
    refine lv_istore_n (lv' := [(2, .int x_16), (1, .int x_10), (0, .ref (o + 0))]) hx hb dX12_grading_21 rfl hl (by decide) rfl (fun ls hl => ?_)
    refine lv_aload_n hx hb dX12_grading_22 rfl (lv_at hl 2 rfl) ?_
    refine dg_get (C := RX12) (T := TX12) (N := 77) hx hb hts (fun w h => bw_mem (wU_X12 w h)) hown K hP sM_0 rfl 8 (by decide) (hts _ (bw_mem wB_1133)) (fun _ h9 => h9) (v := .int y_23) f_y_23 dX12_grading_23 ?_
    refine lv_if_ne (tgt := 44) hx hb dX12_grading_26 (by decide) (fun c_24 => ?_) (fun c_24 => ?_)
    · have jc_24 := dk_neqc (k := 0) (by decide +kernel) c_24
      have jbc_24 : 1 ≤ (y_23).toInt := by omega
      clear jc_24
      clear w_17_1_5
      refine W.widen (k := 0) (n := 0) (Nat.le_of_ble_eq_true rfl) (Nat.le_of_ble_eq_true rfl) ?_
      rw [hQ9]
      exact dg_vret hx hb hr hlocks hP hS ⟨I_17, M_17, ⟨y_20, y_21, y_22, y_23, f_y_20, f_y_21, f_y_22, f_y_23, (by omega)⟩, trivial⟩ dX12_grading_44
    · have jc_24 := dk_eqc (k := 0) (by decide +kernel) c_24
      have w_17_1_4c : (y_15).toInt = 0 := by omega
      clear w_17_1_4
      have w_17_1_5r := w_17_1_5 (by omega)
      clear w_17_1_5
      obtain ⟨w_17_1_5r_0, w_17_1_5r_1, w_17_1_5r_2⟩ := w_17_1_5r
      refine lv_aload_n hx hb dX12_grading_29 rfl (lv_at hl 2 rfl) ?_
      refine dg_get (C := RX12) (T := TX12) (N := 77) hx hb hts (fun w h => bw_mem (wU_X12 w h)) hown K hP sM_0 rfl 19 (by decide) (hts _ (bw_mem wB_1009)) (fun _ h9 => h9) (v := .ref (o + 7)) (show S_17.1 0 19 = .ref (o + 7) from dg_I.rel (d := 7) I_17 sM_0 (by decide +kernel)) dX12_grading_30 ?_
      refine lv_bipush (v := 64) hx hb dX12_grading_33 (by decide +kernel) ?_
      refine lv_aload_n hx hb dX12_grading_35 rfl (lv_at hl 2 rfl) ?_
      obtain ⟨x_25, f_x_25, b_x_25⟩ := dg_I.int (i := 0) (k := 35) (lo := 0) (hi := 1) I sM_0 (by decide +kernel)
      refine dg_get (C := RX12) (T := TX12) (N := 77) hx hb hts (fun w h => bw_mem (wU_X12 w h)) hown K hP sM_0 rfl 35 (by decide) (hts _ (bw_mem wB_1195)) (fun _ h9 => h9) (v := .int x_25) (((m_17.1 0 35 _ sM_0 (by decide)).trans ((m_11.1 0 35 _ sM_0 (by decide)).trans (m_3.1 0 35 _ sM_0 (by decide)))).trans f_x_25) dX12_grading_36 ?_
      refine lv_imul hx hb dX12_grading_39 ?_
      refine lv_topi (fun x_26 ex_26 => ?_)
      have jx_26 : (x_26).toInt = 64 * (x_25).toInt := by rw [ex_26]; exact dk_mulT (by decide +kernel) rfl (by omega) (by omega)
      refine lv_iload_n hx hb dX12_grading_40 rfl (lv_at hl 1 rfl) ?_
      refine lv_iadd hx hb dX12_grading_41 ?_
      refine lv_topi (fun x_27 ex_27 => ?_)
      have jx_27 : (x_27).toInt = (x_26).toInt + (x_10).toInt := by rw [ex_27]; exact dk_addT rfl rfl (by omega) (by omega)
      refine lv_iload_n hx hb dX12_grading_42 rfl (lv_at hl 0 rfl) ?_
      have hin_28 : vp_in x_27 128 := (dk_inv (by omega) (by omega))
      refine dg_iast hx hb K hP hS hA1 sM_7 hin_28 dX12_grading_43 (fun S_29 e_29 H locs hP hS => ?_)
      have I_29 := dg_I.ufu (lo := 0) (hi := 9) I_17 e_29 sM_7 (by decide +kernel) (show 0 ≤ (x_16).toInt ∧ (x_16).toInt ≤ 9 from (by omega))
      have M_29 := dg_sm.uf M_17 e_29 sM_7 (by decide)
      refine W.widen (k := 0) (n := 0) (Nat.le_of_ble_eq_true rfl) (Nat.le_of_ble_eq_true rfl) ?_
      rw [hQ9]
      exact dg_vret hx hb hr hlocks hP hS ⟨I_29, M_29, ⟨y_20, y_21, y_22, y_23, ((dg_uf_F e_29 0 3).trans f_y_20), ((dg_uf_F e_29 0 4).trans f_y_21), ((dg_uf_F e_29 0 5).trans f_y_22), ((dg_uf_F e_29 0 8).trans f_y_23), (by omega)⟩, trivial⟩ dX12_grading_44
  · have jc_9 := dk_eqc (k := 0) (by decide +kernel) c_9
    clear w_3_1_5
    have w_3_1_6r := w_3_1_6 (by omega)
    clear w_3_1_6
    have w_3_1_6rb : 1 ≤ (y_8).toInt := by omega
    clear w_3_1_6r
    refine W.widen (k := 0) (n := 0) (Nat.le_of_ble_eq_true rfl) (Nat.le_of_ble_eq_true rfl) ?_
    rw [hQ9]
    exact dg_vret hx hb hr hlocks hP hS ⟨I_3, M_3, ⟨y_5, y_6, y_7, y_8, f_y_5, f_y_6, f_y_7, f_y_8, (by omega)⟩, trivial⟩ dX12_grading_8
set_option maxHeartbeats 8000000 in
set_option maxRecDepth 100000 in
theorem c_m_mining (l : Launch) (g : Nat → ClassId) (D : va_G) (o : Nat) (S : dg_S) (sg : Int32) (f_sg : S.1 0 3 = .int sg) (b_sg : 0 ≤ (sg).toInt ∧ (sg).toInt ≤ 3) (sa : Int32) (f_sa : S.1 0 4 = .int sa) (b_sa : 0 ≤ (sa).toInt ∧ (sa).toInt ≤ 1600) (se : Int32) (f_se : S.1 0 5 = .int se) (b_se : 0 ≤ (se).toInt ∧ (se).toInt ≤ 1600) (sl : Int32) (f_sl : S.1 0 2 = .int sl) (b_sl : 0 ≤ (sl).toInt ∧ (sl).toInt ≤ 1600) (fk : Int32) (f_fk : S.1 0 8 = .int fk) (b_fk : 0 ≤ (fk).toInt ∧ (fk).toInt ≤ 6) (hlx : (sa).toInt ≤ (se).toInt ∧ (se).toInt ≤ (sl).toInt ∧ ((sg).toInt ≠ 0 → (sa).toInt + 1 ≤ (se).toInt)) (I : CM o S) (sz : Nat) : Met l yX12_mining (bw yX12_mining cX12_mining 1 none) ({ frames := 4, cells := 0, slots := 0, locals := 100 } : Room) (dk_Pc g D (dg_w g shM o rfM S) sz [.ref (o + 0)]) (va_Qv (fun S' => CM o S' ∧ dg_sm shM [(0, 3), (0, 4), (0, 5), (0, 6), (0, 7), (0, 8), (0, 9), (0, 12)] [8, 20] S S' ∧ (∃ y9_3 y9_4 y9_5 y9_8 : Int32, S'.1 0 3 = .int y9_3 ∧ S'.1 0 4 = .int y9_4 ∧ S'.1 0 5 = .int y9_5 ∧ S'.1 0 8 = .int y9_8 ∧ (((y9_4).toInt ≤ (y9_5).toInt ∧ (y9_5).toInt ≤ (sl).toInt ∧ ((y9_3).toInt ≠ 0 → (y9_4).toInt + 1 ≤ (y9_5).toInt)) ∧ (sa).toInt ≤ (y9_4).toInt ∧ ((fk).toInt ≠ 0 → (y9_8).toInt ≠ 0) ∧ ((y9_8).toInt = 0 → (sa).toInt + 1 ≤ (y9_4).toInt))) ∧ True) (dg_B g D shM o rfM) (dg_A o shM.length sz)) 0 0 (dg_A o shM.length sz) := by
  refine dg_met (cc := cX12_mining) (maxL := 1) (ret := none) (by decide) rfl (Nat.le_of_ble_eq_true rfl) ?_
  intro p e s m args below meth c A hAe harg hx hb hr hml hts hown hlocks hin hP K hS hA1 hA ST hsz ls hl
  rw [← hAe]
  have F : CallFix p m c cX12_mining 1 s args (bw yX12_mining cX12_mining 1 none) RX12 := ⟨hx, hb, hml, hown, hts⟩
  have hl : lv_has ls 1 [(0, .ref (o + 0))] := hl
  have M_0 : dg_sm shM [(0, 3), (0, 4), (0, 5), (0, 6), (0, 7), (0, 8), (0, 9), (0, 12)] [8, 20] S S := dg_sm.rf
  obtain ⟨Q9, hQ9⟩ : ∃ Q : State → Prop, Q = MQ below (va_Qv (fun S' => CM o S' ∧ dg_sm shM [(0, 3), (0, 4), (0, 5), (0, 6), (0, 7), (0, 8), (0, 9), (0, 12)] [8, 20] S S' ∧ (∃ y9_3 y9_4 y9_5 y9_8 : Int32, S'.1 0 3 = .int y9_3 ∧ S'.1 0 4 = .int y9_4 ∧ S'.1 0 5 = .int y9_5 ∧ S'.1 0 8 = .int y9_8 ∧ (((y9_4).toInt ≤ (y9_5).toInt ∧ (y9_5).toInt ≤ (sl).toInt ∧ ((y9_3).toInt ≠ 0 → (y9_4).toInt + 1 ≤ (y9_5).toInt)) ∧ (sa).toInt ≤ (y9_4).toInt ∧ ((fk).toInt ≠ 0 → (y9_8).toInt ≠ 0) ∧ ((y9_8).toInt = 0 → (sa).toInt + 1 ≤ (y9_4).toInt))) ∧ True) (dg_B g D shM o rfM) A) args s 0 0 A := ⟨_, rfl⟩
  rw [← hQ9]
  obtain ⟨hlx_0, hlx_1, hlx_2⟩ := hlx
  refine lv_aload_n hx hb dX12_mining_0 rfl (lv_at hl 0 rfl) ?_
  refine lv_aload_n hx hb dX12_mining_1 rfl (lv_at hl 0 rfl) ?_
  refine dg_get (C := RX12) (T := TX12) (N := 77) hx hb hts (fun w h => bw_mem (wU_X12 w h)) hown K hP sM_0 rfl 20 (by decide) (hts _ (bw_mem wB_901)) (fun _ h9 => h9) (v := .ref (o + 8)) (show S.1 0 20 = .ref (o + 8) from dg_I.rel (d := 8) I sM_0 (by decide +kernel)) dX12_mining_2 ?_
  refine lv_aload_n hx hb dX12_mining_5 rfl (lv_at hl 0 rfl) ?_
  obtain ⟨x_1, f_x_1, b_x_1⟩ := dg_I.int (i := 0) (k := 35) (lo := 0) (hi := 1) I sM_0 (by decide +kernel)
  refine dg_get (C := RX12) (T := TX12) (N := 77) hx hb hts (fun w h => bw_mem (wU_X12 w h)) hown K hP sM_0 rfl 35 (by decide) (hts _ (bw_mem wB_1195)) (fun _ h9 => h9) (v := .int x_1) f_x_1 dX12_mining_6 ?_
  have hin_2 : vp_in x_1 2 := (dk_inv (by omega) (by omega))
  refine dg_iald hx hb K hP sM_8 hin_2 dX12_mining_9 (fun x_3 ex_3 => ?_)
  have b_x_3 := dk_all_at (dg_I.row (lo := 0) (hi := 6) I sM_8 (by decide +kernel)) hin_2 ex_3
  refine lv_bipush (v := 6) hx hb dX12_mining_10 (by decide +kernel) ?_
  refine lv_icmp_ne (tgt := 19) hx hb dX12_mining_12 (by decide) (fun c_4 => ?_) (fun c_4 => ?_)
  · have jc_4 := dk_neqc (k := 6) (by decide +kernel) c_4
    have jtc_4 : (x_3).toInt ≤ 5 := by omega
    clear jc_4
    refine lv_iconst (v := 0) hx hb dX12_mining_19 (by decide +kernel) ?_
    have hz_5 : (0 : Int32).toInt = 0 := by decide +kernel
    refine dg_calli hS hA1 hA (va_runV (As := [.int 0]) (rest := []) F (c_m_isCounted l g D o S 0 (by decide +kernel) sg f_sg (by omega) sa f_sa (by omega) se f_se (by omega) sl f_sl (by omega) fk f_fk (by omega) (by omega) I s.heap.size) (cwV 1 hts (bw_V wB_1263 wB_1264 wB_1265 wB_881 wB_1262) rfl rfl rfl (by decide +kernel) ⟨Nat.le_of_ble_eq_true rfl, Nat.le_of_ble_eq_true rfl⟩) (dg_preV sM_0 rfl K ST hP hS hA1 hA) rfl rfl hl.1 rfl (lv_room (Nat.le_of_ble_eq_true rfl)) dX12_mining_20 ⟨Nat.le_of_ble_eq_true rfl, Nat.le_of_ble_eq_true rfl⟩) (fun x_6 S_7 hw_7 H locs hP hS => ?_)
    obtain ⟨I_7, m_7, w_7_0, w_7_1, -⟩ := hw_7
    have M_7 := dg_sm.tr M_0 m_7 (by decide) (by decide)
    have hz_8 : (0 : Int32).toInt = 0 := by decide +kernel
    have w_7_0 : 0 ≤ (x_6).toInt ∧ (x_6).toInt ≤ 1 := w_7_0
    obtain ⟨y_9, y_10, y_11, y_12, f_y_9, f_y_10, f_y_11, f_y_12, w_7_1⟩ := w_7_1
    have w_7_1 : ((y_10).toInt ≤ (y_11).toInt ∧ (y_11).toInt ≤ (sl).toInt ∧ ((y_9).toInt ≠ 0 → (y_10).toInt + 1 ≤ (y_11).toInt)) ∧ (sa).toInt ≤ (y_10).toInt ∧ ((fk).toInt ≠ 0 → (y_12).toInt ≠ 0) ∧ (((x_6).toInt = 1 → ((y_12).toInt = 0 ∧ (fk).toInt = 0 ∧ ((0 : Int32)).toInt = 0 ∧ ((sg).toInt ≠ 0 → (sa).toInt + 1 ≤ (y_10).toInt))) ∧ ((x_6).toInt = 0 → (y_12).toInt ≠ 0)) := w_7_1
    obtain ⟨⟨w_7_1_0, w_7_1_1, w_7_1_2⟩, w_7_1_3, w_7_1_4, ⟨w_7_1_5, w_7_1_6⟩⟩ := w_7_1
    have b_y_9 : 0 ≤ (y_9).toInt ∧ (y_9).toInt ≤ 3 := dg_I.intb (lo := 0) (hi := 3) I_7 sM_0 (by decide +kernel) f_y_9
    have b_y_10 : 0 ≤ (y_10).toInt ∧ (y_10).toInt ≤ 1600 := dg_I.intb (lo := 0) (hi := 1600) I_7 sM_0 (by decide +kernel) f_y_10
    have b_y_11 : 0 ≤ (y_11).toInt ∧ (y_11).toInt ≤ 1600 := dg_I.intb (lo := 0) (hi := 1600) I_7 sM_0 (by decide +kernel) f_y_11
    have b_y_12 : 0 ≤ (y_12).toInt ∧ (y_12).toInt ≤ 6 := dg_I.intb (lo := 0) (hi := 6) I_7 sM_0 (by decide +kernel) f_y_12
    refine lv_if_ne (tgt := 27) hx hb dX12_mining_23 (by decide) (fun c_13 => ?_) (fun c_13 => ?_)
    · have jc_13 := dk_neqc (k := 0) (by decide +kernel) c_13
      have jbc_13 : 1 ≤ (x_6).toInt := by omega
      clear jc_13
      have w_7_1_5r := w_7_1_5 (by omega)
      clear w_7_1_5
      clear w_7_1_6
      obtain ⟨w_7_1_5r_0, w_7_1_5r_1, w_7_1_5r_2, w_7_1_5r_3⟩ := w_7_1_5r
      clear w_7_1_4
      refine lv_aload_n hx hb dX12_mining_27 rfl (lv_at hl 0 rfl) ?_
      refine dg_get (C := RX12) (T := TX12) (N := 77) hx hb hts (fun w h => bw_mem (wU_X12 w h)) hown K hP sM_0 rfl 32 (by decide) (hts _ (bw_mem wB_1033)) (fun _ h9 => h9) (v := .ref (o + 20)) (show S_7.1 0 32 = .ref (o + 20) from dg_I.rel (d := 20) I_7 sM_0 (by decide +kernel)) dX12_mining_28 ?_
      refine lv_bipush (v := 6) hx hb dX12_mining_31 (by decide +kernel) ?_
      refine lv_aload_n hx hb dX12_mining_33 rfl (lv_at hl 0 rfl) ?_
      refine dg_get (C := RX12) (T := TX12) (N := 77) hx hb hts (fun w h => bw_mem (wU_X12 w h)) hown K hP sM_0 rfl 35 (by decide) (hts _ (bw_mem wB_1195)) (fun _ h9 => h9) (v := .int x_1) ((m_7.1 0 35 _ sM_0 (by decide)).trans f_x_1) dX12_mining_34 ?_
      refine lv_imul hx hb dX12_mining_37 ?_
      refine lv_topi (fun x_14 ex_14 => ?_)
      have jx_14 : (x_14).toInt = 6 * (x_1).toInt := by rw [ex_14]; exact dk_mulT (by decide +kernel) rfl (by omega) (by omega)
      refine lv_aload_n hx hb dX12_mining_38 rfl (lv_at hl 0 rfl) ?_
      refine dg_get (C := RX12) (T := TX12) (N := 77) hx hb hts (fun w h => bw_mem (wU_X12 w h)) hown K hP sM_0 rfl 20 (by decide) (hts _ (bw_mem wB_901)) (fun _ h9 => h9) (v := .ref (o + 8)) (show S_7.1 0 20 = .ref (o + 8) from dg_I.rel (d := 8) I_7 sM_0 (by decide +kernel)) dX12_mining_39 ?_
      refine lv_aload_n hx hb dX12_mining_42 rfl (lv_at hl 0 rfl) ?_
      refine dg_get (C := RX12) (T := TX12) (N := 77) hx hb hts (fun w h => bw_mem (wU_X12 w h)) hown K hP sM_0 rfl 35 (by decide) (hts _ (bw_mem wB_1195)) (fun _ h9 => h9) (v := .int x_1) ((m_7.1 0 35 _ sM_0 (by decide)).trans f_x_1) dX12_mining_43 ?_
      have hin_15 : vp_in x_1 2 := (dk_inv (by omega) (by omega))
      refine dg_iald hx hb K hP sM_8 hin_15 dX12_mining_46 (fun y_16 ey_16 => ?_)
      obtain rfl : x_3 = y_16 := ((ey_16.trans (congrFun (m_7.2 8 _ sM_8 (by decide)).1 _)).trans ex_3.symm).symm
      refine lv_iadd hx hb dX12_mining_47 ?_
      refine lv_topi (fun x_17 ex_17 => ?_)
      have jx_17 : (x_17).toInt = (x_14).toInt + (x_3).toInt := by rw [ex_17]; exact dk_addT rfl rfl (by omega) (by omega)
      refine lv_aload_n hx hb dX12_mining_48 rfl (lv_at hl 0 rfl) ?_
      refine dg_calll hS hA1 hA (va_runV (As := []) (rest := [.int x_17, .ref (o + 20)]) F (c_m_fresh l g D o S_7 y_9 f_y_9 (by omega) y_10 f_y_10 (by omega) y_11 f_y_11 (by omega) sl ((m_7.1 0 2 _ sM_0 (by decide)).trans f_sl) (by omega) y_12 f_y_12 (by omega) (by omega) I_7 H.size) (cwV 0 hts (bw_V wB_1271 wB_1272 wB_1273 wB_881 wB_1270) rfl rfl rfl (by decide +kernel) ⟨Nat.le_of_ble_eq_true rfl, Nat.le_of_ble_eq_true rfl⟩) (dg_preV sM_0 rfl K ST hP hS hA1 hA) rfl rfl hl.1 rfl (lv_room (Nat.le_of_ble_eq_true rfl)) dX12_mining_49 ⟨Nat.le_of_ble_eq_true rfl, Nat.le_of_ble_eq_true rfl⟩) (fun x_18 S_19 hw_19 H locs hP hS => ?_)
      obtain ⟨I_19, m_19, w_19_0, -⟩ := hw_19
      have M_19 := dg_sm.tr M_7 m_19 (by decide) (by decide)
      obtain ⟨y_20, y_21, y_22, y_23, f_y_20, f_y_21, f_y_22, f_y_23, w_19_0⟩ := w_19_0
      have w_19_0 : ((y_21).toInt ≤ (y_22).toInt ∧ (y_22).toInt ≤ (sl).toInt ∧ ((y_20).toInt ≠ 0 → (y_21).toInt + 1 ≤ (y_22).toInt)) ∧ (y_10).toInt ≤ (y_21).toInt ∧ ((y_12).toInt ≠ 0 → (y_23).toInt ≠ 0) ∧ ((y_23).toInt = 0 → (y_10).toInt + 1 ≤ (y_21).toInt) := w_19_0
      obtain ⟨⟨w_19_0_0, w_19_0_1, w_19_0_2⟩, w_19_0_3, w_19_0_4, w_19_0_5⟩ := w_19_0
      clear w_19_0_4
      have b_y_20 : 0 ≤ (y_20).toInt ∧ (y_20).toInt ≤ 3 := dg_I.intb (lo := 0) (hi := 3) I_19 sM_0 (by decide +kernel) f_y_20
      have b_y_21 : 0 ≤ (y_21).toInt ∧ (y_21).toInt ≤ 1600 := dg_I.intb (lo := 0) (hi := 1600) I_19 sM_0 (by decide +kernel) f_y_21
      have b_y_22 : 0 ≤ (y_22).toInt ∧ (y_22).toInt ≤ 1600 := dg_I.intb (lo := 0) (hi := 1600) I_19 sM_0 (by decide +kernel) f_y_22
      have b_y_23 : 0 ≤ (y_23).toInt ∧ (y_23).toInt ≤ 6 := dg_I.intb (lo := 0) (hi := 6) I_19 sM_0 (by decide +kernel) f_y_23
      have hin_24 : vp_in x_17 12 := (dk_inv (by omega) (by omega))
      refine dg_last hx hb K hP hS hA1 sM_20 hin_24 dX12_mining_52 (fun S_25 e_25 H locs hP hS => ?_)
      have I_25 := dg_I.ul I_19 e_25
      have M_25 := dg_sm.ul M_19 e_25 sM_20 (by decide)
      refine lv_aload_n hx hb dX12_mining_53 rfl (lv_at hl 0 rfl) ?_
      refine dg_get (C := RX12) (T := TX12) (N := 77) hx hb hts (fun w h => bw_mem (wU_X12 w h)) hown K hP sM_0 rfl 8 (by decide) (hts _ (bw_mem wB_1133)) (fun _ h9 => h9) (v := .int y_23) ((dg_ul_F e_25 0 8).trans f_y_23) dX12_mining_54 ?_
      refine lv_if_ne (tgt := 73) hx hb dX12_mining_57 (by decide) (fun c_26 => ?_) (fun c_26 => ?_)
      · have jc_26 := dk_neqc (k := 0) (by decide +kernel) c_26
        have jbc_26 : 1 ≤ (y_23).toInt := by omega
        clear jc_26
        clear w_19_0_5
        refine W.widen (k := 0) (n := 0) (Nat.le_of_ble_eq_true rfl) (Nat.le_of_ble_eq_true rfl) ?_
        rw [hQ9]
        exact dg_vret hx hb hr hlocks hP hS ⟨I_25, M_25, ⟨y_20, y_21, y_22, y_23, ((dg_ul_F e_25 0 3).trans f_y_20), ((dg_ul_F e_25 0 4).trans f_y_21), ((dg_ul_F e_25 0 5).trans f_y_22), ((dg_ul_F e_25 0 8).trans f_y_23), (by omega)⟩, trivial⟩ dX12_mining_73
      · have jc_26 := dk_eqc (k := 0) (by decide +kernel) c_26
        have w_19_0_5r := w_19_0_5 (by omega)
        clear w_19_0_5
        refine lv_aload_n hx hb dX12_mining_60 rfl (lv_at hl 0 rfl) ?_
        refine dg_get (C := RX12) (T := TX12) (N := 77) hx hb hts (fun w h => bw_mem (wU_X12 w h)) hown K hP sM_0 rfl 20 (by decide) (hts _ (bw_mem wB_901)) (fun _ h9 => h9) (v := .ref (o + 8)) (show S_25.1 0 20 = .ref (o + 8) from dg_I.rel (d := 8) I_25 sM_0 (by decide +kernel)) dX12_mining_61 ?_
        refine lv_aload_n hx hb dX12_mining_64 rfl (lv_at hl 0 rfl) ?_
        refine dg_get (C := RX12) (T := TX12) (N := 77) hx hb hts (fun w h => bw_mem (wU_X12 w h)) hown K hP sM_0 rfl 35 (by decide) (hts _ (bw_mem wB_1195)) (fun _ h9 => h9) (v := .int x_1) (((dg_ul_F e_25 0 35).trans ((m_19.1 0 35 _ sM_0 (by decide)).trans (m_7.1 0 35 _ sM_0 (by decide)))).trans f_x_1) dX12_mining_65 ?_
        refine lv_dup2_11 hx hb dX12_mining_68 rfl rfl ?_
        have hin_27 : vp_in x_1 2 := (dk_inv (by omega) (by omega))
        refine dg_iald hx hb K hP sM_8 hin_27 dX12_mining_69 (fun y_28 ey_28 => ?_)
        obtain rfl : x_3 = y_28 := ((ey_28.trans (congrFun ((dg_ul_f e_25 8).trans ((m_19.2 8 _ sM_8 (by decide)).1.trans (m_7.2 8 _ sM_8 (by decide)).1)) _)).trans ex_3.symm).symm
        refine lv_iconst (v := 1) hx hb dX12_mining_70 (by decide +kernel) ?_
        refine lv_iadd hx hb dX12_mining_71 ?_
        refine lv_topi (fun x_29 ex_29 => ?_)
        have jx_29 : (x_29).toInt = (x_3).toInt + 1 := by rw [ex_29]; exact dk_addT rfl (by decide +kernel) (by omega) (by omega)
        have hin_30 : vp_in x_1 2 := (dk_inv (by omega) (by omega))
        refine dg_iast hx hb K hP hS hA1 sM_8 hin_30 dX12_mining_72 (fun S_31 e_31 H locs hP hS => ?_)
        have I_31 := dg_I.ufu (lo := 0) (hi := 6) I_25 e_31 sM_8 (by decide +kernel) (show 0 ≤ (x_29).toInt ∧ (x_29).toInt ≤ 6 from (by omega))
        have M_31 := dg_sm.uf M_25 e_31 sM_8 (by decide)
        refine W.widen (k := 0) (n := 0) (Nat.le_of_ble_eq_true rfl) (Nat.le_of_ble_eq_true rfl) ?_
        rw [hQ9]
        exact dg_vret hx hb hr hlocks hP hS ⟨I_31, M_31, ⟨y_20, y_21, y_22, y_23, (((dg_uf_F e_31 0 3).trans (dg_ul_F e_25 0 3)).trans f_y_20), (((dg_uf_F e_31 0 4).trans (dg_ul_F e_25 0 4)).trans f_y_21), (((dg_uf_F e_31 0 5).trans (dg_ul_F e_25 0 5)).trans f_y_22), (((dg_uf_F e_31 0 8).trans (dg_ul_F e_25 0 8)).trans f_y_23), (by omega)⟩, trivial⟩ dX12_mining_73
    · have jc_13 := dk_eqc (k := 0) (by decide +kernel) c_13
      clear w_7_1_5
      have w_7_1_6r := w_7_1_6 (by omega)
      clear w_7_1_6
      have w_7_1_6rb : 1 ≤ (y_12).toInt := by omega
      clear w_7_1_6r
      refine W.widen (k := 0) (n := 0) (Nat.le_of_ble_eq_true rfl) (Nat.le_of_ble_eq_true rfl) ?_
      rw [hQ9]
      exact dg_vret hx hb hr hlocks hP hS ⟨I_7, M_7, ⟨y_9, y_10, y_11, y_12, f_y_9, f_y_10, f_y_11, f_y_12, (by omega)⟩, trivial⟩ dX12_mining_26
  · have jc_4 := dk_eqc (k := 6) (by decide +kernel) c_4
    refine lv_iconst (v := 1) hx hb dX12_mining_15 (by decide +kernel) ?_
    refine lv_goto (tgt := 20) hx hb dX12_mining_16 (by decide) ?_
    have hz_32 : (1 : Int32).toInt = 1 := by decide +kernel
    refine dg_calli hS hA1 hA (va_runV (As := [.int 1]) (rest := []) F (c_m_isCounted l g D o S 1 (by decide +kernel) sg f_sg (by omega) sa f_sa (by omega) se f_se (by omega) sl f_sl (by omega) fk f_fk (by omega) (by omega) I s.heap.size) (cwV 1 hts (bw_V wB_1263 wB_1264 wB_1265 wB_881 wB_1262) rfl rfl rfl (by decide +kernel) ⟨Nat.le_of_ble_eq_true rfl, Nat.le_of_ble_eq_true rfl⟩) (dg_preV sM_0 rfl K ST hP hS hA1 hA) rfl rfl hl.1 rfl (lv_room (Nat.le_of_ble_eq_true rfl)) dX12_mining_20 ⟨Nat.le_of_ble_eq_true rfl, Nat.le_of_ble_eq_true rfl⟩) (fun x_33 S_34 hw_34 H locs hP hS => ?_)
    obtain ⟨I_34, m_34, w_34_0, w_34_1, -⟩ := hw_34
    have M_34 := dg_sm.tr M_0 m_34 (by decide) (by decide)
    have hz_35 : (1 : Int32).toInt = 1 := by decide +kernel
    have w_34_0 : 0 ≤ (x_33).toInt ∧ (x_33).toInt ≤ 1 := w_34_0
    obtain ⟨y_36, y_37, y_38, y_39, f_y_36, f_y_37, f_y_38, f_y_39, w_34_1⟩ := w_34_1
    have w_34_1 : ((y_37).toInt ≤ (y_38).toInt ∧ (y_38).toInt ≤ (sl).toInt ∧ ((y_36).toInt ≠ 0 → (y_37).toInt + 1 ≤ (y_38).toInt)) ∧ (sa).toInt ≤ (y_37).toInt ∧ ((fk).toInt ≠ 0 → (y_39).toInt ≠ 0) ∧ (((x_33).toInt = 1 → ((y_39).toInt = 0 ∧ (fk).toInt = 0 ∧ ((1 : Int32)).toInt = 0 ∧ ((sg).toInt ≠ 0 → (sa).toInt + 1 ≤ (y_37).toInt))) ∧ ((x_33).toInt = 0 → (y_39).toInt ≠ 0)) := w_34_1
    obtain ⟨⟨w_34_1_0, w_34_1_1, w_34_1_2⟩, w_34_1_3, w_34_1_4, ⟨w_34_1_5, w_34_1_6⟩⟩ := w_34_1
    have b_y_36 : 0 ≤ (y_36).toInt ∧ (y_36).toInt ≤ 3 := dg_I.intb (lo := 0) (hi := 3) I_34 sM_0 (by decide +kernel) f_y_36
    have b_y_37 : 0 ≤ (y_37).toInt ∧ (y_37).toInt ≤ 1600 := dg_I.intb (lo := 0) (hi := 1600) I_34 sM_0 (by decide +kernel) f_y_37
    have b_y_38 : 0 ≤ (y_38).toInt ∧ (y_38).toInt ≤ 1600 := dg_I.intb (lo := 0) (hi := 1600) I_34 sM_0 (by decide +kernel) f_y_38
    have b_y_39 : 0 ≤ (y_39).toInt ∧ (y_39).toInt ≤ 6 := dg_I.intb (lo := 0) (hi := 6) I_34 sM_0 (by decide +kernel) f_y_39
    refine lv_if_ne (tgt := 27) hx hb dX12_mining_23 (by decide) (fun c_40 => ?_) (fun c_40 => ?_)
    · have jc_40 := dk_neqc (k := 0) (by decide +kernel) c_40
      have jbc_40 : 1 ≤ (x_33).toInt := by omega
      clear jc_40
      have w_34_1_5r := w_34_1_5 (by omega)
      clear w_34_1_5
      clear w_34_1_6
      obtain ⟨w_34_1_5r_0, w_34_1_5r_1, w_34_1_5r_2, w_34_1_5r_3⟩ := w_34_1_5r
      clear w_34_1_4
      refine lv_aload_n hx hb dX12_mining_27 rfl (lv_at hl 0 rfl) ?_
      refine dg_get (C := RX12) (T := TX12) (N := 77) hx hb hts (fun w h => bw_mem (wU_X12 w h)) hown K hP sM_0 rfl 32 (by decide) (hts _ (bw_mem wB_1033)) (fun _ h9 => h9) (v := .ref (o + 20)) (show S_34.1 0 32 = .ref (o + 20) from dg_I.rel (d := 20) I_34 sM_0 (by decide +kernel)) dX12_mining_28 ?_
      refine lv_bipush (v := 6) hx hb dX12_mining_31 (by decide +kernel) ?_
      refine lv_aload_n hx hb dX12_mining_33 rfl (lv_at hl 0 rfl) ?_
      refine dg_get (C := RX12) (T := TX12) (N := 77) hx hb hts (fun w h => bw_mem (wU_X12 w h)) hown K hP sM_0 rfl 35 (by decide) (hts _ (bw_mem wB_1195)) (fun _ h9 => h9) (v := .int x_1) ((m_34.1 0 35 _ sM_0 (by decide)).trans f_x_1) dX12_mining_34 ?_
      refine lv_imul hx hb dX12_mining_37 ?_
      refine lv_topi (fun x_41 ex_41 => ?_)
      have jx_41 : (x_41).toInt = 6 * (x_1).toInt := by rw [ex_41]; exact dk_mulT (by decide +kernel) rfl (by omega) (by omega)
      refine lv_aload_n hx hb dX12_mining_38 rfl (lv_at hl 0 rfl) ?_
      refine dg_get (C := RX12) (T := TX12) (N := 77) hx hb hts (fun w h => bw_mem (wU_X12 w h)) hown K hP sM_0 rfl 20 (by decide) (hts _ (bw_mem wB_901)) (fun _ h9 => h9) (v := .ref (o + 8)) (show S_34.1 0 20 = .ref (o + 8) from dg_I.rel (d := 8) I_34 sM_0 (by decide +kernel)) dX12_mining_39 ?_
      refine lv_aload_n hx hb dX12_mining_42 rfl (lv_at hl 0 rfl) ?_
      refine dg_get (C := RX12) (T := TX12) (N := 77) hx hb hts (fun w h => bw_mem (wU_X12 w h)) hown K hP sM_0 rfl 35 (by decide) (hts _ (bw_mem wB_1195)) (fun _ h9 => h9) (v := .int x_1) ((m_34.1 0 35 _ sM_0 (by decide)).trans f_x_1) dX12_mining_43 ?_
      have hin_42 : vp_in x_1 2 := (dk_inv (by omega) (by omega))
      refine dg_iald hx hb K hP sM_8 hin_42 dX12_mining_46 (fun y_43 ey_43 => ?_)
      obtain rfl : x_3 = y_43 := ((ey_43.trans (congrFun (m_34.2 8 _ sM_8 (by decide)).1 _)).trans ex_3.symm).symm
      refine lv_iadd hx hb dX12_mining_47 ?_
      refine lv_topi (fun x_44 ex_44 => ?_)
      have jx_44 : (x_44).toInt = (x_41).toInt + (x_3).toInt := by rw [ex_44]; exact dk_addT rfl rfl (by omega) (by omega)
      refine lv_aload_n hx hb dX12_mining_48 rfl (lv_at hl 0 rfl) ?_
      refine dg_calll hS hA1 hA (va_runV (As := []) (rest := [.int x_44, .ref (o + 20)]) F (c_m_fresh l g D o S_34 y_36 f_y_36 (by omega) y_37 f_y_37 (by omega) y_38 f_y_38 (by omega) sl ((m_34.1 0 2 _ sM_0 (by decide)).trans f_sl) (by omega) y_39 f_y_39 (by omega) (by omega) I_34 H.size) (cwV 0 hts (bw_V wB_1271 wB_1272 wB_1273 wB_881 wB_1270) rfl rfl rfl (by decide +kernel) ⟨Nat.le_of_ble_eq_true rfl, Nat.le_of_ble_eq_true rfl⟩) (dg_preV sM_0 rfl K ST hP hS hA1 hA) rfl rfl hl.1 rfl (lv_room (Nat.le_of_ble_eq_true rfl)) dX12_mining_49 ⟨Nat.le_of_ble_eq_true rfl, Nat.le_of_ble_eq_true rfl⟩) (fun x_45 S_46 hw_46 H locs hP hS => ?_)
      obtain ⟨I_46, m_46, w_46_0, -⟩ := hw_46
      have M_46 := dg_sm.tr M_34 m_46 (by decide) (by decide)
      obtain ⟨y_47, y_48, y_49, y_50, f_y_47, f_y_48, f_y_49, f_y_50, w_46_0⟩ := w_46_0
      have w_46_0 : ((y_48).toInt ≤ (y_49).toInt ∧ (y_49).toInt ≤ (sl).toInt ∧ ((y_47).toInt ≠ 0 → (y_48).toInt + 1 ≤ (y_49).toInt)) ∧ (y_37).toInt ≤ (y_48).toInt ∧ ((y_39).toInt ≠ 0 → (y_50).toInt ≠ 0) ∧ ((y_50).toInt = 0 → (y_37).toInt + 1 ≤ (y_48).toInt) := w_46_0
      obtain ⟨⟨w_46_0_0, w_46_0_1, w_46_0_2⟩, w_46_0_3, w_46_0_4, w_46_0_5⟩ := w_46_0
      clear w_46_0_4
      have b_y_47 : 0 ≤ (y_47).toInt ∧ (y_47).toInt ≤ 3 := dg_I.intb (lo := 0) (hi := 3) I_46 sM_0 (by decide +kernel) f_y_47
      have b_y_48 : 0 ≤ (y_48).toInt ∧ (y_48).toInt ≤ 1600 := dg_I.intb (lo := 0) (hi := 1600) I_46 sM_0 (by decide +kernel) f_y_48
      have b_y_49 : 0 ≤ (y_49).toInt ∧ (y_49).toInt ≤ 1600 := dg_I.intb (lo := 0) (hi := 1600) I_46 sM_0 (by decide +kernel) f_y_49
      have b_y_50 : 0 ≤ (y_50).toInt ∧ (y_50).toInt ≤ 6 := dg_I.intb (lo := 0) (hi := 6) I_46 sM_0 (by decide +kernel) f_y_50
      have hin_51 : vp_in x_44 12 := (dk_inv (by omega) (by omega))
      refine dg_last hx hb K hP hS hA1 sM_20 hin_51 dX12_mining_52 (fun S_52 e_52 H locs hP hS => ?_)
      have I_52 := dg_I.ul I_46 e_52
      have M_52 := dg_sm.ul M_46 e_52 sM_20 (by decide)
      refine lv_aload_n hx hb dX12_mining_53 rfl (lv_at hl 0 rfl) ?_
      refine dg_get (C := RX12) (T := TX12) (N := 77) hx hb hts (fun w h => bw_mem (wU_X12 w h)) hown K hP sM_0 rfl 8 (by decide) (hts _ (bw_mem wB_1133)) (fun _ h9 => h9) (v := .int y_50) ((dg_ul_F e_52 0 8).trans f_y_50) dX12_mining_54 ?_
      refine lv_if_ne (tgt := 73) hx hb dX12_mining_57 (by decide) (fun c_53 => ?_) (fun c_53 => ?_)
      · have jc_53 := dk_neqc (k := 0) (by decide +kernel) c_53
        have jbc_53 : 1 ≤ (y_50).toInt := by omega
        clear jc_53
        clear w_46_0_5
        refine W.widen (k := 0) (n := 0) (Nat.le_of_ble_eq_true rfl) (Nat.le_of_ble_eq_true rfl) ?_
        rw [hQ9]
        exact dg_vret hx hb hr hlocks hP hS ⟨I_52, M_52, ⟨y_47, y_48, y_49, y_50, ((dg_ul_F e_52 0 3).trans f_y_47), ((dg_ul_F e_52 0 4).trans f_y_48), ((dg_ul_F e_52 0 5).trans f_y_49), ((dg_ul_F e_52 0 8).trans f_y_50), (by omega)⟩, trivial⟩ dX12_mining_73
      · have jc_53 := dk_eqc (k := 0) (by decide +kernel) c_53
        have w_46_0_5r := w_46_0_5 (by omega)
        clear w_46_0_5
        refine lv_aload_n hx hb dX12_mining_60 rfl (lv_at hl 0 rfl) ?_
        refine dg_get (C := RX12) (T := TX12) (N := 77) hx hb hts (fun w h => bw_mem (wU_X12 w h)) hown K hP sM_0 rfl 20 (by decide) (hts _ (bw_mem wB_901)) (fun _ h9 => h9) (v := .ref (o + 8)) (show S_52.1 0 20 = .ref (o + 8) from dg_I.rel (d := 8) I_52 sM_0 (by decide +kernel)) dX12_mining_61 ?_
        refine lv_aload_n hx hb dX12_mining_64 rfl (lv_at hl 0 rfl) ?_
        refine dg_get (C := RX12) (T := TX12) (N := 77) hx hb hts (fun w h => bw_mem (wU_X12 w h)) hown K hP sM_0 rfl 35 (by decide) (hts _ (bw_mem wB_1195)) (fun _ h9 => h9) (v := .int x_1) (((dg_ul_F e_52 0 35).trans ((m_46.1 0 35 _ sM_0 (by decide)).trans (m_34.1 0 35 _ sM_0 (by decide)))).trans f_x_1) dX12_mining_65 ?_
        refine lv_dup2_11 hx hb dX12_mining_68 rfl rfl ?_
        have hin_54 : vp_in x_1 2 := (dk_inv (by omega) (by omega))
        refine dg_iald hx hb K hP sM_8 hin_54 dX12_mining_69 (fun y_55 ey_55 => ?_)
        obtain rfl : x_3 = y_55 := ((ey_55.trans (congrFun ((dg_ul_f e_52 8).trans ((m_46.2 8 _ sM_8 (by decide)).1.trans (m_34.2 8 _ sM_8 (by decide)).1)) _)).trans ex_3.symm).symm
        refine lv_iconst (v := 1) hx hb dX12_mining_70 (by decide +kernel) ?_
        refine lv_iadd hx hb dX12_mining_71 ?_
        refine lv_topi (fun x_56 ex_56 => ?_)
        have jx_56 : (x_56).toInt = (x_3).toInt + 1 := by rw [ex_56]; exact dk_addT rfl (by decide +kernel) (by omega) (by omega)
        have hin_57 : vp_in x_1 2 := (dk_inv (by omega) (by omega))
        refine dg_iast hx hb K hP hS hA1 sM_8 hin_57 dX12_mining_72 (fun S_58 e_58 H locs hP hS => ?_)
        have I_58 := dg_I.ufu (lo := 0) (hi := 6) I_52 e_58 sM_8 (by decide +kernel) (show 0 ≤ (x_56).toInt ∧ (x_56).toInt ≤ 6 from (by omega))
        have M_58 := dg_sm.uf M_52 e_58 sM_8 (by decide)
        refine W.widen (k := 0) (n := 0) (Nat.le_of_ble_eq_true rfl) (Nat.le_of_ble_eq_true rfl) ?_
        rw [hQ9]
        exact dg_vret hx hb hr hlocks hP hS ⟨I_58, M_58, ⟨y_47, y_48, y_49, y_50, (((dg_uf_F e_58 0 3).trans (dg_ul_F e_52 0 3)).trans f_y_47), (((dg_uf_F e_58 0 4).trans (dg_ul_F e_52 0 4)).trans f_y_48), (((dg_uf_F e_58 0 5).trans (dg_ul_F e_52 0 5)).trans f_y_49), (((dg_uf_F e_58 0 8).trans (dg_ul_F e_52 0 8)).trans f_y_50), (by omega)⟩, trivial⟩ dX12_mining_73
    · have jc_40 := dk_eqc (k := 0) (by decide +kernel) c_40
      clear w_34_1_5
      have w_34_1_6r := w_34_1_6 (by omega)
      clear w_34_1_6
      have w_34_1_6rb : 1 ≤ (y_39).toInt := by omega
      clear w_34_1_6r
      refine W.widen (k := 0) (n := 0) (Nat.le_of_ble_eq_true rfl) (Nat.le_of_ble_eq_true rfl) ?_
      rw [hQ9]
      exact dg_vret hx hb hr hlocks hP hS ⟨I_34, M_34, ⟨y_36, y_37, y_38, y_39, f_y_36, f_y_37, f_y_38, f_y_39, (by omega)⟩, trivial⟩ dX12_mining_26
set_option maxHeartbeats 8000000 in
set_option maxRecDepth 100000 in
theorem c_m_digging (l : Launch) (g : Nat → ClassId) (D : va_G) (o : Nat) (S : dg_S) (sg : Int32) (f_sg : S.1 0 3 = .int sg) (b_sg : 0 ≤ (sg).toInt ∧ (sg).toInt ≤ 3) (sa : Int32) (f_sa : S.1 0 4 = .int sa) (b_sa : 0 ≤ (sa).toInt ∧ (sa).toInt ≤ 1600) (se : Int32) (f_se : S.1 0 5 = .int se) (b_se : 0 ≤ (se).toInt ∧ (se).toInt ≤ 1600) (sl : Int32) (f_sl : S.1 0 2 = .int sl) (b_sl : 0 ≤ (sl).toInt ∧ (sl).toInt ≤ 1600) (fk : Int32) (f_fk : S.1 0 8 = .int fk) (b_fk : 0 ≤ (fk).toInt ∧ (fk).toInt ≤ 6) (hlx : (sa).toInt ≤ (se).toInt ∧ (se).toInt ≤ (sl).toInt ∧ ((sg).toInt ≠ 0 → (sa).toInt + 1 ≤ (se).toInt)) (ZC : ZCM S) (I : CM o S) (sz : Nat) : Met l yX12_digging (bw yX12_digging cX12_digging 3 none) ({ frames := 5, cells := 0, slots := 0, locals := 122 } : Room) (dk_Pc g D (dg_w g shM o rfM S) sz [.ref (o + 0)]) (va_Qv (fun S' => CM o S' ∧ dg_sm shM [(0, 3), (0, 4), (0, 5), (0, 6), (0, 7), (0, 8), (0, 9), (0, 12)] [9, 10, 11] S S' ∧ (∃ y9_3 y9_4 y9_5 y9_8 : Int32, S'.1 0 3 = .int y9_3 ∧ S'.1 0 4 = .int y9_4 ∧ S'.1 0 5 = .int y9_5 ∧ S'.1 0 8 = .int y9_8 ∧ (((y9_4).toInt ≤ (y9_5).toInt ∧ (y9_5).toInt ≤ (sl).toInt ∧ ((y9_3).toInt ≠ 0 → (y9_4).toInt + 1 ≤ (y9_5).toInt)) ∧ (sa).toInt ≤ (y9_4).toInt ∧ ((fk).toInt ≠ 0 → (y9_8).toInt ≠ 0) ∧ ((y9_8).toInt = 0 → (sa).toInt + 1 ≤ (y9_4).toInt))) ∧ True) (dg_B g D shM o rfM) (dg_A o shM.length sz)) 0 0 (dg_A o shM.length sz) := by
  refine dg_met (cc := cX12_digging) (maxL := 3) (ret := none) (by decide) rfl (Nat.le_of_ble_eq_true rfl) ?_
  intro p e s m args below meth c A hAe harg hx hb hr hml hts hown hlocks hin hP K hS hA1 hA ST hsz ls hl
  rw [← hAe]
  have F : CallFix p m c cX12_digging 3 s args (bw yX12_digging cX12_digging 3 none) RX12 := ⟨hx, hb, hml, hown, hts⟩
  have hl : lv_has ls 3 [(0, .ref (o + 0))] := hl
  have M_0 : dg_sm shM [(0, 3), (0, 4), (0, 5), (0, 6), (0, 7), (0, 8), (0, 9), (0, 12)] [9, 10, 11] S S := dg_sm.rf
  obtain ⟨Q9, hQ9⟩ : ∃ Q : State → Prop, Q = MQ below (va_Qv (fun S' => CM o S' ∧ dg_sm shM [(0, 3), (0, 4), (0, 5), (0, 6), (0, 7), (0, 8), (0, 9), (0, 12)] [9, 10, 11] S S' ∧ (∃ y9_3 y9_4 y9_5 y9_8 : Int32, S'.1 0 3 = .int y9_3 ∧ S'.1 0 4 = .int y9_4 ∧ S'.1 0 5 = .int y9_5 ∧ S'.1 0 8 = .int y9_8 ∧ (((y9_4).toInt ≤ (y9_5).toInt ∧ (y9_5).toInt ≤ (sl).toInt ∧ ((y9_3).toInt ≠ 0 → (y9_4).toInt + 1 ≤ (y9_5).toInt)) ∧ (sa).toInt ≤ (y9_4).toInt ∧ ((fk).toInt ≠ 0 → (y9_8).toInt ≠ 0) ∧ ((y9_8).toInt = 0 → (sa).toInt + 1 ≤ (y9_4).toInt))) ∧ True) (dg_B g D shM o rfM) A) args s 0 0 A := ⟨_, rfl⟩
  rw [← hQ9]
  obtain ⟨hlx_0, hlx_1, hlx_2⟩ := hlx
  refine lv_aload_n hx hb dX12_digging_0 rfl (lv_at hl 0 rfl) ?_
  refine lv_aload_n hx hb dX12_digging_1 rfl (lv_at hl 0 rfl) ?_
  refine dg_get (C := RX12) (T := TX12) (N := 77) hx hb hts (fun w h => bw_mem (wU_X12 w h)) hown K hP sM_0 rfl 21 (by decide) (hts _ (bw_mem wB_976)) (fun _ h9 => h9) (v := .ref (o + 9)) (show S.1 0 21 = .ref (o + 9) from dg_I.rel (d := 9) I sM_0 (by decide +kernel)) dX12_digging_2 ?_
  refine lv_aload_n hx hb dX12_digging_5 rfl (lv_at hl 0 rfl) ?_
  obtain ⟨x_1, f_x_1, b_x_1⟩ := dg_I.int (i := 0) (k := 35) (lo := 0) (hi := 1) I sM_0 (by decide +kernel)
  refine dg_get (C := RX12) (T := TX12) (N := 77) hx hb hts (fun w h => bw_mem (wU_X12 w h)) hown K hP sM_0 rfl 35 (by decide) (hts _ (bw_mem wB_1195)) (fun _ h9 => h9) (v := .int x_1) f_x_1 dX12_digging_6 ?_
  have hin_2 : vp_in x_1 2 := (dk_inv (by omega) (by omega))
  refine dg_iald hx hb K hP sM_9 hin_2 dX12_digging_9 (fun x_3 ex_3 => ?_)
  have b_x_3 := dk_all_at (dg_I.row (lo := 0) (hi := 16) I sM_9 (by decide +kernel)) hin_2 ex_3
  refine lv_bipush (v := 16) hx hb dX12_digging_10 (by decide +kernel) ?_
  refine lv_icmp_ne (tgt := 19) hx hb dX12_digging_12 (by decide) (fun c_4 => ?_) (fun c_4 => ?_)
  · have jc_4 := dk_neqc (k := 16) (by decide +kernel) c_4
    have jtc_4 : (x_3).toInt ≤ 15 := by omega
    clear jc_4
    refine lv_iconst (v := 0) hx hb dX12_digging_19 (by decide +kernel) ?_
    have hz_5 : (0 : Int32).toInt = 0 := by decide +kernel
    refine dg_calli hS hA1 hA (va_runV (As := [.int 0]) (rest := []) F (c_m_isCounted l g D o S 0 (by decide +kernel) sg f_sg (by omega) sa f_sa (by omega) se f_se (by omega) sl f_sl (by omega) fk f_fk (by omega) (by omega) I s.heap.size) (cwV 1 hts (bw_V wB_1263 wB_1264 wB_1265 wB_881 wB_1262) rfl rfl rfl (by decide +kernel) ⟨Nat.le_of_ble_eq_true rfl, Nat.le_of_ble_eq_true rfl⟩) (dg_preV sM_0 rfl K ST hP hS hA1 hA) rfl rfl hl.1 rfl (lv_room (Nat.le_of_ble_eq_true rfl)) dX12_digging_20 ⟨Nat.le_of_ble_eq_true rfl, Nat.le_of_ble_eq_true rfl⟩) (fun x_6 S_7 hw_7 H locs hP hS => ?_)
    obtain ⟨I_7, m_7, w_7_0, w_7_1, -⟩ := hw_7
    have M_7 := dg_sm.tr M_0 m_7 (by decide) (by decide)
    have hz_8 : (0 : Int32).toInt = 0 := by decide +kernel
    have w_7_0 : 0 ≤ (x_6).toInt ∧ (x_6).toInt ≤ 1 := w_7_0
    obtain ⟨y_9, y_10, y_11, y_12, f_y_9, f_y_10, f_y_11, f_y_12, w_7_1⟩ := w_7_1
    have w_7_1 : ((y_10).toInt ≤ (y_11).toInt ∧ (y_11).toInt ≤ (sl).toInt ∧ ((y_9).toInt ≠ 0 → (y_10).toInt + 1 ≤ (y_11).toInt)) ∧ (sa).toInt ≤ (y_10).toInt ∧ ((fk).toInt ≠ 0 → (y_12).toInt ≠ 0) ∧ (((x_6).toInt = 1 → ((y_12).toInt = 0 ∧ (fk).toInt = 0 ∧ ((0 : Int32)).toInt = 0 ∧ ((sg).toInt ≠ 0 → (sa).toInt + 1 ≤ (y_10).toInt))) ∧ ((x_6).toInt = 0 → (y_12).toInt ≠ 0)) := w_7_1
    obtain ⟨⟨w_7_1_0, w_7_1_1, w_7_1_2⟩, w_7_1_3, w_7_1_4, ⟨w_7_1_5, w_7_1_6⟩⟩ := w_7_1
    have b_y_9 : 0 ≤ (y_9).toInt ∧ (y_9).toInt ≤ 3 := dg_I.intb (lo := 0) (hi := 3) I_7 sM_0 (by decide +kernel) f_y_9
    have b_y_10 : 0 ≤ (y_10).toInt ∧ (y_10).toInt ≤ 1600 := dg_I.intb (lo := 0) (hi := 1600) I_7 sM_0 (by decide +kernel) f_y_10
    have b_y_11 : 0 ≤ (y_11).toInt ∧ (y_11).toInt ≤ 1600 := dg_I.intb (lo := 0) (hi := 1600) I_7 sM_0 (by decide +kernel) f_y_11
    have b_y_12 : 0 ≤ (y_12).toInt ∧ (y_12).toInt ≤ 6 := dg_I.intb (lo := 0) (hi := 6) I_7 sM_0 (by decide +kernel) f_y_12
    refine lv_if_ne (tgt := 27) hx hb dX12_digging_23 (by decide) (fun c_13 => ?_) (fun c_13 => ?_)
    · have jc_13 := dk_neqc (k := 0) (by decide +kernel) c_13
      have jbc_13 : 1 ≤ (x_6).toInt := by omega
      clear jc_13
      have w_7_1_5r := w_7_1_5 (by omega)
      clear w_7_1_5
      clear w_7_1_6
      obtain ⟨w_7_1_5r_0, w_7_1_5r_1, w_7_1_5r_2, w_7_1_5r_3⟩ := w_7_1_5r
      clear w_7_1_4
      refine lv_aload_n hx hb dX12_digging_27 rfl (lv_at hl 0 rfl) ?_
      refine dg_callv hS hA1 hA (va_runV (As := []) (rest := []) F (c_m_lex l g D o S_7 y_12 f_y_12 (by omega) I_7 H.size) (cwV 0 hts (bw_V wB_1153 wB_1154 wB_1155 wB_881 wB_1152) rfl rfl rfl (by decide +kernel) ⟨Nat.le_of_ble_eq_true rfl, Nat.le_of_ble_eq_true rfl⟩) (dg_preV sM_0 rfl K ST hP hS hA1 hA) rfl rfl hl.1 rfl (lv_room (Nat.le_of_ble_eq_true rfl)) dX12_digging_28 ⟨Nat.le_of_ble_eq_true rfl, Nat.le_of_ble_eq_true rfl⟩) (fun S_14 hw_14 H locs hP hS => ?_)
      obtain ⟨I_14, m_14, w_14_0, -⟩ := hw_14
      have M_14 := dg_sm.tr M_7 m_14 (by decide) (by decide)
      obtain ⟨y_15, f_y_15, w_14_0⟩ := w_14_0
      have w_14_0 : (y_12).toInt ≠ 0 → (y_15).toInt = (y_12).toInt := w_14_0
      clear w_14_0
      have b_y_15 : 0 ≤ (y_15).toInt ∧ (y_15).toInt ≤ 6 := dg_I.intb (lo := 0) (hi := 6) I_14 sM_0 (by decide +kernel) f_y_15
      refine lv_aload_n hx hb dX12_digging_31 rfl (lv_at hl 0 rfl) ?_
      refine dg_get (C := RX12) (T := TX12) (N := 77) hx hb hts (fun w h => bw_mem (wU_X12 w h)) hown K hP sM_0 rfl 8 (by decide) (hts _ (bw_mem wB_1133)) (fun _ h9 => h9) (v := .int y_15) f_y_15 dX12_digging_32 ?_
      refine lv_if_le (tgt := 39) hx hb dX12_digging_35 (by decide) (fun c_16 => ?_) (fun c_16 => ?_)
      · have jc_16 := dk_lec (k := 0) (by decide +kernel) c_16
        refine lv_aload_n hx hb dX12_digging_39 rfl (lv_at hl 0 rfl) ?_
        refine dg_get (C := RX12) (T := TX12) (N := 77) hx hb hts (fun w h => bw_mem (wU_X12 w h)) hown K hP sM_0 rfl 3 (by decide) (hts _ (bw_mem wB_1140)) (fun _ h9 => h9) (v := .int y_9) ((m_14.1 0 3 _ sM_0 (by decide)).trans f_y_9) dX12_digging_40 ?_
        refine lv_iconst (v := 1) hx hb dX12_digging_43 (by decide +kernel) ?_
        refine lv_icmp_ne (tgt := 58) hx hb dX12_digging_44 (by decide) (fun c_17 => ?_) (fun c_17 => ?_)
        · have jc_17 := dk_neqc (k := 1) (by decide +kernel) c_17
          clear jc_17
          refine lv_aload_n hx hb dX12_digging_58 rfl (lv_at hl 0 rfl) ?_
          refine lv_iconst (v := 1) hx hb dX12_digging_59 (by decide +kernel) ?_
          refine lv_aload_n hx hb dX12_digging_60 rfl (lv_at hl 0 rfl) ?_
          refine dg_get (C := RX12) (T := TX12) (N := 77) hx hb hts (fun w h => bw_mem (wU_X12 w h)) hown K hP sM_0 rfl 4 (by decide) (hts _ (bw_mem wB_1145)) (fun _ h9 => h9) (v := .int y_10) ((m_14.1 0 4 _ sM_0 (by decide)).trans f_y_10) dX12_digging_61 ?_
          have hz_18 : (1 : Int32).toInt = 1 := by decide +kernel
          refine dg_callv hS hA1 hA (va_runV (As := [.int 1, .int y_10]) (rest := []) F (c_m_blame l g D o S_14 1 (by decide +kernel) y_10 y_15 f_y_15 (by omega) I_14 H.size) (cwV 2 hts (bw_V wB_1137 wB_1138 wB_1139 wB_881 wB_1136) rfl rfl rfl (by decide +kernel) ⟨Nat.le_of_ble_eq_true rfl, Nat.le_of_ble_eq_true rfl⟩) (dg_preV sM_0 rfl K ST hP hS hA1 hA) rfl rfl hl.1 rfl (lv_room (Nat.le_of_ble_eq_true rfl)) dX12_digging_64 ⟨Nat.le_of_ble_eq_true rfl, Nat.le_of_ble_eq_true rfl⟩) (fun S_19 hw_19 H locs hP hS => ?_)
          obtain ⟨I_19, m_19, w_19_0, -⟩ := hw_19
          have M_19 := dg_sm.tr M_14 m_19 (by decide) (by decide)
          have hz_20 : (1 : Int32).toInt = 1 := by decide +kernel
          obtain ⟨y_21, f_y_21, w_19_0⟩ := w_19_0
          have w_19_0 : ((y_15).toInt ≠ 0 → (y_21).toInt = (y_15).toInt) ∧ ((y_15).toInt = 0 → (y_21).toInt = ((1 : Int32)).toInt) := w_19_0
          obtain ⟨w_19_0_0, w_19_0_1⟩ := w_19_0
          clear w_19_0_0
          have w_19_0_1r := w_19_0_1 (by omega)
          clear w_19_0_1
          have b_y_21 : 0 ≤ (y_21).toInt ∧ (y_21).toInt ≤ 6 := dg_I.intb (lo := 0) (hi := 6) I_19 sM_0 (by decide +kernel) f_y_21
          have hbl_y_21 : 1 ≤ (y_21).toInt := by omega
          refine lv_aload_n hx hb dX12_digging_67 rfl (lv_at hl 0 rfl) ?_
          refine dg_get (C := RX12) (T := TX12) (N := 77) hx hb hts (fun w h => bw_mem (wU_X12 w h)) hown K hP sM_0 rfl 8 (by decide) (hts _ (bw_mem wB_1133)) (fun _ h9 => h9) (v := .int y_21) f_y_21 dX12_digging_68 ?_
          refine lv_if_le (tgt := 78) hx hb dX12_digging_71 (by decide) (fun c => absurd c (fun z => absurd (dk_lec (k := 0) (by decide +kernel) z) (by omega))) (fun _ => ?_)
          refine lv_iconst (v := 0) hx hb dX12_digging_74 (by decide +kernel) ?_
          refine lv_goto (tgt := 86) hx hb dX12_digging_75 (by decide) ?_
          refine lv_istore_n (lv' := [(1, .int 0), (0, .ref (o + 0))]) hx hb dX12_digging_86 rfl hl (by decide) rfl (fun ls hl => ?_)
          refine lv_aload_n hx hb dX12_digging_87 rfl (lv_at hl 1 rfl) ?_
          refine dg_get (C := RX12) (T := TX12) (N := 77) hx hb hts (fun w h => bw_mem (wU_X12 w h)) hown K hP sM_0 rfl 8 (by decide) (hts _ (bw_mem wB_1133)) (fun _ h9 => h9) (v := .int y_21) f_y_21 dX12_digging_88 ?_
          refine lv_if_ne (tgt := 108) hx hb dX12_digging_91 (by decide) (fun _ => ?_) (fun c => absurd c (fun z => absurd (dk_eqc (k := 0) (by decide +kernel) z) (by omega)))
          refine lv_aload_n hx hb dX12_digging_108 rfl (lv_at hl 1 rfl) ?_
          refine dg_get (C := RX12) (T := TX12) (N := 77) hx hb hts (fun w h => bw_mem (wU_X12 w h)) hown K hP sM_0 rfl 8 (by decide) (hts _ (bw_mem wB_1133)) (fun _ h9 => h9) (v := .int y_21) f_y_21 dX12_digging_109 ?_
          refine lv_if_le (tgt := 116) hx hb dX12_digging_112 (by decide) (fun c => absurd c (fun z => absurd (dk_lec (k := 0) (by decide +kernel) z) (by omega))) (fun _ => ?_)
          refine W.widen (k := 0) (n := 0) (Nat.le_of_ble_eq_true rfl) (Nat.le_of_ble_eq_true rfl) ?_
          rw [hQ9]
          exact dg_vret hx hb hr hlocks hP hS ⟨I_19, M_19, ⟨y_9, y_10, y_11, y_21, (((m_19.1 0 3 _ sM_0 (by decide)).trans (m_14.1 0 3 _ sM_0 (by decide))).trans f_y_9), (((m_19.1 0 4 _ sM_0 (by decide)).trans (m_14.1 0 4 _ sM_0 (by decide))).trans f_y_10), (((m_19.1 0 5 _ sM_0 (by decide)).trans (m_14.1 0 5 _ sM_0 (by decide))).trans f_y_11), f_y_21, (by omega)⟩, trivial⟩ dX12_digging_115
        · have jc_17 := dk_eqc (k := 1) (by decide +kernel) c_17
          have w_7_1_2r := w_7_1_2 (by omega)
          clear w_7_1_2
          refine lv_aload_n hx hb dX12_digging_47 rfl (lv_at hl 0 rfl) ?_
          refine lv_aload_n hx hb dX12_digging_48 rfl (lv_at hl 0 rfl) ?_
          obtain ⟨x_22, f_x_22⟩ := dg_I.long (i := 0) (k := 7) I_14 sM_0 (by decide +kernel)
          refine dg_get (C := RX12) (T := TX12) (N := 77) hx hb hts (fun w h => bw_mem (wU_X12 w h)) hown K hP sM_0 rfl 7 (by decide) (hts _ (bw_mem wB_1142)) (fun _ h9 => h9) (v := .long x_22) f_x_22 dX12_digging_49 ?_
          refine dg_calli hS hA1 hA (va_runV (As := [.long x_22]) (rest := []) F (c_m_isOwn l g D o S_14 x_22 I_14 H.size) (cwV 1 hts (bw_V wB_1247 wB_1248 wB_1249 wB_881 wB_1246) rfl rfl rfl (by decide +kernel) ⟨Nat.le_of_ble_eq_true rfl, Nat.le_of_ble_eq_true rfl⟩) (dg_preV sM_0 rfl K ST hP hS hA1 hA) rfl rfl hl.1 rfl (lv_room (Nat.le_of_ble_eq_true rfl)) dX12_digging_52 ⟨Nat.le_of_ble_eq_true rfl, Nat.le_of_ble_eq_true rfl⟩) (fun x_23 S_24 hw_24 H locs hP hS => ?_)
          rw [hw_24.1] at hP
          obtain ⟨hq_24, w_24_0, -⟩ := hw_24
          have w_24_0 : 0 ≤ (x_23).toInt ∧ (x_23).toInt ≤ 1 := w_24_0
          refine lv_if_eq (tgt := 67) hx hb dX12_digging_55 (by decide) (fun c_25 => ?_) (fun c_25 => ?_)
          · have jc_25 := dk_eqc (k := 0) (by decide +kernel) c_25
            refine lv_aload_n hx hb dX12_digging_67 rfl (lv_at hl 0 rfl) ?_
            refine dg_get (C := RX12) (T := TX12) (N := 77) hx hb hts (fun w h => bw_mem (wU_X12 w h)) hown K hP sM_0 rfl 8 (by decide) (hts _ (bw_mem wB_1133)) (fun _ h9 => h9) (v := .int y_15) f_y_15 dX12_digging_68 ?_
            refine lv_if_le (tgt := 78) hx hb dX12_digging_71 (by decide) (fun _ => ?_) (fun c => absurd (dk_lep (k := 0) (by decide +kernel) (by omega)) c)
            refine lv_aload_n hx hb dX12_digging_78 rfl (lv_at hl 0 rfl) ?_
            refine lv_aload_n hx hb dX12_digging_79 rfl (lv_at hl 0 rfl) ?_
            refine dg_get (C := RX12) (T := TX12) (N := 77) hx hb hts (fun w h => bw_mem (wU_X12 w h)) hown K hP sM_0 rfl 7 (by decide) (hts _ (bw_mem wB_1142)) (fun _ h9 => h9) (v := .long x_22) f_x_22 dX12_digging_80 ?_
            refine dg_calli hS hA1 hA (va_runV (As := [.long x_22]) (rest := []) F (c_m_minerNamed l g D o S_14 x_22 I_14 H.size) (cwV 1 hts (bw_V wB_1197 wB_1198 wB_1199 wB_881 wB_1196) rfl rfl rfl (by decide +kernel) ⟨Nat.le_of_ble_eq_true rfl, Nat.le_of_ble_eq_true rfl⟩) (dg_preV sM_0 rfl K ST hP hS hA1 hA) rfl rfl hl.1 rfl (lv_room (Nat.le_of_ble_eq_true rfl)) dX12_digging_83 ⟨Nat.le_of_ble_eq_true rfl, Nat.le_of_ble_eq_true rfl⟩) (fun x_26 S_27 hw_27 H locs hP hS => ?_)
            rw [hw_27.1] at hP
            obtain ⟨hq_27, w_27_0, -⟩ := hw_27
            have w_27_0 : (-1) ≤ (x_26).toInt ∧ (x_26).toInt ≤ 5 := w_27_0
            refine lv_istore_n (lv' := [(1, .int x_26), (0, .ref (o + 0))]) hx hb dX12_digging_86 rfl hl (by decide) rfl (fun ls hl => ?_)
            refine lv_aload_n hx hb dX12_digging_87 rfl (lv_at hl 1 rfl) ?_
            refine dg_get (C := RX12) (T := TX12) (N := 77) hx hb hts (fun w h => bw_mem (wU_X12 w h)) hown K hP sM_0 rfl 8 (by decide) (hts _ (bw_mem wB_1133)) (fun _ h9 => h9) (v := .int y_15) f_y_15 dX12_digging_88 ?_
            refine lv_if_ne (tgt := 108) hx hb dX12_digging_91 (by decide) (fun c => absurd (dk_eqp (k := 0) (by decide +kernel) (by omega)) c) (fun _ => ?_)
            refine lv_iload_n hx hb dX12_digging_94 rfl (lv_at hl 0 rfl) ?_
            refine lv_iconst (v := (-1)) hx hb dX12_digging_95 (by decide +kernel) ?_
            refine lv_icmp_ne (tgt := 108) hx hb dX12_digging_96 (by decide) (fun c_28 => ?_) (fun c_28 => ?_)
            · have jc_28 := dk_neqc (k := (-1)) (by decide +kernel) c_28
              have jbc_28 : 0 ≤ (x_26).toInt := by omega
              clear jc_28
              refine lv_aload_n hx hb dX12_digging_108 rfl (lv_at hl 1 rfl) ?_
              refine dg_get (C := RX12) (T := TX12) (N := 77) hx hb hts (fun w h => bw_mem (wU_X12 w h)) hown K hP sM_0 rfl 8 (by decide) (hts _ (bw_mem wB_1133)) (fun _ h9 => h9) (v := .int y_15) f_y_15 dX12_digging_109 ?_
              refine lv_if_le (tgt := 116) hx hb dX12_digging_112 (by decide) (fun _ => ?_) (fun c => absurd (dk_lep (k := 0) (by decide +kernel) (by omega)) c)
              refine lv_aload_n hx hb dX12_digging_116 rfl (lv_at hl 1 rfl) ?_
              refine dg_callv hS hA1 hA (va_runV (As := []) (rest := []) F (c_m_ahead l g D o S_14 y_11 ((m_14.1 0 5 _ sM_0 (by decide)).trans f_y_11) (by omega) sl (((m_14.1 0 2 _ sM_0 (by decide)).trans (m_7.1 0 2 _ sM_0 (by decide))).trans f_sl) (by omega) (by omega) I_14 H.size) (cwV 0 hts (bw_V wB_1161 wB_1162 wB_1163 wB_881 wB_1160) rfl rfl rfl (by decide +kernel) ⟨Nat.le_of_ble_eq_true rfl, Nat.le_of_ble_eq_true rfl⟩) (dg_preV sM_0 rfl K ST hP hS hA1 hA) rfl rfl hl.1 rfl (lv_room (Nat.le_of_ble_eq_true rfl)) dX12_digging_117 ⟨Nat.le_of_ble_eq_true rfl, Nat.le_of_ble_eq_true rfl⟩) (fun S_29 hw_29 H locs hP hS => ?_)
              obtain ⟨I_29, m_29, w_29_0, -⟩ := hw_29
              have M_29 := dg_sm.tr M_14 m_29 (by decide) (by decide)
              obtain ⟨y_30, y_31, y_32, f_y_30, f_y_31, f_y_32, w_29_0⟩ := w_29_0
              have w_29_0 : (y_11).toInt ≤ (y_31).toInt ∧ (y_31).toInt ≤ (y_32).toInt ∧ (y_32).toInt ≤ (sl).toInt ∧ ((y_30).toInt ≠ 0 → (y_31).toInt + 1 ≤ (y_32).toInt) := w_29_0
              obtain ⟨w_29_0_0, w_29_0_1, w_29_0_2, w_29_0_3⟩ := w_29_0
              have b_y_30 : 0 ≤ (y_30).toInt ∧ (y_30).toInt ≤ 3 := dg_I.intb (lo := 0) (hi := 3) I_29 sM_0 (by decide +kernel) f_y_30
              have b_y_31 : 0 ≤ (y_31).toInt ∧ (y_31).toInt ≤ 1600 := dg_I.intb (lo := 0) (hi := 1600) I_29 sM_0 (by decide +kernel) f_y_31
              have b_y_32 : 0 ≤ (y_32).toInt ∧ (y_32).toInt ≤ 1600 := dg_I.intb (lo := 0) (hi := 1600) I_29 sM_0 (by decide +kernel) f_y_32
              refine lv_aload_n hx hb dX12_digging_120 rfl (lv_at hl 1 rfl) ?_
              refine lv_ldc2 hx hb hown (hts _ (bw_mem wB_1176)) dX12_digging_121 ?_
              refine dg_callv hS hA1 hA (va_runV (As := [.long 24948]) (rest := []) F (c_m_must_ l g D o S_29 24948 y_30 f_y_30 (by omega) y_31 f_y_31 (by omega) y_32 f_y_32 (by omega) sl (((m_29.1 0 2 _ sM_0 (by decide)).trans ((m_14.1 0 2 _ sM_0 (by decide)).trans (m_7.1 0 2 _ sM_0 (by decide)))).trans f_sl) (by omega) y_15 ((m_29.1 0 8 _ sM_0 (by decide)).trans f_y_15) (by omega) (by omega) I_29 H.size) (cwV 1 hts (bw_V wB_1259 wB_1260 wB_1261 wB_881 wB_1258) rfl rfl rfl (by decide +kernel) ⟨Nat.le_of_ble_eq_true rfl, Nat.le_of_ble_eq_true rfl⟩) (dg_preV sM_0 rfl K ST hP hS hA1 hA) rfl rfl hl.1 rfl (lv_room (Nat.le_of_ble_eq_true rfl)) dX12_digging_124 ⟨Nat.le_of_ble_eq_true rfl, Nat.le_of_ble_eq_true rfl⟩) (fun S_33 hw_33 H locs hP hS => ?_)
              obtain ⟨I_33, m_33, w_33_0, -⟩ := hw_33
              have M_33 := dg_sm.tr M_29 m_33 (by decide) (by decide)
              obtain ⟨y_34, y_35, y_36, y_37, f_y_34, f_y_35, f_y_36, f_y_37, w_33_0⟩ := w_33_0
              have w_33_0 : ((y_35).toInt ≤ (y_36).toInt ∧ (y_36).toInt ≤ (sl).toInt ∧ ((y_34).toInt ≠ 0 → (y_35).toInt + 1 ≤ (y_36).toInt)) ∧ (y_31).toInt ≤ (y_35).toInt ∧ ((y_15).toInt ≠ 0 → (y_37).toInt ≠ 0) ∧ ((y_37).toInt = 0 → (y_31).toInt + 1 ≤ (y_35).toInt) := w_33_0
              obtain ⟨⟨w_33_0_0, w_33_0_1, w_33_0_2⟩, w_33_0_3, w_33_0_4, w_33_0_5⟩ := w_33_0
              clear w_33_0_4
              have b_y_34 : 0 ≤ (y_34).toInt ∧ (y_34).toInt ≤ 3 := dg_I.intb (lo := 0) (hi := 3) I_33 sM_0 (by decide +kernel) f_y_34
              have b_y_35 : 0 ≤ (y_35).toInt ∧ (y_35).toInt ≤ 1600 := dg_I.intb (lo := 0) (hi := 1600) I_33 sM_0 (by decide +kernel) f_y_35
              have b_y_36 : 0 ≤ (y_36).toInt ∧ (y_36).toInt ≤ 1600 := dg_I.intb (lo := 0) (hi := 1600) I_33 sM_0 (by decide +kernel) f_y_36
              have b_y_37 : 0 ≤ (y_37).toInt ∧ (y_37).toInt ≤ 6 := dg_I.intb (lo := 0) (hi := 6) I_33 sM_0 (by decide +kernel) f_y_37
              refine lv_bipush (v := 16) hx hb dX12_digging_127 (by decide +kernel) ?_
              refine lv_aload_n hx hb dX12_digging_129 rfl (lv_at hl 1 rfl) ?_
              refine dg_get (C := RX12) (T := TX12) (N := 77) hx hb hts (fun w h => bw_mem (wU_X12 w h)) hown K hP sM_0 rfl 35 (by decide) (hts _ (bw_mem wB_1195)) (fun _ h9 => h9) (v := .int x_1) (((m_33.1 0 35 _ sM_0 (by decide)).trans ((m_29.1 0 35 _ sM_0 (by decide)).trans ((m_14.1 0 35 _ sM_0 (by decide)).trans (m_7.1 0 35 _ sM_0 (by decide))))).trans f_x_1) dX12_digging_130 ?_
              refine lv_imul hx hb dX12_digging_133 ?_
              refine lv_topi (fun x_38 ex_38 => ?_)
              have jx_38 : (x_38).toInt = 16 * (x_1).toInt := by rw [ex_38]; exact dk_mulT (by decide +kernel) rfl (by omega) (by omega)
              refine lv_aload_n hx hb dX12_digging_134 rfl (lv_at hl 1 rfl) ?_
              refine dg_get (C := RX12) (T := TX12) (N := 77) hx hb hts (fun w h => bw_mem (wU_X12 w h)) hown K hP sM_0 rfl 21 (by decide) (hts _ (bw_mem wB_976)) (fun _ h9 => h9) (v := .ref (o + 9)) (show S_33.1 0 21 = .ref (o + 9) from dg_I.rel (d := 9) I_33 sM_0 (by decide +kernel)) dX12_digging_135 ?_
              refine lv_aload_n hx hb dX12_digging_138 rfl (lv_at hl 1 rfl) ?_
              refine dg_get (C := RX12) (T := TX12) (N := 77) hx hb hts (fun w h => bw_mem (wU_X12 w h)) hown K hP sM_0 rfl 35 (by decide) (hts _ (bw_mem wB_1195)) (fun _ h9 => h9) (v := .int x_1) (((m_33.1 0 35 _ sM_0 (by decide)).trans ((m_29.1 0 35 _ sM_0 (by decide)).trans ((m_14.1 0 35 _ sM_0 (by decide)).trans (m_7.1 0 35 _ sM_0 (by decide))))).trans f_x_1) dX12_digging_139 ?_
              have hin_39 : vp_in x_1 2 := (dk_inv (by omega) (by omega))
              refine dg_iald hx hb K hP sM_9 hin_39 dX12_digging_142 (fun y_40 ey_40 => ?_)
              obtain rfl : x_3 = y_40 := ((ey_40.trans (congrFun ((m_33.2 9 _ sM_9 (by decide)).1.trans ((m_29.2 9 _ sM_9 (by decide)).1.trans ((m_14.2 9 _ sM_9 (by decide)).1.trans (m_7.2 9 _ sM_9 (by decide)).1))) _)).trans ex_3.symm).symm
              refine lv_iadd hx hb dX12_digging_143 ?_
              refine lv_topi (fun x_41 ex_41 => ?_)
              have jx_41 : (x_41).toInt = (x_38).toInt + (x_3).toInt := by rw [ex_41]; exact dk_addT rfl rfl (by omega) (by omega)
              refine lv_istore_n (lv' := [(2, .int x_41), (1, .int x_26), (0, .ref (o + 0))]) hx hb dX12_digging_144 rfl hl (by decide) rfl (fun ls hl => ?_)
              refine lv_aload_n hx hb dX12_digging_145 rfl (lv_at hl 2 rfl) ?_
              refine dg_get (C := RX12) (T := TX12) (N := 77) hx hb hts (fun w h => bw_mem (wU_X12 w h)) hown K hP sM_0 rfl 22 (by decide) (hts _ (bw_mem wB_1010)) (fun _ h9 => h9) (v := .ref (o + 10)) (show S_33.1 0 22 = .ref (o + 10) from dg_I.rel (d := 10) I_33 sM_0 (by decide +kernel)) dX12_digging_146 ?_
              refine lv_iload_n hx hb dX12_digging_149 rfl (lv_at hl 0 rfl) ?_
              refine lv_iload_n hx hb dX12_digging_150 rfl (lv_at hl 1 rfl) ?_
              have hin_42 : vp_in x_41 32 := (dk_inv (by omega) (by omega))
              refine dg_iast hx hb K hP hS hA1 sM_10 hin_42 dX12_digging_151 (fun S_43 e_43 H locs hP hS => ?_)
              have I_43 := dg_I.uf0 I_33 e_43 sM_10 (by decide +kernel)
              have M_43 := dg_sm.uf M_33 e_43 sM_10 (by decide)
              refine lv_aload_n hx hb dX12_digging_152 rfl (lv_at hl 2 rfl) ?_
              refine dg_get (C := RX12) (T := TX12) (N := 77) hx hb hts (fun w h => bw_mem (wU_X12 w h)) hown K hP sM_0 rfl 23 (by decide) (hts _ (bw_mem wB_1011)) (fun _ h9 => h9) (v := .ref (o + 11)) (show S_43.1 0 23 = .ref (o + 11) from dg_I.rel (d := 11) I_43 sM_0 (by decide +kernel)) dX12_digging_153 ?_
              refine lv_iload_n hx hb dX12_digging_156 rfl (lv_at hl 0 rfl) ?_
              refine lv_aload_n hx hb dX12_digging_157 rfl (lv_at hl 2 rfl) ?_
              refine dg_calli hS hA1 hA (va_runV (As := []) (rest := [.int x_41, .ref (o + 11)]) F (c_m_cellTold l g D o S_43 y_34 ((dg_uf_F e_43 0 3).trans f_y_34) (by omega) y_35 ((dg_uf_F e_43 0 4).trans f_y_35) (by omega) y_36 ((dg_uf_F e_43 0 5).trans f_y_36) (by omega) sl (((dg_uf_F e_43 0 2).trans ((m_33.1 0 2 _ sM_0 (by decide)).trans ((m_29.1 0 2 _ sM_0 (by decide)).trans ((m_14.1 0 2 _ sM_0 (by decide)).trans (m_7.1 0 2 _ sM_0 (by decide)))))).trans f_sl) (by omega) y_37 ((dg_uf_F e_43 0 8).trans f_y_37) (by omega) (by omega) (ZCM.keep (ZCM.keep (ZCM.keep (ZCM.keep (ZCM.keep ZC m_7 (by decide) (by decide) (by decide) (by decide)) m_14 (by decide) (by decide) (by decide) (by decide)) m_29 (by decide) (by decide) (by decide) (by decide)) m_33 (by decide) (by decide) (by decide) (by decide)) (dg_sm.uf (WF := []) (WA := [10]) dg_sm.rf e_43 sM_10 (by decide)) (by decide) (by decide) (by decide) (by decide)) I_43 H.size) (cwV 0 hts (bw_V wB_1267 wB_1268 wB_1269 wB_881 wB_1266) rfl rfl rfl (by decide +kernel) ⟨Nat.le_of_ble_eq_true rfl, Nat.le_of_ble_eq_true rfl⟩) (dg_preV sM_0 rfl K ST hP hS hA1 hA) rfl rfl hl.1 rfl (lv_room (Nat.le_of_ble_eq_true rfl)) dX12_digging_158 ⟨Nat.le_of_ble_eq_true rfl, Nat.le_of_ble_eq_true rfl⟩) (fun x_44 S_45 hw_45 H locs hP hS => ?_)
              obtain ⟨I_45, m_45, w_45_0, w_45_1, -⟩ := hw_45
              have M_45 := dg_sm.tr M_43 m_45 (by decide) (by decide)
              have w_45_0 : 0 ≤ (x_44).toInt ∧ (x_44).toInt ≤ 54 := w_45_0
              obtain ⟨y_46, y_47, y_48, y_49, f_y_46, f_y_47, f_y_48, f_y_49, w_45_1⟩ := w_45_1
              have w_45_1 : ((y_47).toInt ≤ (y_48).toInt ∧ (y_48).toInt ≤ (sl).toInt ∧ ((y_46).toInt ≠ 0 → (y_47).toInt + 1 ≤ (y_48).toInt)) ∧ (y_35).toInt ≤ (y_47).toInt ∧ ((y_37).toInt ≠ 0 → (y_49).toInt ≠ 0) ∧ ((y_35).toInt ≤ (y_35).toInt) := w_45_1
              obtain ⟨⟨w_45_1_0, w_45_1_1, w_45_1_2⟩, w_45_1_3, w_45_1_4, w_45_1_5⟩ := w_45_1
              have b_y_46 : 0 ≤ (y_46).toInt ∧ (y_46).toInt ≤ 3 := dg_I.intb (lo := 0) (hi := 3) I_45 sM_0 (by decide +kernel) f_y_46
              have b_y_47 : 0 ≤ (y_47).toInt ∧ (y_47).toInt ≤ 1600 := dg_I.intb (lo := 0) (hi := 1600) I_45 sM_0 (by decide +kernel) f_y_47
              have b_y_48 : 0 ≤ (y_48).toInt ∧ (y_48).toInt ≤ 1600 := dg_I.intb (lo := 0) (hi := 1600) I_45 sM_0 (by decide +kernel) f_y_48
              have b_y_49 : 0 ≤ (y_49).toInt ∧ (y_49).toInt ≤ 6 := dg_I.intb (lo := 0) (hi := 6) I_45 sM_0 (by decide +kernel) f_y_49
              have hin_50 : vp_in x_41 32 := (dk_inv (by omega) (by omega))
              refine dg_iast hx hb K hP hS hA1 sM_11 hin_50 dX12_digging_161 (fun S_51 e_51 H locs hP hS => ?_)
              have I_51 := dg_I.ufu (lo := 0) (hi := 63) I_45 e_51 sM_11 (by decide +kernel) (show 0 ≤ (x_44).toInt ∧ (x_44).toInt ≤ 63 from (by omega))
              have M_51 := dg_sm.uf M_45 e_51 sM_11 (by decide)
              refine lv_aload_n hx hb dX12_digging_162 rfl (lv_at hl 2 rfl) ?_
              refine dg_get (C := RX12) (T := TX12) (N := 77) hx hb hts (fun w h => bw_mem (wU_X12 w h)) hown K hP sM_0 rfl 8 (by decide) (hts _ (bw_mem wB_1133)) (fun _ h9 => h9) (v := .int y_49) ((dg_uf_F e_51 0 8).trans f_y_49) dX12_digging_163 ?_
              refine lv_if_ne (tgt := 182) hx hb dX12_digging_166 (by decide) (fun c_52 => ?_) (fun c_52 => ?_)
              · have jc_52 := dk_neqc (k := 0) (by decide +kernel) c_52
                have jbc_52 : 1 ≤ (y_49).toInt := by omega
                clear jc_52
                refine W.widen (k := 0) (n := 0) (Nat.le_of_ble_eq_true rfl) (Nat.le_of_ble_eq_true rfl) ?_
                rw [hQ9]
                exact dg_vret hx hb hr hlocks hP hS ⟨I_51, M_51, ⟨y_46, y_47, y_48, y_49, ((dg_uf_F e_51 0 3).trans f_y_46), ((dg_uf_F e_51 0 4).trans f_y_47), ((dg_uf_F e_51 0 5).trans f_y_48), ((dg_uf_F e_51 0 8).trans f_y_49), (by omega)⟩, trivial⟩ dX12_digging_182
              · have jc_52 := dk_eqc (k := 0) (by decide +kernel) c_52
                have w_45_1_4c : (y_37).toInt = 0 := by omega
                clear w_45_1_4
                have w_33_0_5r := w_33_0_5 (by omega)
                clear w_33_0_5
                refine lv_aload_n hx hb dX12_digging_169 rfl (lv_at hl 2 rfl) ?_
                refine dg_get (C := RX12) (T := TX12) (N := 77) hx hb hts (fun w h => bw_mem (wU_X12 w h)) hown K hP sM_0 rfl 21 (by decide) (hts _ (bw_mem wB_976)) (fun _ h9 => h9) (v := .ref (o + 9)) (show S_51.1 0 21 = .ref (o + 9) from dg_I.rel (d := 9) I_51 sM_0 (by decide +kernel)) dX12_digging_170 ?_
                refine lv_aload_n hx hb dX12_digging_173 rfl (lv_at hl 2 rfl) ?_
                refine dg_get (C := RX12) (T := TX12) (N := 77) hx hb hts (fun w h => bw_mem (wU_X12 w h)) hown K hP sM_0 rfl 35 (by decide) (hts _ (bw_mem wB_1195)) (fun _ h9 => h9) (v := .int x_1) (((dg_uf_F e_51 0 35).trans ((m_45.1 0 35 _ sM_0 (by decide)).trans ((dg_uf_F e_43 0 35).trans ((m_33.1 0 35 _ sM_0 (by decide)).trans ((m_29.1 0 35 _ sM_0 (by decide)).trans ((m_14.1 0 35 _ sM_0 (by decide)).trans (m_7.1 0 35 _ sM_0 (by decide)))))))).trans f_x_1) dX12_digging_174 ?_
                refine lv_dup2_11 hx hb dX12_digging_177 rfl rfl ?_
                have hin_53 : vp_in x_1 2 := (dk_inv (by omega) (by omega))
                refine dg_iald hx hb K hP sM_9 hin_53 dX12_digging_178 (fun y_54 ey_54 => ?_)
                obtain rfl : x_3 = y_54 := ((ey_54.trans (congrFun ((dg_uf_ne e_51 (by decide)).trans ((m_45.2 9 _ sM_9 (by decide)).1.trans ((dg_uf_ne e_43 (by decide)).trans ((m_33.2 9 _ sM_9 (by decide)).1.trans ((m_29.2 9 _ sM_9 (by decide)).1.trans ((m_14.2 9 _ sM_9 (by decide)).1.trans (m_7.2 9 _ sM_9 (by decide)).1)))))) _)).trans ex_3.symm).symm
                refine lv_iconst (v := 1) hx hb dX12_digging_179 (by decide +kernel) ?_
                refine lv_iadd hx hb dX12_digging_180 ?_
                refine lv_topi (fun x_55 ex_55 => ?_)
                have jx_55 : (x_55).toInt = (x_3).toInt + 1 := by rw [ex_55]; exact dk_addT rfl (by decide +kernel) (by omega) (by omega)
                have hin_56 : vp_in x_1 2 := (dk_inv (by omega) (by omega))
                refine dg_iast hx hb K hP hS hA1 sM_9 hin_56 dX12_digging_181 (fun S_57 e_57 H locs hP hS => ?_)
                have I_57 := dg_I.ufu (lo := 0) (hi := 16) I_51 e_57 sM_9 (by decide +kernel) (show 0 ≤ (x_55).toInt ∧ (x_55).toInt ≤ 16 from (by omega))
                have M_57 := dg_sm.uf M_51 e_57 sM_9 (by decide)
                refine W.widen (k := 0) (n := 0) (Nat.le_of_ble_eq_true rfl) (Nat.le_of_ble_eq_true rfl) ?_
                rw [hQ9]
                exact dg_vret hx hb hr hlocks hP hS ⟨I_57, M_57, ⟨y_46, y_47, y_48, y_49, (((dg_uf_F e_57 0 3).trans (dg_uf_F e_51 0 3)).trans f_y_46), (((dg_uf_F e_57 0 4).trans (dg_uf_F e_51 0 4)).trans f_y_47), (((dg_uf_F e_57 0 5).trans (dg_uf_F e_51 0 5)).trans f_y_48), (((dg_uf_F e_57 0 8).trans (dg_uf_F e_51 0 8)).trans f_y_49), (by omega)⟩, trivial⟩ dX12_digging_182
            · have jc_28 := dk_eqc (k := (-1)) (by decide +kernel) c_28
              refine lv_aload_n hx hb dX12_digging_99 rfl (lv_at hl 1 rfl) ?_
              refine lv_iconst (v := 3) hx hb dX12_digging_100 (by decide +kernel) ?_
              refine lv_aload_n hx hb dX12_digging_101 rfl (lv_at hl 1 rfl) ?_
              refine dg_get (C := RX12) (T := TX12) (N := 77) hx hb hts (fun w h => bw_mem (wU_X12 w h)) hown K hP sM_0 rfl 4 (by decide) (hts _ (bw_mem wB_1145)) (fun _ h9 => h9) (v := .int y_10) ((m_14.1 0 4 _ sM_0 (by decide)).trans f_y_10) dX12_digging_102 ?_
              have hz_58 : (3 : Int32).toInt = 3 := by decide +kernel
              refine dg_callv hS hA1 hA (va_runV (As := [.int 3, .int y_10]) (rest := []) F (c_m_blame l g D o S_14 3 (by decide +kernel) y_10 y_15 f_y_15 (by omega) I_14 H.size) (cwV 2 hts (bw_V wB_1137 wB_1138 wB_1139 wB_881 wB_1136) rfl rfl rfl (by decide +kernel) ⟨Nat.le_of_ble_eq_true rfl, Nat.le_of_ble_eq_true rfl⟩) (dg_preV sM_0 rfl K ST hP hS hA1 hA) rfl rfl hl.1 rfl (lv_room (Nat.le_of_ble_eq_true rfl)) dX12_digging_105 ⟨Nat.le_of_ble_eq_true rfl, Nat.le_of_ble_eq_true rfl⟩) (fun S_59 hw_59 H locs hP hS => ?_)
              obtain ⟨I_59, m_59, w_59_0, -⟩ := hw_59
              have M_59 := dg_sm.tr M_14 m_59 (by decide) (by decide)
              have hz_60 : (3 : Int32).toInt = 3 := by decide +kernel
              obtain ⟨y_61, f_y_61, w_59_0⟩ := w_59_0
              have w_59_0 : ((y_15).toInt ≠ 0 → (y_61).toInt = (y_15).toInt) ∧ ((y_15).toInt = 0 → (y_61).toInt = ((3 : Int32)).toInt) := w_59_0
              obtain ⟨w_59_0_0, w_59_0_1⟩ := w_59_0
              clear w_59_0_0
              have w_59_0_1r := w_59_0_1 (by omega)
              clear w_59_0_1
              have b_y_61 : 0 ≤ (y_61).toInt ∧ (y_61).toInt ≤ 6 := dg_I.intb (lo := 0) (hi := 6) I_59 sM_0 (by decide +kernel) f_y_61
              have hbl_y_61 : 1 ≤ (y_61).toInt := by omega
              refine lv_aload_n hx hb dX12_digging_108 rfl (lv_at hl 1 rfl) ?_
              refine dg_get (C := RX12) (T := TX12) (N := 77) hx hb hts (fun w h => bw_mem (wU_X12 w h)) hown K hP sM_0 rfl 8 (by decide) (hts _ (bw_mem wB_1133)) (fun _ h9 => h9) (v := .int y_61) f_y_61 dX12_digging_109 ?_
              refine lv_if_le (tgt := 116) hx hb dX12_digging_112 (by decide) (fun c => absurd c (fun z => absurd (dk_lec (k := 0) (by decide +kernel) z) (by omega))) (fun _ => ?_)
              refine W.widen (k := 0) (n := 0) (Nat.le_of_ble_eq_true rfl) (Nat.le_of_ble_eq_true rfl) ?_
              rw [hQ9]
              exact dg_vret hx hb hr hlocks hP hS ⟨I_59, M_59, ⟨y_9, y_10, y_11, y_61, (((m_59.1 0 3 _ sM_0 (by decide)).trans (m_14.1 0 3 _ sM_0 (by decide))).trans f_y_9), (((m_59.1 0 4 _ sM_0 (by decide)).trans (m_14.1 0 4 _ sM_0 (by decide))).trans f_y_10), (((m_59.1 0 5 _ sM_0 (by decide)).trans (m_14.1 0 5 _ sM_0 (by decide))).trans f_y_11), f_y_61, (by omega)⟩, trivial⟩ dX12_digging_115
          · have jc_25 := dk_neqc (k := 0) (by decide +kernel) c_25
            have jbc_25 : 1 ≤ (x_23).toInt := by omega
            clear jc_25
            refine lv_aload_n hx hb dX12_digging_58 rfl (lv_at hl 0 rfl) ?_
            refine lv_iconst (v := 1) hx hb dX12_digging_59 (by decide +kernel) ?_
            refine lv_aload_n hx hb dX12_digging_60 rfl (lv_at hl 0 rfl) ?_
            refine dg_get (C := RX12) (T := TX12) (N := 77) hx hb hts (fun w h => bw_mem (wU_X12 w h)) hown K hP sM_0 rfl 4 (by decide) (hts _ (bw_mem wB_1145)) (fun _ h9 => h9) (v := .int y_10) ((m_14.1 0 4 _ sM_0 (by decide)).trans f_y_10) dX12_digging_61 ?_
            have hz_62 : (1 : Int32).toInt = 1 := by decide +kernel
            refine dg_callv hS hA1 hA (va_runV (As := [.int 1, .int y_10]) (rest := []) F (c_m_blame l g D o S_14 1 (by decide +kernel) y_10 y_15 f_y_15 (by omega) I_14 H.size) (cwV 2 hts (bw_V wB_1137 wB_1138 wB_1139 wB_881 wB_1136) rfl rfl rfl (by decide +kernel) ⟨Nat.le_of_ble_eq_true rfl, Nat.le_of_ble_eq_true rfl⟩) (dg_preV sM_0 rfl K ST hP hS hA1 hA) rfl rfl hl.1 rfl (lv_room (Nat.le_of_ble_eq_true rfl)) dX12_digging_64 ⟨Nat.le_of_ble_eq_true rfl, Nat.le_of_ble_eq_true rfl⟩) (fun S_63 hw_63 H locs hP hS => ?_)
            obtain ⟨I_63, m_63, w_63_0, -⟩ := hw_63
            have M_63 := dg_sm.tr M_14 m_63 (by decide) (by decide)
            have hz_64 : (1 : Int32).toInt = 1 := by decide +kernel
            obtain ⟨y_65, f_y_65, w_63_0⟩ := w_63_0
            have w_63_0 : ((y_15).toInt ≠ 0 → (y_65).toInt = (y_15).toInt) ∧ ((y_15).toInt = 0 → (y_65).toInt = ((1 : Int32)).toInt) := w_63_0
            obtain ⟨w_63_0_0, w_63_0_1⟩ := w_63_0
            clear w_63_0_0
            have w_63_0_1r := w_63_0_1 (by omega)
            clear w_63_0_1
            have b_y_65 : 0 ≤ (y_65).toInt ∧ (y_65).toInt ≤ 6 := dg_I.intb (lo := 0) (hi := 6) I_63 sM_0 (by decide +kernel) f_y_65
            have hbl_y_65 : 1 ≤ (y_65).toInt := by omega
            refine lv_aload_n hx hb dX12_digging_67 rfl (lv_at hl 0 rfl) ?_
            refine dg_get (C := RX12) (T := TX12) (N := 77) hx hb hts (fun w h => bw_mem (wU_X12 w h)) hown K hP sM_0 rfl 8 (by decide) (hts _ (bw_mem wB_1133)) (fun _ h9 => h9) (v := .int y_65) f_y_65 dX12_digging_68 ?_
            refine lv_if_le (tgt := 78) hx hb dX12_digging_71 (by decide) (fun c => absurd c (fun z => absurd (dk_lec (k := 0) (by decide +kernel) z) (by omega))) (fun _ => ?_)
            refine lv_iconst (v := 0) hx hb dX12_digging_74 (by decide +kernel) ?_
            refine lv_goto (tgt := 86) hx hb dX12_digging_75 (by decide) ?_
            refine lv_istore_n (lv' := [(1, .int 0), (0, .ref (o + 0))]) hx hb dX12_digging_86 rfl hl (by decide) rfl (fun ls hl => ?_)
            refine lv_aload_n hx hb dX12_digging_87 rfl (lv_at hl 1 rfl) ?_
            refine dg_get (C := RX12) (T := TX12) (N := 77) hx hb hts (fun w h => bw_mem (wU_X12 w h)) hown K hP sM_0 rfl 8 (by decide) (hts _ (bw_mem wB_1133)) (fun _ h9 => h9) (v := .int y_65) f_y_65 dX12_digging_88 ?_
            refine lv_if_ne (tgt := 108) hx hb dX12_digging_91 (by decide) (fun _ => ?_) (fun c => absurd c (fun z => absurd (dk_eqc (k := 0) (by decide +kernel) z) (by omega)))
            refine lv_aload_n hx hb dX12_digging_108 rfl (lv_at hl 1 rfl) ?_
            refine dg_get (C := RX12) (T := TX12) (N := 77) hx hb hts (fun w h => bw_mem (wU_X12 w h)) hown K hP sM_0 rfl 8 (by decide) (hts _ (bw_mem wB_1133)) (fun _ h9 => h9) (v := .int y_65) f_y_65 dX12_digging_109 ?_
            refine lv_if_le (tgt := 116) hx hb dX12_digging_112 (by decide) (fun c => absurd c (fun z => absurd (dk_lec (k := 0) (by decide +kernel) z) (by omega))) (fun _ => ?_)
            refine W.widen (k := 0) (n := 0) (Nat.le_of_ble_eq_true rfl) (Nat.le_of_ble_eq_true rfl) ?_
            rw [hQ9]
            exact dg_vret hx hb hr hlocks hP hS ⟨I_63, M_63, ⟨y_9, y_10, y_11, y_65, (((m_63.1 0 3 _ sM_0 (by decide)).trans (m_14.1 0 3 _ sM_0 (by decide))).trans f_y_9), (((m_63.1 0 4 _ sM_0 (by decide)).trans (m_14.1 0 4 _ sM_0 (by decide))).trans f_y_10), (((m_63.1 0 5 _ sM_0 (by decide)).trans (m_14.1 0 5 _ sM_0 (by decide))).trans f_y_11), f_y_65, (by omega)⟩, trivial⟩ dX12_digging_115
      · have jc_16 := dk_nlec (k := 0) (by decide +kernel) c_16
        refine W.widen (k := 0) (n := 0) (Nat.le_of_ble_eq_true rfl) (Nat.le_of_ble_eq_true rfl) ?_
        rw [hQ9]
        exact dg_vret hx hb hr hlocks hP hS ⟨I_14, M_14, ⟨y_9, y_10, y_11, y_15, ((m_14.1 0 3 _ sM_0 (by decide)).trans f_y_9), ((m_14.1 0 4 _ sM_0 (by decide)).trans f_y_10), ((m_14.1 0 5 _ sM_0 (by decide)).trans f_y_11), f_y_15, (by omega)⟩, trivial⟩ dX12_digging_38
    · have jc_13 := dk_eqc (k := 0) (by decide +kernel) c_13
      clear w_7_1_5
      have w_7_1_6r := w_7_1_6 (by omega)
      clear w_7_1_6
      have w_7_1_6rb : 1 ≤ (y_12).toInt := by omega
      clear w_7_1_6r
      refine W.widen (k := 0) (n := 0) (Nat.le_of_ble_eq_true rfl) (Nat.le_of_ble_eq_true rfl) ?_
      rw [hQ9]
      exact dg_vret hx hb hr hlocks hP hS ⟨I_7, M_7, ⟨y_9, y_10, y_11, y_12, f_y_9, f_y_10, f_y_11, f_y_12, (by omega)⟩, trivial⟩ dX12_digging_26
  · have jc_4 := dk_eqc (k := 16) (by decide +kernel) c_4
    refine lv_iconst (v := 1) hx hb dX12_digging_15 (by decide +kernel) ?_
    refine lv_goto (tgt := 20) hx hb dX12_digging_16 (by decide) ?_
    have hz_66 : (1 : Int32).toInt = 1 := by decide +kernel
    refine dg_calli hS hA1 hA (va_runV (As := [.int 1]) (rest := []) F (c_m_isCounted l g D o S 1 (by decide +kernel) sg f_sg (by omega) sa f_sa (by omega) se f_se (by omega) sl f_sl (by omega) fk f_fk (by omega) (by omega) I s.heap.size) (cwV 1 hts (bw_V wB_1263 wB_1264 wB_1265 wB_881 wB_1262) rfl rfl rfl (by decide +kernel) ⟨Nat.le_of_ble_eq_true rfl, Nat.le_of_ble_eq_true rfl⟩) (dg_preV sM_0 rfl K ST hP hS hA1 hA) rfl rfl hl.1 rfl (lv_room (Nat.le_of_ble_eq_true rfl)) dX12_digging_20 ⟨Nat.le_of_ble_eq_true rfl, Nat.le_of_ble_eq_true rfl⟩) (fun x_67 S_68 hw_68 H locs hP hS => ?_)
    obtain ⟨I_68, m_68, w_68_0, w_68_1, -⟩ := hw_68
    have M_68 := dg_sm.tr M_0 m_68 (by decide) (by decide)
    have hz_69 : (1 : Int32).toInt = 1 := by decide +kernel
    have w_68_0 : 0 ≤ (x_67).toInt ∧ (x_67).toInt ≤ 1 := w_68_0
    obtain ⟨y_70, y_71, y_72, y_73, f_y_70, f_y_71, f_y_72, f_y_73, w_68_1⟩ := w_68_1
    have w_68_1 : ((y_71).toInt ≤ (y_72).toInt ∧ (y_72).toInt ≤ (sl).toInt ∧ ((y_70).toInt ≠ 0 → (y_71).toInt + 1 ≤ (y_72).toInt)) ∧ (sa).toInt ≤ (y_71).toInt ∧ ((fk).toInt ≠ 0 → (y_73).toInt ≠ 0) ∧ (((x_67).toInt = 1 → ((y_73).toInt = 0 ∧ (fk).toInt = 0 ∧ ((1 : Int32)).toInt = 0 ∧ ((sg).toInt ≠ 0 → (sa).toInt + 1 ≤ (y_71).toInt))) ∧ ((x_67).toInt = 0 → (y_73).toInt ≠ 0)) := w_68_1
    obtain ⟨⟨w_68_1_0, w_68_1_1, w_68_1_2⟩, w_68_1_3, w_68_1_4, ⟨w_68_1_5, w_68_1_6⟩⟩ := w_68_1
    have b_y_70 : 0 ≤ (y_70).toInt ∧ (y_70).toInt ≤ 3 := dg_I.intb (lo := 0) (hi := 3) I_68 sM_0 (by decide +kernel) f_y_70
    have b_y_71 : 0 ≤ (y_71).toInt ∧ (y_71).toInt ≤ 1600 := dg_I.intb (lo := 0) (hi := 1600) I_68 sM_0 (by decide +kernel) f_y_71
    have b_y_72 : 0 ≤ (y_72).toInt ∧ (y_72).toInt ≤ 1600 := dg_I.intb (lo := 0) (hi := 1600) I_68 sM_0 (by decide +kernel) f_y_72
    have b_y_73 : 0 ≤ (y_73).toInt ∧ (y_73).toInt ≤ 6 := dg_I.intb (lo := 0) (hi := 6) I_68 sM_0 (by decide +kernel) f_y_73
    refine lv_if_ne (tgt := 27) hx hb dX12_digging_23 (by decide) (fun c_74 => ?_) (fun c_74 => ?_)
    · have jc_74 := dk_neqc (k := 0) (by decide +kernel) c_74
      have jbc_74 : 1 ≤ (x_67).toInt := by omega
      clear jc_74
      have w_68_1_5r := w_68_1_5 (by omega)
      clear w_68_1_5
      clear w_68_1_6
      obtain ⟨w_68_1_5r_0, w_68_1_5r_1, w_68_1_5r_2, w_68_1_5r_3⟩ := w_68_1_5r
      clear w_68_1_4
      refine lv_aload_n hx hb dX12_digging_27 rfl (lv_at hl 0 rfl) ?_
      refine dg_callv hS hA1 hA (va_runV (As := []) (rest := []) F (c_m_lex l g D o S_68 y_73 f_y_73 (by omega) I_68 H.size) (cwV 0 hts (bw_V wB_1153 wB_1154 wB_1155 wB_881 wB_1152) rfl rfl rfl (by decide +kernel) ⟨Nat.le_of_ble_eq_true rfl, Nat.le_of_ble_eq_true rfl⟩) (dg_preV sM_0 rfl K ST hP hS hA1 hA) rfl rfl hl.1 rfl (lv_room (Nat.le_of_ble_eq_true rfl)) dX12_digging_28 ⟨Nat.le_of_ble_eq_true rfl, Nat.le_of_ble_eq_true rfl⟩) (fun S_75 hw_75 H locs hP hS => ?_)
      obtain ⟨I_75, m_75, w_75_0, -⟩ := hw_75
      have M_75 := dg_sm.tr M_68 m_75 (by decide) (by decide)
      obtain ⟨y_76, f_y_76, w_75_0⟩ := w_75_0
      have w_75_0 : (y_73).toInt ≠ 0 → (y_76).toInt = (y_73).toInt := w_75_0
      clear w_75_0
      have b_y_76 : 0 ≤ (y_76).toInt ∧ (y_76).toInt ≤ 6 := dg_I.intb (lo := 0) (hi := 6) I_75 sM_0 (by decide +kernel) f_y_76
      refine lv_aload_n hx hb dX12_digging_31 rfl (lv_at hl 0 rfl) ?_
      refine dg_get (C := RX12) (T := TX12) (N := 77) hx hb hts (fun w h => bw_mem (wU_X12 w h)) hown K hP sM_0 rfl 8 (by decide) (hts _ (bw_mem wB_1133)) (fun _ h9 => h9) (v := .int y_76) f_y_76 dX12_digging_32 ?_
      refine lv_if_le (tgt := 39) hx hb dX12_digging_35 (by decide) (fun c_77 => ?_) (fun c_77 => ?_)
      · have jc_77 := dk_lec (k := 0) (by decide +kernel) c_77
        refine lv_aload_n hx hb dX12_digging_39 rfl (lv_at hl 0 rfl) ?_
        refine dg_get (C := RX12) (T := TX12) (N := 77) hx hb hts (fun w h => bw_mem (wU_X12 w h)) hown K hP sM_0 rfl 3 (by decide) (hts _ (bw_mem wB_1140)) (fun _ h9 => h9) (v := .int y_70) ((m_75.1 0 3 _ sM_0 (by decide)).trans f_y_70) dX12_digging_40 ?_
        refine lv_iconst (v := 1) hx hb dX12_digging_43 (by decide +kernel) ?_
        refine lv_icmp_ne (tgt := 58) hx hb dX12_digging_44 (by decide) (fun c_78 => ?_) (fun c_78 => ?_)
        · have jc_78 := dk_neqc (k := 1) (by decide +kernel) c_78
          clear jc_78
          refine lv_aload_n hx hb dX12_digging_58 rfl (lv_at hl 0 rfl) ?_
          refine lv_iconst (v := 1) hx hb dX12_digging_59 (by decide +kernel) ?_
          refine lv_aload_n hx hb dX12_digging_60 rfl (lv_at hl 0 rfl) ?_
          refine dg_get (C := RX12) (T := TX12) (N := 77) hx hb hts (fun w h => bw_mem (wU_X12 w h)) hown K hP sM_0 rfl 4 (by decide) (hts _ (bw_mem wB_1145)) (fun _ h9 => h9) (v := .int y_71) ((m_75.1 0 4 _ sM_0 (by decide)).trans f_y_71) dX12_digging_61 ?_
          have hz_79 : (1 : Int32).toInt = 1 := by decide +kernel
          refine dg_callv hS hA1 hA (va_runV (As := [.int 1, .int y_71]) (rest := []) F (c_m_blame l g D o S_75 1 (by decide +kernel) y_71 y_76 f_y_76 (by omega) I_75 H.size) (cwV 2 hts (bw_V wB_1137 wB_1138 wB_1139 wB_881 wB_1136) rfl rfl rfl (by decide +kernel) ⟨Nat.le_of_ble_eq_true rfl, Nat.le_of_ble_eq_true rfl⟩) (dg_preV sM_0 rfl K ST hP hS hA1 hA) rfl rfl hl.1 rfl (lv_room (Nat.le_of_ble_eq_true rfl)) dX12_digging_64 ⟨Nat.le_of_ble_eq_true rfl, Nat.le_of_ble_eq_true rfl⟩) (fun S_80 hw_80 H locs hP hS => ?_)
          obtain ⟨I_80, m_80, w_80_0, -⟩ := hw_80
          have M_80 := dg_sm.tr M_75 m_80 (by decide) (by decide)
          have hz_81 : (1 : Int32).toInt = 1 := by decide +kernel
          obtain ⟨y_82, f_y_82, w_80_0⟩ := w_80_0
          have w_80_0 : ((y_76).toInt ≠ 0 → (y_82).toInt = (y_76).toInt) ∧ ((y_76).toInt = 0 → (y_82).toInt = ((1 : Int32)).toInt) := w_80_0
          obtain ⟨w_80_0_0, w_80_0_1⟩ := w_80_0
          clear w_80_0_0
          have w_80_0_1r := w_80_0_1 (by omega)
          clear w_80_0_1
          have b_y_82 : 0 ≤ (y_82).toInt ∧ (y_82).toInt ≤ 6 := dg_I.intb (lo := 0) (hi := 6) I_80 sM_0 (by decide +kernel) f_y_82
          have hbl_y_82 : 1 ≤ (y_82).toInt := by omega
          refine lv_aload_n hx hb dX12_digging_67 rfl (lv_at hl 0 rfl) ?_
          refine dg_get (C := RX12) (T := TX12) (N := 77) hx hb hts (fun w h => bw_mem (wU_X12 w h)) hown K hP sM_0 rfl 8 (by decide) (hts _ (bw_mem wB_1133)) (fun _ h9 => h9) (v := .int y_82) f_y_82 dX12_digging_68 ?_
          refine lv_if_le (tgt := 78) hx hb dX12_digging_71 (by decide) (fun c => absurd c (fun z => absurd (dk_lec (k := 0) (by decide +kernel) z) (by omega))) (fun _ => ?_)
          refine lv_iconst (v := 0) hx hb dX12_digging_74 (by decide +kernel) ?_
          refine lv_goto (tgt := 86) hx hb dX12_digging_75 (by decide) ?_
          refine lv_istore_n (lv' := [(1, .int 0), (0, .ref (o + 0))]) hx hb dX12_digging_86 rfl hl (by decide) rfl (fun ls hl => ?_)
          refine lv_aload_n hx hb dX12_digging_87 rfl (lv_at hl 1 rfl) ?_
          refine dg_get (C := RX12) (T := TX12) (N := 77) hx hb hts (fun w h => bw_mem (wU_X12 w h)) hown K hP sM_0 rfl 8 (by decide) (hts _ (bw_mem wB_1133)) (fun _ h9 => h9) (v := .int y_82) f_y_82 dX12_digging_88 ?_
          refine lv_if_ne (tgt := 108) hx hb dX12_digging_91 (by decide) (fun _ => ?_) (fun c => absurd c (fun z => absurd (dk_eqc (k := 0) (by decide +kernel) z) (by omega)))
          refine lv_aload_n hx hb dX12_digging_108 rfl (lv_at hl 1 rfl) ?_
          refine dg_get (C := RX12) (T := TX12) (N := 77) hx hb hts (fun w h => bw_mem (wU_X12 w h)) hown K hP sM_0 rfl 8 (by decide) (hts _ (bw_mem wB_1133)) (fun _ h9 => h9) (v := .int y_82) f_y_82 dX12_digging_109 ?_
          refine lv_if_le (tgt := 116) hx hb dX12_digging_112 (by decide) (fun c => absurd c (fun z => absurd (dk_lec (k := 0) (by decide +kernel) z) (by omega))) (fun _ => ?_)
          refine W.widen (k := 0) (n := 0) (Nat.le_of_ble_eq_true rfl) (Nat.le_of_ble_eq_true rfl) ?_
          rw [hQ9]
          exact dg_vret hx hb hr hlocks hP hS ⟨I_80, M_80, ⟨y_70, y_71, y_72, y_82, (((m_80.1 0 3 _ sM_0 (by decide)).trans (m_75.1 0 3 _ sM_0 (by decide))).trans f_y_70), (((m_80.1 0 4 _ sM_0 (by decide)).trans (m_75.1 0 4 _ sM_0 (by decide))).trans f_y_71), (((m_80.1 0 5 _ sM_0 (by decide)).trans (m_75.1 0 5 _ sM_0 (by decide))).trans f_y_72), f_y_82, (by omega)⟩, trivial⟩ dX12_digging_115
        · have jc_78 := dk_eqc (k := 1) (by decide +kernel) c_78
          have w_68_1_2r := w_68_1_2 (by omega)
          clear w_68_1_2
          refine lv_aload_n hx hb dX12_digging_47 rfl (lv_at hl 0 rfl) ?_
          refine lv_aload_n hx hb dX12_digging_48 rfl (lv_at hl 0 rfl) ?_
          obtain ⟨x_83, f_x_83⟩ := dg_I.long (i := 0) (k := 7) I_75 sM_0 (by decide +kernel)
          refine dg_get (C := RX12) (T := TX12) (N := 77) hx hb hts (fun w h => bw_mem (wU_X12 w h)) hown K hP sM_0 rfl 7 (by decide) (hts _ (bw_mem wB_1142)) (fun _ h9 => h9) (v := .long x_83) f_x_83 dX12_digging_49 ?_
          refine dg_calli hS hA1 hA (va_runV (As := [.long x_83]) (rest := []) F (c_m_isOwn l g D o S_75 x_83 I_75 H.size) (cwV 1 hts (bw_V wB_1247 wB_1248 wB_1249 wB_881 wB_1246) rfl rfl rfl (by decide +kernel) ⟨Nat.le_of_ble_eq_true rfl, Nat.le_of_ble_eq_true rfl⟩) (dg_preV sM_0 rfl K ST hP hS hA1 hA) rfl rfl hl.1 rfl (lv_room (Nat.le_of_ble_eq_true rfl)) dX12_digging_52 ⟨Nat.le_of_ble_eq_true rfl, Nat.le_of_ble_eq_true rfl⟩) (fun x_84 S_85 hw_85 H locs hP hS => ?_)
          rw [hw_85.1] at hP
          obtain ⟨hq_85, w_85_0, -⟩ := hw_85
          have w_85_0 : 0 ≤ (x_84).toInt ∧ (x_84).toInt ≤ 1 := w_85_0
          refine lv_if_eq (tgt := 67) hx hb dX12_digging_55 (by decide) (fun c_86 => ?_) (fun c_86 => ?_)
          · have jc_86 := dk_eqc (k := 0) (by decide +kernel) c_86
            refine lv_aload_n hx hb dX12_digging_67 rfl (lv_at hl 0 rfl) ?_
            refine dg_get (C := RX12) (T := TX12) (N := 77) hx hb hts (fun w h => bw_mem (wU_X12 w h)) hown K hP sM_0 rfl 8 (by decide) (hts _ (bw_mem wB_1133)) (fun _ h9 => h9) (v := .int y_76) f_y_76 dX12_digging_68 ?_
            refine lv_if_le (tgt := 78) hx hb dX12_digging_71 (by decide) (fun _ => ?_) (fun c => absurd (dk_lep (k := 0) (by decide +kernel) (by omega)) c)
            refine lv_aload_n hx hb dX12_digging_78 rfl (lv_at hl 0 rfl) ?_
            refine lv_aload_n hx hb dX12_digging_79 rfl (lv_at hl 0 rfl) ?_
            refine dg_get (C := RX12) (T := TX12) (N := 77) hx hb hts (fun w h => bw_mem (wU_X12 w h)) hown K hP sM_0 rfl 7 (by decide) (hts _ (bw_mem wB_1142)) (fun _ h9 => h9) (v := .long x_83) f_x_83 dX12_digging_80 ?_
            refine dg_calli hS hA1 hA (va_runV (As := [.long x_83]) (rest := []) F (c_m_minerNamed l g D o S_75 x_83 I_75 H.size) (cwV 1 hts (bw_V wB_1197 wB_1198 wB_1199 wB_881 wB_1196) rfl rfl rfl (by decide +kernel) ⟨Nat.le_of_ble_eq_true rfl, Nat.le_of_ble_eq_true rfl⟩) (dg_preV sM_0 rfl K ST hP hS hA1 hA) rfl rfl hl.1 rfl (lv_room (Nat.le_of_ble_eq_true rfl)) dX12_digging_83 ⟨Nat.le_of_ble_eq_true rfl, Nat.le_of_ble_eq_true rfl⟩) (fun x_87 S_88 hw_88 H locs hP hS => ?_)
            rw [hw_88.1] at hP
            obtain ⟨hq_88, w_88_0, -⟩ := hw_88
            have w_88_0 : (-1) ≤ (x_87).toInt ∧ (x_87).toInt ≤ 5 := w_88_0
            refine lv_istore_n (lv' := [(1, .int x_87), (0, .ref (o + 0))]) hx hb dX12_digging_86 rfl hl (by decide) rfl (fun ls hl => ?_)
            refine lv_aload_n hx hb dX12_digging_87 rfl (lv_at hl 1 rfl) ?_
            refine dg_get (C := RX12) (T := TX12) (N := 77) hx hb hts (fun w h => bw_mem (wU_X12 w h)) hown K hP sM_0 rfl 8 (by decide) (hts _ (bw_mem wB_1133)) (fun _ h9 => h9) (v := .int y_76) f_y_76 dX12_digging_88 ?_
            refine lv_if_ne (tgt := 108) hx hb dX12_digging_91 (by decide) (fun c => absurd (dk_eqp (k := 0) (by decide +kernel) (by omega)) c) (fun _ => ?_)
            refine lv_iload_n hx hb dX12_digging_94 rfl (lv_at hl 0 rfl) ?_
            refine lv_iconst (v := (-1)) hx hb dX12_digging_95 (by decide +kernel) ?_
            refine lv_icmp_ne (tgt := 108) hx hb dX12_digging_96 (by decide) (fun c_89 => ?_) (fun c_89 => ?_)
            · have jc_89 := dk_neqc (k := (-1)) (by decide +kernel) c_89
              have jbc_89 : 0 ≤ (x_87).toInt := by omega
              clear jc_89
              refine lv_aload_n hx hb dX12_digging_108 rfl (lv_at hl 1 rfl) ?_
              refine dg_get (C := RX12) (T := TX12) (N := 77) hx hb hts (fun w h => bw_mem (wU_X12 w h)) hown K hP sM_0 rfl 8 (by decide) (hts _ (bw_mem wB_1133)) (fun _ h9 => h9) (v := .int y_76) f_y_76 dX12_digging_109 ?_
              refine lv_if_le (tgt := 116) hx hb dX12_digging_112 (by decide) (fun _ => ?_) (fun c => absurd (dk_lep (k := 0) (by decide +kernel) (by omega)) c)
              refine lv_aload_n hx hb dX12_digging_116 rfl (lv_at hl 1 rfl) ?_
              refine dg_callv hS hA1 hA (va_runV (As := []) (rest := []) F (c_m_ahead l g D o S_75 y_72 ((m_75.1 0 5 _ sM_0 (by decide)).trans f_y_72) (by omega) sl (((m_75.1 0 2 _ sM_0 (by decide)).trans (m_68.1 0 2 _ sM_0 (by decide))).trans f_sl) (by omega) (by omega) I_75 H.size) (cwV 0 hts (bw_V wB_1161 wB_1162 wB_1163 wB_881 wB_1160) rfl rfl rfl (by decide +kernel) ⟨Nat.le_of_ble_eq_true rfl, Nat.le_of_ble_eq_true rfl⟩) (dg_preV sM_0 rfl K ST hP hS hA1 hA) rfl rfl hl.1 rfl (lv_room (Nat.le_of_ble_eq_true rfl)) dX12_digging_117 ⟨Nat.le_of_ble_eq_true rfl, Nat.le_of_ble_eq_true rfl⟩) (fun S_90 hw_90 H locs hP hS => ?_)
              obtain ⟨I_90, m_90, w_90_0, -⟩ := hw_90
              have M_90 := dg_sm.tr M_75 m_90 (by decide) (by decide)
              obtain ⟨y_91, y_92, y_93, f_y_91, f_y_92, f_y_93, w_90_0⟩ := w_90_0
              have w_90_0 : (y_72).toInt ≤ (y_92).toInt ∧ (y_92).toInt ≤ (y_93).toInt ∧ (y_93).toInt ≤ (sl).toInt ∧ ((y_91).toInt ≠ 0 → (y_92).toInt + 1 ≤ (y_93).toInt) := w_90_0
              obtain ⟨w_90_0_0, w_90_0_1, w_90_0_2, w_90_0_3⟩ := w_90_0
              have b_y_91 : 0 ≤ (y_91).toInt ∧ (y_91).toInt ≤ 3 := dg_I.intb (lo := 0) (hi := 3) I_90 sM_0 (by decide +kernel) f_y_91
              have b_y_92 : 0 ≤ (y_92).toInt ∧ (y_92).toInt ≤ 1600 := dg_I.intb (lo := 0) (hi := 1600) I_90 sM_0 (by decide +kernel) f_y_92
              have b_y_93 : 0 ≤ (y_93).toInt ∧ (y_93).toInt ≤ 1600 := dg_I.intb (lo := 0) (hi := 1600) I_90 sM_0 (by decide +kernel) f_y_93
              refine lv_aload_n hx hb dX12_digging_120 rfl (lv_at hl 1 rfl) ?_
              refine lv_ldc2 hx hb hown (hts _ (bw_mem wB_1176)) dX12_digging_121 ?_
              refine dg_callv hS hA1 hA (va_runV (As := [.long 24948]) (rest := []) F (c_m_must_ l g D o S_90 24948 y_91 f_y_91 (by omega) y_92 f_y_92 (by omega) y_93 f_y_93 (by omega) sl (((m_90.1 0 2 _ sM_0 (by decide)).trans ((m_75.1 0 2 _ sM_0 (by decide)).trans (m_68.1 0 2 _ sM_0 (by decide)))).trans f_sl) (by omega) y_76 ((m_90.1 0 8 _ sM_0 (by decide)).trans f_y_76) (by omega) (by omega) I_90 H.size) (cwV 1 hts (bw_V wB_1259 wB_1260 wB_1261 wB_881 wB_1258) rfl rfl rfl (by decide +kernel) ⟨Nat.le_of_ble_eq_true rfl, Nat.le_of_ble_eq_true rfl⟩) (dg_preV sM_0 rfl K ST hP hS hA1 hA) rfl rfl hl.1 rfl (lv_room (Nat.le_of_ble_eq_true rfl)) dX12_digging_124 ⟨Nat.le_of_ble_eq_true rfl, Nat.le_of_ble_eq_true rfl⟩) (fun S_94 hw_94 H locs hP hS => ?_)
              obtain ⟨I_94, m_94, w_94_0, -⟩ := hw_94
              have M_94 := dg_sm.tr M_90 m_94 (by decide) (by decide)
              obtain ⟨y_95, y_96, y_97, y_98, f_y_95, f_y_96, f_y_97, f_y_98, w_94_0⟩ := w_94_0
              have w_94_0 : ((y_96).toInt ≤ (y_97).toInt ∧ (y_97).toInt ≤ (sl).toInt ∧ ((y_95).toInt ≠ 0 → (y_96).toInt + 1 ≤ (y_97).toInt)) ∧ (y_92).toInt ≤ (y_96).toInt ∧ ((y_76).toInt ≠ 0 → (y_98).toInt ≠ 0) ∧ ((y_98).toInt = 0 → (y_92).toInt + 1 ≤ (y_96).toInt) := w_94_0
              obtain ⟨⟨w_94_0_0, w_94_0_1, w_94_0_2⟩, w_94_0_3, w_94_0_4, w_94_0_5⟩ := w_94_0
              clear w_94_0_4
              have b_y_95 : 0 ≤ (y_95).toInt ∧ (y_95).toInt ≤ 3 := dg_I.intb (lo := 0) (hi := 3) I_94 sM_0 (by decide +kernel) f_y_95
              have b_y_96 : 0 ≤ (y_96).toInt ∧ (y_96).toInt ≤ 1600 := dg_I.intb (lo := 0) (hi := 1600) I_94 sM_0 (by decide +kernel) f_y_96
              have b_y_97 : 0 ≤ (y_97).toInt ∧ (y_97).toInt ≤ 1600 := dg_I.intb (lo := 0) (hi := 1600) I_94 sM_0 (by decide +kernel) f_y_97
              have b_y_98 : 0 ≤ (y_98).toInt ∧ (y_98).toInt ≤ 6 := dg_I.intb (lo := 0) (hi := 6) I_94 sM_0 (by decide +kernel) f_y_98
              refine lv_bipush (v := 16) hx hb dX12_digging_127 (by decide +kernel) ?_
              refine lv_aload_n hx hb dX12_digging_129 rfl (lv_at hl 1 rfl) ?_
              refine dg_get (C := RX12) (T := TX12) (N := 77) hx hb hts (fun w h => bw_mem (wU_X12 w h)) hown K hP sM_0 rfl 35 (by decide) (hts _ (bw_mem wB_1195)) (fun _ h9 => h9) (v := .int x_1) (((m_94.1 0 35 _ sM_0 (by decide)).trans ((m_90.1 0 35 _ sM_0 (by decide)).trans ((m_75.1 0 35 _ sM_0 (by decide)).trans (m_68.1 0 35 _ sM_0 (by decide))))).trans f_x_1) dX12_digging_130 ?_
              refine lv_imul hx hb dX12_digging_133 ?_
              refine lv_topi (fun x_99 ex_99 => ?_)
              have jx_99 : (x_99).toInt = 16 * (x_1).toInt := by rw [ex_99]; exact dk_mulT (by decide +kernel) rfl (by omega) (by omega)
              refine lv_aload_n hx hb dX12_digging_134 rfl (lv_at hl 1 rfl) ?_
              refine dg_get (C := RX12) (T := TX12) (N := 77) hx hb hts (fun w h => bw_mem (wU_X12 w h)) hown K hP sM_0 rfl 21 (by decide) (hts _ (bw_mem wB_976)) (fun _ h9 => h9) (v := .ref (o + 9)) (show S_94.1 0 21 = .ref (o + 9) from dg_I.rel (d := 9) I_94 sM_0 (by decide +kernel)) dX12_digging_135 ?_
              refine lv_aload_n hx hb dX12_digging_138 rfl (lv_at hl 1 rfl) ?_
              refine dg_get (C := RX12) (T := TX12) (N := 77) hx hb hts (fun w h => bw_mem (wU_X12 w h)) hown K hP sM_0 rfl 35 (by decide) (hts _ (bw_mem wB_1195)) (fun _ h9 => h9) (v := .int x_1) (((m_94.1 0 35 _ sM_0 (by decide)).trans ((m_90.1 0 35 _ sM_0 (by decide)).trans ((m_75.1 0 35 _ sM_0 (by decide)).trans (m_68.1 0 35 _ sM_0 (by decide))))).trans f_x_1) dX12_digging_139 ?_
              have hin_100 : vp_in x_1 2 := (dk_inv (by omega) (by omega))
              refine dg_iald hx hb K hP sM_9 hin_100 dX12_digging_142 (fun y_101 ey_101 => ?_)
              obtain rfl : x_3 = y_101 := ((ey_101.trans (congrFun ((m_94.2 9 _ sM_9 (by decide)).1.trans ((m_90.2 9 _ sM_9 (by decide)).1.trans ((m_75.2 9 _ sM_9 (by decide)).1.trans (m_68.2 9 _ sM_9 (by decide)).1))) _)).trans ex_3.symm).symm
              refine lv_iadd hx hb dX12_digging_143 ?_
              refine lv_topi (fun x_102 ex_102 => ?_)
              have jx_102 : (x_102).toInt = (x_99).toInt + (x_3).toInt := by rw [ex_102]; exact dk_addT rfl rfl (by omega) (by omega)
              refine lv_istore_n (lv' := [(2, .int x_102), (1, .int x_87), (0, .ref (o + 0))]) hx hb dX12_digging_144 rfl hl (by decide) rfl (fun ls hl => ?_)
              refine lv_aload_n hx hb dX12_digging_145 rfl (lv_at hl 2 rfl) ?_
              refine dg_get (C := RX12) (T := TX12) (N := 77) hx hb hts (fun w h => bw_mem (wU_X12 w h)) hown K hP sM_0 rfl 22 (by decide) (hts _ (bw_mem wB_1010)) (fun _ h9 => h9) (v := .ref (o + 10)) (show S_94.1 0 22 = .ref (o + 10) from dg_I.rel (d := 10) I_94 sM_0 (by decide +kernel)) dX12_digging_146 ?_
              refine lv_iload_n hx hb dX12_digging_149 rfl (lv_at hl 0 rfl) ?_
              refine lv_iload_n hx hb dX12_digging_150 rfl (lv_at hl 1 rfl) ?_
              have hin_103 : vp_in x_102 32 := (dk_inv (by omega) (by omega))
              refine dg_iast hx hb K hP hS hA1 sM_10 hin_103 dX12_digging_151 (fun S_104 e_104 H locs hP hS => ?_)
              have I_104 := dg_I.uf0 I_94 e_104 sM_10 (by decide +kernel)
              have M_104 := dg_sm.uf M_94 e_104 sM_10 (by decide)
              refine lv_aload_n hx hb dX12_digging_152 rfl (lv_at hl 2 rfl) ?_
              refine dg_get (C := RX12) (T := TX12) (N := 77) hx hb hts (fun w h => bw_mem (wU_X12 w h)) hown K hP sM_0 rfl 23 (by decide) (hts _ (bw_mem wB_1011)) (fun _ h9 => h9) (v := .ref (o + 11)) (show S_104.1 0 23 = .ref (o + 11) from dg_I.rel (d := 11) I_104 sM_0 (by decide +kernel)) dX12_digging_153 ?_
              refine lv_iload_n hx hb dX12_digging_156 rfl (lv_at hl 0 rfl) ?_
              refine lv_aload_n hx hb dX12_digging_157 rfl (lv_at hl 2 rfl) ?_
              refine dg_calli hS hA1 hA (va_runV (As := []) (rest := [.int x_102, .ref (o + 11)]) F (c_m_cellTold l g D o S_104 y_95 ((dg_uf_F e_104 0 3).trans f_y_95) (by omega) y_96 ((dg_uf_F e_104 0 4).trans f_y_96) (by omega) y_97 ((dg_uf_F e_104 0 5).trans f_y_97) (by omega) sl (((dg_uf_F e_104 0 2).trans ((m_94.1 0 2 _ sM_0 (by decide)).trans ((m_90.1 0 2 _ sM_0 (by decide)).trans ((m_75.1 0 2 _ sM_0 (by decide)).trans (m_68.1 0 2 _ sM_0 (by decide)))))).trans f_sl) (by omega) y_98 ((dg_uf_F e_104 0 8).trans f_y_98) (by omega) (by omega) (ZCM.keep (ZCM.keep (ZCM.keep (ZCM.keep (ZCM.keep ZC m_68 (by decide) (by decide) (by decide) (by decide)) m_75 (by decide) (by decide) (by decide) (by decide)) m_90 (by decide) (by decide) (by decide) (by decide)) m_94 (by decide) (by decide) (by decide) (by decide)) (dg_sm.uf (WF := []) (WA := [10]) dg_sm.rf e_104 sM_10 (by decide)) (by decide) (by decide) (by decide) (by decide)) I_104 H.size) (cwV 0 hts (bw_V wB_1267 wB_1268 wB_1269 wB_881 wB_1266) rfl rfl rfl (by decide +kernel) ⟨Nat.le_of_ble_eq_true rfl, Nat.le_of_ble_eq_true rfl⟩) (dg_preV sM_0 rfl K ST hP hS hA1 hA) rfl rfl hl.1 rfl (lv_room (Nat.le_of_ble_eq_true rfl)) dX12_digging_158 ⟨Nat.le_of_ble_eq_true rfl, Nat.le_of_ble_eq_true rfl⟩) (fun x_105 S_106 hw_106 H locs hP hS => ?_)
              obtain ⟨I_106, m_106, w_106_0, w_106_1, -⟩ := hw_106
              have M_106 := dg_sm.tr M_104 m_106 (by decide) (by decide)
              have w_106_0 : 0 ≤ (x_105).toInt ∧ (x_105).toInt ≤ 54 := w_106_0
              obtain ⟨y_107, y_108, y_109, y_110, f_y_107, f_y_108, f_y_109, f_y_110, w_106_1⟩ := w_106_1
              have w_106_1 : ((y_108).toInt ≤ (y_109).toInt ∧ (y_109).toInt ≤ (sl).toInt ∧ ((y_107).toInt ≠ 0 → (y_108).toInt + 1 ≤ (y_109).toInt)) ∧ (y_96).toInt ≤ (y_108).toInt ∧ ((y_98).toInt ≠ 0 → (y_110).toInt ≠ 0) ∧ ((y_96).toInt ≤ (y_96).toInt) := w_106_1
              obtain ⟨⟨w_106_1_0, w_106_1_1, w_106_1_2⟩, w_106_1_3, w_106_1_4, w_106_1_5⟩ := w_106_1
              have b_y_107 : 0 ≤ (y_107).toInt ∧ (y_107).toInt ≤ 3 := dg_I.intb (lo := 0) (hi := 3) I_106 sM_0 (by decide +kernel) f_y_107
              have b_y_108 : 0 ≤ (y_108).toInt ∧ (y_108).toInt ≤ 1600 := dg_I.intb (lo := 0) (hi := 1600) I_106 sM_0 (by decide +kernel) f_y_108
              have b_y_109 : 0 ≤ (y_109).toInt ∧ (y_109).toInt ≤ 1600 := dg_I.intb (lo := 0) (hi := 1600) I_106 sM_0 (by decide +kernel) f_y_109
              have b_y_110 : 0 ≤ (y_110).toInt ∧ (y_110).toInt ≤ 6 := dg_I.intb (lo := 0) (hi := 6) I_106 sM_0 (by decide +kernel) f_y_110
              have hin_111 : vp_in x_102 32 := (dk_inv (by omega) (by omega))
              refine dg_iast hx hb K hP hS hA1 sM_11 hin_111 dX12_digging_161 (fun S_112 e_112 H locs hP hS => ?_)
              have I_112 := dg_I.ufu (lo := 0) (hi := 63) I_106 e_112 sM_11 (by decide +kernel) (show 0 ≤ (x_105).toInt ∧ (x_105).toInt ≤ 63 from (by omega))
              have M_112 := dg_sm.uf M_106 e_112 sM_11 (by decide)
              refine lv_aload_n hx hb dX12_digging_162 rfl (lv_at hl 2 rfl) ?_
              refine dg_get (C := RX12) (T := TX12) (N := 77) hx hb hts (fun w h => bw_mem (wU_X12 w h)) hown K hP sM_0 rfl 8 (by decide) (hts _ (bw_mem wB_1133)) (fun _ h9 => h9) (v := .int y_110) ((dg_uf_F e_112 0 8).trans f_y_110) dX12_digging_163 ?_
              refine lv_if_ne (tgt := 182) hx hb dX12_digging_166 (by decide) (fun c_113 => ?_) (fun c_113 => ?_)
              · have jc_113 := dk_neqc (k := 0) (by decide +kernel) c_113
                have jbc_113 : 1 ≤ (y_110).toInt := by omega
                clear jc_113
                refine W.widen (k := 0) (n := 0) (Nat.le_of_ble_eq_true rfl) (Nat.le_of_ble_eq_true rfl) ?_
                rw [hQ9]
                exact dg_vret hx hb hr hlocks hP hS ⟨I_112, M_112, ⟨y_107, y_108, y_109, y_110, ((dg_uf_F e_112 0 3).trans f_y_107), ((dg_uf_F e_112 0 4).trans f_y_108), ((dg_uf_F e_112 0 5).trans f_y_109), ((dg_uf_F e_112 0 8).trans f_y_110), (by omega)⟩, trivial⟩ dX12_digging_182
              · have jc_113 := dk_eqc (k := 0) (by decide +kernel) c_113
                have w_106_1_4c : (y_98).toInt = 0 := by omega
                clear w_106_1_4
                have w_94_0_5r := w_94_0_5 (by omega)
                clear w_94_0_5
                refine lv_aload_n hx hb dX12_digging_169 rfl (lv_at hl 2 rfl) ?_
                refine dg_get (C := RX12) (T := TX12) (N := 77) hx hb hts (fun w h => bw_mem (wU_X12 w h)) hown K hP sM_0 rfl 21 (by decide) (hts _ (bw_mem wB_976)) (fun _ h9 => h9) (v := .ref (o + 9)) (show S_112.1 0 21 = .ref (o + 9) from dg_I.rel (d := 9) I_112 sM_0 (by decide +kernel)) dX12_digging_170 ?_
                refine lv_aload_n hx hb dX12_digging_173 rfl (lv_at hl 2 rfl) ?_
                refine dg_get (C := RX12) (T := TX12) (N := 77) hx hb hts (fun w h => bw_mem (wU_X12 w h)) hown K hP sM_0 rfl 35 (by decide) (hts _ (bw_mem wB_1195)) (fun _ h9 => h9) (v := .int x_1) (((dg_uf_F e_112 0 35).trans ((m_106.1 0 35 _ sM_0 (by decide)).trans ((dg_uf_F e_104 0 35).trans ((m_94.1 0 35 _ sM_0 (by decide)).trans ((m_90.1 0 35 _ sM_0 (by decide)).trans ((m_75.1 0 35 _ sM_0 (by decide)).trans (m_68.1 0 35 _ sM_0 (by decide)))))))).trans f_x_1) dX12_digging_174 ?_
                refine lv_dup2_11 hx hb dX12_digging_177 rfl rfl ?_
                have hin_114 : vp_in x_1 2 := (dk_inv (by omega) (by omega))
                refine dg_iald hx hb K hP sM_9 hin_114 dX12_digging_178 (fun y_115 ey_115 => ?_)
                obtain rfl : x_3 = y_115 := ((ey_115.trans (congrFun ((dg_uf_ne e_112 (by decide)).trans ((m_106.2 9 _ sM_9 (by decide)).1.trans ((dg_uf_ne e_104 (by decide)).trans ((m_94.2 9 _ sM_9 (by decide)).1.trans ((m_90.2 9 _ sM_9 (by decide)).1.trans ((m_75.2 9 _ sM_9 (by decide)).1.trans (m_68.2 9 _ sM_9 (by decide)).1)))))) _)).trans ex_3.symm).symm
                refine lv_iconst (v := 1) hx hb dX12_digging_179 (by decide +kernel) ?_
                refine lv_iadd hx hb dX12_digging_180 ?_
                refine lv_topi (fun x_116 ex_116 => ?_)
                have jx_116 : (x_116).toInt = (x_3).toInt + 1 := by rw [ex_116]; exact dk_addT rfl (by decide +kernel) (by omega) (by omega)
                have hin_117 : vp_in x_1 2 := (dk_inv (by omega) (by omega))
                refine dg_iast hx hb K hP hS hA1 sM_9 hin_117 dX12_digging_181 (fun S_118 e_118 H locs hP hS => ?_)
                have I_118 := dg_I.ufu (lo := 0) (hi := 16) I_112 e_118 sM_9 (by decide +kernel) (show 0 ≤ (x_116).toInt ∧ (x_116).toInt ≤ 16 from (by omega))
                have M_118 := dg_sm.uf M_112 e_118 sM_9 (by decide)
                refine W.widen (k := 0) (n := 0) (Nat.le_of_ble_eq_true rfl) (Nat.le_of_ble_eq_true rfl) ?_
                rw [hQ9]
                exact dg_vret hx hb hr hlocks hP hS ⟨I_118, M_118, ⟨y_107, y_108, y_109, y_110, (((dg_uf_F e_118 0 3).trans (dg_uf_F e_112 0 3)).trans f_y_107), (((dg_uf_F e_118 0 4).trans (dg_uf_F e_112 0 4)).trans f_y_108), (((dg_uf_F e_118 0 5).trans (dg_uf_F e_112 0 5)).trans f_y_109), (((dg_uf_F e_118 0 8).trans (dg_uf_F e_112 0 8)).trans f_y_110), (by omega)⟩, trivial⟩ dX12_digging_182
            · have jc_89 := dk_eqc (k := (-1)) (by decide +kernel) c_89
              refine lv_aload_n hx hb dX12_digging_99 rfl (lv_at hl 1 rfl) ?_
              refine lv_iconst (v := 3) hx hb dX12_digging_100 (by decide +kernel) ?_
              refine lv_aload_n hx hb dX12_digging_101 rfl (lv_at hl 1 rfl) ?_
              refine dg_get (C := RX12) (T := TX12) (N := 77) hx hb hts (fun w h => bw_mem (wU_X12 w h)) hown K hP sM_0 rfl 4 (by decide) (hts _ (bw_mem wB_1145)) (fun _ h9 => h9) (v := .int y_71) ((m_75.1 0 4 _ sM_0 (by decide)).trans f_y_71) dX12_digging_102 ?_
              have hz_119 : (3 : Int32).toInt = 3 := by decide +kernel
              refine dg_callv hS hA1 hA (va_runV (As := [.int 3, .int y_71]) (rest := []) F (c_m_blame l g D o S_75 3 (by decide +kernel) y_71 y_76 f_y_76 (by omega) I_75 H.size) (cwV 2 hts (bw_V wB_1137 wB_1138 wB_1139 wB_881 wB_1136) rfl rfl rfl (by decide +kernel) ⟨Nat.le_of_ble_eq_true rfl, Nat.le_of_ble_eq_true rfl⟩) (dg_preV sM_0 rfl K ST hP hS hA1 hA) rfl rfl hl.1 rfl (lv_room (Nat.le_of_ble_eq_true rfl)) dX12_digging_105 ⟨Nat.le_of_ble_eq_true rfl, Nat.le_of_ble_eq_true rfl⟩) (fun S_120 hw_120 H locs hP hS => ?_)
              obtain ⟨I_120, m_120, w_120_0, -⟩ := hw_120
              have M_120 := dg_sm.tr M_75 m_120 (by decide) (by decide)
              have hz_121 : (3 : Int32).toInt = 3 := by decide +kernel
              obtain ⟨y_122, f_y_122, w_120_0⟩ := w_120_0
              have w_120_0 : ((y_76).toInt ≠ 0 → (y_122).toInt = (y_76).toInt) ∧ ((y_76).toInt = 0 → (y_122).toInt = ((3 : Int32)).toInt) := w_120_0
              obtain ⟨w_120_0_0, w_120_0_1⟩ := w_120_0
              clear w_120_0_0
              have w_120_0_1r := w_120_0_1 (by omega)
              clear w_120_0_1
              have b_y_122 : 0 ≤ (y_122).toInt ∧ (y_122).toInt ≤ 6 := dg_I.intb (lo := 0) (hi := 6) I_120 sM_0 (by decide +kernel) f_y_122
              have hbl_y_122 : 1 ≤ (y_122).toInt := by omega
              refine lv_aload_n hx hb dX12_digging_108 rfl (lv_at hl 1 rfl) ?_
              refine dg_get (C := RX12) (T := TX12) (N := 77) hx hb hts (fun w h => bw_mem (wU_X12 w h)) hown K hP sM_0 rfl 8 (by decide) (hts _ (bw_mem wB_1133)) (fun _ h9 => h9) (v := .int y_122) f_y_122 dX12_digging_109 ?_
              refine lv_if_le (tgt := 116) hx hb dX12_digging_112 (by decide) (fun c => absurd c (fun z => absurd (dk_lec (k := 0) (by decide +kernel) z) (by omega))) (fun _ => ?_)
              refine W.widen (k := 0) (n := 0) (Nat.le_of_ble_eq_true rfl) (Nat.le_of_ble_eq_true rfl) ?_
              rw [hQ9]
              exact dg_vret hx hb hr hlocks hP hS ⟨I_120, M_120, ⟨y_70, y_71, y_72, y_122, (((m_120.1 0 3 _ sM_0 (by decide)).trans (m_75.1 0 3 _ sM_0 (by decide))).trans f_y_70), (((m_120.1 0 4 _ sM_0 (by decide)).trans (m_75.1 0 4 _ sM_0 (by decide))).trans f_y_71), (((m_120.1 0 5 _ sM_0 (by decide)).trans (m_75.1 0 5 _ sM_0 (by decide))).trans f_y_72), f_y_122, (by omega)⟩, trivial⟩ dX12_digging_115
          · have jc_86 := dk_neqc (k := 0) (by decide +kernel) c_86
            have jbc_86 : 1 ≤ (x_84).toInt := by omega
            clear jc_86
            refine lv_aload_n hx hb dX12_digging_58 rfl (lv_at hl 0 rfl) ?_
            refine lv_iconst (v := 1) hx hb dX12_digging_59 (by decide +kernel) ?_
            refine lv_aload_n hx hb dX12_digging_60 rfl (lv_at hl 0 rfl) ?_
            refine dg_get (C := RX12) (T := TX12) (N := 77) hx hb hts (fun w h => bw_mem (wU_X12 w h)) hown K hP sM_0 rfl 4 (by decide) (hts _ (bw_mem wB_1145)) (fun _ h9 => h9) (v := .int y_71) ((m_75.1 0 4 _ sM_0 (by decide)).trans f_y_71) dX12_digging_61 ?_
            have hz_123 : (1 : Int32).toInt = 1 := by decide +kernel
            refine dg_callv hS hA1 hA (va_runV (As := [.int 1, .int y_71]) (rest := []) F (c_m_blame l g D o S_75 1 (by decide +kernel) y_71 y_76 f_y_76 (by omega) I_75 H.size) (cwV 2 hts (bw_V wB_1137 wB_1138 wB_1139 wB_881 wB_1136) rfl rfl rfl (by decide +kernel) ⟨Nat.le_of_ble_eq_true rfl, Nat.le_of_ble_eq_true rfl⟩) (dg_preV sM_0 rfl K ST hP hS hA1 hA) rfl rfl hl.1 rfl (lv_room (Nat.le_of_ble_eq_true rfl)) dX12_digging_64 ⟨Nat.le_of_ble_eq_true rfl, Nat.le_of_ble_eq_true rfl⟩) (fun S_124 hw_124 H locs hP hS => ?_)
            obtain ⟨I_124, m_124, w_124_0, -⟩ := hw_124
            have M_124 := dg_sm.tr M_75 m_124 (by decide) (by decide)
            have hz_125 : (1 : Int32).toInt = 1 := by decide +kernel
            obtain ⟨y_126, f_y_126, w_124_0⟩ := w_124_0
            have w_124_0 : ((y_76).toInt ≠ 0 → (y_126).toInt = (y_76).toInt) ∧ ((y_76).toInt = 0 → (y_126).toInt = ((1 : Int32)).toInt) := w_124_0
            obtain ⟨w_124_0_0, w_124_0_1⟩ := w_124_0
            clear w_124_0_0
            have w_124_0_1r := w_124_0_1 (by omega)
            clear w_124_0_1
            have b_y_126 : 0 ≤ (y_126).toInt ∧ (y_126).toInt ≤ 6 := dg_I.intb (lo := 0) (hi := 6) I_124 sM_0 (by decide +kernel) f_y_126
            have hbl_y_126 : 1 ≤ (y_126).toInt := by omega
            refine lv_aload_n hx hb dX12_digging_67 rfl (lv_at hl 0 rfl) ?_
            refine dg_get (C := RX12) (T := TX12) (N := 77) hx hb hts (fun w h => bw_mem (wU_X12 w h)) hown K hP sM_0 rfl 8 (by decide) (hts _ (bw_mem wB_1133)) (fun _ h9 => h9) (v := .int y_126) f_y_126 dX12_digging_68 ?_
            refine lv_if_le (tgt := 78) hx hb dX12_digging_71 (by decide) (fun c => absurd c (fun z => absurd (dk_lec (k := 0) (by decide +kernel) z) (by omega))) (fun _ => ?_)
            refine lv_iconst (v := 0) hx hb dX12_digging_74 (by decide +kernel) ?_
            refine lv_goto (tgt := 86) hx hb dX12_digging_75 (by decide) ?_
            refine lv_istore_n (lv' := [(1, .int 0), (0, .ref (o + 0))]) hx hb dX12_digging_86 rfl hl (by decide) rfl (fun ls hl => ?_)
            refine lv_aload_n hx hb dX12_digging_87 rfl (lv_at hl 1 rfl) ?_
            refine dg_get (C := RX12) (T := TX12) (N := 77) hx hb hts (fun w h => bw_mem (wU_X12 w h)) hown K hP sM_0 rfl 8 (by decide) (hts _ (bw_mem wB_1133)) (fun _ h9 => h9) (v := .int y_126) f_y_126 dX12_digging_88 ?_
            refine lv_if_ne (tgt := 108) hx hb dX12_digging_91 (by decide) (fun _ => ?_) (fun c => absurd c (fun z => absurd (dk_eqc (k := 0) (by decide +kernel) z) (by omega)))
            refine lv_aload_n hx hb dX12_digging_108 rfl (lv_at hl 1 rfl) ?_
            refine dg_get (C := RX12) (T := TX12) (N := 77) hx hb hts (fun w h => bw_mem (wU_X12 w h)) hown K hP sM_0 rfl 8 (by decide) (hts _ (bw_mem wB_1133)) (fun _ h9 => h9) (v := .int y_126) f_y_126 dX12_digging_109 ?_
            refine lv_if_le (tgt := 116) hx hb dX12_digging_112 (by decide) (fun c => absurd c (fun z => absurd (dk_lec (k := 0) (by decide +kernel) z) (by omega))) (fun _ => ?_)
            refine W.widen (k := 0) (n := 0) (Nat.le_of_ble_eq_true rfl) (Nat.le_of_ble_eq_true rfl) ?_
            rw [hQ9]
            exact dg_vret hx hb hr hlocks hP hS ⟨I_124, M_124, ⟨y_70, y_71, y_72, y_126, (((m_124.1 0 3 _ sM_0 (by decide)).trans (m_75.1 0 3 _ sM_0 (by decide))).trans f_y_70), (((m_124.1 0 4 _ sM_0 (by decide)).trans (m_75.1 0 4 _ sM_0 (by decide))).trans f_y_71), (((m_124.1 0 5 _ sM_0 (by decide)).trans (m_75.1 0 5 _ sM_0 (by decide))).trans f_y_72), f_y_126, (by omega)⟩, trivial⟩ dX12_digging_115
      · have jc_77 := dk_nlec (k := 0) (by decide +kernel) c_77
        refine W.widen (k := 0) (n := 0) (Nat.le_of_ble_eq_true rfl) (Nat.le_of_ble_eq_true rfl) ?_
        rw [hQ9]
        exact dg_vret hx hb hr hlocks hP hS ⟨I_75, M_75, ⟨y_70, y_71, y_72, y_76, ((m_75.1 0 3 _ sM_0 (by decide)).trans f_y_70), ((m_75.1 0 4 _ sM_0 (by decide)).trans f_y_71), ((m_75.1 0 5 _ sM_0 (by decide)).trans f_y_72), f_y_76, (by omega)⟩, trivial⟩ dX12_digging_38
    · have jc_74 := dk_eqc (k := 0) (by decide +kernel) c_74
      clear w_68_1_5
      have w_68_1_6r := w_68_1_6 (by omega)
      clear w_68_1_6
      have w_68_1_6rb : 1 ≤ (y_73).toInt := by omega
      clear w_68_1_6r
      refine W.widen (k := 0) (n := 0) (Nat.le_of_ble_eq_true rfl) (Nat.le_of_ble_eq_true rfl) ?_
      rw [hQ9]
      exact dg_vret hx hb hr hlocks hP hS ⟨I_68, M_68, ⟨y_70, y_71, y_72, y_73, f_y_70, f_y_71, f_y_72, f_y_73, (by omega)⟩, trivial⟩ dX12_digging_26
set_option maxHeartbeats 8000000 in
set_option maxRecDepth 100000 in
theorem c_m_ordering (l : Launch) (g : Nat → ClassId) (D : va_G) (o : Nat) (S : dg_S) (sg : Int32) (f_sg : S.1 0 3 = .int sg) (b_sg : 0 ≤ (sg).toInt ∧ (sg).toInt ≤ 3) (sa : Int32) (f_sa : S.1 0 4 = .int sa) (b_sa : 0 ≤ (sa).toInt ∧ (sa).toInt ≤ 1600) (se : Int32) (f_se : S.1 0 5 = .int se) (b_se : 0 ≤ (se).toInt ∧ (se).toInt ≤ 1600) (sl : Int32) (f_sl : S.1 0 2 = .int sl) (b_sl : 0 ≤ (sl).toInt ∧ (sl).toInt ≤ 1600) (fk : Int32) (f_fk : S.1 0 8 = .int fk) (b_fk : 0 ≤ (fk).toInt ∧ (fk).toInt ≤ 6) (hlx : (sa).toInt ≤ (se).toInt ∧ (se).toInt ≤ (sl).toInt ∧ ((sg).toInt ≠ 0 → (sa).toInt + 1 ≤ (se).toInt)) (I : CM o S) (sz : Nat) : Met l yX12_ordering (bw yX12_ordering cX12_ordering 2 none) ({ frames := 4, cells := 0, slots := 0, locals := 100 } : Room) (dk_Pc g D (dg_w g shM o rfM S) sz [.ref (o + 0)]) (va_Qv (fun S' => CM o S' ∧ dg_sm shM [(0, 3), (0, 4), (0, 5), (0, 6), (0, 7), (0, 8), (0, 9), (0, 12)] [12, 13, 14, 15, 21] S S' ∧ (∃ y9_3 y9_4 y9_5 y9_8 : Int32, S'.1 0 3 = .int y9_3 ∧ S'.1 0 4 = .int y9_4 ∧ S'.1 0 5 = .int y9_5 ∧ S'.1 0 8 = .int y9_8 ∧ (((y9_4).toInt ≤ (y9_5).toInt ∧ (y9_5).toInt ≤ (sl).toInt ∧ ((y9_3).toInt ≠ 0 → (y9_4).toInt + 1 ≤ (y9_5).toInt)) ∧ (sa).toInt ≤ (y9_4).toInt ∧ ((fk).toInt ≠ 0 → (y9_8).toInt ≠ 0) ∧ ((y9_8).toInt = 0 → (sa).toInt + 1 ≤ (y9_4).toInt))) ∧ True) (dg_B g D shM o rfM) (dg_A o shM.length sz)) 0 0 (dg_A o shM.length sz) := by
  refine dg_met (cc := cX12_ordering) (maxL := 2) (ret := none) (by decide) rfl (Nat.le_of_ble_eq_true rfl) ?_
  intro p e s m args below meth c A hAe harg hx hb hr hml hts hown hlocks hin hP K hS hA1 hA ST hsz ls hl
  rw [← hAe]
  have F : CallFix p m c cX12_ordering 2 s args (bw yX12_ordering cX12_ordering 2 none) RX12 := ⟨hx, hb, hml, hown, hts⟩
  have hl : lv_has ls 2 [(0, .ref (o + 0))] := hl
  have M_0 : dg_sm shM [(0, 3), (0, 4), (0, 5), (0, 6), (0, 7), (0, 8), (0, 9), (0, 12)] [12, 13, 14, 15, 21] S S := dg_sm.rf
  obtain ⟨Q9, hQ9⟩ : ∃ Q : State → Prop, Q = MQ below (va_Qv (fun S' => CM o S' ∧ dg_sm shM [(0, 3), (0, 4), (0, 5), (0, 6), (0, 7), (0, 8), (0, 9), (0, 12)] [12, 13, 14, 15, 21] S S' ∧ (∃ y9_3 y9_4 y9_5 y9_8 : Int32, S'.1 0 3 = .int y9_3 ∧ S'.1 0 4 = .int y9_4 ∧ S'.1 0 5 = .int y9_5 ∧ S'.1 0 8 = .int y9_8 ∧ (((y9_4).toInt ≤ (y9_5).toInt ∧ (y9_5).toInt ≤ (sl).toInt ∧ ((y9_3).toInt ≠ 0 → (y9_4).toInt + 1 ≤ (y9_5).toInt)) ∧ (sa).toInt ≤ (y9_4).toInt ∧ ((fk).toInt ≠ 0 → (y9_8).toInt ≠ 0) ∧ ((y9_8).toInt = 0 → (sa).toInt + 1 ≤ (y9_4).toInt))) ∧ True) (dg_B g D shM o rfM) A) args s 0 0 A := ⟨_, rfl⟩
  rw [← hQ9]
  obtain ⟨hlx_0, hlx_1, hlx_2⟩ := hlx
  refine lv_aload_n hx hb dX12_ordering_0 rfl (lv_at hl 0 rfl) ?_
  refine lv_aload_n hx hb dX12_ordering_1 rfl (lv_at hl 0 rfl) ?_
  refine dg_get (C := RX12) (T := TX12) (N := 77) hx hb hts (fun w h => bw_mem (wU_X12 w h)) hown K hP sM_0 rfl 24 (by decide) (hts _ (bw_mem wB_902)) (fun _ h9 => h9) (v := .ref (o + 12)) (show S.1 0 24 = .ref (o + 12) from dg_I.rel (d := 12) I sM_0 (by decide +kernel)) dX12_ordering_2 ?_
  refine lv_aload_n hx hb dX12_ordering_5 rfl (lv_at hl 0 rfl) ?_
  obtain ⟨x_1, f_x_1, b_x_1⟩ := dg_I.int (i := 0) (k := 35) (lo := 0) (hi := 1) I sM_0 (by decide +kernel)
  refine dg_get (C := RX12) (T := TX12) (N := 77) hx hb hts (fun w h => bw_mem (wU_X12 w h)) hown K hP sM_0 rfl 35 (by decide) (hts _ (bw_mem wB_1195)) (fun _ h9 => h9) (v := .int x_1) f_x_1 dX12_ordering_6 ?_
  have hin_2 : vp_in x_1 2 := (dk_inv (by omega) (by omega))
  refine dg_iald hx hb K hP sM_12 hin_2 dX12_ordering_9 (fun x_3 ex_3 => ?_)
  have b_x_3 := dk_all_at (dg_I.row (lo := 0) (hi := 5) I sM_12 (by decide +kernel)) hin_2 ex_3
  refine lv_iconst (v := 5) hx hb dX12_ordering_10 (by decide +kernel) ?_
  refine lv_icmp_ne (tgt := 18) hx hb dX12_ordering_11 (by decide) (fun c_4 => ?_) (fun c_4 => ?_)
  · have jc_4 := dk_neqc (k := 5) (by decide +kernel) c_4
    have jtc_4 : (x_3).toInt ≤ 4 := by omega
    clear jc_4
    refine lv_iconst (v := 0) hx hb dX12_ordering_18 (by decide +kernel) ?_
    have hz_5 : (0 : Int32).toInt = 0 := by decide +kernel
    refine dg_calli hS hA1 hA (va_runV (As := [.int 0]) (rest := []) F (c_m_isCounted l g D o S 0 (by decide +kernel) sg f_sg (by omega) sa f_sa (by omega) se f_se (by omega) sl f_sl (by omega) fk f_fk (by omega) (by omega) I s.heap.size) (cwV 1 hts (bw_V wB_1263 wB_1264 wB_1265 wB_881 wB_1262) rfl rfl rfl (by decide +kernel) ⟨Nat.le_of_ble_eq_true rfl, Nat.le_of_ble_eq_true rfl⟩) (dg_preV sM_0 rfl K ST hP hS hA1 hA) rfl rfl hl.1 rfl (lv_room (Nat.le_of_ble_eq_true rfl)) dX12_ordering_19 ⟨Nat.le_of_ble_eq_true rfl, Nat.le_of_ble_eq_true rfl⟩) (fun x_6 S_7 hw_7 H locs hP hS => ?_)
    obtain ⟨I_7, m_7, w_7_0, w_7_1, -⟩ := hw_7
    have M_7 := dg_sm.tr M_0 m_7 (by decide) (by decide)
    have hz_8 : (0 : Int32).toInt = 0 := by decide +kernel
    have w_7_0 : 0 ≤ (x_6).toInt ∧ (x_6).toInt ≤ 1 := w_7_0
    obtain ⟨y_9, y_10, y_11, y_12, f_y_9, f_y_10, f_y_11, f_y_12, w_7_1⟩ := w_7_1
    have w_7_1 : ((y_10).toInt ≤ (y_11).toInt ∧ (y_11).toInt ≤ (sl).toInt ∧ ((y_9).toInt ≠ 0 → (y_10).toInt + 1 ≤ (y_11).toInt)) ∧ (sa).toInt ≤ (y_10).toInt ∧ ((fk).toInt ≠ 0 → (y_12).toInt ≠ 0) ∧ (((x_6).toInt = 1 → ((y_12).toInt = 0 ∧ (fk).toInt = 0 ∧ ((0 : Int32)).toInt = 0 ∧ ((sg).toInt ≠ 0 → (sa).toInt + 1 ≤ (y_10).toInt))) ∧ ((x_6).toInt = 0 → (y_12).toInt ≠ 0)) := w_7_1
    obtain ⟨⟨w_7_1_0, w_7_1_1, w_7_1_2⟩, w_7_1_3, w_7_1_4, ⟨w_7_1_5, w_7_1_6⟩⟩ := w_7_1
    have b_y_9 : 0 ≤ (y_9).toInt ∧ (y_9).toInt ≤ 3 := dg_I.intb (lo := 0) (hi := 3) I_7 sM_0 (by decide +kernel) f_y_9
    have b_y_10 : 0 ≤ (y_10).toInt ∧ (y_10).toInt ≤ 1600 := dg_I.intb (lo := 0) (hi := 1600) I_7 sM_0 (by decide +kernel) f_y_10
    have b_y_11 : 0 ≤ (y_11).toInt ∧ (y_11).toInt ≤ 1600 := dg_I.intb (lo := 0) (hi := 1600) I_7 sM_0 (by decide +kernel) f_y_11
    have b_y_12 : 0 ≤ (y_12).toInt ∧ (y_12).toInt ≤ 6 := dg_I.intb (lo := 0) (hi := 6) I_7 sM_0 (by decide +kernel) f_y_12
    refine lv_if_ne (tgt := 26) hx hb dX12_ordering_22 (by decide) (fun c_13 => ?_) (fun c_13 => ?_)
    · have jc_13 := dk_neqc (k := 0) (by decide +kernel) c_13
      have jbc_13 : 1 ≤ (x_6).toInt := by omega
      clear jc_13
      have w_7_1_5r := w_7_1_5 (by omega)
      clear w_7_1_5
      clear w_7_1_6
      obtain ⟨w_7_1_5r_0, w_7_1_5r_1, w_7_1_5r_2, w_7_1_5r_3⟩ := w_7_1_5r
      clear w_7_1_4
      refine lv_iconst (v := 5) hx hb dX12_ordering_26 (by decide +kernel) ?_
      refine lv_aload_n hx hb dX12_ordering_27 rfl (lv_at hl 0 rfl) ?_
      refine dg_get (C := RX12) (T := TX12) (N := 77) hx hb hts (fun w h => bw_mem (wU_X12 w h)) hown K hP sM_0 rfl 35 (by decide) (hts _ (bw_mem wB_1195)) (fun _ h9 => h9) (v := .int x_1) ((m_7.1 0 35 _ sM_0 (by decide)).trans f_x_1) dX12_ordering_28 ?_
      refine lv_imul hx hb dX12_ordering_31 ?_
      refine lv_topi (fun x_14 ex_14 => ?_)
      have jx_14 : (x_14).toInt = 5 * (x_1).toInt := by rw [ex_14]; exact dk_mulT (by decide +kernel) rfl (by omega) (by omega)
      refine lv_aload_n hx hb dX12_ordering_32 rfl (lv_at hl 0 rfl) ?_
      refine dg_get (C := RX12) (T := TX12) (N := 77) hx hb hts (fun w h => bw_mem (wU_X12 w h)) hown K hP sM_0 rfl 24 (by decide) (hts _ (bw_mem wB_902)) (fun _ h9 => h9) (v := .ref (o + 12)) (show S_7.1 0 24 = .ref (o + 12) from dg_I.rel (d := 12) I_7 sM_0 (by decide +kernel)) dX12_ordering_33 ?_
      refine lv_aload_n hx hb dX12_ordering_36 rfl (lv_at hl 0 rfl) ?_
      refine dg_get (C := RX12) (T := TX12) (N := 77) hx hb hts (fun w h => bw_mem (wU_X12 w h)) hown K hP sM_0 rfl 35 (by decide) (hts _ (bw_mem wB_1195)) (fun _ h9 => h9) (v := .int x_1) ((m_7.1 0 35 _ sM_0 (by decide)).trans f_x_1) dX12_ordering_37 ?_
      have hin_15 : vp_in x_1 2 := (dk_inv (by omega) (by omega))
      refine dg_iald hx hb K hP sM_12 hin_15 dX12_ordering_40 (fun y_16 ey_16 => ?_)
      obtain rfl : x_3 = y_16 := ((ey_16.trans (congrFun (m_7.2 12 _ sM_12 (by decide)).1 _)).trans ex_3.symm).symm
      refine lv_iadd hx hb dX12_ordering_41 ?_
      refine lv_topi (fun x_17 ex_17 => ?_)
      have jx_17 : (x_17).toInt = (x_14).toInt + (x_3).toInt := by rw [ex_17]; exact dk_addT rfl rfl (by omega) (by omega)
      refine lv_istore_n (lv' := [(1, .int x_17), (0, .ref (o + 0))]) hx hb dX12_ordering_42 rfl hl (by decide) rfl (fun ls hl => ?_)
      refine lv_aload_n hx hb dX12_ordering_43 rfl (lv_at hl 1 rfl) ?_
      refine dg_get (C := RX12) (T := TX12) (N := 77) hx hb hts (fun w h => bw_mem (wU_X12 w h)) hown K hP sM_0 rfl 33 (by decide) (hts _ (bw_mem wB_1027)) (fun _ h9 => h9) (v := .ref (o + 21)) (show S_7.1 0 33 = .ref (o + 21) from dg_I.rel (d := 21) I_7 sM_0 (by decide +kernel)) dX12_ordering_44 ?_
      refine lv_iload_n hx hb dX12_ordering_47 rfl (lv_at hl 0 rfl) ?_
      refine lv_aload_n hx hb dX12_ordering_48 rfl (lv_at hl 1 rfl) ?_
      refine dg_calll hS hA1 hA (va_runV (As := []) (rest := [.int x_17, .ref (o + 21)]) F (c_m_fresh l g D o S_7 y_9 f_y_9 (by omega) y_10 f_y_10 (by omega) y_11 f_y_11 (by omega) sl ((m_7.1 0 2 _ sM_0 (by decide)).trans f_sl) (by omega) y_12 f_y_12 (by omega) (by omega) I_7 H.size) (cwV 0 hts (bw_V wB_1271 wB_1272 wB_1273 wB_881 wB_1270) rfl rfl rfl (by decide +kernel) ⟨Nat.le_of_ble_eq_true rfl, Nat.le_of_ble_eq_true rfl⟩) (dg_preV sM_0 rfl K ST hP hS hA1 hA) rfl rfl hl.1 rfl (lv_room (Nat.le_of_ble_eq_true rfl)) dX12_ordering_49 ⟨Nat.le_of_ble_eq_true rfl, Nat.le_of_ble_eq_true rfl⟩) (fun x_18 S_19 hw_19 H locs hP hS => ?_)
      obtain ⟨I_19, m_19, w_19_0, -⟩ := hw_19
      have M_19 := dg_sm.tr M_7 m_19 (by decide) (by decide)
      obtain ⟨y_20, y_21, y_22, y_23, f_y_20, f_y_21, f_y_22, f_y_23, w_19_0⟩ := w_19_0
      have w_19_0 : ((y_21).toInt ≤ (y_22).toInt ∧ (y_22).toInt ≤ (sl).toInt ∧ ((y_20).toInt ≠ 0 → (y_21).toInt + 1 ≤ (y_22).toInt)) ∧ (y_10).toInt ≤ (y_21).toInt ∧ ((y_12).toInt ≠ 0 → (y_23).toInt ≠ 0) ∧ ((y_23).toInt = 0 → (y_10).toInt + 1 ≤ (y_21).toInt) := w_19_0
      obtain ⟨⟨w_19_0_0, w_19_0_1, w_19_0_2⟩, w_19_0_3, w_19_0_4, w_19_0_5⟩ := w_19_0
      clear w_19_0_4
      have b_y_20 : 0 ≤ (y_20).toInt ∧ (y_20).toInt ≤ 3 := dg_I.intb (lo := 0) (hi := 3) I_19 sM_0 (by decide +kernel) f_y_20
      have b_y_21 : 0 ≤ (y_21).toInt ∧ (y_21).toInt ≤ 1600 := dg_I.intb (lo := 0) (hi := 1600) I_19 sM_0 (by decide +kernel) f_y_21
      have b_y_22 : 0 ≤ (y_22).toInt ∧ (y_22).toInt ≤ 1600 := dg_I.intb (lo := 0) (hi := 1600) I_19 sM_0 (by decide +kernel) f_y_22
      have b_y_23 : 0 ≤ (y_23).toInt ∧ (y_23).toInt ≤ 6 := dg_I.intb (lo := 0) (hi := 6) I_19 sM_0 (by decide +kernel) f_y_23
      have hin_24 : vp_in x_17 10 := (dk_inv (by omega) (by omega))
      refine dg_last hx hb K hP hS hA1 sM_21 hin_24 dX12_ordering_52 (fun S_25 e_25 H locs hP hS => ?_)
      have I_25 := dg_I.ul I_19 e_25
      have M_25 := dg_sm.ul M_19 e_25 sM_21 (by decide)
      refine lv_aload_n hx hb dX12_ordering_53 rfl (lv_at hl 1 rfl) ?_
      refine lv_ldc2 hx hb hown (hts _ (bw_mem wB_1173)) dX12_ordering_54 ?_
      refine dg_callv hS hA1 hA (va_runV (As := [.long 444300616805]) (rest := []) F (c_m_must_ l g D o S_25 444300616805 y_20 ((dg_ul_F e_25 0 3).trans f_y_20) (by omega) y_21 ((dg_ul_F e_25 0 4).trans f_y_21) (by omega) y_22 ((dg_ul_F e_25 0 5).trans f_y_22) (by omega) sl (((dg_ul_F e_25 0 2).trans ((m_19.1 0 2 _ sM_0 (by decide)).trans (m_7.1 0 2 _ sM_0 (by decide)))).trans f_sl) (by omega) y_23 ((dg_ul_F e_25 0 8).trans f_y_23) (by omega) (by omega) I_25 H.size) (cwV 1 hts (bw_V wB_1259 wB_1260 wB_1261 wB_881 wB_1258) rfl rfl rfl (by decide +kernel) ⟨Nat.le_of_ble_eq_true rfl, Nat.le_of_ble_eq_true rfl⟩) (dg_preV sM_0 rfl K ST hP hS hA1 hA) rfl rfl hl.1 rfl (lv_room (Nat.le_of_ble_eq_true rfl)) dX12_ordering_57 ⟨Nat.le_of_ble_eq_true rfl, Nat.le_of_ble_eq_true rfl⟩) (fun S_26 hw_26 H locs hP hS => ?_)
      obtain ⟨I_26, m_26, w_26_0, -⟩ := hw_26
      have M_26 := dg_sm.tr M_25 m_26 (by decide) (by decide)
      obtain ⟨y_27, y_28, y_29, y_30, f_y_27, f_y_28, f_y_29, f_y_30, w_26_0⟩ := w_26_0
      have w_26_0 : ((y_28).toInt ≤ (y_29).toInt ∧ (y_29).toInt ≤ (sl).toInt ∧ ((y_27).toInt ≠ 0 → (y_28).toInt + 1 ≤ (y_29).toInt)) ∧ (y_21).toInt ≤ (y_28).toInt ∧ ((y_23).toInt ≠ 0 → (y_30).toInt ≠ 0) ∧ ((y_30).toInt = 0 → (y_21).toInt + 1 ≤ (y_28).toInt) := w_26_0
      obtain ⟨⟨w_26_0_0, w_26_0_1, w_26_0_2⟩, w_26_0_3, w_26_0_4, w_26_0_5⟩ := w_26_0
      have b_y_27 : 0 ≤ (y_27).toInt ∧ (y_27).toInt ≤ 3 := dg_I.intb (lo := 0) (hi := 3) I_26 sM_0 (by decide +kernel) f_y_27
      have b_y_28 : 0 ≤ (y_28).toInt ∧ (y_28).toInt ≤ 1600 := dg_I.intb (lo := 0) (hi := 1600) I_26 sM_0 (by decide +kernel) f_y_28
      have b_y_29 : 0 ≤ (y_29).toInt ∧ (y_29).toInt ≤ 1600 := dg_I.intb (lo := 0) (hi := 1600) I_26 sM_0 (by decide +kernel) f_y_29
      have b_y_30 : 0 ≤ (y_30).toInt ∧ (y_30).toInt ≤ 6 := dg_I.intb (lo := 0) (hi := 6) I_26 sM_0 (by decide +kernel) f_y_30
      refine lv_aload_n hx hb dX12_ordering_60 rfl (lv_at hl 1 rfl) ?_
      refine dg_get (C := RX12) (T := TX12) (N := 77) hx hb hts (fun w h => bw_mem (wU_X12 w h)) hown K hP sM_0 rfl 25 (by decide) (hts _ (bw_mem wB_1037)) (fun _ h9 => h9) (v := .ref (o + 13)) (show S_26.1 0 25 = .ref (o + 13) from dg_I.rel (d := 13) I_26 sM_0 (by decide +kernel)) dX12_ordering_61 ?_
      refine lv_iload_n hx hb dX12_ordering_64 rfl (lv_at hl 0 rfl) ?_
      refine lv_aload_n hx hb dX12_ordering_65 rfl (lv_at hl 1 rfl) ?_
      refine lv_iconst (v := 0) hx hb dX12_ordering_66 (by decide +kernel) ?_
      refine lv_bipush (v := 9) hx hb dX12_ordering_67 (by decide +kernel) ?_
      refine dg_calli hS hA1 hA (va_runV (As := [.int 0, .int 9]) (rest := [.int x_17, .ref (o + 13)]) F (c_m_number l g D o S_26 0 9 y_27 f_y_27 (by omega) y_28 f_y_28 (by omega) y_29 f_y_29 (by omega) sl (((m_26.1 0 2 _ sM_0 (by decide)).trans ((dg_ul_F e_25 0 2).trans ((m_19.1 0 2 _ sM_0 (by decide)).trans (m_7.1 0 2 _ sM_0 (by decide))))).trans f_sl) (by omega) y_30 f_y_30 (by omega) (by omega) I_26 H.size) (cwV 2 hts (bw_V wB_1255 wB_1256 wB_1257 wB_881 wB_1254) rfl rfl rfl (by decide +kernel) ⟨Nat.le_of_ble_eq_true rfl, Nat.le_of_ble_eq_true rfl⟩) (dg_preV sM_0 rfl K ST hP hS hA1 hA) rfl rfl hl.1 rfl (lv_room (Nat.le_of_ble_eq_true rfl)) dX12_ordering_69 ⟨Nat.le_of_ble_eq_true rfl, Nat.le_of_ble_eq_true rfl⟩) (fun x_31 S_32 hw_32 H locs hP hS => ?_)
      obtain ⟨I_32, m_32, w_32_0, w_32_1, -⟩ := hw_32
      have M_32 := dg_sm.tr M_26 m_32 (by decide) (by decide)
      have hz_33 : (0 : Int32).toInt = 0 := by decide +kernel
      have hz_34 : (9 : Int32).toInt = 9 := by decide +kernel
      have w_32_0 : 0 ≤ (x_31).toInt ∧ (x_31).toInt ≤ 9999 := w_32_0
      obtain ⟨y_35, y_36, y_37, y_38, f_y_35, f_y_36, f_y_37, f_y_38, w_32_1⟩ := w_32_1
      have w_32_1 : ((y_36).toInt ≤ (y_37).toInt ∧ (y_37).toInt ≤ (sl).toInt ∧ ((y_35).toInt ≠ 0 → (y_36).toInt + 1 ≤ (y_37).toInt)) ∧ (y_28).toInt ≤ (y_36).toInt ∧ ((y_30).toInt ≠ 0 → (y_38).toInt ≠ 0) ∧ ((y_38).toInt = 0 → (((0 : Int32)).toInt ≤ (x_31).toInt ∧ (x_31).toInt ≤ ((9 : Int32)).toInt ∧ (y_28).toInt + 1 ≤ (y_36).toInt)) := w_32_1
      obtain ⟨⟨w_32_1_0, w_32_1_1, w_32_1_2⟩, w_32_1_3, w_32_1_4, w_32_1_5⟩ := w_32_1
      have b_y_35 : 0 ≤ (y_35).toInt ∧ (y_35).toInt ≤ 3 := dg_I.intb (lo := 0) (hi := 3) I_32 sM_0 (by decide +kernel) f_y_35
      have b_y_36 : 0 ≤ (y_36).toInt ∧ (y_36).toInt ≤ 1600 := dg_I.intb (lo := 0) (hi := 1600) I_32 sM_0 (by decide +kernel) f_y_36
      have b_y_37 : 0 ≤ (y_37).toInt ∧ (y_37).toInt ≤ 1600 := dg_I.intb (lo := 0) (hi := 1600) I_32 sM_0 (by decide +kernel) f_y_37
      have b_y_38 : 0 ≤ (y_38).toInt ∧ (y_38).toInt ≤ 6 := dg_I.intb (lo := 0) (hi := 6) I_32 sM_0 (by decide +kernel) f_y_38
      have hin_39 : vp_in x_17 10 := (dk_inv (by omega) (by omega))
      refine dg_iast hx hb K hP hS hA1 sM_13 hin_39 dX12_ordering_72 (fun S_40 e_40 H locs hP hS => ?_)
      have I_40 := dg_I.ufu (lo := 0) (hi := 9999) I_32 e_40 sM_13 (by decide +kernel) (show 0 ≤ (x_31).toInt ∧ (x_31).toInt ≤ 9999 from (by omega))
      have M_40 := dg_sm.uf M_32 e_40 sM_13 (by decide)
      refine lv_aload_n hx hb dX12_ordering_73 rfl (lv_at hl 1 rfl) ?_
      refine lv_ldc2 hx hb hown (hts _ (bw_mem wB_1178)) dX12_ordering_74 ?_
      refine dg_callv hS hA1 hA (va_runV (As := [.long 1953849971]) (rest := []) F (c_m_must_ l g D o S_40 1953849971 y_35 ((dg_uf_F e_40 0 3).trans f_y_35) (by omega) y_36 ((dg_uf_F e_40 0 4).trans f_y_36) (by omega) y_37 ((dg_uf_F e_40 0 5).trans f_y_37) (by omega) sl (((dg_uf_F e_40 0 2).trans ((m_32.1 0 2 _ sM_0 (by decide)).trans ((m_26.1 0 2 _ sM_0 (by decide)).trans ((dg_ul_F e_25 0 2).trans ((m_19.1 0 2 _ sM_0 (by decide)).trans (m_7.1 0 2 _ sM_0 (by decide))))))).trans f_sl) (by omega) y_38 ((dg_uf_F e_40 0 8).trans f_y_38) (by omega) (by omega) I_40 H.size) (cwV 1 hts (bw_V wB_1259 wB_1260 wB_1261 wB_881 wB_1258) rfl rfl rfl (by decide +kernel) ⟨Nat.le_of_ble_eq_true rfl, Nat.le_of_ble_eq_true rfl⟩) (dg_preV sM_0 rfl K ST hP hS hA1 hA) rfl rfl hl.1 rfl (lv_room (Nat.le_of_ble_eq_true rfl)) dX12_ordering_77 ⟨Nat.le_of_ble_eq_true rfl, Nat.le_of_ble_eq_true rfl⟩) (fun S_41 hw_41 H locs hP hS => ?_)
      obtain ⟨I_41, m_41, w_41_0, -⟩ := hw_41
      have M_41 := dg_sm.tr M_40 m_41 (by decide) (by decide)
      obtain ⟨y_42, y_43, y_44, y_45, f_y_42, f_y_43, f_y_44, f_y_45, w_41_0⟩ := w_41_0
      have w_41_0 : ((y_43).toInt ≤ (y_44).toInt ∧ (y_44).toInt ≤ (sl).toInt ∧ ((y_42).toInt ≠ 0 → (y_43).toInt + 1 ≤ (y_44).toInt)) ∧ (y_36).toInt ≤ (y_43).toInt ∧ ((y_38).toInt ≠ 0 → (y_45).toInt ≠ 0) ∧ ((y_45).toInt = 0 → (y_36).toInt + 1 ≤ (y_43).toInt) := w_41_0
      obtain ⟨⟨w_41_0_0, w_41_0_1, w_41_0_2⟩, w_41_0_3, w_41_0_4, w_41_0_5⟩ := w_41_0
      have b_y_42 : 0 ≤ (y_42).toInt ∧ (y_42).toInt ≤ 3 := dg_I.intb (lo := 0) (hi := 3) I_41 sM_0 (by decide +kernel) f_y_42
      have b_y_43 : 0 ≤ (y_43).toInt ∧ (y_43).toInt ≤ 1600 := dg_I.intb (lo := 0) (hi := 1600) I_41 sM_0 (by decide +kernel) f_y_43
      have b_y_44 : 0 ≤ (y_44).toInt ∧ (y_44).toInt ≤ 1600 := dg_I.intb (lo := 0) (hi := 1600) I_41 sM_0 (by decide +kernel) f_y_44
      have b_y_45 : 0 ≤ (y_45).toInt ∧ (y_45).toInt ≤ 6 := dg_I.intb (lo := 0) (hi := 6) I_41 sM_0 (by decide +kernel) f_y_45
      refine lv_aload_n hx hb dX12_ordering_80 rfl (lv_at hl 1 rfl) ?_
      refine dg_get (C := RX12) (T := TX12) (N := 77) hx hb hts (fun w h => bw_mem (wU_X12 w h)) hown K hP sM_0 rfl 26 (by decide) (hts _ (bw_mem wB_1042)) (fun _ h9 => h9) (v := .ref (o + 14)) (show S_41.1 0 26 = .ref (o + 14) from dg_I.rel (d := 14) I_41 sM_0 (by decide +kernel)) dX12_ordering_81 ?_
      refine lv_iload_n hx hb dX12_ordering_84 rfl (lv_at hl 0 rfl) ?_
      refine lv_aload_n hx hb dX12_ordering_85 rfl (lv_at hl 1 rfl) ?_
      refine lv_iconst (v := 1) hx hb dX12_ordering_86 (by decide +kernel) ?_
      refine lv_bipush (v := 9) hx hb dX12_ordering_87 (by decide +kernel) ?_
      refine dg_calli hS hA1 hA (va_runV (As := [.int 1, .int 9]) (rest := [.int x_17, .ref (o + 14)]) F (c_m_number l g D o S_41 1 9 y_42 f_y_42 (by omega) y_43 f_y_43 (by omega) y_44 f_y_44 (by omega) sl (((m_41.1 0 2 _ sM_0 (by decide)).trans ((dg_uf_F e_40 0 2).trans ((m_32.1 0 2 _ sM_0 (by decide)).trans ((m_26.1 0 2 _ sM_0 (by decide)).trans ((dg_ul_F e_25 0 2).trans ((m_19.1 0 2 _ sM_0 (by decide)).trans (m_7.1 0 2 _ sM_0 (by decide)))))))).trans f_sl) (by omega) y_45 f_y_45 (by omega) (by omega) I_41 H.size) (cwV 2 hts (bw_V wB_1255 wB_1256 wB_1257 wB_881 wB_1254) rfl rfl rfl (by decide +kernel) ⟨Nat.le_of_ble_eq_true rfl, Nat.le_of_ble_eq_true rfl⟩) (dg_preV sM_0 rfl K ST hP hS hA1 hA) rfl rfl hl.1 rfl (lv_room (Nat.le_of_ble_eq_true rfl)) dX12_ordering_89 ⟨Nat.le_of_ble_eq_true rfl, Nat.le_of_ble_eq_true rfl⟩) (fun x_46 S_47 hw_47 H locs hP hS => ?_)
      obtain ⟨I_47, m_47, w_47_0, w_47_1, -⟩ := hw_47
      have M_47 := dg_sm.tr M_41 m_47 (by decide) (by decide)
      have hz_48 : (1 : Int32).toInt = 1 := by decide +kernel
      have hz_49 : (9 : Int32).toInt = 9 := by decide +kernel
      have w_47_0 : 0 ≤ (x_46).toInt ∧ (x_46).toInt ≤ 9999 := w_47_0
      obtain ⟨y_50, y_51, y_52, y_53, f_y_50, f_y_51, f_y_52, f_y_53, w_47_1⟩ := w_47_1
      have w_47_1 : ((y_51).toInt ≤ (y_52).toInt ∧ (y_52).toInt ≤ (sl).toInt ∧ ((y_50).toInt ≠ 0 → (y_51).toInt + 1 ≤ (y_52).toInt)) ∧ (y_43).toInt ≤ (y_51).toInt ∧ ((y_45).toInt ≠ 0 → (y_53).toInt ≠ 0) ∧ ((y_53).toInt = 0 → (((1 : Int32)).toInt ≤ (x_46).toInt ∧ (x_46).toInt ≤ ((9 : Int32)).toInt ∧ (y_43).toInt + 1 ≤ (y_51).toInt)) := w_47_1
      obtain ⟨⟨w_47_1_0, w_47_1_1, w_47_1_2⟩, w_47_1_3, w_47_1_4, w_47_1_5⟩ := w_47_1
      have b_y_50 : 0 ≤ (y_50).toInt ∧ (y_50).toInt ≤ 3 := dg_I.intb (lo := 0) (hi := 3) I_47 sM_0 (by decide +kernel) f_y_50
      have b_y_51 : 0 ≤ (y_51).toInt ∧ (y_51).toInt ≤ 1600 := dg_I.intb (lo := 0) (hi := 1600) I_47 sM_0 (by decide +kernel) f_y_51
      have b_y_52 : 0 ≤ (y_52).toInt ∧ (y_52).toInt ≤ 1600 := dg_I.intb (lo := 0) (hi := 1600) I_47 sM_0 (by decide +kernel) f_y_52
      have b_y_53 : 0 ≤ (y_53).toInt ∧ (y_53).toInt ≤ 6 := dg_I.intb (lo := 0) (hi := 6) I_47 sM_0 (by decide +kernel) f_y_53
      have hin_54 : vp_in x_17 10 := (dk_inv (by omega) (by omega))
      refine dg_iast hx hb K hP hS hA1 sM_14 hin_54 dX12_ordering_92 (fun S_55 e_55 H locs hP hS => ?_)
      have I_55 := dg_I.uf0 I_47 e_55 sM_14 (by decide +kernel)
      have M_55 := dg_sm.uf M_47 e_55 sM_14 (by decide)
      refine lv_aload_n hx hb dX12_ordering_93 rfl (lv_at hl 1 rfl) ?_
      refine lv_ldc2 hx hb hown (hts _ (bw_mem wB_1179)) dX12_ordering_94 ?_
      refine dg_callv hS hA1 hA (va_runV (As := [.long 1885436275]) (rest := []) F (c_m_must_ l g D o S_55 1885436275 y_50 ((dg_uf_F e_55 0 3).trans f_y_50) (by omega) y_51 ((dg_uf_F e_55 0 4).trans f_y_51) (by omega) y_52 ((dg_uf_F e_55 0 5).trans f_y_52) (by omega) sl (((dg_uf_F e_55 0 2).trans ((m_47.1 0 2 _ sM_0 (by decide)).trans ((m_41.1 0 2 _ sM_0 (by decide)).trans ((dg_uf_F e_40 0 2).trans ((m_32.1 0 2 _ sM_0 (by decide)).trans ((m_26.1 0 2 _ sM_0 (by decide)).trans ((dg_ul_F e_25 0 2).trans ((m_19.1 0 2 _ sM_0 (by decide)).trans (m_7.1 0 2 _ sM_0 (by decide)))))))))).trans f_sl) (by omega) y_53 ((dg_uf_F e_55 0 8).trans f_y_53) (by omega) (by omega) I_55 H.size) (cwV 1 hts (bw_V wB_1259 wB_1260 wB_1261 wB_881 wB_1258) rfl rfl rfl (by decide +kernel) ⟨Nat.le_of_ble_eq_true rfl, Nat.le_of_ble_eq_true rfl⟩) (dg_preV sM_0 rfl K ST hP hS hA1 hA) rfl rfl hl.1 rfl (lv_room (Nat.le_of_ble_eq_true rfl)) dX12_ordering_97 ⟨Nat.le_of_ble_eq_true rfl, Nat.le_of_ble_eq_true rfl⟩) (fun S_56 hw_56 H locs hP hS => ?_)
      obtain ⟨I_56, m_56, w_56_0, -⟩ := hw_56
      have M_56 := dg_sm.tr M_55 m_56 (by decide) (by decide)
      obtain ⟨y_57, y_58, y_59, y_60, f_y_57, f_y_58, f_y_59, f_y_60, w_56_0⟩ := w_56_0
      have w_56_0 : ((y_58).toInt ≤ (y_59).toInt ∧ (y_59).toInt ≤ (sl).toInt ∧ ((y_57).toInt ≠ 0 → (y_58).toInt + 1 ≤ (y_59).toInt)) ∧ (y_51).toInt ≤ (y_58).toInt ∧ ((y_53).toInt ≠ 0 → (y_60).toInt ≠ 0) ∧ ((y_60).toInt = 0 → (y_51).toInt + 1 ≤ (y_58).toInt) := w_56_0
      obtain ⟨⟨w_56_0_0, w_56_0_1, w_56_0_2⟩, w_56_0_3, w_56_0_4, w_56_0_5⟩ := w_56_0
      have b_y_57 : 0 ≤ (y_57).toInt ∧ (y_57).toInt ≤ 3 := dg_I.intb (lo := 0) (hi := 3) I_56 sM_0 (by decide +kernel) f_y_57
      have b_y_58 : 0 ≤ (y_58).toInt ∧ (y_58).toInt ≤ 1600 := dg_I.intb (lo := 0) (hi := 1600) I_56 sM_0 (by decide +kernel) f_y_58
      have b_y_59 : 0 ≤ (y_59).toInt ∧ (y_59).toInt ≤ 1600 := dg_I.intb (lo := 0) (hi := 1600) I_56 sM_0 (by decide +kernel) f_y_59
      have b_y_60 : 0 ≤ (y_60).toInt ∧ (y_60).toInt ≤ 6 := dg_I.intb (lo := 0) (hi := 6) I_56 sM_0 (by decide +kernel) f_y_60
      refine lv_aload_n hx hb dX12_ordering_100 rfl (lv_at hl 1 rfl) ?_
      refine dg_get (C := RX12) (T := TX12) (N := 77) hx hb hts (fun w h => bw_mem (wU_X12 w h)) hown K hP sM_0 rfl 27 (by decide) (hts _ (bw_mem wB_1043)) (fun _ h9 => h9) (v := .ref (o + 15)) (show S_56.1 0 27 = .ref (o + 15) from dg_I.rel (d := 15) I_56 sM_0 (by decide +kernel)) dX12_ordering_101 ?_
      refine lv_iload_n hx hb dX12_ordering_104 rfl (lv_at hl 0 rfl) ?_
      refine lv_aload_n hx hb dX12_ordering_105 rfl (lv_at hl 1 rfl) ?_
      refine lv_iconst (v := 0) hx hb dX12_ordering_106 (by decide +kernel) ?_
      refine lv_sipush (v := 999) hx hb dX12_ordering_107 (by decide +kernel) ?_
      refine dg_calli hS hA1 hA (va_runV (As := [.int 0, .int 999]) (rest := [.int x_17, .ref (o + 15)]) F (c_m_number l g D o S_56 0 999 y_57 f_y_57 (by omega) y_58 f_y_58 (by omega) y_59 f_y_59 (by omega) sl (((m_56.1 0 2 _ sM_0 (by decide)).trans ((dg_uf_F e_55 0 2).trans ((m_47.1 0 2 _ sM_0 (by decide)).trans ((m_41.1 0 2 _ sM_0 (by decide)).trans ((dg_uf_F e_40 0 2).trans ((m_32.1 0 2 _ sM_0 (by decide)).trans ((m_26.1 0 2 _ sM_0 (by decide)).trans ((dg_ul_F e_25 0 2).trans ((m_19.1 0 2 _ sM_0 (by decide)).trans (m_7.1 0 2 _ sM_0 (by decide))))))))))).trans f_sl) (by omega) y_60 f_y_60 (by omega) (by omega) I_56 H.size) (cwV 2 hts (bw_V wB_1255 wB_1256 wB_1257 wB_881 wB_1254) rfl rfl rfl (by decide +kernel) ⟨Nat.le_of_ble_eq_true rfl, Nat.le_of_ble_eq_true rfl⟩) (dg_preV sM_0 rfl K ST hP hS hA1 hA) rfl rfl hl.1 rfl (lv_room (Nat.le_of_ble_eq_true rfl)) dX12_ordering_110 ⟨Nat.le_of_ble_eq_true rfl, Nat.le_of_ble_eq_true rfl⟩) (fun x_61 S_62 hw_62 H locs hP hS => ?_)
      obtain ⟨I_62, m_62, w_62_0, w_62_1, -⟩ := hw_62
      have M_62 := dg_sm.tr M_56 m_62 (by decide) (by decide)
      have hz_63 : (0 : Int32).toInt = 0 := by decide +kernel
      have hz_64 : (999 : Int32).toInt = 999 := by decide +kernel
      have w_62_0 : 0 ≤ (x_61).toInt ∧ (x_61).toInt ≤ 9999 := w_62_0
      obtain ⟨y_65, y_66, y_67, y_68, f_y_65, f_y_66, f_y_67, f_y_68, w_62_1⟩ := w_62_1
      have w_62_1 : ((y_66).toInt ≤ (y_67).toInt ∧ (y_67).toInt ≤ (sl).toInt ∧ ((y_65).toInt ≠ 0 → (y_66).toInt + 1 ≤ (y_67).toInt)) ∧ (y_58).toInt ≤ (y_66).toInt ∧ ((y_60).toInt ≠ 0 → (y_68).toInt ≠ 0) ∧ ((y_68).toInt = 0 → (((0 : Int32)).toInt ≤ (x_61).toInt ∧ (x_61).toInt ≤ ((999 : Int32)).toInt ∧ (y_58).toInt + 1 ≤ (y_66).toInt)) := w_62_1
      obtain ⟨⟨w_62_1_0, w_62_1_1, w_62_1_2⟩, w_62_1_3, w_62_1_4, w_62_1_5⟩ := w_62_1
      have b_y_65 : 0 ≤ (y_65).toInt ∧ (y_65).toInt ≤ 3 := dg_I.intb (lo := 0) (hi := 3) I_62 sM_0 (by decide +kernel) f_y_65
      have b_y_66 : 0 ≤ (y_66).toInt ∧ (y_66).toInt ≤ 1600 := dg_I.intb (lo := 0) (hi := 1600) I_62 sM_0 (by decide +kernel) f_y_66
      have b_y_67 : 0 ≤ (y_67).toInt ∧ (y_67).toInt ≤ 1600 := dg_I.intb (lo := 0) (hi := 1600) I_62 sM_0 (by decide +kernel) f_y_67
      have b_y_68 : 0 ≤ (y_68).toInt ∧ (y_68).toInt ≤ 6 := dg_I.intb (lo := 0) (hi := 6) I_62 sM_0 (by decide +kernel) f_y_68
      have hin_69 : vp_in x_17 10 := (dk_inv (by omega) (by omega))
      refine dg_iast hx hb K hP hS hA1 sM_15 hin_69 dX12_ordering_113 (fun S_70 e_70 H locs hP hS => ?_)
      have I_70 := dg_I.uf0 I_62 e_70 sM_15 (by decide +kernel)
      have M_70 := dg_sm.uf M_62 e_70 sM_15 (by decide)
      refine lv_aload_n hx hb dX12_ordering_114 rfl (lv_at hl 1 rfl) ?_
      refine dg_get (C := RX12) (T := TX12) (N := 77) hx hb hts (fun w h => bw_mem (wU_X12 w h)) hown K hP sM_0 rfl 8 (by decide) (hts _ (bw_mem wB_1133)) (fun _ h9 => h9) (v := .int y_68) ((dg_uf_F e_70 0 8).trans f_y_68) dX12_ordering_115 ?_
      refine lv_if_ne (tgt := 134) hx hb dX12_ordering_118 (by decide) (fun c_71 => ?_) (fun c_71 => ?_)
      · have jc_71 := dk_neqc (k := 0) (by decide +kernel) c_71
        have jbc_71 : 1 ≤ (y_68).toInt := by omega
        clear jc_71
        clear w_62_1_5
        refine W.widen (k := 0) (n := 0) (Nat.le_of_ble_eq_true rfl) (Nat.le_of_ble_eq_true rfl) ?_
        rw [hQ9]
        exact dg_vret hx hb hr hlocks hP hS ⟨I_70, M_70, ⟨y_65, y_66, y_67, y_68, ((dg_uf_F e_70 0 3).trans f_y_65), ((dg_uf_F e_70 0 4).trans f_y_66), ((dg_uf_F e_70 0 5).trans f_y_67), ((dg_uf_F e_70 0 8).trans f_y_68), (by omega)⟩, trivial⟩ dX12_ordering_134
      · have jc_71 := dk_eqc (k := 0) (by decide +kernel) c_71
        have w_62_1_4c : (y_60).toInt = 0 := by omega
        clear w_62_1_4
        have w_62_1_5r := w_62_1_5 (by omega)
        clear w_62_1_5
        obtain ⟨w_62_1_5r_0, w_62_1_5r_1, w_62_1_5r_2⟩ := w_62_1_5r
        have w_56_0_4c : (y_53).toInt = 0 := by omega
        clear w_56_0_4
        have w_56_0_5r := w_56_0_5 (by omega)
        clear w_56_0_5
        have w_47_1_4c : (y_45).toInt = 0 := by omega
        clear w_47_1_4
        have w_47_1_5r := w_47_1_5 (by omega)
        clear w_47_1_5
        obtain ⟨w_47_1_5r_0, w_47_1_5r_1, w_47_1_5r_2⟩ := w_47_1_5r
        have w_41_0_4c : (y_38).toInt = 0 := by omega
        clear w_41_0_4
        have w_41_0_5r := w_41_0_5 (by omega)
        clear w_41_0_5
        have w_32_1_4c : (y_30).toInt = 0 := by omega
        clear w_32_1_4
        have w_32_1_5r := w_32_1_5 (by omega)
        clear w_32_1_5
        obtain ⟨w_32_1_5r_0, w_32_1_5r_1, w_32_1_5r_2⟩ := w_32_1_5r
        have w_26_0_4c : (y_23).toInt = 0 := by omega
        clear w_26_0_4
        have w_26_0_5r := w_26_0_5 (by omega)
        clear w_26_0_5
        have w_19_0_5r := w_19_0_5 (by omega)
        clear w_19_0_5
        refine lv_aload_n hx hb dX12_ordering_121 rfl (lv_at hl 1 rfl) ?_
        refine dg_get (C := RX12) (T := TX12) (N := 77) hx hb hts (fun w h => bw_mem (wU_X12 w h)) hown K hP sM_0 rfl 24 (by decide) (hts _ (bw_mem wB_902)) (fun _ h9 => h9) (v := .ref (o + 12)) (show S_70.1 0 24 = .ref (o + 12) from dg_I.rel (d := 12) I_70 sM_0 (by decide +kernel)) dX12_ordering_122 ?_
        refine lv_aload_n hx hb dX12_ordering_125 rfl (lv_at hl 1 rfl) ?_
        refine dg_get (C := RX12) (T := TX12) (N := 77) hx hb hts (fun w h => bw_mem (wU_X12 w h)) hown K hP sM_0 rfl 35 (by decide) (hts _ (bw_mem wB_1195)) (fun _ h9 => h9) (v := .int x_1) (((dg_uf_F e_70 0 35).trans ((m_62.1 0 35 _ sM_0 (by decide)).trans ((m_56.1 0 35 _ sM_0 (by decide)).trans ((dg_uf_F e_55 0 35).trans ((m_47.1 0 35 _ sM_0 (by decide)).trans ((m_41.1 0 35 _ sM_0 (by decide)).trans ((dg_uf_F e_40 0 35).trans ((m_32.1 0 35 _ sM_0 (by decide)).trans ((m_26.1 0 35 _ sM_0 (by decide)).trans ((dg_ul_F e_25 0 35).trans ((m_19.1 0 35 _ sM_0 (by decide)).trans (m_7.1 0 35 _ sM_0 (by decide))))))))))))).trans f_x_1) dX12_ordering_126 ?_
        refine lv_dup2_11 hx hb dX12_ordering_129 rfl rfl ?_
        have hin_72 : vp_in x_1 2 := (dk_inv (by omega) (by omega))
        refine dg_iald hx hb K hP sM_12 hin_72 dX12_ordering_130 (fun y_73 ey_73 => ?_)
        obtain rfl : x_3 = y_73 := ((ey_73.trans (congrFun ((dg_uf_ne e_70 (by decide)).trans ((m_62.2 12 _ sM_12 (by decide)).1.trans ((m_56.2 12 _ sM_12 (by decide)).1.trans ((dg_uf_ne e_55 (by decide)).trans ((m_47.2 12 _ sM_12 (by decide)).1.trans ((m_41.2 12 _ sM_12 (by decide)).1.trans ((dg_uf_ne e_40 (by decide)).trans ((m_32.2 12 _ sM_12 (by decide)).1.trans ((m_26.2 12 _ sM_12 (by decide)).1.trans ((dg_ul_f e_25 12).trans ((m_19.2 12 _ sM_12 (by decide)).1.trans (m_7.2 12 _ sM_12 (by decide)).1))))))))))) _)).trans ex_3.symm).symm
        refine lv_iconst (v := 1) hx hb dX12_ordering_131 (by decide +kernel) ?_
        refine lv_iadd hx hb dX12_ordering_132 ?_
        refine lv_topi (fun x_74 ex_74 => ?_)
        have jx_74 : (x_74).toInt = (x_3).toInt + 1 := by rw [ex_74]; exact dk_addT rfl (by decide +kernel) (by omega) (by omega)
        have hin_75 : vp_in x_1 2 := (dk_inv (by omega) (by omega))
        refine dg_iast hx hb K hP hS hA1 sM_12 hin_75 dX12_ordering_133 (fun S_76 e_76 H locs hP hS => ?_)
        have I_76 := dg_I.ufu (lo := 0) (hi := 5) I_70 e_76 sM_12 (by decide +kernel) (show 0 ≤ (x_74).toInt ∧ (x_74).toInt ≤ 5 from (by omega))
        have M_76 := dg_sm.uf M_70 e_76 sM_12 (by decide)
        refine W.widen (k := 0) (n := 0) (Nat.le_of_ble_eq_true rfl) (Nat.le_of_ble_eq_true rfl) ?_
        rw [hQ9]
        exact dg_vret hx hb hr hlocks hP hS ⟨I_76, M_76, ⟨y_65, y_66, y_67, y_68, (((dg_uf_F e_76 0 3).trans (dg_uf_F e_70 0 3)).trans f_y_65), (((dg_uf_F e_76 0 4).trans (dg_uf_F e_70 0 4)).trans f_y_66), (((dg_uf_F e_76 0 5).trans (dg_uf_F e_70 0 5)).trans f_y_67), (((dg_uf_F e_76 0 8).trans (dg_uf_F e_70 0 8)).trans f_y_68), (by omega)⟩, trivial⟩ dX12_ordering_134
    · have jc_13 := dk_eqc (k := 0) (by decide +kernel) c_13
      clear w_7_1_5
      have w_7_1_6r := w_7_1_6 (by omega)
      clear w_7_1_6
      have w_7_1_6rb : 1 ≤ (y_12).toInt := by omega
      clear w_7_1_6r
      refine W.widen (k := 0) (n := 0) (Nat.le_of_ble_eq_true rfl) (Nat.le_of_ble_eq_true rfl) ?_
      rw [hQ9]
      exact dg_vret hx hb hr hlocks hP hS ⟨I_7, M_7, ⟨y_9, y_10, y_11, y_12, f_y_9, f_y_10, f_y_11, f_y_12, (by omega)⟩, trivial⟩ dX12_ordering_25
  · have jc_4 := dk_eqc (k := 5) (by decide +kernel) c_4
    refine lv_iconst (v := 1) hx hb dX12_ordering_14 (by decide +kernel) ?_
    refine lv_goto (tgt := 19) hx hb dX12_ordering_15 (by decide) ?_
    have hz_77 : (1 : Int32).toInt = 1 := by decide +kernel
    refine dg_calli hS hA1 hA (va_runV (As := [.int 1]) (rest := []) F (c_m_isCounted l g D o S 1 (by decide +kernel) sg f_sg (by omega) sa f_sa (by omega) se f_se (by omega) sl f_sl (by omega) fk f_fk (by omega) (by omega) I s.heap.size) (cwV 1 hts (bw_V wB_1263 wB_1264 wB_1265 wB_881 wB_1262) rfl rfl rfl (by decide +kernel) ⟨Nat.le_of_ble_eq_true rfl, Nat.le_of_ble_eq_true rfl⟩) (dg_preV sM_0 rfl K ST hP hS hA1 hA) rfl rfl hl.1 rfl (lv_room (Nat.le_of_ble_eq_true rfl)) dX12_ordering_19 ⟨Nat.le_of_ble_eq_true rfl, Nat.le_of_ble_eq_true rfl⟩) (fun x_78 S_79 hw_79 H locs hP hS => ?_)
    obtain ⟨I_79, m_79, w_79_0, w_79_1, -⟩ := hw_79
    have M_79 := dg_sm.tr M_0 m_79 (by decide) (by decide)
    have hz_80 : (1 : Int32).toInt = 1 := by decide +kernel
    have w_79_0 : 0 ≤ (x_78).toInt ∧ (x_78).toInt ≤ 1 := w_79_0
    obtain ⟨y_81, y_82, y_83, y_84, f_y_81, f_y_82, f_y_83, f_y_84, w_79_1⟩ := w_79_1
    have w_79_1 : ((y_82).toInt ≤ (y_83).toInt ∧ (y_83).toInt ≤ (sl).toInt ∧ ((y_81).toInt ≠ 0 → (y_82).toInt + 1 ≤ (y_83).toInt)) ∧ (sa).toInt ≤ (y_82).toInt ∧ ((fk).toInt ≠ 0 → (y_84).toInt ≠ 0) ∧ (((x_78).toInt = 1 → ((y_84).toInt = 0 ∧ (fk).toInt = 0 ∧ ((1 : Int32)).toInt = 0 ∧ ((sg).toInt ≠ 0 → (sa).toInt + 1 ≤ (y_82).toInt))) ∧ ((x_78).toInt = 0 → (y_84).toInt ≠ 0)) := w_79_1
    obtain ⟨⟨w_79_1_0, w_79_1_1, w_79_1_2⟩, w_79_1_3, w_79_1_4, ⟨w_79_1_5, w_79_1_6⟩⟩ := w_79_1
    have b_y_81 : 0 ≤ (y_81).toInt ∧ (y_81).toInt ≤ 3 := dg_I.intb (lo := 0) (hi := 3) I_79 sM_0 (by decide +kernel) f_y_81
    have b_y_82 : 0 ≤ (y_82).toInt ∧ (y_82).toInt ≤ 1600 := dg_I.intb (lo := 0) (hi := 1600) I_79 sM_0 (by decide +kernel) f_y_82
    have b_y_83 : 0 ≤ (y_83).toInt ∧ (y_83).toInt ≤ 1600 := dg_I.intb (lo := 0) (hi := 1600) I_79 sM_0 (by decide +kernel) f_y_83
    have b_y_84 : 0 ≤ (y_84).toInt ∧ (y_84).toInt ≤ 6 := dg_I.intb (lo := 0) (hi := 6) I_79 sM_0 (by decide +kernel) f_y_84
    refine lv_if_ne (tgt := 26) hx hb dX12_ordering_22 (by decide) (fun c_85 => ?_) (fun c_85 => ?_)
    · have jc_85 := dk_neqc (k := 0) (by decide +kernel) c_85
      have jbc_85 : 1 ≤ (x_78).toInt := by omega
      clear jc_85
      have w_79_1_5r := w_79_1_5 (by omega)
      clear w_79_1_5
      clear w_79_1_6
      obtain ⟨w_79_1_5r_0, w_79_1_5r_1, w_79_1_5r_2, w_79_1_5r_3⟩ := w_79_1_5r
      clear w_79_1_4
      refine lv_iconst (v := 5) hx hb dX12_ordering_26 (by decide +kernel) ?_
      refine lv_aload_n hx hb dX12_ordering_27 rfl (lv_at hl 0 rfl) ?_
      refine dg_get (C := RX12) (T := TX12) (N := 77) hx hb hts (fun w h => bw_mem (wU_X12 w h)) hown K hP sM_0 rfl 35 (by decide) (hts _ (bw_mem wB_1195)) (fun _ h9 => h9) (v := .int x_1) ((m_79.1 0 35 _ sM_0 (by decide)).trans f_x_1) dX12_ordering_28 ?_
      refine lv_imul hx hb dX12_ordering_31 ?_
      refine lv_topi (fun x_86 ex_86 => ?_)
      have jx_86 : (x_86).toInt = 5 * (x_1).toInt := by rw [ex_86]; exact dk_mulT (by decide +kernel) rfl (by omega) (by omega)
      refine lv_aload_n hx hb dX12_ordering_32 rfl (lv_at hl 0 rfl) ?_
      refine dg_get (C := RX12) (T := TX12) (N := 77) hx hb hts (fun w h => bw_mem (wU_X12 w h)) hown K hP sM_0 rfl 24 (by decide) (hts _ (bw_mem wB_902)) (fun _ h9 => h9) (v := .ref (o + 12)) (show S_79.1 0 24 = .ref (o + 12) from dg_I.rel (d := 12) I_79 sM_0 (by decide +kernel)) dX12_ordering_33 ?_
      refine lv_aload_n hx hb dX12_ordering_36 rfl (lv_at hl 0 rfl) ?_
      refine dg_get (C := RX12) (T := TX12) (N := 77) hx hb hts (fun w h => bw_mem (wU_X12 w h)) hown K hP sM_0 rfl 35 (by decide) (hts _ (bw_mem wB_1195)) (fun _ h9 => h9) (v := .int x_1) ((m_79.1 0 35 _ sM_0 (by decide)).trans f_x_1) dX12_ordering_37 ?_
      have hin_87 : vp_in x_1 2 := (dk_inv (by omega) (by omega))
      refine dg_iald hx hb K hP sM_12 hin_87 dX12_ordering_40 (fun y_88 ey_88 => ?_)
      obtain rfl : x_3 = y_88 := ((ey_88.trans (congrFun (m_79.2 12 _ sM_12 (by decide)).1 _)).trans ex_3.symm).symm
      refine lv_iadd hx hb dX12_ordering_41 ?_
      refine lv_topi (fun x_89 ex_89 => ?_)
      have jx_89 : (x_89).toInt = (x_86).toInt + (x_3).toInt := by rw [ex_89]; exact dk_addT rfl rfl (by omega) (by omega)
      refine lv_istore_n (lv' := [(1, .int x_89), (0, .ref (o + 0))]) hx hb dX12_ordering_42 rfl hl (by decide) rfl (fun ls hl => ?_)
      refine lv_aload_n hx hb dX12_ordering_43 rfl (lv_at hl 1 rfl) ?_
      refine dg_get (C := RX12) (T := TX12) (N := 77) hx hb hts (fun w h => bw_mem (wU_X12 w h)) hown K hP sM_0 rfl 33 (by decide) (hts _ (bw_mem wB_1027)) (fun _ h9 => h9) (v := .ref (o + 21)) (show S_79.1 0 33 = .ref (o + 21) from dg_I.rel (d := 21) I_79 sM_0 (by decide +kernel)) dX12_ordering_44 ?_
      refine lv_iload_n hx hb dX12_ordering_47 rfl (lv_at hl 0 rfl) ?_
      refine lv_aload_n hx hb dX12_ordering_48 rfl (lv_at hl 1 rfl) ?_
      refine dg_calll hS hA1 hA (va_runV (As := []) (rest := [.int x_89, .ref (o + 21)]) F (c_m_fresh l g D o S_79 y_81 f_y_81 (by omega) y_82 f_y_82 (by omega) y_83 f_y_83 (by omega) sl ((m_79.1 0 2 _ sM_0 (by decide)).trans f_sl) (by omega) y_84 f_y_84 (by omega) (by omega) I_79 H.size) (cwV 0 hts (bw_V wB_1271 wB_1272 wB_1273 wB_881 wB_1270) rfl rfl rfl (by decide +kernel) ⟨Nat.le_of_ble_eq_true rfl, Nat.le_of_ble_eq_true rfl⟩) (dg_preV sM_0 rfl K ST hP hS hA1 hA) rfl rfl hl.1 rfl (lv_room (Nat.le_of_ble_eq_true rfl)) dX12_ordering_49 ⟨Nat.le_of_ble_eq_true rfl, Nat.le_of_ble_eq_true rfl⟩) (fun x_90 S_91 hw_91 H locs hP hS => ?_)
      obtain ⟨I_91, m_91, w_91_0, -⟩ := hw_91
      have M_91 := dg_sm.tr M_79 m_91 (by decide) (by decide)
      obtain ⟨y_92, y_93, y_94, y_95, f_y_92, f_y_93, f_y_94, f_y_95, w_91_0⟩ := w_91_0
      have w_91_0 : ((y_93).toInt ≤ (y_94).toInt ∧ (y_94).toInt ≤ (sl).toInt ∧ ((y_92).toInt ≠ 0 → (y_93).toInt + 1 ≤ (y_94).toInt)) ∧ (y_82).toInt ≤ (y_93).toInt ∧ ((y_84).toInt ≠ 0 → (y_95).toInt ≠ 0) ∧ ((y_95).toInt = 0 → (y_82).toInt + 1 ≤ (y_93).toInt) := w_91_0
      obtain ⟨⟨w_91_0_0, w_91_0_1, w_91_0_2⟩, w_91_0_3, w_91_0_4, w_91_0_5⟩ := w_91_0
      clear w_91_0_4
      have b_y_92 : 0 ≤ (y_92).toInt ∧ (y_92).toInt ≤ 3 := dg_I.intb (lo := 0) (hi := 3) I_91 sM_0 (by decide +kernel) f_y_92
      have b_y_93 : 0 ≤ (y_93).toInt ∧ (y_93).toInt ≤ 1600 := dg_I.intb (lo := 0) (hi := 1600) I_91 sM_0 (by decide +kernel) f_y_93
      have b_y_94 : 0 ≤ (y_94).toInt ∧ (y_94).toInt ≤ 1600 := dg_I.intb (lo := 0) (hi := 1600) I_91 sM_0 (by decide +kernel) f_y_94
      have b_y_95 : 0 ≤ (y_95).toInt ∧ (y_95).toInt ≤ 6 := dg_I.intb (lo := 0) (hi := 6) I_91 sM_0 (by decide +kernel) f_y_95
      have hin_96 : vp_in x_89 10 := (dk_inv (by omega) (by omega))
      refine dg_last hx hb K hP hS hA1 sM_21 hin_96 dX12_ordering_52 (fun S_97 e_97 H locs hP hS => ?_)
      have I_97 := dg_I.ul I_91 e_97
      have M_97 := dg_sm.ul M_91 e_97 sM_21 (by decide)
      refine lv_aload_n hx hb dX12_ordering_53 rfl (lv_at hl 1 rfl) ?_
      refine lv_ldc2 hx hb hown (hts _ (bw_mem wB_1173)) dX12_ordering_54 ?_
      refine dg_callv hS hA1 hA (va_runV (As := [.long 444300616805]) (rest := []) F (c_m_must_ l g D o S_97 444300616805 y_92 ((dg_ul_F e_97 0 3).trans f_y_92) (by omega) y_93 ((dg_ul_F e_97 0 4).trans f_y_93) (by omega) y_94 ((dg_ul_F e_97 0 5).trans f_y_94) (by omega) sl (((dg_ul_F e_97 0 2).trans ((m_91.1 0 2 _ sM_0 (by decide)).trans (m_79.1 0 2 _ sM_0 (by decide)))).trans f_sl) (by omega) y_95 ((dg_ul_F e_97 0 8).trans f_y_95) (by omega) (by omega) I_97 H.size) (cwV 1 hts (bw_V wB_1259 wB_1260 wB_1261 wB_881 wB_1258) rfl rfl rfl (by decide +kernel) ⟨Nat.le_of_ble_eq_true rfl, Nat.le_of_ble_eq_true rfl⟩) (dg_preV sM_0 rfl K ST hP hS hA1 hA) rfl rfl hl.1 rfl (lv_room (Nat.le_of_ble_eq_true rfl)) dX12_ordering_57 ⟨Nat.le_of_ble_eq_true rfl, Nat.le_of_ble_eq_true rfl⟩) (fun S_98 hw_98 H locs hP hS => ?_)
      obtain ⟨I_98, m_98, w_98_0, -⟩ := hw_98
      have M_98 := dg_sm.tr M_97 m_98 (by decide) (by decide)
      obtain ⟨y_99, y_100, y_101, y_102, f_y_99, f_y_100, f_y_101, f_y_102, w_98_0⟩ := w_98_0
      have w_98_0 : ((y_100).toInt ≤ (y_101).toInt ∧ (y_101).toInt ≤ (sl).toInt ∧ ((y_99).toInt ≠ 0 → (y_100).toInt + 1 ≤ (y_101).toInt)) ∧ (y_93).toInt ≤ (y_100).toInt ∧ ((y_95).toInt ≠ 0 → (y_102).toInt ≠ 0) ∧ ((y_102).toInt = 0 → (y_93).toInt + 1 ≤ (y_100).toInt) := w_98_0
      obtain ⟨⟨w_98_0_0, w_98_0_1, w_98_0_2⟩, w_98_0_3, w_98_0_4, w_98_0_5⟩ := w_98_0
      have b_y_99 : 0 ≤ (y_99).toInt ∧ (y_99).toInt ≤ 3 := dg_I.intb (lo := 0) (hi := 3) I_98 sM_0 (by decide +kernel) f_y_99
      have b_y_100 : 0 ≤ (y_100).toInt ∧ (y_100).toInt ≤ 1600 := dg_I.intb (lo := 0) (hi := 1600) I_98 sM_0 (by decide +kernel) f_y_100
      have b_y_101 : 0 ≤ (y_101).toInt ∧ (y_101).toInt ≤ 1600 := dg_I.intb (lo := 0) (hi := 1600) I_98 sM_0 (by decide +kernel) f_y_101
      have b_y_102 : 0 ≤ (y_102).toInt ∧ (y_102).toInt ≤ 6 := dg_I.intb (lo := 0) (hi := 6) I_98 sM_0 (by decide +kernel) f_y_102
      refine lv_aload_n hx hb dX12_ordering_60 rfl (lv_at hl 1 rfl) ?_
      refine dg_get (C := RX12) (T := TX12) (N := 77) hx hb hts (fun w h => bw_mem (wU_X12 w h)) hown K hP sM_0 rfl 25 (by decide) (hts _ (bw_mem wB_1037)) (fun _ h9 => h9) (v := .ref (o + 13)) (show S_98.1 0 25 = .ref (o + 13) from dg_I.rel (d := 13) I_98 sM_0 (by decide +kernel)) dX12_ordering_61 ?_
      refine lv_iload_n hx hb dX12_ordering_64 rfl (lv_at hl 0 rfl) ?_
      refine lv_aload_n hx hb dX12_ordering_65 rfl (lv_at hl 1 rfl) ?_
      refine lv_iconst (v := 0) hx hb dX12_ordering_66 (by decide +kernel) ?_
      refine lv_bipush (v := 9) hx hb dX12_ordering_67 (by decide +kernel) ?_
      refine dg_calli hS hA1 hA (va_runV (As := [.int 0, .int 9]) (rest := [.int x_89, .ref (o + 13)]) F (c_m_number l g D o S_98 0 9 y_99 f_y_99 (by omega) y_100 f_y_100 (by omega) y_101 f_y_101 (by omega) sl (((m_98.1 0 2 _ sM_0 (by decide)).trans ((dg_ul_F e_97 0 2).trans ((m_91.1 0 2 _ sM_0 (by decide)).trans (m_79.1 0 2 _ sM_0 (by decide))))).trans f_sl) (by omega) y_102 f_y_102 (by omega) (by omega) I_98 H.size) (cwV 2 hts (bw_V wB_1255 wB_1256 wB_1257 wB_881 wB_1254) rfl rfl rfl (by decide +kernel) ⟨Nat.le_of_ble_eq_true rfl, Nat.le_of_ble_eq_true rfl⟩) (dg_preV sM_0 rfl K ST hP hS hA1 hA) rfl rfl hl.1 rfl (lv_room (Nat.le_of_ble_eq_true rfl)) dX12_ordering_69 ⟨Nat.le_of_ble_eq_true rfl, Nat.le_of_ble_eq_true rfl⟩) (fun x_103 S_104 hw_104 H locs hP hS => ?_)
      obtain ⟨I_104, m_104, w_104_0, w_104_1, -⟩ := hw_104
      have M_104 := dg_sm.tr M_98 m_104 (by decide) (by decide)
      have hz_105 : (0 : Int32).toInt = 0 := by decide +kernel
      have hz_106 : (9 : Int32).toInt = 9 := by decide +kernel
      have w_104_0 : 0 ≤ (x_103).toInt ∧ (x_103).toInt ≤ 9999 := w_104_0
      obtain ⟨y_107, y_108, y_109, y_110, f_y_107, f_y_108, f_y_109, f_y_110, w_104_1⟩ := w_104_1
      have w_104_1 : ((y_108).toInt ≤ (y_109).toInt ∧ (y_109).toInt ≤ (sl).toInt ∧ ((y_107).toInt ≠ 0 → (y_108).toInt + 1 ≤ (y_109).toInt)) ∧ (y_100).toInt ≤ (y_108).toInt ∧ ((y_102).toInt ≠ 0 → (y_110).toInt ≠ 0) ∧ ((y_110).toInt = 0 → (((0 : Int32)).toInt ≤ (x_103).toInt ∧ (x_103).toInt ≤ ((9 : Int32)).toInt ∧ (y_100).toInt + 1 ≤ (y_108).toInt)) := w_104_1
      obtain ⟨⟨w_104_1_0, w_104_1_1, w_104_1_2⟩, w_104_1_3, w_104_1_4, w_104_1_5⟩ := w_104_1
      have b_y_107 : 0 ≤ (y_107).toInt ∧ (y_107).toInt ≤ 3 := dg_I.intb (lo := 0) (hi := 3) I_104 sM_0 (by decide +kernel) f_y_107
      have b_y_108 : 0 ≤ (y_108).toInt ∧ (y_108).toInt ≤ 1600 := dg_I.intb (lo := 0) (hi := 1600) I_104 sM_0 (by decide +kernel) f_y_108
      have b_y_109 : 0 ≤ (y_109).toInt ∧ (y_109).toInt ≤ 1600 := dg_I.intb (lo := 0) (hi := 1600) I_104 sM_0 (by decide +kernel) f_y_109
      have b_y_110 : 0 ≤ (y_110).toInt ∧ (y_110).toInt ≤ 6 := dg_I.intb (lo := 0) (hi := 6) I_104 sM_0 (by decide +kernel) f_y_110
      have hin_111 : vp_in x_89 10 := (dk_inv (by omega) (by omega))
      refine dg_iast hx hb K hP hS hA1 sM_13 hin_111 dX12_ordering_72 (fun S_112 e_112 H locs hP hS => ?_)
      have I_112 := dg_I.ufu (lo := 0) (hi := 9999) I_104 e_112 sM_13 (by decide +kernel) (show 0 ≤ (x_103).toInt ∧ (x_103).toInt ≤ 9999 from (by omega))
      have M_112 := dg_sm.uf M_104 e_112 sM_13 (by decide)
      refine lv_aload_n hx hb dX12_ordering_73 rfl (lv_at hl 1 rfl) ?_
      refine lv_ldc2 hx hb hown (hts _ (bw_mem wB_1178)) dX12_ordering_74 ?_
      refine dg_callv hS hA1 hA (va_runV (As := [.long 1953849971]) (rest := []) F (c_m_must_ l g D o S_112 1953849971 y_107 ((dg_uf_F e_112 0 3).trans f_y_107) (by omega) y_108 ((dg_uf_F e_112 0 4).trans f_y_108) (by omega) y_109 ((dg_uf_F e_112 0 5).trans f_y_109) (by omega) sl (((dg_uf_F e_112 0 2).trans ((m_104.1 0 2 _ sM_0 (by decide)).trans ((m_98.1 0 2 _ sM_0 (by decide)).trans ((dg_ul_F e_97 0 2).trans ((m_91.1 0 2 _ sM_0 (by decide)).trans (m_79.1 0 2 _ sM_0 (by decide))))))).trans f_sl) (by omega) y_110 ((dg_uf_F e_112 0 8).trans f_y_110) (by omega) (by omega) I_112 H.size) (cwV 1 hts (bw_V wB_1259 wB_1260 wB_1261 wB_881 wB_1258) rfl rfl rfl (by decide +kernel) ⟨Nat.le_of_ble_eq_true rfl, Nat.le_of_ble_eq_true rfl⟩) (dg_preV sM_0 rfl K ST hP hS hA1 hA) rfl rfl hl.1 rfl (lv_room (Nat.le_of_ble_eq_true rfl)) dX12_ordering_77 ⟨Nat.le_of_ble_eq_true rfl, Nat.le_of_ble_eq_true rfl⟩) (fun S_113 hw_113 H locs hP hS => ?_)
      obtain ⟨I_113, m_113, w_113_0, -⟩ := hw_113
      have M_113 := dg_sm.tr M_112 m_113 (by decide) (by decide)
      obtain ⟨y_114, y_115, y_116, y_117, f_y_114, f_y_115, f_y_116, f_y_117, w_113_0⟩ := w_113_0
      have w_113_0 : ((y_115).toInt ≤ (y_116).toInt ∧ (y_116).toInt ≤ (sl).toInt ∧ ((y_114).toInt ≠ 0 → (y_115).toInt + 1 ≤ (y_116).toInt)) ∧ (y_108).toInt ≤ (y_115).toInt ∧ ((y_110).toInt ≠ 0 → (y_117).toInt ≠ 0) ∧ ((y_117).toInt = 0 → (y_108).toInt + 1 ≤ (y_115).toInt) := w_113_0
      obtain ⟨⟨w_113_0_0, w_113_0_1, w_113_0_2⟩, w_113_0_3, w_113_0_4, w_113_0_5⟩ := w_113_0
      have b_y_114 : 0 ≤ (y_114).toInt ∧ (y_114).toInt ≤ 3 := dg_I.intb (lo := 0) (hi := 3) I_113 sM_0 (by decide +kernel) f_y_114
      have b_y_115 : 0 ≤ (y_115).toInt ∧ (y_115).toInt ≤ 1600 := dg_I.intb (lo := 0) (hi := 1600) I_113 sM_0 (by decide +kernel) f_y_115
      have b_y_116 : 0 ≤ (y_116).toInt ∧ (y_116).toInt ≤ 1600 := dg_I.intb (lo := 0) (hi := 1600) I_113 sM_0 (by decide +kernel) f_y_116
      have b_y_117 : 0 ≤ (y_117).toInt ∧ (y_117).toInt ≤ 6 := dg_I.intb (lo := 0) (hi := 6) I_113 sM_0 (by decide +kernel) f_y_117
      refine lv_aload_n hx hb dX12_ordering_80 rfl (lv_at hl 1 rfl) ?_
      refine dg_get (C := RX12) (T := TX12) (N := 77) hx hb hts (fun w h => bw_mem (wU_X12 w h)) hown K hP sM_0 rfl 26 (by decide) (hts _ (bw_mem wB_1042)) (fun _ h9 => h9) (v := .ref (o + 14)) (show S_113.1 0 26 = .ref (o + 14) from dg_I.rel (d := 14) I_113 sM_0 (by decide +kernel)) dX12_ordering_81 ?_
      refine lv_iload_n hx hb dX12_ordering_84 rfl (lv_at hl 0 rfl) ?_
      refine lv_aload_n hx hb dX12_ordering_85 rfl (lv_at hl 1 rfl) ?_
      refine lv_iconst (v := 1) hx hb dX12_ordering_86 (by decide +kernel) ?_
      refine lv_bipush (v := 9) hx hb dX12_ordering_87 (by decide +kernel) ?_
      refine dg_calli hS hA1 hA (va_runV (As := [.int 1, .int 9]) (rest := [.int x_89, .ref (o + 14)]) F (c_m_number l g D o S_113 1 9 y_114 f_y_114 (by omega) y_115 f_y_115 (by omega) y_116 f_y_116 (by omega) sl (((m_113.1 0 2 _ sM_0 (by decide)).trans ((dg_uf_F e_112 0 2).trans ((m_104.1 0 2 _ sM_0 (by decide)).trans ((m_98.1 0 2 _ sM_0 (by decide)).trans ((dg_ul_F e_97 0 2).trans ((m_91.1 0 2 _ sM_0 (by decide)).trans (m_79.1 0 2 _ sM_0 (by decide)))))))).trans f_sl) (by omega) y_117 f_y_117 (by omega) (by omega) I_113 H.size) (cwV 2 hts (bw_V wB_1255 wB_1256 wB_1257 wB_881 wB_1254) rfl rfl rfl (by decide +kernel) ⟨Nat.le_of_ble_eq_true rfl, Nat.le_of_ble_eq_true rfl⟩) (dg_preV sM_0 rfl K ST hP hS hA1 hA) rfl rfl hl.1 rfl (lv_room (Nat.le_of_ble_eq_true rfl)) dX12_ordering_89 ⟨Nat.le_of_ble_eq_true rfl, Nat.le_of_ble_eq_true rfl⟩) (fun x_118 S_119 hw_119 H locs hP hS => ?_)
      obtain ⟨I_119, m_119, w_119_0, w_119_1, -⟩ := hw_119
      have M_119 := dg_sm.tr M_113 m_119 (by decide) (by decide)
      have hz_120 : (1 : Int32).toInt = 1 := by decide +kernel
      have hz_121 : (9 : Int32).toInt = 9 := by decide +kernel
      have w_119_0 : 0 ≤ (x_118).toInt ∧ (x_118).toInt ≤ 9999 := w_119_0
      obtain ⟨y_122, y_123, y_124, y_125, f_y_122, f_y_123, f_y_124, f_y_125, w_119_1⟩ := w_119_1
      have w_119_1 : ((y_123).toInt ≤ (y_124).toInt ∧ (y_124).toInt ≤ (sl).toInt ∧ ((y_122).toInt ≠ 0 → (y_123).toInt + 1 ≤ (y_124).toInt)) ∧ (y_115).toInt ≤ (y_123).toInt ∧ ((y_117).toInt ≠ 0 → (y_125).toInt ≠ 0) ∧ ((y_125).toInt = 0 → (((1 : Int32)).toInt ≤ (x_118).toInt ∧ (x_118).toInt ≤ ((9 : Int32)).toInt ∧ (y_115).toInt + 1 ≤ (y_123).toInt)) := w_119_1
      obtain ⟨⟨w_119_1_0, w_119_1_1, w_119_1_2⟩, w_119_1_3, w_119_1_4, w_119_1_5⟩ := w_119_1
      have b_y_122 : 0 ≤ (y_122).toInt ∧ (y_122).toInt ≤ 3 := dg_I.intb (lo := 0) (hi := 3) I_119 sM_0 (by decide +kernel) f_y_122
      have b_y_123 : 0 ≤ (y_123).toInt ∧ (y_123).toInt ≤ 1600 := dg_I.intb (lo := 0) (hi := 1600) I_119 sM_0 (by decide +kernel) f_y_123
      have b_y_124 : 0 ≤ (y_124).toInt ∧ (y_124).toInt ≤ 1600 := dg_I.intb (lo := 0) (hi := 1600) I_119 sM_0 (by decide +kernel) f_y_124
      have b_y_125 : 0 ≤ (y_125).toInt ∧ (y_125).toInt ≤ 6 := dg_I.intb (lo := 0) (hi := 6) I_119 sM_0 (by decide +kernel) f_y_125
      have hin_126 : vp_in x_89 10 := (dk_inv (by omega) (by omega))
      refine dg_iast hx hb K hP hS hA1 sM_14 hin_126 dX12_ordering_92 (fun S_127 e_127 H locs hP hS => ?_)
      have I_127 := dg_I.uf0 I_119 e_127 sM_14 (by decide +kernel)
      have M_127 := dg_sm.uf M_119 e_127 sM_14 (by decide)
      refine lv_aload_n hx hb dX12_ordering_93 rfl (lv_at hl 1 rfl) ?_
      refine lv_ldc2 hx hb hown (hts _ (bw_mem wB_1179)) dX12_ordering_94 ?_
      refine dg_callv hS hA1 hA (va_runV (As := [.long 1885436275]) (rest := []) F (c_m_must_ l g D o S_127 1885436275 y_122 ((dg_uf_F e_127 0 3).trans f_y_122) (by omega) y_123 ((dg_uf_F e_127 0 4).trans f_y_123) (by omega) y_124 ((dg_uf_F e_127 0 5).trans f_y_124) (by omega) sl (((dg_uf_F e_127 0 2).trans ((m_119.1 0 2 _ sM_0 (by decide)).trans ((m_113.1 0 2 _ sM_0 (by decide)).trans ((dg_uf_F e_112 0 2).trans ((m_104.1 0 2 _ sM_0 (by decide)).trans ((m_98.1 0 2 _ sM_0 (by decide)).trans ((dg_ul_F e_97 0 2).trans ((m_91.1 0 2 _ sM_0 (by decide)).trans (m_79.1 0 2 _ sM_0 (by decide)))))))))).trans f_sl) (by omega) y_125 ((dg_uf_F e_127 0 8).trans f_y_125) (by omega) (by omega) I_127 H.size) (cwV 1 hts (bw_V wB_1259 wB_1260 wB_1261 wB_881 wB_1258) rfl rfl rfl (by decide +kernel) ⟨Nat.le_of_ble_eq_true rfl, Nat.le_of_ble_eq_true rfl⟩) (dg_preV sM_0 rfl K ST hP hS hA1 hA) rfl rfl hl.1 rfl (lv_room (Nat.le_of_ble_eq_true rfl)) dX12_ordering_97 ⟨Nat.le_of_ble_eq_true rfl, Nat.le_of_ble_eq_true rfl⟩) (fun S_128 hw_128 H locs hP hS => ?_)
      obtain ⟨I_128, m_128, w_128_0, -⟩ := hw_128
      have M_128 := dg_sm.tr M_127 m_128 (by decide) (by decide)
      obtain ⟨y_129, y_130, y_131, y_132, f_y_129, f_y_130, f_y_131, f_y_132, w_128_0⟩ := w_128_0
      have w_128_0 : ((y_130).toInt ≤ (y_131).toInt ∧ (y_131).toInt ≤ (sl).toInt ∧ ((y_129).toInt ≠ 0 → (y_130).toInt + 1 ≤ (y_131).toInt)) ∧ (y_123).toInt ≤ (y_130).toInt ∧ ((y_125).toInt ≠ 0 → (y_132).toInt ≠ 0) ∧ ((y_132).toInt = 0 → (y_123).toInt + 1 ≤ (y_130).toInt) := w_128_0
      obtain ⟨⟨w_128_0_0, w_128_0_1, w_128_0_2⟩, w_128_0_3, w_128_0_4, w_128_0_5⟩ := w_128_0
      have b_y_129 : 0 ≤ (y_129).toInt ∧ (y_129).toInt ≤ 3 := dg_I.intb (lo := 0) (hi := 3) I_128 sM_0 (by decide +kernel) f_y_129
      have b_y_130 : 0 ≤ (y_130).toInt ∧ (y_130).toInt ≤ 1600 := dg_I.intb (lo := 0) (hi := 1600) I_128 sM_0 (by decide +kernel) f_y_130
      have b_y_131 : 0 ≤ (y_131).toInt ∧ (y_131).toInt ≤ 1600 := dg_I.intb (lo := 0) (hi := 1600) I_128 sM_0 (by decide +kernel) f_y_131
      have b_y_132 : 0 ≤ (y_132).toInt ∧ (y_132).toInt ≤ 6 := dg_I.intb (lo := 0) (hi := 6) I_128 sM_0 (by decide +kernel) f_y_132
      refine lv_aload_n hx hb dX12_ordering_100 rfl (lv_at hl 1 rfl) ?_
      refine dg_get (C := RX12) (T := TX12) (N := 77) hx hb hts (fun w h => bw_mem (wU_X12 w h)) hown K hP sM_0 rfl 27 (by decide) (hts _ (bw_mem wB_1043)) (fun _ h9 => h9) (v := .ref (o + 15)) (show S_128.1 0 27 = .ref (o + 15) from dg_I.rel (d := 15) I_128 sM_0 (by decide +kernel)) dX12_ordering_101 ?_
      refine lv_iload_n hx hb dX12_ordering_104 rfl (lv_at hl 0 rfl) ?_
      refine lv_aload_n hx hb dX12_ordering_105 rfl (lv_at hl 1 rfl) ?_
      refine lv_iconst (v := 0) hx hb dX12_ordering_106 (by decide +kernel) ?_
      refine lv_sipush (v := 999) hx hb dX12_ordering_107 (by decide +kernel) ?_
      refine dg_calli hS hA1 hA (va_runV (As := [.int 0, .int 999]) (rest := [.int x_89, .ref (o + 15)]) F (c_m_number l g D o S_128 0 999 y_129 f_y_129 (by omega) y_130 f_y_130 (by omega) y_131 f_y_131 (by omega) sl (((m_128.1 0 2 _ sM_0 (by decide)).trans ((dg_uf_F e_127 0 2).trans ((m_119.1 0 2 _ sM_0 (by decide)).trans ((m_113.1 0 2 _ sM_0 (by decide)).trans ((dg_uf_F e_112 0 2).trans ((m_104.1 0 2 _ sM_0 (by decide)).trans ((m_98.1 0 2 _ sM_0 (by decide)).trans ((dg_ul_F e_97 0 2).trans ((m_91.1 0 2 _ sM_0 (by decide)).trans (m_79.1 0 2 _ sM_0 (by decide))))))))))).trans f_sl) (by omega) y_132 f_y_132 (by omega) (by omega) I_128 H.size) (cwV 2 hts (bw_V wB_1255 wB_1256 wB_1257 wB_881 wB_1254) rfl rfl rfl (by decide +kernel) ⟨Nat.le_of_ble_eq_true rfl, Nat.le_of_ble_eq_true rfl⟩) (dg_preV sM_0 rfl K ST hP hS hA1 hA) rfl rfl hl.1 rfl (lv_room (Nat.le_of_ble_eq_true rfl)) dX12_ordering_110 ⟨Nat.le_of_ble_eq_true rfl, Nat.le_of_ble_eq_true rfl⟩) (fun x_133 S_134 hw_134 H locs hP hS => ?_)
      obtain ⟨I_134, m_134, w_134_0, w_134_1, -⟩ := hw_134
      have M_134 := dg_sm.tr M_128 m_134 (by decide) (by decide)
      have hz_135 : (0 : Int32).toInt = 0 := by decide +kernel
      have hz_136 : (999 : Int32).toInt = 999 := by decide +kernel
      have w_134_0 : 0 ≤ (x_133).toInt ∧ (x_133).toInt ≤ 9999 := w_134_0
      obtain ⟨y_137, y_138, y_139, y_140, f_y_137, f_y_138, f_y_139, f_y_140, w_134_1⟩ := w_134_1
      have w_134_1 : ((y_138).toInt ≤ (y_139).toInt ∧ (y_139).toInt ≤ (sl).toInt ∧ ((y_137).toInt ≠ 0 → (y_138).toInt + 1 ≤ (y_139).toInt)) ∧ (y_130).toInt ≤ (y_138).toInt ∧ ((y_132).toInt ≠ 0 → (y_140).toInt ≠ 0) ∧ ((y_140).toInt = 0 → (((0 : Int32)).toInt ≤ (x_133).toInt ∧ (x_133).toInt ≤ ((999 : Int32)).toInt ∧ (y_130).toInt + 1 ≤ (y_138).toInt)) := w_134_1
      obtain ⟨⟨w_134_1_0, w_134_1_1, w_134_1_2⟩, w_134_1_3, w_134_1_4, w_134_1_5⟩ := w_134_1
      have b_y_137 : 0 ≤ (y_137).toInt ∧ (y_137).toInt ≤ 3 := dg_I.intb (lo := 0) (hi := 3) I_134 sM_0 (by decide +kernel) f_y_137
      have b_y_138 : 0 ≤ (y_138).toInt ∧ (y_138).toInt ≤ 1600 := dg_I.intb (lo := 0) (hi := 1600) I_134 sM_0 (by decide +kernel) f_y_138
      have b_y_139 : 0 ≤ (y_139).toInt ∧ (y_139).toInt ≤ 1600 := dg_I.intb (lo := 0) (hi := 1600) I_134 sM_0 (by decide +kernel) f_y_139
      have b_y_140 : 0 ≤ (y_140).toInt ∧ (y_140).toInt ≤ 6 := dg_I.intb (lo := 0) (hi := 6) I_134 sM_0 (by decide +kernel) f_y_140
      have hin_141 : vp_in x_89 10 := (dk_inv (by omega) (by omega))
      refine dg_iast hx hb K hP hS hA1 sM_15 hin_141 dX12_ordering_113 (fun S_142 e_142 H locs hP hS => ?_)
      have I_142 := dg_I.uf0 I_134 e_142 sM_15 (by decide +kernel)
      have M_142 := dg_sm.uf M_134 e_142 sM_15 (by decide)
      refine lv_aload_n hx hb dX12_ordering_114 rfl (lv_at hl 1 rfl) ?_
      refine dg_get (C := RX12) (T := TX12) (N := 77) hx hb hts (fun w h => bw_mem (wU_X12 w h)) hown K hP sM_0 rfl 8 (by decide) (hts _ (bw_mem wB_1133)) (fun _ h9 => h9) (v := .int y_140) ((dg_uf_F e_142 0 8).trans f_y_140) dX12_ordering_115 ?_
      refine lv_if_ne (tgt := 134) hx hb dX12_ordering_118 (by decide) (fun c_143 => ?_) (fun c_143 => ?_)
      · have jc_143 := dk_neqc (k := 0) (by decide +kernel) c_143
        have jbc_143 : 1 ≤ (y_140).toInt := by omega
        clear jc_143
        clear w_134_1_5
        refine W.widen (k := 0) (n := 0) (Nat.le_of_ble_eq_true rfl) (Nat.le_of_ble_eq_true rfl) ?_
        rw [hQ9]
        exact dg_vret hx hb hr hlocks hP hS ⟨I_142, M_142, ⟨y_137, y_138, y_139, y_140, ((dg_uf_F e_142 0 3).trans f_y_137), ((dg_uf_F e_142 0 4).trans f_y_138), ((dg_uf_F e_142 0 5).trans f_y_139), ((dg_uf_F e_142 0 8).trans f_y_140), (by omega)⟩, trivial⟩ dX12_ordering_134
      · have jc_143 := dk_eqc (k := 0) (by decide +kernel) c_143
        have w_134_1_4c : (y_132).toInt = 0 := by omega
        clear w_134_1_4
        have w_134_1_5r := w_134_1_5 (by omega)
        clear w_134_1_5
        obtain ⟨w_134_1_5r_0, w_134_1_5r_1, w_134_1_5r_2⟩ := w_134_1_5r
        have w_128_0_4c : (y_125).toInt = 0 := by omega
        clear w_128_0_4
        have w_128_0_5r := w_128_0_5 (by omega)
        clear w_128_0_5
        have w_119_1_4c : (y_117).toInt = 0 := by omega
        clear w_119_1_4
        have w_119_1_5r := w_119_1_5 (by omega)
        clear w_119_1_5
        obtain ⟨w_119_1_5r_0, w_119_1_5r_1, w_119_1_5r_2⟩ := w_119_1_5r
        have w_113_0_4c : (y_110).toInt = 0 := by omega
        clear w_113_0_4
        have w_113_0_5r := w_113_0_5 (by omega)
        clear w_113_0_5
        have w_104_1_4c : (y_102).toInt = 0 := by omega
        clear w_104_1_4
        have w_104_1_5r := w_104_1_5 (by omega)
        clear w_104_1_5
        obtain ⟨w_104_1_5r_0, w_104_1_5r_1, w_104_1_5r_2⟩ := w_104_1_5r
        have w_98_0_4c : (y_95).toInt = 0 := by omega
        clear w_98_0_4
        have w_98_0_5r := w_98_0_5 (by omega)
        clear w_98_0_5
        have w_91_0_5r := w_91_0_5 (by omega)
        clear w_91_0_5
        refine lv_aload_n hx hb dX12_ordering_121 rfl (lv_at hl 1 rfl) ?_
        refine dg_get (C := RX12) (T := TX12) (N := 77) hx hb hts (fun w h => bw_mem (wU_X12 w h)) hown K hP sM_0 rfl 24 (by decide) (hts _ (bw_mem wB_902)) (fun _ h9 => h9) (v := .ref (o + 12)) (show S_142.1 0 24 = .ref (o + 12) from dg_I.rel (d := 12) I_142 sM_0 (by decide +kernel)) dX12_ordering_122 ?_
        refine lv_aload_n hx hb dX12_ordering_125 rfl (lv_at hl 1 rfl) ?_
        refine dg_get (C := RX12) (T := TX12) (N := 77) hx hb hts (fun w h => bw_mem (wU_X12 w h)) hown K hP sM_0 rfl 35 (by decide) (hts _ (bw_mem wB_1195)) (fun _ h9 => h9) (v := .int x_1) (((dg_uf_F e_142 0 35).trans ((m_134.1 0 35 _ sM_0 (by decide)).trans ((m_128.1 0 35 _ sM_0 (by decide)).trans ((dg_uf_F e_127 0 35).trans ((m_119.1 0 35 _ sM_0 (by decide)).trans ((m_113.1 0 35 _ sM_0 (by decide)).trans ((dg_uf_F e_112 0 35).trans ((m_104.1 0 35 _ sM_0 (by decide)).trans ((m_98.1 0 35 _ sM_0 (by decide)).trans ((dg_ul_F e_97 0 35).trans ((m_91.1 0 35 _ sM_0 (by decide)).trans (m_79.1 0 35 _ sM_0 (by decide))))))))))))).trans f_x_1) dX12_ordering_126 ?_
        refine lv_dup2_11 hx hb dX12_ordering_129 rfl rfl ?_
        have hin_144 : vp_in x_1 2 := (dk_inv (by omega) (by omega))
        refine dg_iald hx hb K hP sM_12 hin_144 dX12_ordering_130 (fun y_145 ey_145 => ?_)
        obtain rfl : x_3 = y_145 := ((ey_145.trans (congrFun ((dg_uf_ne e_142 (by decide)).trans ((m_134.2 12 _ sM_12 (by decide)).1.trans ((m_128.2 12 _ sM_12 (by decide)).1.trans ((dg_uf_ne e_127 (by decide)).trans ((m_119.2 12 _ sM_12 (by decide)).1.trans ((m_113.2 12 _ sM_12 (by decide)).1.trans ((dg_uf_ne e_112 (by decide)).trans ((m_104.2 12 _ sM_12 (by decide)).1.trans ((m_98.2 12 _ sM_12 (by decide)).1.trans ((dg_ul_f e_97 12).trans ((m_91.2 12 _ sM_12 (by decide)).1.trans (m_79.2 12 _ sM_12 (by decide)).1))))))))))) _)).trans ex_3.symm).symm
        refine lv_iconst (v := 1) hx hb dX12_ordering_131 (by decide +kernel) ?_
        refine lv_iadd hx hb dX12_ordering_132 ?_
        refine lv_topi (fun x_146 ex_146 => ?_)
        have jx_146 : (x_146).toInt = (x_3).toInt + 1 := by rw [ex_146]; exact dk_addT rfl (by decide +kernel) (by omega) (by omega)
        have hin_147 : vp_in x_1 2 := (dk_inv (by omega) (by omega))
        refine dg_iast hx hb K hP hS hA1 sM_12 hin_147 dX12_ordering_133 (fun S_148 e_148 H locs hP hS => ?_)
        have I_148 := dg_I.ufu (lo := 0) (hi := 5) I_142 e_148 sM_12 (by decide +kernel) (show 0 ≤ (x_146).toInt ∧ (x_146).toInt ≤ 5 from (by omega))
        have M_148 := dg_sm.uf M_142 e_148 sM_12 (by decide)
        refine W.widen (k := 0) (n := 0) (Nat.le_of_ble_eq_true rfl) (Nat.le_of_ble_eq_true rfl) ?_
        rw [hQ9]
        exact dg_vret hx hb hr hlocks hP hS ⟨I_148, M_148, ⟨y_137, y_138, y_139, y_140, (((dg_uf_F e_148 0 3).trans (dg_uf_F e_142 0 3)).trans f_y_137), (((dg_uf_F e_148 0 4).trans (dg_uf_F e_142 0 4)).trans f_y_138), (((dg_uf_F e_148 0 5).trans (dg_uf_F e_142 0 5)).trans f_y_139), (((dg_uf_F e_148 0 8).trans (dg_uf_F e_142 0 8)).trans f_y_140), (by omega)⟩, trivial⟩ dX12_ordering_134
    · have jc_85 := dk_eqc (k := 0) (by decide +kernel) c_85
      clear w_79_1_5
      have w_79_1_6r := w_79_1_6 (by omega)
      clear w_79_1_6
      have w_79_1_6rb : 1 ≤ (y_84).toInt := by omega
      clear w_79_1_6r
      refine W.widen (k := 0) (n := 0) (Nat.le_of_ble_eq_true rfl) (Nat.le_of_ble_eq_true rfl) ?_
      rw [hQ9]
      exact dg_vret hx hb hr hlocks hP hS ⟨I_79, M_79, ⟨y_81, y_82, y_83, y_84, f_y_81, f_y_82, f_y_83, f_y_84, (by omega)⟩, trivial⟩ dX12_ordering_25
set_option maxHeartbeats 8000000 in
set_option maxRecDepth 100000 in
theorem c_m_reading (l : Launch) (g : Nat → ClassId) (D : va_G) (o : Nat) (S : dg_S) (a1 : Int32) (b_a1 : 0 ≤ (a1).toInt ∧ (a1).toInt ≤ 2) (sg : Int32) (f_sg : S.1 0 3 = .int sg) (b_sg : 0 ≤ (sg).toInt ∧ (sg).toInt ≤ 3) (sa : Int32) (f_sa : S.1 0 4 = .int sa) (b_sa : 0 ≤ (sa).toInt ∧ (sa).toInt ≤ 1600) (se : Int32) (f_se : S.1 0 5 = .int se) (b_se : 0 ≤ (se).toInt ∧ (se).toInt ≤ 1600) (sl : Int32) (f_sl : S.1 0 2 = .int sl) (b_sl : 0 ≤ (sl).toInt ∧ (sl).toInt ≤ 1600) (fk : Int32) (f_fk : S.1 0 8 = .int fk) (b_fk : 0 ≤ (fk).toInt ∧ (fk).toInt ≤ 6) (cd : Int32) (f_cd : S.1 0 34 = .int cd) (b_cd : 0 ≤ (cd).toInt ∧ (cd).toInt ≤ 1600) (hlx : (sa).toInt ≤ (se).toInt ∧ (se).toInt ≤ (sl).toInt ∧ ((sg).toInt ≠ 0 → (sa).toInt + 1 ≤ (se).toInt)) (hro : (cd).toInt ≤ (sa).toInt ∧ (sg).toInt ≠ 0) (ZW : ZWM S) (ZK : ZKM S) (ZV : ZVM S) (I : CM o S) (sz : Nat) : Met l yX12_reading (bw yX12_reading cX12_reading 3 none) ({ frames := 6, cells := 0, slots := 0, locals := 143 } : Room) (dk_Pc g D (dg_w g shM o rfM S) sz [.ref (o + 0), .int a1]) (va_Qv (fun S' => CM o S' ∧ dg_sm shM [(0, 3), (0, 4), (0, 5), (0, 6), (0, 7), (0, 8), (0, 9), (0, 12), (0, 34), (0, 36), (0, 42), (0, 43), (0, 45), (0, 46)] [16, 17, 18, 19, 22, 23, 24, 25, 26, 27] S S' ∧ (∃ y9_3 y9_4 y9_5 y9_8 y9_34 : Int32, S'.1 0 3 = .int y9_3 ∧ S'.1 0 4 = .int y9_4 ∧ S'.1 0 5 = .int y9_5 ∧ S'.1 0 8 = .int y9_8 ∧ S'.1 0 34 = .int y9_34 ∧ (((y9_4).toInt ≤ (y9_5).toInt ∧ (y9_5).toInt ≤ (sl).toInt ∧ ((y9_3).toInt ≠ 0 → (y9_4).toInt + 1 ≤ (y9_5).toInt)) ∧ (sa).toInt ≤ (y9_4).toInt ∧ ((fk).toInt ≠ 0 → (y9_8).toInt ≠ 0) ∧ (((y9_8).toInt = 0 → (sa).toInt + 1 ≤ (y9_4).toInt) ∧ ((y9_8).toInt = 0 → (y9_34).toInt ≤ (y9_4).toInt)))) ∧ (∀ k9 : Int32, S'.1 0 8 = .int k9 → k9.toInt = 0 → ZVM S') ∧ ZWM S' ∧ True) (dg_B g D shM o rfM) (dg_A o shM.length sz)) 0 0 (dg_A o shM.length sz) := by
  refine dg_met (cc := cX12_reading) (maxL := 3) (ret := none) (by decide) rfl (Nat.le_of_ble_eq_true rfl) ?_
  intro p e s m args below meth c A hAe harg hx hb hr hml hts hown hlocks hin hP K hS hA1 hA ST hsz ls hl
  rw [← hAe]
  have F : CallFix p m c cX12_reading 3 s args (bw yX12_reading cX12_reading 3 none) RX12 := ⟨hx, hb, hml, hown, hts⟩
  have hl : lv_has ls 3 [(0, .ref (o + 0)), (1, .int a1)] := hl
  have M_0 : dg_sm shM [(0, 3), (0, 4), (0, 5), (0, 6), (0, 7), (0, 8), (0, 9), (0, 12), (0, 34), (0, 36), (0, 42), (0, 43), (0, 45), (0, 46)] [16, 17, 18, 19, 22, 23, 24, 25, 26, 27] S S := dg_sm.rf
  obtain ⟨Q9, hQ9⟩ : ∃ Q : State → Prop, Q = MQ below (va_Qv (fun S' => CM o S' ∧ dg_sm shM [(0, 3), (0, 4), (0, 5), (0, 6), (0, 7), (0, 8), (0, 9), (0, 12), (0, 34), (0, 36), (0, 42), (0, 43), (0, 45), (0, 46)] [16, 17, 18, 19, 22, 23, 24, 25, 26, 27] S S' ∧ (∃ y9_3 y9_4 y9_5 y9_8 y9_34 : Int32, S'.1 0 3 = .int y9_3 ∧ S'.1 0 4 = .int y9_4 ∧ S'.1 0 5 = .int y9_5 ∧ S'.1 0 8 = .int y9_8 ∧ S'.1 0 34 = .int y9_34 ∧ (((y9_4).toInt ≤ (y9_5).toInt ∧ (y9_5).toInt ≤ (sl).toInt ∧ ((y9_3).toInt ≠ 0 → (y9_4).toInt + 1 ≤ (y9_5).toInt)) ∧ (sa).toInt ≤ (y9_4).toInt ∧ ((fk).toInt ≠ 0 → (y9_8).toInt ≠ 0) ∧ (((y9_8).toInt = 0 → (sa).toInt + 1 ≤ (y9_4).toInt) ∧ ((y9_8).toInt = 0 → (y9_34).toInt ≤ (y9_4).toInt)))) ∧ (∀ k9 : Int32, S'.1 0 8 = .int k9 → k9.toInt = 0 → ZVM S') ∧ ZWM S' ∧ True) (dg_B g D shM o rfM) A) args s 0 0 A := ⟨_, rfl⟩
  rw [← hQ9]
  obtain ⟨hlx_0, hlx_1, hlx_2⟩ := hlx
  obtain ⟨hro_0, hro_1⟩ := hro
  have hro_1b : 1 ≤ (sg).toInt := by omega
  clear hro_1
  have hlx_2r := hlx_2 (by omega)
  clear hlx_2
  obtain ⟨x_1, f_x_1, b_x_1⟩ := dg_I.int (i := 0) (k := 13) (lo := 0) (hi := 1) I sM_0 (by decide +kernel)
  obtain ⟨x_2, f_x_2, b_x_2⟩ := dg_I.int (i := 0) (k := 35) (lo := 0) (hi := 1) I sM_0 (by decide +kernel)
  have hzk := ZK _ _ f_x_1 f_x_2
  refine lv_iconst (v := 3) hx hb dX12_reading_0 (by decide +kernel) ?_
  refine lv_aload_n hx hb dX12_reading_1 rfl (lv_at hl 0 rfl) ?_
  refine dg_get (C := RX12) (T := TX12) (N := 77) hx hb hts (fun w h => bw_mem (wU_X12 w h)) hown K hP sM_0 rfl 35 (by decide) (hts _ (bw_mem wB_1195)) (fun _ h9 => h9) (v := .int x_2) f_x_2 dX12_reading_2 ?_
  refine lv_imul hx hb dX12_reading_5 ?_
  refine lv_topi (fun x_3 ex_3 => ?_)
  have jx_3 : (x_3).toInt = 3 * (x_2).toInt := by rw [ex_3]; exact dk_mulT (by decide +kernel) rfl (by omega) (by omega)
  refine lv_iload_n hx hb dX12_reading_6 rfl (lv_at hl 1 rfl) ?_
  refine lv_iadd hx hb dX12_reading_7 ?_
  refine lv_topi (fun x_4 ex_4 => ?_)
  have jx_4 : (x_4).toInt = (x_3).toInt + (a1).toInt := by rw [ex_4]; exact dk_addT rfl rfl (by omega) (by omega)
  refine lv_istore_n (lv' := [(2, .int x_4), (0, .ref (o + 0)), (1, .int a1)]) hx hb dX12_reading_8 rfl hl (by decide) rfl (fun ls hl => ?_)
  refine lv_aload_n hx hb dX12_reading_9 rfl (lv_at hl 1 rfl) ?_
  refine lv_aload_n hx hb dX12_reading_10 rfl (lv_at hl 1 rfl) ?_
  refine dg_get (C := RX12) (T := TX12) (N := 77) hx hb hts (fun w h => bw_mem (wU_X12 w h)) hown K hP sM_0 rfl 28 (by decide) (hts _ (bw_mem wB_899)) (fun _ h9 => h9) (v := .ref (o + 16)) (show S.1 0 28 = .ref (o + 16) from dg_I.rel (d := 16) I sM_0 (by decide +kernel)) dX12_reading_11 ?_
  refine lv_iload_n hx hb dX12_reading_14 rfl (lv_at hl 0 rfl) ?_
  have hin_5 : vp_in x_4 6 := (dk_inv (by omega) (by omega))
  refine dg_iald hx hb K hP sM_16 hin_5 dX12_reading_15 (fun x_6 ex_6 => ?_)
  have b_x_6 := dk_all_at (dg_I.row (lo := (-1)) (hi := 1600) I sM_16 (by decide +kernel)) hin_5 ex_6
  refine lv_iconst (v := (-1)) hx hb dX12_reading_16 (by decide +kernel) ?_
  refine lv_icmp_eq (tgt := 24) hx hb dX12_reading_17 (by decide) (fun c_7 => ?_) (fun c_7 => ?_)
  · have jc_7 := dk_eqc (k := (-1)) (by decide +kernel) c_7
    refine lv_iconst (v := 0) hx hb dX12_reading_24 (by decide +kernel) ?_
    have hz_8 : (0 : Int32).toInt = 0 := by decide +kernel
    refine dg_calli hS hA1 hA (va_runV (As := [.int 0]) (rest := []) F (c_m_isCounted l g D o S 0 (by decide +kernel) sg f_sg (by omega) sa f_sa (by omega) se f_se (by omega) sl f_sl (by omega) fk f_fk (by omega) (by omega) I s.heap.size) (cwV 1 hts (bw_V wB_1263 wB_1264 wB_1265 wB_881 wB_1262) rfl rfl rfl (by decide +kernel) ⟨Nat.le_of_ble_eq_true rfl, Nat.le_of_ble_eq_true rfl⟩) (dg_preV sM_0 rfl K ST hP hS hA1 hA) rfl rfl hl.1 rfl (lv_room (Nat.le_of_ble_eq_true rfl)) dX12_reading_25 ⟨Nat.le_of_ble_eq_true rfl, Nat.le_of_ble_eq_true rfl⟩) (fun x_9 S_10 hw_10 H locs hP hS => ?_)
    obtain ⟨I_10, m_10, w_10_0, w_10_1, -⟩ := hw_10
    have M_10 := dg_sm.tr M_0 m_10 (by decide) (by decide)
    have hz_11 : (0 : Int32).toInt = 0 := by decide +kernel
    have w_10_0 : 0 ≤ (x_9).toInt ∧ (x_9).toInt ≤ 1 := w_10_0
    obtain ⟨y_12, y_13, y_14, y_15, f_y_12, f_y_13, f_y_14, f_y_15, w_10_1⟩ := w_10_1
    have w_10_1 : ((y_13).toInt ≤ (y_14).toInt ∧ (y_14).toInt ≤ (sl).toInt ∧ ((y_12).toInt ≠ 0 → (y_13).toInt + 1 ≤ (y_14).toInt)) ∧ (sa).toInt ≤ (y_13).toInt ∧ ((fk).toInt ≠ 0 → (y_15).toInt ≠ 0) ∧ (((x_9).toInt = 1 → ((y_15).toInt = 0 ∧ (fk).toInt = 0 ∧ ((0 : Int32)).toInt = 0 ∧ ((sg).toInt ≠ 0 → (sa).toInt + 1 ≤ (y_13).toInt))) ∧ ((x_9).toInt = 0 → (y_15).toInt ≠ 0)) := w_10_1
    obtain ⟨⟨w_10_1_0, w_10_1_1, w_10_1_2⟩, w_10_1_3, w_10_1_4, ⟨w_10_1_5, w_10_1_6⟩⟩ := w_10_1
    have b_y_12 : 0 ≤ (y_12).toInt ∧ (y_12).toInt ≤ 3 := dg_I.intb (lo := 0) (hi := 3) I_10 sM_0 (by decide +kernel) f_y_12
    have b_y_13 : 0 ≤ (y_13).toInt ∧ (y_13).toInt ≤ 1600 := dg_I.intb (lo := 0) (hi := 1600) I_10 sM_0 (by decide +kernel) f_y_13
    have b_y_14 : 0 ≤ (y_14).toInt ∧ (y_14).toInt ≤ 1600 := dg_I.intb (lo := 0) (hi := 1600) I_10 sM_0 (by decide +kernel) f_y_14
    have b_y_15 : 0 ≤ (y_15).toInt ∧ (y_15).toInt ≤ 6 := dg_I.intb (lo := 0) (hi := 6) I_10 sM_0 (by decide +kernel) f_y_15
    refine lv_if_ne (tgt := 32) hx hb dX12_reading_28 (by decide) (fun c_16 => ?_) (fun c_16 => ?_)
    · have jc_16 := dk_neqc (k := 0) (by decide +kernel) c_16
      have jbc_16 : 1 ≤ (x_9).toInt := by omega
      clear jc_16
      have w_10_1_5r := w_10_1_5 (by omega)
      clear w_10_1_5
      clear w_10_1_6
      obtain ⟨w_10_1_5r_0, w_10_1_5r_1, w_10_1_5r_2, w_10_1_5r_3⟩ := w_10_1_5r
      clear w_10_1_4
      have w_10_1_5r_3r := w_10_1_5r_3 (by omega)
      clear w_10_1_5r_3
      refine lv_aload_n hx hb dX12_reading_32 rfl (lv_at hl 1 rfl) ?_
      refine lv_iload_n hx hb dX12_reading_33 rfl (lv_at hl 2 rfl) ?_
      refine dg_put (ci := 12) (v := .int a1) (ty := tyX12 36) (C := RX12) (T := TX12) (N := 77) hx hb hts (fun w h => bw_mem (wU_X12 w h)) tyX12 tyX12_ok nmX12 hown K hP hS hA1 sM_0 rfl 36 (by decide) (hts _ (bw_mem wB_1231)) (fun _ h9 => h9) rfl (by decide +kernel) rfl rfl dX12_reading_34 (fun S_17 e_17 H locs hP hS => ?_)
      have I_17 := dg_I.uFi (lo := 0) (hi := 2) I_10 e_17 sM_0 (by decide +kernel) (show 0 ≤ (a1).toInt ∧ (a1).toInt ≤ 2 from (by omega))
      have M_17 := dg_sm.uF M_10 e_17 sM_0 (by decide)
      refine lv_aload_n hx hb dX12_reading_37 rfl (lv_at hl 1 rfl) ?_
      refine dg_get (C := RX12) (T := TX12) (N := 77) hx hb hts (fun w h => bw_mem (wU_X12 w h)) hown K hP sM_0 rfl 28 (by decide) (hts _ (bw_mem wB_899)) (fun _ h9 => h9) (v := .ref (o + 16)) (show S_17.1 0 28 = .ref (o + 16) from dg_I.rel (d := 16) I_17 sM_0 (by decide +kernel)) dX12_reading_38 ?_
      refine lv_iload_n hx hb dX12_reading_41 rfl (lv_at hl 0 rfl) ?_
      refine lv_aload_n hx hb dX12_reading_42 rfl (lv_at hl 1 rfl) ?_
      refine dg_get (C := RX12) (T := TX12) (N := 77) hx hb hts (fun w h => bw_mem (wU_X12 w h)) hown K hP sM_0 rfl 34 (by decide) (hts _ (bw_mem wB_1200)) (fun _ h9 => h9) (v := .int cd) (((dg_uF_ne e_17 (fun z => absurd z.2 (by decide))).trans (m_10.1 0 34 _ sM_0 (by decide))).trans f_cd) dX12_reading_43 ?_
      have hin_18 : vp_in x_4 6 := (dk_inv (by omega) (by omega))
      refine dg_iast hx hb K hP hS hA1 sM_16 hin_18 dX12_reading_46 (fun S_19 e_19 H locs hP hS => ?_)
      have I_19 := dg_I.ufu (lo := (-1)) (hi := 1600) I_17 e_19 sM_16 (by decide +kernel) (show (-1) ≤ (cd).toInt ∧ (cd).toInt ≤ 1600 from (by omega))
      have M_19 := dg_sm.uf M_17 e_19 sM_16 (by decide)
      have ZW_19 : ZWM S_19 := ZWM.up1 (r := 16) (ZWM.keep (ZWM.keep ZW m_10 (by decide) (by decide) (by decide) (by decide)) (dg_sm.uF (WF := [(0, 36)]) (WA := []) dg_sm.rf e_17 sM_0 (by decide)) (by decide) (by decide) (by decide) (by decide)) (by decide) (((dg_uF_ne e_17 (fun z => absurd z.2 (by decide))).trans (m_10.1 0 13 _ sM_0 (by decide))).trans f_x_1) (by omega) e_19 (by omega)
      have Q_19 : QSM S_19 0 := ZVM.begins (ZVM.keep ZV m_10 (by decide) (by decide) (by decide) (by decide) (by decide)) ((m_10.1 0 35 _ sM_0 (by decide)).trans f_x_2) ((m_10.1 0 34 _ sM_0 (by decide)).trans f_cd) (by omega) (by omega) (by omega) e_17 (by omega) e_19
      refine lv_aload_n hx hb dX12_reading_47 rfl (lv_at hl 1 rfl) ?_
      refine lv_iload_n hx hb dX12_reading_48 rfl (lv_at hl 2 rfl) ?_
      refine lv_iconst (v := 1) hx hb dX12_reading_49 (by decide +kernel) ?_
      refine lv_icmp_ne (tgt := 57) hx hb dX12_reading_50 (by decide) (fun c_20 => ?_) (fun c_20 => ?_)
      · have jc_20 := dk_neqc (k := 1) (by decide +kernel) c_20
        clear jc_20
        refine lv_iconst (v := 0) hx hb dX12_reading_57 (by decide +kernel) ?_
        have hz_21 : (0 : Int32).toInt = 0 := by decide +kernel
        refine dg_callv hS hA1 hA (va_runV (As := [.int 0]) (rest := []) F (c_m_reads l g D o S_19 0 (by decide +kernel) y_12 (((dg_uf_F e_19 0 3).trans (dg_uF_ne e_17 (fun z => absurd z.2 (by decide)))).trans f_y_12) (by omega) y_13 (((dg_uf_F e_19 0 4).trans (dg_uF_ne e_17 (fun z => absurd z.2 (by decide)))).trans f_y_13) (by omega) y_14 (((dg_uf_F e_19 0 5).trans (dg_uF_ne e_17 (fun z => absurd z.2 (by decide)))).trans f_y_14) (by omega) sl (((dg_uf_F e_19 0 2).trans ((dg_uF_ne e_17 (fun z => absurd z.2 (by decide))).trans (m_10.1 0 2 _ sM_0 (by decide)))).trans f_sl) (by omega) y_15 (((dg_uf_F e_19 0 8).trans (dg_uF_ne e_17 (fun z => absurd z.2 (by decide)))).trans f_y_15) (by omega) cd (((dg_uf_F e_19 0 34).trans ((dg_uF_ne e_17 (fun z => absurd z.2 (by decide))).trans (m_10.1 0 34 _ sM_0 (by decide)))).trans f_cd) (by omega) (by omega) (by omega) (by omega) ZW_19 (ZKM.keep (ZKM.keep (ZKM.keep ZK m_10 (by decide) (by decide)) (dg_sm.uF (WF := [(0, 36)]) (WA := []) dg_sm.rf e_17 sM_0 (by decide)) (by decide) (by decide)) (dg_sm.uf (WF := []) (WA := [16]) dg_sm.rf e_19 sM_16 (by decide)) (by decide) (by decide)) I_19 H.size) (cwV 1 hts (bw_V wB_1275 wB_1276 wB_1277 wB_881 wB_1274) rfl rfl rfl (by decide +kernel) ⟨Nat.le_of_ble_eq_true rfl, Nat.le_of_ble_eq_true rfl⟩) (dg_preV sM_0 rfl K ST hP hS hA1 hA) rfl rfl hl.1 rfl (lv_room (Nat.le_of_ble_eq_true rfl)) dX12_reading_58 ⟨Nat.le_of_ble_eq_true rfl, Nat.le_of_ble_eq_true rfl⟩) (fun S_22 hw_22 H locs hP hS => ?_)
        obtain ⟨I_22, m_22, w_22_0, w_22_1, w_22_2, -⟩ := hw_22
        have M_22 := dg_sm.tr M_19 m_22 (by decide) (by decide)
        have hz_23 : (0 : Int32).toInt = 0 := by decide +kernel
        obtain ⟨y_24, y_25, y_26, y_27, y_28, f_y_24, f_y_25, f_y_26, f_y_27, f_y_28, w_22_0⟩ := w_22_0
        have w_22_0 : ((y_25).toInt ≤ (y_26).toInt ∧ (y_26).toInt ≤ (sl).toInt ∧ ((y_24).toInt ≠ 0 → (y_25).toInt + 1 ≤ (y_26).toInt)) ∧ (y_13).toInt ≤ (y_25).toInt ∧ ((y_15).toInt ≠ 0 → (y_27).toInt ≠ 0) ∧ ((y_27).toInt = 0 → (y_28).toInt ≤ (y_25).toInt) := w_22_0
        obtain ⟨⟨w_22_0_0, w_22_0_1, w_22_0_2⟩, w_22_0_3, w_22_0_4, w_22_0_5⟩ := w_22_0
        clear w_22_0_4
        have b_y_24 : 0 ≤ (y_24).toInt ∧ (y_24).toInt ≤ 3 := dg_I.intb (lo := 0) (hi := 3) I_22 sM_0 (by decide +kernel) f_y_24
        have b_y_25 : 0 ≤ (y_25).toInt ∧ (y_25).toInt ≤ 1600 := dg_I.intb (lo := 0) (hi := 1600) I_22 sM_0 (by decide +kernel) f_y_25
        have b_y_26 : 0 ≤ (y_26).toInt ∧ (y_26).toInt ≤ 1600 := dg_I.intb (lo := 0) (hi := 1600) I_22 sM_0 (by decide +kernel) f_y_26
        have b_y_27 : 0 ≤ (y_27).toInt ∧ (y_27).toInt ≤ 6 := dg_I.intb (lo := 0) (hi := 6) I_22 sM_0 (by decide +kernel) f_y_27
        have b_y_28 : 0 ≤ (y_28).toInt ∧ (y_28).toInt ≤ 1600 := dg_I.intb (lo := 0) (hi := 1600) I_22 sM_0 (by decide +kernel) f_y_28
        have w_22_1 : ∀ k9 : Int32, S_22.1 0 8 = .int k9 → k9.toInt = 0 → QEM S_22 := w_22_1
        refine lv_aload_n hx hb dX12_reading_61 rfl (lv_at hl 1 rfl) ?_
        refine dg_get (C := RX12) (T := TX12) (N := 77) hx hb hts (fun w h => bw_mem (wU_X12 w h)) hown K hP sM_0 rfl 29 (by decide) (hts _ (bw_mem wB_956)) (fun _ h9 => h9) (v := .ref (o + 17)) (show S_22.1 0 29 = .ref (o + 17) from dg_I.rel (d := 17) I_22 sM_0 (by decide +kernel)) dX12_reading_62 ?_
        refine lv_iload_n hx hb dX12_reading_65 rfl (lv_at hl 0 rfl) ?_
        refine lv_aload_n hx hb dX12_reading_66 rfl (lv_at hl 1 rfl) ?_
        refine dg_get (C := RX12) (T := TX12) (N := 77) hx hb hts (fun w h => bw_mem (wU_X12 w h)) hown K hP sM_0 rfl 34 (by decide) (hts _ (bw_mem wB_1200)) (fun _ h9 => h9) (v := .int y_28) f_y_28 dX12_reading_67 ?_
        have hin_29 : vp_in x_4 6 := (dk_inv (by omega) (by omega))
        refine dg_iast hx hb K hP hS hA1 sM_17 hin_29 dX12_reading_70 (fun S_30 e_30 H locs hP hS => ?_)
        have I_30 := dg_I.ufu (lo := 0) (hi := 1600) I_22 e_30 sM_17 (by decide +kernel) (show 0 ≤ (y_28).toInt ∧ (y_28).toInt ≤ 1600 from (by omega))
        have M_30 := dg_sm.uf M_22 e_30 sM_17 (by decide)
        have ZW_30 : ZWM S_30 := ZWM.up1 (r := 17) w_22_2 (by decide) (((m_22.1 0 13 _ sM_0 (by decide)).trans ((dg_uf_F e_19 0 13).trans ((dg_uF_ne e_17 (fun z => absurd z.2 (by decide))).trans (m_10.1 0 13 _ sM_0 (by decide))))).trans f_x_1) (by omega) e_30 (by omega)
        refine W.widen (k := 0) (n := 0) (Nat.le_of_ble_eq_true rfl) (Nat.le_of_ble_eq_true rfl) ?_
        rw [hQ9]
        exact dg_vret hx hb hr hlocks hP hS ⟨I_30, M_30, ⟨y_24, y_25, y_26, y_27, y_28, ((dg_uf_F e_30 0 3).trans f_y_24), ((dg_uf_F e_30 0 4).trans f_y_25), ((dg_uf_F e_30 0 5).trans f_y_26), ((dg_uf_F e_30 0 8).trans f_y_27), ((dg_uf_F e_30 0 34).trans f_y_28), (by omega)⟩, (fun k9 hk9 hk0 => by have q9 := (((dg_uf_F e_30 0 8).trans f_y_27)).symm.trans hk9; cases q9; obtain ⟨x9, hx9⟩ := w_22_1 _ f_y_27 hk0; exact QSM.ends hx9 (((m_22.1 0 35 _ sM_0 (by decide)).trans ((dg_uf_F e_19 0 35).trans ((dg_uF_ne e_17 (fun z => absurd z.2 (by decide))).trans (m_10.1 0 35 _ sM_0 (by decide))))).trans f_x_2) (((m_22.1 0 36 _ sM_0 (by decide)).trans (dg_uf_F e_19 0 36)).trans (dg_uF_at e_17)) f_y_28 (by omega) (by omega) e_30), ZW_30, trivial⟩ dX12_reading_71
      · have jc_20 := dk_eqc (k := 1) (by decide +kernel) c_20
        refine lv_iconst (v := 1) hx hb dX12_reading_53 (by decide +kernel) ?_
        refine lv_goto (tgt := 58) hx hb dX12_reading_54 (by decide) ?_
        have hz_31 : (1 : Int32).toInt = 1 := by decide +kernel
        refine dg_callv hS hA1 hA (va_runV (As := [.int 1]) (rest := []) F (c_m_reads l g D o S_19 1 (by decide +kernel) y_12 (((dg_uf_F e_19 0 3).trans (dg_uF_ne e_17 (fun z => absurd z.2 (by decide)))).trans f_y_12) (by omega) y_13 (((dg_uf_F e_19 0 4).trans (dg_uF_ne e_17 (fun z => absurd z.2 (by decide)))).trans f_y_13) (by omega) y_14 (((dg_uf_F e_19 0 5).trans (dg_uF_ne e_17 (fun z => absurd z.2 (by decide)))).trans f_y_14) (by omega) sl (((dg_uf_F e_19 0 2).trans ((dg_uF_ne e_17 (fun z => absurd z.2 (by decide))).trans (m_10.1 0 2 _ sM_0 (by decide)))).trans f_sl) (by omega) y_15 (((dg_uf_F e_19 0 8).trans (dg_uF_ne e_17 (fun z => absurd z.2 (by decide)))).trans f_y_15) (by omega) cd (((dg_uf_F e_19 0 34).trans ((dg_uF_ne e_17 (fun z => absurd z.2 (by decide))).trans (m_10.1 0 34 _ sM_0 (by decide)))).trans f_cd) (by omega) (by omega) (by omega) (by omega) ZW_19 (ZKM.keep (ZKM.keep (ZKM.keep ZK m_10 (by decide) (by decide)) (dg_sm.uF (WF := [(0, 36)]) (WA := []) dg_sm.rf e_17 sM_0 (by decide)) (by decide) (by decide)) (dg_sm.uf (WF := []) (WA := [16]) dg_sm.rf e_19 sM_16 (by decide)) (by decide) (by decide)) I_19 H.size) (cwV 1 hts (bw_V wB_1275 wB_1276 wB_1277 wB_881 wB_1274) rfl rfl rfl (by decide +kernel) ⟨Nat.le_of_ble_eq_true rfl, Nat.le_of_ble_eq_true rfl⟩) (dg_preV sM_0 rfl K ST hP hS hA1 hA) rfl rfl hl.1 rfl (lv_room (Nat.le_of_ble_eq_true rfl)) dX12_reading_58 ⟨Nat.le_of_ble_eq_true rfl, Nat.le_of_ble_eq_true rfl⟩) (fun S_32 hw_32 H locs hP hS => ?_)
        obtain ⟨I_32, m_32, w_32_0, w_32_1, w_32_2, -⟩ := hw_32
        have M_32 := dg_sm.tr M_19 m_32 (by decide) (by decide)
        have hz_33 : (1 : Int32).toInt = 1 := by decide +kernel
        obtain ⟨y_34, y_35, y_36, y_37, y_38, f_y_34, f_y_35, f_y_36, f_y_37, f_y_38, w_32_0⟩ := w_32_0
        have w_32_0 : ((y_35).toInt ≤ (y_36).toInt ∧ (y_36).toInt ≤ (sl).toInt ∧ ((y_34).toInt ≠ 0 → (y_35).toInt + 1 ≤ (y_36).toInt)) ∧ (y_13).toInt ≤ (y_35).toInt ∧ ((y_15).toInt ≠ 0 → (y_37).toInt ≠ 0) ∧ ((y_37).toInt = 0 → (y_38).toInt ≤ (y_35).toInt) := w_32_0
        obtain ⟨⟨w_32_0_0, w_32_0_1, w_32_0_2⟩, w_32_0_3, w_32_0_4, w_32_0_5⟩ := w_32_0
        clear w_32_0_4
        have b_y_34 : 0 ≤ (y_34).toInt ∧ (y_34).toInt ≤ 3 := dg_I.intb (lo := 0) (hi := 3) I_32 sM_0 (by decide +kernel) f_y_34
        have b_y_35 : 0 ≤ (y_35).toInt ∧ (y_35).toInt ≤ 1600 := dg_I.intb (lo := 0) (hi := 1600) I_32 sM_0 (by decide +kernel) f_y_35
        have b_y_36 : 0 ≤ (y_36).toInt ∧ (y_36).toInt ≤ 1600 := dg_I.intb (lo := 0) (hi := 1600) I_32 sM_0 (by decide +kernel) f_y_36
        have b_y_37 : 0 ≤ (y_37).toInt ∧ (y_37).toInt ≤ 6 := dg_I.intb (lo := 0) (hi := 6) I_32 sM_0 (by decide +kernel) f_y_37
        have b_y_38 : 0 ≤ (y_38).toInt ∧ (y_38).toInt ≤ 1600 := dg_I.intb (lo := 0) (hi := 1600) I_32 sM_0 (by decide +kernel) f_y_38
        have w_32_1 : ∀ k9 : Int32, S_32.1 0 8 = .int k9 → k9.toInt = 0 → QEM S_32 := w_32_1
        refine lv_aload_n hx hb dX12_reading_61 rfl (lv_at hl 1 rfl) ?_
        refine dg_get (C := RX12) (T := TX12) (N := 77) hx hb hts (fun w h => bw_mem (wU_X12 w h)) hown K hP sM_0 rfl 29 (by decide) (hts _ (bw_mem wB_956)) (fun _ h9 => h9) (v := .ref (o + 17)) (show S_32.1 0 29 = .ref (o + 17) from dg_I.rel (d := 17) I_32 sM_0 (by decide +kernel)) dX12_reading_62 ?_
        refine lv_iload_n hx hb dX12_reading_65 rfl (lv_at hl 0 rfl) ?_
        refine lv_aload_n hx hb dX12_reading_66 rfl (lv_at hl 1 rfl) ?_
        refine dg_get (C := RX12) (T := TX12) (N := 77) hx hb hts (fun w h => bw_mem (wU_X12 w h)) hown K hP sM_0 rfl 34 (by decide) (hts _ (bw_mem wB_1200)) (fun _ h9 => h9) (v := .int y_38) f_y_38 dX12_reading_67 ?_
        have hin_39 : vp_in x_4 6 := (dk_inv (by omega) (by omega))
        refine dg_iast hx hb K hP hS hA1 sM_17 hin_39 dX12_reading_70 (fun S_40 e_40 H locs hP hS => ?_)
        have I_40 := dg_I.ufu (lo := 0) (hi := 1600) I_32 e_40 sM_17 (by decide +kernel) (show 0 ≤ (y_38).toInt ∧ (y_38).toInt ≤ 1600 from (by omega))
        have M_40 := dg_sm.uf M_32 e_40 sM_17 (by decide)
        have ZW_40 : ZWM S_40 := ZWM.up1 (r := 17) w_32_2 (by decide) (((m_32.1 0 13 _ sM_0 (by decide)).trans ((dg_uf_F e_19 0 13).trans ((dg_uF_ne e_17 (fun z => absurd z.2 (by decide))).trans (m_10.1 0 13 _ sM_0 (by decide))))).trans f_x_1) (by omega) e_40 (by omega)
        refine W.widen (k := 0) (n := 0) (Nat.le_of_ble_eq_true rfl) (Nat.le_of_ble_eq_true rfl) ?_
        rw [hQ9]
        exact dg_vret hx hb hr hlocks hP hS ⟨I_40, M_40, ⟨y_34, y_35, y_36, y_37, y_38, ((dg_uf_F e_40 0 3).trans f_y_34), ((dg_uf_F e_40 0 4).trans f_y_35), ((dg_uf_F e_40 0 5).trans f_y_36), ((dg_uf_F e_40 0 8).trans f_y_37), ((dg_uf_F e_40 0 34).trans f_y_38), (by omega)⟩, (fun k9 hk9 hk0 => by have q9 := (((dg_uf_F e_40 0 8).trans f_y_37)).symm.trans hk9; cases q9; obtain ⟨x9, hx9⟩ := w_32_1 _ f_y_37 hk0; exact QSM.ends hx9 (((m_32.1 0 35 _ sM_0 (by decide)).trans ((dg_uf_F e_19 0 35).trans ((dg_uF_ne e_17 (fun z => absurd z.2 (by decide))).trans (m_10.1 0 35 _ sM_0 (by decide))))).trans f_x_2) (((m_32.1 0 36 _ sM_0 (by decide)).trans (dg_uf_F e_19 0 36)).trans (dg_uF_at e_17)) f_y_38 (by omega) (by omega) e_40), ZW_40, trivial⟩ dX12_reading_71
    · have jc_16 := dk_eqc (k := 0) (by decide +kernel) c_16
      clear w_10_1_5
      have w_10_1_6r := w_10_1_6 (by omega)
      clear w_10_1_6
      have w_10_1_6rb : 1 ≤ (y_15).toInt := by omega
      clear w_10_1_6r
      refine W.widen (k := 0) (n := 0) (Nat.le_of_ble_eq_true rfl) (Nat.le_of_ble_eq_true rfl) ?_
      rw [hQ9]
      exact dg_vret hx hb hr hlocks hP hS ⟨I_10, M_10, ⟨y_12, y_13, y_14, y_15, cd, f_y_12, f_y_13, f_y_14, f_y_15, ((m_10.1 0 34 _ sM_0 (by decide)).trans f_cd), (by omega)⟩, (fun k9 hk9 hk0 => by have q9 := (f_y_15).symm.trans hk9; cases q9; omega), (ZWM.keep ZW m_10 (by decide) (by decide) (by decide) (by decide)), trivial⟩ dX12_reading_31
  · have jc_7 := dk_neqc (k := (-1)) (by decide +kernel) c_7
    have jbc_7 : 0 ≤ (x_6).toInt := by omega
    clear jc_7
    refine lv_iconst (v := 1) hx hb dX12_reading_20 (by decide +kernel) ?_
    refine lv_goto (tgt := 25) hx hb dX12_reading_21 (by decide) ?_
    have hz_41 : (1 : Int32).toInt = 1 := by decide +kernel
    refine dg_calli hS hA1 hA (va_runV (As := [.int 1]) (rest := []) F (c_m_isCounted l g D o S 1 (by decide +kernel) sg f_sg (by omega) sa f_sa (by omega) se f_se (by omega) sl f_sl (by omega) fk f_fk (by omega) (by omega) I s.heap.size) (cwV 1 hts (bw_V wB_1263 wB_1264 wB_1265 wB_881 wB_1262) rfl rfl rfl (by decide +kernel) ⟨Nat.le_of_ble_eq_true rfl, Nat.le_of_ble_eq_true rfl⟩) (dg_preV sM_0 rfl K ST hP hS hA1 hA) rfl rfl hl.1 rfl (lv_room (Nat.le_of_ble_eq_true rfl)) dX12_reading_25 ⟨Nat.le_of_ble_eq_true rfl, Nat.le_of_ble_eq_true rfl⟩) (fun x_42 S_43 hw_43 H locs hP hS => ?_)
    obtain ⟨I_43, m_43, w_43_0, w_43_1, -⟩ := hw_43
    have M_43 := dg_sm.tr M_0 m_43 (by decide) (by decide)
    have hz_44 : (1 : Int32).toInt = 1 := by decide +kernel
    have w_43_0 : 0 ≤ (x_42).toInt ∧ (x_42).toInt ≤ 1 := w_43_0
    obtain ⟨y_45, y_46, y_47, y_48, f_y_45, f_y_46, f_y_47, f_y_48, w_43_1⟩ := w_43_1
    have w_43_1 : ((y_46).toInt ≤ (y_47).toInt ∧ (y_47).toInt ≤ (sl).toInt ∧ ((y_45).toInt ≠ 0 → (y_46).toInt + 1 ≤ (y_47).toInt)) ∧ (sa).toInt ≤ (y_46).toInt ∧ ((fk).toInt ≠ 0 → (y_48).toInt ≠ 0) ∧ (((x_42).toInt = 1 → ((y_48).toInt = 0 ∧ (fk).toInt = 0 ∧ ((1 : Int32)).toInt = 0 ∧ ((sg).toInt ≠ 0 → (sa).toInt + 1 ≤ (y_46).toInt))) ∧ ((x_42).toInt = 0 → (y_48).toInt ≠ 0)) := w_43_1
    obtain ⟨⟨w_43_1_0, w_43_1_1, w_43_1_2⟩, w_43_1_3, w_43_1_4, ⟨w_43_1_5, w_43_1_6⟩⟩ := w_43_1
    have b_y_45 : 0 ≤ (y_45).toInt ∧ (y_45).toInt ≤ 3 := dg_I.intb (lo := 0) (hi := 3) I_43 sM_0 (by decide +kernel) f_y_45
    have b_y_46 : 0 ≤ (y_46).toInt ∧ (y_46).toInt ≤ 1600 := dg_I.intb (lo := 0) (hi := 1600) I_43 sM_0 (by decide +kernel) f_y_46
    have b_y_47 : 0 ≤ (y_47).toInt ∧ (y_47).toInt ≤ 1600 := dg_I.intb (lo := 0) (hi := 1600) I_43 sM_0 (by decide +kernel) f_y_47
    have b_y_48 : 0 ≤ (y_48).toInt ∧ (y_48).toInt ≤ 6 := dg_I.intb (lo := 0) (hi := 6) I_43 sM_0 (by decide +kernel) f_y_48
    refine lv_if_ne (tgt := 32) hx hb dX12_reading_28 (by decide) (fun c_49 => ?_) (fun c_49 => ?_)
    · have jc_49 := dk_neqc (k := 0) (by decide +kernel) c_49
      have jbc_49 : 1 ≤ (x_42).toInt := by omega
      clear jc_49
      have w_43_1_5r := w_43_1_5 (by omega)
      clear w_43_1_5
      clear w_43_1_6
      obtain ⟨w_43_1_5r_0, w_43_1_5r_1, w_43_1_5r_2, w_43_1_5r_3⟩ := w_43_1_5r
      clear w_43_1_4
      have w_43_1_5r_3r := w_43_1_5r_3 (by omega)
      clear w_43_1_5r_3
      refine lv_aload_n hx hb dX12_reading_32 rfl (lv_at hl 1 rfl) ?_
      refine lv_iload_n hx hb dX12_reading_33 rfl (lv_at hl 2 rfl) ?_
      refine dg_put (ci := 12) (v := .int a1) (ty := tyX12 36) (C := RX12) (T := TX12) (N := 77) hx hb hts (fun w h => bw_mem (wU_X12 w h)) tyX12 tyX12_ok nmX12 hown K hP hS hA1 sM_0 rfl 36 (by decide) (hts _ (bw_mem wB_1231)) (fun _ h9 => h9) rfl (by decide +kernel) rfl rfl dX12_reading_34 (fun S_50 e_50 H locs hP hS => ?_)
      have I_50 := dg_I.uFi (lo := 0) (hi := 2) I_43 e_50 sM_0 (by decide +kernel) (show 0 ≤ (a1).toInt ∧ (a1).toInt ≤ 2 from (by omega))
      have M_50 := dg_sm.uF M_43 e_50 sM_0 (by decide)
      refine lv_aload_n hx hb dX12_reading_37 rfl (lv_at hl 1 rfl) ?_
      refine dg_get (C := RX12) (T := TX12) (N := 77) hx hb hts (fun w h => bw_mem (wU_X12 w h)) hown K hP sM_0 rfl 28 (by decide) (hts _ (bw_mem wB_899)) (fun _ h9 => h9) (v := .ref (o + 16)) (show S_50.1 0 28 = .ref (o + 16) from dg_I.rel (d := 16) I_50 sM_0 (by decide +kernel)) dX12_reading_38 ?_
      refine lv_iload_n hx hb dX12_reading_41 rfl (lv_at hl 0 rfl) ?_
      refine lv_aload_n hx hb dX12_reading_42 rfl (lv_at hl 1 rfl) ?_
      refine dg_get (C := RX12) (T := TX12) (N := 77) hx hb hts (fun w h => bw_mem (wU_X12 w h)) hown K hP sM_0 rfl 34 (by decide) (hts _ (bw_mem wB_1200)) (fun _ h9 => h9) (v := .int cd) (((dg_uF_ne e_50 (fun z => absurd z.2 (by decide))).trans (m_43.1 0 34 _ sM_0 (by decide))).trans f_cd) dX12_reading_43 ?_
      have hin_51 : vp_in x_4 6 := (dk_inv (by omega) (by omega))
      refine dg_iast hx hb K hP hS hA1 sM_16 hin_51 dX12_reading_46 (fun S_52 e_52 H locs hP hS => ?_)
      have I_52 := dg_I.ufu (lo := (-1)) (hi := 1600) I_50 e_52 sM_16 (by decide +kernel) (show (-1) ≤ (cd).toInt ∧ (cd).toInt ≤ 1600 from (by omega))
      have M_52 := dg_sm.uf M_50 e_52 sM_16 (by decide)
      have ZW_52 : ZWM S_52 := ZWM.up1 (r := 16) (ZWM.keep (ZWM.keep ZW m_43 (by decide) (by decide) (by decide) (by decide)) (dg_sm.uF (WF := [(0, 36)]) (WA := []) dg_sm.rf e_50 sM_0 (by decide)) (by decide) (by decide) (by decide) (by decide)) (by decide) (((dg_uF_ne e_50 (fun z => absurd z.2 (by decide))).trans (m_43.1 0 13 _ sM_0 (by decide))).trans f_x_1) (by omega) e_52 (by omega)
      have Q_52 : QSM S_52 0 := ZVM.begins (ZVM.keep ZV m_43 (by decide) (by decide) (by decide) (by decide) (by decide)) ((m_43.1 0 35 _ sM_0 (by decide)).trans f_x_2) ((m_43.1 0 34 _ sM_0 (by decide)).trans f_cd) (by omega) (by omega) (by omega) e_50 (by omega) e_52
      refine lv_aload_n hx hb dX12_reading_47 rfl (lv_at hl 1 rfl) ?_
      refine lv_iload_n hx hb dX12_reading_48 rfl (lv_at hl 2 rfl) ?_
      refine lv_iconst (v := 1) hx hb dX12_reading_49 (by decide +kernel) ?_
      refine lv_icmp_ne (tgt := 57) hx hb dX12_reading_50 (by decide) (fun c_53 => ?_) (fun c_53 => ?_)
      · have jc_53 := dk_neqc (k := 1) (by decide +kernel) c_53
        clear jc_53
        refine lv_iconst (v := 0) hx hb dX12_reading_57 (by decide +kernel) ?_
        have hz_54 : (0 : Int32).toInt = 0 := by decide +kernel
        refine dg_callv hS hA1 hA (va_runV (As := [.int 0]) (rest := []) F (c_m_reads l g D o S_52 0 (by decide +kernel) y_45 (((dg_uf_F e_52 0 3).trans (dg_uF_ne e_50 (fun z => absurd z.2 (by decide)))).trans f_y_45) (by omega) y_46 (((dg_uf_F e_52 0 4).trans (dg_uF_ne e_50 (fun z => absurd z.2 (by decide)))).trans f_y_46) (by omega) y_47 (((dg_uf_F e_52 0 5).trans (dg_uF_ne e_50 (fun z => absurd z.2 (by decide)))).trans f_y_47) (by omega) sl (((dg_uf_F e_52 0 2).trans ((dg_uF_ne e_50 (fun z => absurd z.2 (by decide))).trans (m_43.1 0 2 _ sM_0 (by decide)))).trans f_sl) (by omega) y_48 (((dg_uf_F e_52 0 8).trans (dg_uF_ne e_50 (fun z => absurd z.2 (by decide)))).trans f_y_48) (by omega) cd (((dg_uf_F e_52 0 34).trans ((dg_uF_ne e_50 (fun z => absurd z.2 (by decide))).trans (m_43.1 0 34 _ sM_0 (by decide)))).trans f_cd) (by omega) (by omega) (by omega) (by omega) ZW_52 (ZKM.keep (ZKM.keep (ZKM.keep ZK m_43 (by decide) (by decide)) (dg_sm.uF (WF := [(0, 36)]) (WA := []) dg_sm.rf e_50 sM_0 (by decide)) (by decide) (by decide)) (dg_sm.uf (WF := []) (WA := [16]) dg_sm.rf e_52 sM_16 (by decide)) (by decide) (by decide)) I_52 H.size) (cwV 1 hts (bw_V wB_1275 wB_1276 wB_1277 wB_881 wB_1274) rfl rfl rfl (by decide +kernel) ⟨Nat.le_of_ble_eq_true rfl, Nat.le_of_ble_eq_true rfl⟩) (dg_preV sM_0 rfl K ST hP hS hA1 hA) rfl rfl hl.1 rfl (lv_room (Nat.le_of_ble_eq_true rfl)) dX12_reading_58 ⟨Nat.le_of_ble_eq_true rfl, Nat.le_of_ble_eq_true rfl⟩) (fun S_55 hw_55 H locs hP hS => ?_)
        obtain ⟨I_55, m_55, w_55_0, w_55_1, w_55_2, -⟩ := hw_55
        have M_55 := dg_sm.tr M_52 m_55 (by decide) (by decide)
        have hz_56 : (0 : Int32).toInt = 0 := by decide +kernel
        obtain ⟨y_57, y_58, y_59, y_60, y_61, f_y_57, f_y_58, f_y_59, f_y_60, f_y_61, w_55_0⟩ := w_55_0
        have w_55_0 : ((y_58).toInt ≤ (y_59).toInt ∧ (y_59).toInt ≤ (sl).toInt ∧ ((y_57).toInt ≠ 0 → (y_58).toInt + 1 ≤ (y_59).toInt)) ∧ (y_46).toInt ≤ (y_58).toInt ∧ ((y_48).toInt ≠ 0 → (y_60).toInt ≠ 0) ∧ ((y_60).toInt = 0 → (y_61).toInt ≤ (y_58).toInt) := w_55_0
        obtain ⟨⟨w_55_0_0, w_55_0_1, w_55_0_2⟩, w_55_0_3, w_55_0_4, w_55_0_5⟩ := w_55_0
        clear w_55_0_4
        have b_y_57 : 0 ≤ (y_57).toInt ∧ (y_57).toInt ≤ 3 := dg_I.intb (lo := 0) (hi := 3) I_55 sM_0 (by decide +kernel) f_y_57
        have b_y_58 : 0 ≤ (y_58).toInt ∧ (y_58).toInt ≤ 1600 := dg_I.intb (lo := 0) (hi := 1600) I_55 sM_0 (by decide +kernel) f_y_58
        have b_y_59 : 0 ≤ (y_59).toInt ∧ (y_59).toInt ≤ 1600 := dg_I.intb (lo := 0) (hi := 1600) I_55 sM_0 (by decide +kernel) f_y_59
        have b_y_60 : 0 ≤ (y_60).toInt ∧ (y_60).toInt ≤ 6 := dg_I.intb (lo := 0) (hi := 6) I_55 sM_0 (by decide +kernel) f_y_60
        have b_y_61 : 0 ≤ (y_61).toInt ∧ (y_61).toInt ≤ 1600 := dg_I.intb (lo := 0) (hi := 1600) I_55 sM_0 (by decide +kernel) f_y_61
        have w_55_1 : ∀ k9 : Int32, S_55.1 0 8 = .int k9 → k9.toInt = 0 → QEM S_55 := w_55_1
        refine lv_aload_n hx hb dX12_reading_61 rfl (lv_at hl 1 rfl) ?_
        refine dg_get (C := RX12) (T := TX12) (N := 77) hx hb hts (fun w h => bw_mem (wU_X12 w h)) hown K hP sM_0 rfl 29 (by decide) (hts _ (bw_mem wB_956)) (fun _ h9 => h9) (v := .ref (o + 17)) (show S_55.1 0 29 = .ref (o + 17) from dg_I.rel (d := 17) I_55 sM_0 (by decide +kernel)) dX12_reading_62 ?_
        refine lv_iload_n hx hb dX12_reading_65 rfl (lv_at hl 0 rfl) ?_
        refine lv_aload_n hx hb dX12_reading_66 rfl (lv_at hl 1 rfl) ?_
        refine dg_get (C := RX12) (T := TX12) (N := 77) hx hb hts (fun w h => bw_mem (wU_X12 w h)) hown K hP sM_0 rfl 34 (by decide) (hts _ (bw_mem wB_1200)) (fun _ h9 => h9) (v := .int y_61) f_y_61 dX12_reading_67 ?_
        have hin_62 : vp_in x_4 6 := (dk_inv (by omega) (by omega))
        refine dg_iast hx hb K hP hS hA1 sM_17 hin_62 dX12_reading_70 (fun S_63 e_63 H locs hP hS => ?_)
        have I_63 := dg_I.ufu (lo := 0) (hi := 1600) I_55 e_63 sM_17 (by decide +kernel) (show 0 ≤ (y_61).toInt ∧ (y_61).toInt ≤ 1600 from (by omega))
        have M_63 := dg_sm.uf M_55 e_63 sM_17 (by decide)
        have ZW_63 : ZWM S_63 := ZWM.up1 (r := 17) w_55_2 (by decide) (((m_55.1 0 13 _ sM_0 (by decide)).trans ((dg_uf_F e_52 0 13).trans ((dg_uF_ne e_50 (fun z => absurd z.2 (by decide))).trans (m_43.1 0 13 _ sM_0 (by decide))))).trans f_x_1) (by omega) e_63 (by omega)
        refine W.widen (k := 0) (n := 0) (Nat.le_of_ble_eq_true rfl) (Nat.le_of_ble_eq_true rfl) ?_
        rw [hQ9]
        exact dg_vret hx hb hr hlocks hP hS ⟨I_63, M_63, ⟨y_57, y_58, y_59, y_60, y_61, ((dg_uf_F e_63 0 3).trans f_y_57), ((dg_uf_F e_63 0 4).trans f_y_58), ((dg_uf_F e_63 0 5).trans f_y_59), ((dg_uf_F e_63 0 8).trans f_y_60), ((dg_uf_F e_63 0 34).trans f_y_61), (by omega)⟩, (fun k9 hk9 hk0 => by have q9 := (((dg_uf_F e_63 0 8).trans f_y_60)).symm.trans hk9; cases q9; obtain ⟨x9, hx9⟩ := w_55_1 _ f_y_60 hk0; exact QSM.ends hx9 (((m_55.1 0 35 _ sM_0 (by decide)).trans ((dg_uf_F e_52 0 35).trans ((dg_uF_ne e_50 (fun z => absurd z.2 (by decide))).trans (m_43.1 0 35 _ sM_0 (by decide))))).trans f_x_2) (((m_55.1 0 36 _ sM_0 (by decide)).trans (dg_uf_F e_52 0 36)).trans (dg_uF_at e_50)) f_y_61 (by omega) (by omega) e_63), ZW_63, trivial⟩ dX12_reading_71
      · have jc_53 := dk_eqc (k := 1) (by decide +kernel) c_53
        refine lv_iconst (v := 1) hx hb dX12_reading_53 (by decide +kernel) ?_
        refine lv_goto (tgt := 58) hx hb dX12_reading_54 (by decide) ?_
        have hz_64 : (1 : Int32).toInt = 1 := by decide +kernel
        refine dg_callv hS hA1 hA (va_runV (As := [.int 1]) (rest := []) F (c_m_reads l g D o S_52 1 (by decide +kernel) y_45 (((dg_uf_F e_52 0 3).trans (dg_uF_ne e_50 (fun z => absurd z.2 (by decide)))).trans f_y_45) (by omega) y_46 (((dg_uf_F e_52 0 4).trans (dg_uF_ne e_50 (fun z => absurd z.2 (by decide)))).trans f_y_46) (by omega) y_47 (((dg_uf_F e_52 0 5).trans (dg_uF_ne e_50 (fun z => absurd z.2 (by decide)))).trans f_y_47) (by omega) sl (((dg_uf_F e_52 0 2).trans ((dg_uF_ne e_50 (fun z => absurd z.2 (by decide))).trans (m_43.1 0 2 _ sM_0 (by decide)))).trans f_sl) (by omega) y_48 (((dg_uf_F e_52 0 8).trans (dg_uF_ne e_50 (fun z => absurd z.2 (by decide)))).trans f_y_48) (by omega) cd (((dg_uf_F e_52 0 34).trans ((dg_uF_ne e_50 (fun z => absurd z.2 (by decide))).trans (m_43.1 0 34 _ sM_0 (by decide)))).trans f_cd) (by omega) (by omega) (by omega) (by omega) ZW_52 (ZKM.keep (ZKM.keep (ZKM.keep ZK m_43 (by decide) (by decide)) (dg_sm.uF (WF := [(0, 36)]) (WA := []) dg_sm.rf e_50 sM_0 (by decide)) (by decide) (by decide)) (dg_sm.uf (WF := []) (WA := [16]) dg_sm.rf e_52 sM_16 (by decide)) (by decide) (by decide)) I_52 H.size) (cwV 1 hts (bw_V wB_1275 wB_1276 wB_1277 wB_881 wB_1274) rfl rfl rfl (by decide +kernel) ⟨Nat.le_of_ble_eq_true rfl, Nat.le_of_ble_eq_true rfl⟩) (dg_preV sM_0 rfl K ST hP hS hA1 hA) rfl rfl hl.1 rfl (lv_room (Nat.le_of_ble_eq_true rfl)) dX12_reading_58 ⟨Nat.le_of_ble_eq_true rfl, Nat.le_of_ble_eq_true rfl⟩) (fun S_65 hw_65 H locs hP hS => ?_)
        obtain ⟨I_65, m_65, w_65_0, w_65_1, w_65_2, -⟩ := hw_65
        have M_65 := dg_sm.tr M_52 m_65 (by decide) (by decide)
        have hz_66 : (1 : Int32).toInt = 1 := by decide +kernel
        obtain ⟨y_67, y_68, y_69, y_70, y_71, f_y_67, f_y_68, f_y_69, f_y_70, f_y_71, w_65_0⟩ := w_65_0
        have w_65_0 : ((y_68).toInt ≤ (y_69).toInt ∧ (y_69).toInt ≤ (sl).toInt ∧ ((y_67).toInt ≠ 0 → (y_68).toInt + 1 ≤ (y_69).toInt)) ∧ (y_46).toInt ≤ (y_68).toInt ∧ ((y_48).toInt ≠ 0 → (y_70).toInt ≠ 0) ∧ ((y_70).toInt = 0 → (y_71).toInt ≤ (y_68).toInt) := w_65_0
        obtain ⟨⟨w_65_0_0, w_65_0_1, w_65_0_2⟩, w_65_0_3, w_65_0_4, w_65_0_5⟩ := w_65_0
        clear w_65_0_4
        have b_y_67 : 0 ≤ (y_67).toInt ∧ (y_67).toInt ≤ 3 := dg_I.intb (lo := 0) (hi := 3) I_65 sM_0 (by decide +kernel) f_y_67
        have b_y_68 : 0 ≤ (y_68).toInt ∧ (y_68).toInt ≤ 1600 := dg_I.intb (lo := 0) (hi := 1600) I_65 sM_0 (by decide +kernel) f_y_68
        have b_y_69 : 0 ≤ (y_69).toInt ∧ (y_69).toInt ≤ 1600 := dg_I.intb (lo := 0) (hi := 1600) I_65 sM_0 (by decide +kernel) f_y_69
        have b_y_70 : 0 ≤ (y_70).toInt ∧ (y_70).toInt ≤ 6 := dg_I.intb (lo := 0) (hi := 6) I_65 sM_0 (by decide +kernel) f_y_70
        have b_y_71 : 0 ≤ (y_71).toInt ∧ (y_71).toInt ≤ 1600 := dg_I.intb (lo := 0) (hi := 1600) I_65 sM_0 (by decide +kernel) f_y_71
        have w_65_1 : ∀ k9 : Int32, S_65.1 0 8 = .int k9 → k9.toInt = 0 → QEM S_65 := w_65_1
        refine lv_aload_n hx hb dX12_reading_61 rfl (lv_at hl 1 rfl) ?_
        refine dg_get (C := RX12) (T := TX12) (N := 77) hx hb hts (fun w h => bw_mem (wU_X12 w h)) hown K hP sM_0 rfl 29 (by decide) (hts _ (bw_mem wB_956)) (fun _ h9 => h9) (v := .ref (o + 17)) (show S_65.1 0 29 = .ref (o + 17) from dg_I.rel (d := 17) I_65 sM_0 (by decide +kernel)) dX12_reading_62 ?_
        refine lv_iload_n hx hb dX12_reading_65 rfl (lv_at hl 0 rfl) ?_
        refine lv_aload_n hx hb dX12_reading_66 rfl (lv_at hl 1 rfl) ?_
        refine dg_get (C := RX12) (T := TX12) (N := 77) hx hb hts (fun w h => bw_mem (wU_X12 w h)) hown K hP sM_0 rfl 34 (by decide) (hts _ (bw_mem wB_1200)) (fun _ h9 => h9) (v := .int y_71) f_y_71 dX12_reading_67 ?_
        have hin_72 : vp_in x_4 6 := (dk_inv (by omega) (by omega))
        refine dg_iast hx hb K hP hS hA1 sM_17 hin_72 dX12_reading_70 (fun S_73 e_73 H locs hP hS => ?_)
        have I_73 := dg_I.ufu (lo := 0) (hi := 1600) I_65 e_73 sM_17 (by decide +kernel) (show 0 ≤ (y_71).toInt ∧ (y_71).toInt ≤ 1600 from (by omega))
        have M_73 := dg_sm.uf M_65 e_73 sM_17 (by decide)
        have ZW_73 : ZWM S_73 := ZWM.up1 (r := 17) w_65_2 (by decide) (((m_65.1 0 13 _ sM_0 (by decide)).trans ((dg_uf_F e_52 0 13).trans ((dg_uF_ne e_50 (fun z => absurd z.2 (by decide))).trans (m_43.1 0 13 _ sM_0 (by decide))))).trans f_x_1) (by omega) e_73 (by omega)
        refine W.widen (k := 0) (n := 0) (Nat.le_of_ble_eq_true rfl) (Nat.le_of_ble_eq_true rfl) ?_
        rw [hQ9]
        exact dg_vret hx hb hr hlocks hP hS ⟨I_73, M_73, ⟨y_67, y_68, y_69, y_70, y_71, ((dg_uf_F e_73 0 3).trans f_y_67), ((dg_uf_F e_73 0 4).trans f_y_68), ((dg_uf_F e_73 0 5).trans f_y_69), ((dg_uf_F e_73 0 8).trans f_y_70), ((dg_uf_F e_73 0 34).trans f_y_71), (by omega)⟩, (fun k9 hk9 hk0 => by have q9 := (((dg_uf_F e_73 0 8).trans f_y_70)).symm.trans hk9; cases q9; obtain ⟨x9, hx9⟩ := w_65_1 _ f_y_70 hk0; exact QSM.ends hx9 (((m_65.1 0 35 _ sM_0 (by decide)).trans ((dg_uf_F e_52 0 35).trans ((dg_uF_ne e_50 (fun z => absurd z.2 (by decide))).trans (m_43.1 0 35 _ sM_0 (by decide))))).trans f_x_2) (((m_65.1 0 36 _ sM_0 (by decide)).trans (dg_uf_F e_52 0 36)).trans (dg_uF_at e_50)) f_y_71 (by omega) (by omega) e_73), ZW_73, trivial⟩ dX12_reading_71
    · have jc_49 := dk_eqc (k := 0) (by decide +kernel) c_49
      clear w_43_1_5
      have w_43_1_6r := w_43_1_6 (by omega)
      clear w_43_1_6
      have w_43_1_6rb : 1 ≤ (y_48).toInt := by omega
      clear w_43_1_6r
      refine W.widen (k := 0) (n := 0) (Nat.le_of_ble_eq_true rfl) (Nat.le_of_ble_eq_true rfl) ?_
      rw [hQ9]
      exact dg_vret hx hb hr hlocks hP hS ⟨I_43, M_43, ⟨y_45, y_46, y_47, y_48, cd, f_y_45, f_y_46, f_y_47, f_y_48, ((m_43.1 0 34 _ sM_0 (by decide)).trans f_cd), (by omega)⟩, (fun k9 hk9 hk0 => by have q9 := (f_y_48).symm.trans hk9; cases q9; omega), (ZWM.keep ZW m_43 (by decide) (by decide) (by decide) (by decide)), trivial⟩ dX12_reading_31
set_option maxHeartbeats 8000000 in
set_option maxRecDepth 100000 in
theorem c_m_statement (l : Launch) (g : Nat → ClassId) (D : va_G) (o : Nat) (S : dg_S) (sg : Int32) (f_sg : S.1 0 3 = .int sg) (b_sg : 0 ≤ (sg).toInt ∧ (sg).toInt ≤ 3) (sa : Int32) (f_sa : S.1 0 4 = .int sa) (b_sa : 0 ≤ (sa).toInt ∧ (sa).toInt ≤ 1600) (se : Int32) (f_se : S.1 0 5 = .int se) (b_se : 0 ≤ (se).toInt ∧ (se).toInt ≤ 1600) (sl : Int32) (f_sl : S.1 0 2 = .int sl) (b_sl : 0 ≤ (sl).toInt ∧ (sl).toInt ≤ 1600) (fk : Int32) (f_fk : S.1 0 8 = .int fk) (b_fk : 0 ≤ (fk).toInt ∧ (fk).toInt ≤ 6) (cd : Int32) (f_cd : S.1 0 34 = .int cd) (b_cd : 0 ≤ (cd).toInt ∧ (cd).toInt ≤ 1600) (hlx : (sa).toInt ≤ (se).toInt ∧ (se).toInt ≤ (sl).toInt ∧ ((sg).toInt ≠ 0 → (sa).toInt + 1 ≤ (se).toInt)) (hro : (cd).toInt ≤ (sa).toInt) (ZB : ZBM S) (ZW : ZWM S) (ZK : ZKM S) (ZC : ZCM S) (ZV : ZVM S) (I : CM o S) (sz : Nat) : Met l yX12_statement (bw yX12_statement cX12_statement 1 none) ({ frames := 7, cells := 0, slots := 0, locals := 165 } : Room) (dk_Pc g D (dg_w g shM o rfM S) sz [.ref (o + 0)]) (va_Qv (fun S' => CM o S' ∧ dg_sm shM [(0, 3), (0, 4), (0, 5), (0, 6), (0, 7), (0, 8), (0, 9), (0, 12), (0, 34), (0, 36), (0, 42), (0, 43), (0, 45), (0, 46)] [4, 5, 6, 7, 8, 9, 10, 11, 12, 13, 14, 15, 16, 17, 18, 19, 20, 21, 22, 23, 24, 25, 26, 27] S S' ∧ (∃ y9_3 y9_4 y9_5 y9_8 y9_34 : Int32, S'.1 0 3 = .int y9_3 ∧ S'.1 0 4 = .int y9_4 ∧ S'.1 0 5 = .int y9_5 ∧ S'.1 0 8 = .int y9_8 ∧ S'.1 0 34 = .int y9_34 ∧ (((y9_4).toInt ≤ (y9_5).toInt ∧ (y9_5).toInt ≤ (sl).toInt ∧ ((y9_3).toInt ≠ 0 → (y9_4).toInt + 1 ≤ (y9_5).toInt)) ∧ (sa).toInt ≤ (y9_4).toInt ∧ ((fk).toInt ≠ 0 → (y9_8).toInt ≠ 0) ∧ ((y9_8).toInt = 0 → (y9_34).toInt ≤ (y9_4).toInt))) ∧ (∀ k9 : Int32, S'.1 0 8 = .int k9 → k9.toInt = 0 → ZCM S' ∧ ZVM S') ∧ ZBM S' ∧ ZWM S' ∧ True) (dg_B g D shM o rfM) (dg_A o shM.length sz)) 0 0 (dg_A o shM.length sz) := by
  refine dg_met (cc := cX12_statement) (maxL := 1) (ret := none) (by decide) rfl (Nat.le_of_ble_eq_true rfl) ?_
  intro p e s m args below meth c A hAe harg hx hb hr hml hts hown hlocks hin hP K hS hA1 hA ST hsz ls hl
  rw [← hAe]
  have F : CallFix p m c cX12_statement 1 s args (bw yX12_statement cX12_statement 1 none) RX12 := ⟨hx, hb, hml, hown, hts⟩
  have hl : lv_has ls 1 [(0, .ref (o + 0))] := hl
  have M_0 : dg_sm shM [(0, 3), (0, 4), (0, 5), (0, 6), (0, 7), (0, 8), (0, 9), (0, 12), (0, 34), (0, 36), (0, 42), (0, 43), (0, 45), (0, 46)] [4, 5, 6, 7, 8, 9, 10, 11, 12, 13, 14, 15, 16, 17, 18, 19, 20, 21, 22, 23, 24, 25, 26, 27] S S := dg_sm.rf
  obtain ⟨Q9, hQ9⟩ : ∃ Q : State → Prop, Q = MQ below (va_Qv (fun S' => CM o S' ∧ dg_sm shM [(0, 3), (0, 4), (0, 5), (0, 6), (0, 7), (0, 8), (0, 9), (0, 12), (0, 34), (0, 36), (0, 42), (0, 43), (0, 45), (0, 46)] [4, 5, 6, 7, 8, 9, 10, 11, 12, 13, 14, 15, 16, 17, 18, 19, 20, 21, 22, 23, 24, 25, 26, 27] S S' ∧ (∃ y9_3 y9_4 y9_5 y9_8 y9_34 : Int32, S'.1 0 3 = .int y9_3 ∧ S'.1 0 4 = .int y9_4 ∧ S'.1 0 5 = .int y9_5 ∧ S'.1 0 8 = .int y9_8 ∧ S'.1 0 34 = .int y9_34 ∧ (((y9_4).toInt ≤ (y9_5).toInt ∧ (y9_5).toInt ≤ (sl).toInt ∧ ((y9_3).toInt ≠ 0 → (y9_4).toInt + 1 ≤ (y9_5).toInt)) ∧ (sa).toInt ≤ (y9_4).toInt ∧ ((fk).toInt ≠ 0 → (y9_8).toInt ≠ 0) ∧ ((y9_8).toInt = 0 → (y9_34).toInt ≤ (y9_4).toInt))) ∧ (∀ k9 : Int32, S'.1 0 8 = .int k9 → k9.toInt = 0 → ZCM S' ∧ ZVM S') ∧ ZBM S' ∧ ZWM S' ∧ True) (dg_B g D shM o rfM) A) args s 0 0 A := ⟨_, rfl⟩
  rw [← hQ9]
  obtain ⟨hlx_0, hlx_1, hlx_2⟩ := hlx
  obtain ⟨x_1, f_x_1, b_x_1⟩ := dg_I.int (i := 0) (k := 13) (lo := 0) (hi := 1) I sM_0 (by decide +kernel)
  obtain ⟨x_2, f_x_2, b_x_2⟩ := dg_I.int (i := 0) (k := 35) (lo := 0) (hi := 1) I sM_0 (by decide +kernel)
  have hzk := ZK _ _ f_x_1 f_x_2
  refine lv_aload_n hx hb dX12_statement_0 rfl (lv_at hl 0 rfl) ?_
  refine dg_callv hS hA1 hA (va_runV (As := []) (rest := []) F (c_m_lex l g D o S fk f_fk (by omega) I s.heap.size) (cwV 0 hts (bw_V wB_1153 wB_1154 wB_1155 wB_881 wB_1152) rfl rfl rfl (by decide +kernel) ⟨Nat.le_of_ble_eq_true rfl, Nat.le_of_ble_eq_true rfl⟩) (dg_preV sM_0 rfl K ST hP hS hA1 hA) rfl rfl hl.1 rfl (lv_room (Nat.le_of_ble_eq_true rfl)) dX12_statement_1 ⟨Nat.le_of_ble_eq_true rfl, Nat.le_of_ble_eq_true rfl⟩) (fun S_3 hw_3 H locs hP hS => ?_)
  obtain ⟨I_3, m_3, w_3_0, -⟩ := hw_3
  have M_3 := dg_sm.tr M_0 m_3 (by decide) (by decide)
  obtain ⟨y_4, f_y_4, w_3_0⟩ := w_3_0
  have w_3_0 : (fk).toInt ≠ 0 → (y_4).toInt = (fk).toInt := w_3_0
  have b_y_4 : 0 ≤ (y_4).toInt ∧ (y_4).toInt ≤ 6 := dg_I.intb (lo := 0) (hi := 6) I_3 sM_0 (by decide +kernel) f_y_4
  refine lv_aload_n hx hb dX12_statement_4 rfl (lv_at hl 0 rfl) ?_
  refine dg_get (C := RX12) (T := TX12) (N := 77) hx hb hts (fun w h => bw_mem (wU_X12 w h)) hown K hP sM_0 rfl 8 (by decide) (hts _ (bw_mem wB_1133)) (fun _ h9 => h9) (v := .int y_4) f_y_4 dX12_statement_5 ?_
  refine lv_if_le (tgt := 12) hx hb dX12_statement_8 (by decide) (fun c_5 => ?_) (fun c_5 => ?_)
  · have jc_5 := dk_lec (k := 0) (by decide +kernel) c_5
    have w_3_0c : (fk).toInt = 0 := by omega
    clear w_3_0
    refine lv_aload_n hx hb dX12_statement_12 rfl (lv_at hl 0 rfl) ?_
    refine lv_ldc2 hx hb hown (hts _ (bw_mem wB_1170)) dX12_statement_13 ?_
    refine dg_calli hS hA1 hA (va_runV (As := [.long 495672452724]) (rest := []) F (c_m_isWord l g D o S_3 495672452724 sg ((m_3.1 0 3 _ sM_0 (by decide)).trans f_sg) (by omega) I_3 H.size) (cwV 1 hts (bw_V wB_1165 wB_1166 wB_1167 wB_881 wB_1164) rfl rfl rfl (by decide +kernel) ⟨Nat.le_of_ble_eq_true rfl, Nat.le_of_ble_eq_true rfl⟩) (dg_preV sM_0 rfl K ST hP hS hA1 hA) rfl rfl hl.1 rfl (lv_room (Nat.le_of_ble_eq_true rfl)) dX12_statement_16 ⟨Nat.le_of_ble_eq_true rfl, Nat.le_of_ble_eq_true rfl⟩) (fun x_6 S_7 hw_7 H locs hP hS => ?_)
    rw [hw_7.1] at hP
    obtain ⟨hq_7, w_7_0, w_7_1, -⟩ := hw_7
    have w_7_0 : 0 ≤ (x_6).toInt ∧ (x_6).toInt ≤ 1 := w_7_0
    have w_7_1 : (x_6).toInt = 1 → (sg).toInt = 1 := w_7_1
    refine lv_if_eq (tgt := 49) hx hb dX12_statement_19 (by decide) (fun c_8 => ?_) (fun c_8 => ?_)
    · have jc_8 := dk_eqc (k := 0) (by decide +kernel) c_8
      clear w_7_1
      refine lv_aload_n hx hb dX12_statement_49 rfl (lv_at hl 0 rfl) ?_
      refine lv_ldc2 hx hb hown (hts _ (bw_mem wB_1171)) dX12_statement_50 ?_
      refine dg_calli hS hA1 hA (va_runV (As := [.long 491327153000]) (rest := []) F (c_m_isWord l g D o S_3 491327153000 sg ((m_3.1 0 3 _ sM_0 (by decide)).trans f_sg) (by omega) I_3 H.size) (cwV 1 hts (bw_V wB_1165 wB_1166 wB_1167 wB_881 wB_1164) rfl rfl rfl (by decide +kernel) ⟨Nat.le_of_ble_eq_true rfl, Nat.le_of_ble_eq_true rfl⟩) (dg_preV sM_0 rfl K ST hP hS hA1 hA) rfl rfl hl.1 rfl (lv_room (Nat.le_of_ble_eq_true rfl)) dX12_statement_53 ⟨Nat.le_of_ble_eq_true rfl, Nat.le_of_ble_eq_true rfl⟩) (fun x_9 S_10 hw_10 H locs hP hS => ?_)
      rw [hw_10.1] at hP
      obtain ⟨hq_10, w_10_0, w_10_1, -⟩ := hw_10
      have w_10_0 : 0 ≤ (x_9).toInt ∧ (x_9).toInt ≤ 1 := w_10_0
      have w_10_1 : (x_9).toInt = 1 → (sg).toInt = 1 := w_10_1
      refine lv_if_eq (tgt := 77) hx hb dX12_statement_56 (by decide) (fun c_11 => ?_) (fun c_11 => ?_)
      · have jc_11 := dk_eqc (k := 0) (by decide +kernel) c_11
        clear w_10_1
        refine lv_aload_n hx hb dX12_statement_77 rfl (lv_at hl 0 rfl) ?_
        refine lv_ldc2 hx hb hown (hts _ (bw_mem wB_1172)) dX12_statement_78 ?_
        refine dg_calli hS hA1 hA (va_runV (As := [.long 487300623205]) (rest := []) F (c_m_isWord l g D o S_3 487300623205 sg ((m_3.1 0 3 _ sM_0 (by decide)).trans f_sg) (by omega) I_3 H.size) (cwV 1 hts (bw_V wB_1165 wB_1166 wB_1167 wB_881 wB_1164) rfl rfl rfl (by decide +kernel) ⟨Nat.le_of_ble_eq_true rfl, Nat.le_of_ble_eq_true rfl⟩) (dg_preV sM_0 rfl K ST hP hS hA1 hA) rfl rfl hl.1 rfl (lv_room (Nat.le_of_ble_eq_true rfl)) dX12_statement_81 ⟨Nat.le_of_ble_eq_true rfl, Nat.le_of_ble_eq_true rfl⟩) (fun x_12 S_13 hw_13 H locs hP hS => ?_)
        rw [hw_13.1] at hP
        obtain ⟨hq_13, w_13_0, w_13_1, -⟩ := hw_13
        have w_13_0 : 0 ≤ (x_12).toInt ∧ (x_12).toInt ≤ 1 := w_13_0
        have w_13_1 : (x_12).toInt = 1 → (sg).toInt = 1 := w_13_1
        refine lv_if_eq (tgt := 105) hx hb dX12_statement_84 (by decide) (fun c_14 => ?_) (fun c_14 => ?_)
        · have jc_14 := dk_eqc (k := 0) (by decide +kernel) c_14
          clear w_13_1
          refine lv_aload_n hx hb dX12_statement_105 rfl (lv_at hl 0 rfl) ?_
          refine lv_ldc2 hx hb hown (hts _ (bw_mem wB_1173)) dX12_statement_106 ?_
          refine dg_calli hS hA1 hA (va_runV (As := [.long 444300616805]) (rest := []) F (c_m_isWord l g D o S_3 444300616805 sg ((m_3.1 0 3 _ sM_0 (by decide)).trans f_sg) (by omega) I_3 H.size) (cwV 1 hts (bw_V wB_1165 wB_1166 wB_1167 wB_881 wB_1164) rfl rfl rfl (by decide +kernel) ⟨Nat.le_of_ble_eq_true rfl, Nat.le_of_ble_eq_true rfl⟩) (dg_preV sM_0 rfl K ST hP hS hA1 hA) rfl rfl hl.1 rfl (lv_room (Nat.le_of_ble_eq_true rfl)) dX12_statement_109 ⟨Nat.le_of_ble_eq_true rfl, Nat.le_of_ble_eq_true rfl⟩) (fun x_15 S_16 hw_16 H locs hP hS => ?_)
          rw [hw_16.1] at hP
          obtain ⟨hq_16, w_16_0, w_16_1, -⟩ := hw_16
          have w_16_0 : 0 ≤ (x_15).toInt ∧ (x_15).toInt ≤ 1 := w_16_0
          have w_16_1 : (x_15).toInt = 1 → (sg).toInt = 1 := w_16_1
          refine lv_if_eq (tgt := 122) hx hb dX12_statement_112 (by decide) (fun c_17 => ?_) (fun c_17 => ?_)
          · have jc_17 := dk_eqc (k := 0) (by decide +kernel) c_17
            clear w_16_1
            refine lv_aload_n hx hb dX12_statement_122 rfl (lv_at hl 0 rfl) ?_
            refine lv_ldc2 hx hb hown (hts _ (bw_mem wB_1174)) dX12_statement_123 ?_
            refine dg_calli hS hA1 hA (va_runV (As := [.long 469920277874]) (rest := []) F (c_m_isWord l g D o S_3 469920277874 sg ((m_3.1 0 3 _ sM_0 (by decide)).trans f_sg) (by omega) I_3 H.size) (cwV 1 hts (bw_V wB_1165 wB_1166 wB_1167 wB_881 wB_1164) rfl rfl rfl (by decide +kernel) ⟨Nat.le_of_ble_eq_true rfl, Nat.le_of_ble_eq_true rfl⟩) (dg_preV sM_0 rfl K ST hP hS hA1 hA) rfl rfl hl.1 rfl (lv_room (Nat.le_of_ble_eq_true rfl)) dX12_statement_126 ⟨Nat.le_of_ble_eq_true rfl, Nat.le_of_ble_eq_true rfl⟩) (fun x_18 S_19 hw_19 H locs hP hS => ?_)
            rw [hw_19.1] at hP
            obtain ⟨hq_19, w_19_0, w_19_1, -⟩ := hw_19
            have w_19_0 : 0 ≤ (x_18).toInt ∧ (x_18).toInt ≤ 1 := w_19_0
            have w_19_1 : (x_18).toInt = 1 → (sg).toInt = 1 := w_19_1
            refine lv_if_eq (tgt := 139) hx hb dX12_statement_129 (by decide) (fun c_20 => ?_) (fun c_20 => ?_)
            · have jc_20 := dk_eqc (k := 0) (by decide +kernel) c_20
              clear w_19_1
              refine lv_aload_n hx hb dX12_statement_139 rfl (lv_at hl 0 rfl) ?_
              refine lv_ldc2 hx hb hown (hts _ (bw_mem wB_1175)) dX12_statement_140 ?_
              refine dg_calli hS hA1 hA (va_runV (As := [.long 6580583]) (rest := []) F (c_m_isWord l g D o S_3 6580583 sg ((m_3.1 0 3 _ sM_0 (by decide)).trans f_sg) (by omega) I_3 H.size) (cwV 1 hts (bw_V wB_1165 wB_1166 wB_1167 wB_881 wB_1164) rfl rfl rfl (by decide +kernel) ⟨Nat.le_of_ble_eq_true rfl, Nat.le_of_ble_eq_true rfl⟩) (dg_preV sM_0 rfl K ST hP hS hA1 hA) rfl rfl hl.1 rfl (lv_room (Nat.le_of_ble_eq_true rfl)) dX12_statement_143 ⟨Nat.le_of_ble_eq_true rfl, Nat.le_of_ble_eq_true rfl⟩) (fun x_21 S_22 hw_22 H locs hP hS => ?_)
              rw [hw_22.1] at hP
              obtain ⟨hq_22, w_22_0, w_22_1, -⟩ := hw_22
              have w_22_0 : 0 ≤ (x_21).toInt ∧ (x_21).toInt ≤ 1 := w_22_0
              have w_22_1 : (x_21).toInt = 1 → (sg).toInt = 1 := w_22_1
              refine lv_if_eq (tgt := 156) hx hb dX12_statement_146 (by decide) (fun c_23 => ?_) (fun c_23 => ?_)
              · have jc_23 := dk_eqc (k := 0) (by decide +kernel) c_23
                clear w_22_1
                refine lv_aload_n hx hb dX12_statement_156 rfl (lv_at hl 0 rfl) ?_
                refine lv_ldc2 hx hb hown (hts _ (bw_mem wB_1177)) dX12_statement_157 ?_
                refine dg_calli hS hA1 hA (va_runV (As := [.long 478660552050]) (rest := []) F (c_m_isWord l g D o S_3 478660552050 sg ((m_3.1 0 3 _ sM_0 (by decide)).trans f_sg) (by omega) I_3 H.size) (cwV 1 hts (bw_V wB_1165 wB_1166 wB_1167 wB_881 wB_1164) rfl rfl rfl (by decide +kernel) ⟨Nat.le_of_ble_eq_true rfl, Nat.le_of_ble_eq_true rfl⟩) (dg_preV sM_0 rfl K ST hP hS hA1 hA) rfl rfl hl.1 rfl (lv_room (Nat.le_of_ble_eq_true rfl)) dX12_statement_160 ⟨Nat.le_of_ble_eq_true rfl, Nat.le_of_ble_eq_true rfl⟩) (fun x_24 S_25 hw_25 H locs hP hS => ?_)
                rw [hw_25.1] at hP
                obtain ⟨hq_25, w_25_0, w_25_1, -⟩ := hw_25
                have w_25_0 : 0 ≤ (x_24).toInt ∧ (x_24).toInt ≤ 1 := w_25_0
                have w_25_1 : (x_24).toInt = 1 → (sg).toInt = 1 := w_25_1
                refine lv_if_eq (tgt := 173) hx hb dX12_statement_163 (by decide) (fun c_26 => ?_) (fun c_26 => ?_)
                · have jc_26 := dk_eqc (k := 0) (by decide +kernel) c_26
                  clear w_25_1
                  refine lv_aload_n hx hb dX12_statement_173 rfl (lv_at hl 0 rfl) ?_
                  refine lv_ldc2 hx hb hown (hts _ (bw_mem wB_1180)) dX12_statement_174 ?_
                  refine dg_calli hS hA1 hA (va_runV (As := [.long 126926742711411]) (rest := []) F (c_m_isWord l g D o S_3 126926742711411 sg ((m_3.1 0 3 _ sM_0 (by decide)).trans f_sg) (by omega) I_3 H.size) (cwV 1 hts (bw_V wB_1165 wB_1166 wB_1167 wB_881 wB_1164) rfl rfl rfl (by decide +kernel) ⟨Nat.le_of_ble_eq_true rfl, Nat.le_of_ble_eq_true rfl⟩) (dg_preV sM_0 rfl K ST hP hS hA1 hA) rfl rfl hl.1 rfl (lv_room (Nat.le_of_ble_eq_true rfl)) dX12_statement_177 ⟨Nat.le_of_ble_eq_true rfl, Nat.le_of_ble_eq_true rfl⟩) (fun x_27 S_28 hw_28 H locs hP hS => ?_)
                  rw [hw_28.1] at hP
                  obtain ⟨hq_28, w_28_0, w_28_1, -⟩ := hw_28
                  have w_28_0 : 0 ≤ (x_27).toInt ∧ (x_27).toInt ≤ 1 := w_28_0
                  have w_28_1 : (x_27).toInt = 1 → (sg).toInt = 1 := w_28_1
                  refine lv_if_eq (tgt := 191) hx hb dX12_statement_180 (by decide) (fun c_29 => ?_) (fun c_29 => ?_)
                  · have jc_29 := dk_eqc (k := 0) (by decide +kernel) c_29
                    clear w_28_1
                    refine lv_aload_n hx hb dX12_statement_191 rfl (lv_at hl 0 rfl) ?_
                    refine lv_ldc2 hx hb hown (hts _ (bw_mem wB_1181)) dX12_statement_192 ?_
                    refine dg_calli hS hA1 hA (va_runV (As := [.long 439721159795]) (rest := []) F (c_m_isWord l g D o S_3 439721159795 sg ((m_3.1 0 3 _ sM_0 (by decide)).trans f_sg) (by omega) I_3 H.size) (cwV 1 hts (bw_V wB_1165 wB_1166 wB_1167 wB_881 wB_1164) rfl rfl rfl (by decide +kernel) ⟨Nat.le_of_ble_eq_true rfl, Nat.le_of_ble_eq_true rfl⟩) (dg_preV sM_0 rfl K ST hP hS hA1 hA) rfl rfl hl.1 rfl (lv_room (Nat.le_of_ble_eq_true rfl)) dX12_statement_195 ⟨Nat.le_of_ble_eq_true rfl, Nat.le_of_ble_eq_true rfl⟩) (fun x_30 S_31 hw_31 H locs hP hS => ?_)
                    rw [hw_31.1] at hP
                    obtain ⟨hq_31, w_31_0, w_31_1, -⟩ := hw_31
                    have w_31_0 : 0 ≤ (x_30).toInt ∧ (x_30).toInt ≤ 1 := w_31_0
                    have w_31_1 : (x_30).toInt = 1 → (sg).toInt = 1 := w_31_1
                    refine lv_if_eq (tgt := 209) hx hb dX12_statement_198 (by decide) (fun c_32 => ?_) (fun c_32 => ?_)
                    · have jc_32 := dk_eqc (k := 0) (by decide +kernel) c_32
                      clear w_31_1
                      refine lv_aload_n hx hb dX12_statement_209 rfl (lv_at hl 0 rfl) ?_
                      refine lv_ldc2 hx hb hown (hts _ (bw_mem wB_1182)) dX12_statement_210 ?_
                      refine dg_calli hS hA1 hA (va_runV (As := [.long 1734702195]) (rest := []) F (c_m_isWord l g D o S_3 1734702195 sg ((m_3.1 0 3 _ sM_0 (by decide)).trans f_sg) (by omega) I_3 H.size) (cwV 1 hts (bw_V wB_1165 wB_1166 wB_1167 wB_881 wB_1164) rfl rfl rfl (by decide +kernel) ⟨Nat.le_of_ble_eq_true rfl, Nat.le_of_ble_eq_true rfl⟩) (dg_preV sM_0 rfl K ST hP hS hA1 hA) rfl rfl hl.1 rfl (lv_room (Nat.le_of_ble_eq_true rfl)) dX12_statement_213 ⟨Nat.le_of_ble_eq_true rfl, Nat.le_of_ble_eq_true rfl⟩) (fun x_33 S_34 hw_34 H locs hP hS => ?_)
                      rw [hw_34.1] at hP
                      obtain ⟨hq_34, w_34_0, w_34_1, -⟩ := hw_34
                      have w_34_0 : 0 ≤ (x_33).toInt ∧ (x_33).toInt ≤ 1 := w_34_0
                      have w_34_1 : (x_33).toInt = 1 → (sg).toInt = 1 := w_34_1
                      refine lv_if_eq (tgt := 227) hx hb dX12_statement_216 (by decide) (fun c_35 => ?_) (fun c_35 => ?_)
                      · have jc_35 := dk_eqc (k := 0) (by decide +kernel) c_35
                        clear w_34_1
                        refine lv_aload_n hx hb dX12_statement_227 rfl (lv_at hl 0 rfl) ?_
                        refine lv_iconst (v := 1) hx hb dX12_statement_228 (by decide +kernel) ?_
                        refine lv_aload_n hx hb dX12_statement_229 rfl (lv_at hl 0 rfl) ?_
                        refine dg_get (C := RX12) (T := TX12) (N := 77) hx hb hts (fun w h => bw_mem (wU_X12 w h)) hown K hP sM_0 rfl 4 (by decide) (hts _ (bw_mem wB_1145)) (fun _ h9 => h9) (v := .int sa) ((m_3.1 0 4 _ sM_0 (by decide)).trans f_sa) dX12_statement_230 ?_
                        have hz_36 : (1 : Int32).toInt = 1 := by decide +kernel
                        refine dg_callv hS hA1 hA (va_runV (As := [.int 1, .int sa]) (rest := []) F (c_m_blame l g D o S_3 1 (by decide +kernel) sa y_4 f_y_4 (by omega) I_3 H.size) (cwV 2 hts (bw_V wB_1137 wB_1138 wB_1139 wB_881 wB_1136) rfl rfl rfl (by decide +kernel) ⟨Nat.le_of_ble_eq_true rfl, Nat.le_of_ble_eq_true rfl⟩) (dg_preV sM_0 rfl K ST hP hS hA1 hA) rfl rfl hl.1 rfl (lv_room (Nat.le_of_ble_eq_true rfl)) dX12_statement_233 ⟨Nat.le_of_ble_eq_true rfl, Nat.le_of_ble_eq_true rfl⟩) (fun S_37 hw_37 H locs hP hS => ?_)
                        obtain ⟨I_37, m_37, w_37_0, -⟩ := hw_37
                        have M_37 := dg_sm.tr M_3 m_37 (by decide) (by decide)
                        have hz_38 : (1 : Int32).toInt = 1 := by decide +kernel
                        obtain ⟨y_39, f_y_39, w_37_0⟩ := w_37_0
                        have w_37_0 : ((y_4).toInt ≠ 0 → (y_39).toInt = (y_4).toInt) ∧ ((y_4).toInt = 0 → (y_39).toInt = ((1 : Int32)).toInt) := w_37_0
                        obtain ⟨w_37_0_0, w_37_0_1⟩ := w_37_0
                        clear w_37_0_0
                        have w_37_0_1r := w_37_0_1 (by omega)
                        clear w_37_0_1
                        have b_y_39 : 0 ≤ (y_39).toInt ∧ (y_39).toInt ≤ 6 := dg_I.intb (lo := 0) (hi := 6) I_37 sM_0 (by decide +kernel) f_y_39
                        have hbl_y_39 : 1 ≤ (y_39).toInt := by omega
                        refine W.widen (k := 0) (n := 0) (Nat.le_of_ble_eq_true rfl) (Nat.le_of_ble_eq_true rfl) ?_
                        rw [hQ9]
                        exact dg_vret hx hb hr hlocks hP hS ⟨I_37, M_37, ⟨sg, sa, se, y_39, cd, (((m_37.1 0 3 _ sM_0 (by decide)).trans (m_3.1 0 3 _ sM_0 (by decide))).trans f_sg), (((m_37.1 0 4 _ sM_0 (by decide)).trans (m_3.1 0 4 _ sM_0 (by decide))).trans f_sa), (((m_37.1 0 5 _ sM_0 (by decide)).trans (m_3.1 0 5 _ sM_0 (by decide))).trans f_se), f_y_39, (((m_37.1 0 34 _ sM_0 (by decide)).trans (m_3.1 0 34 _ sM_0 (by decide))).trans f_cd), (by omega)⟩, (fun k9 hk9 hk0 => by have q9 := (f_y_39).symm.trans hk9; cases q9; omega), (ZBM.keep (ZBM.keep ZB m_3 (by decide) (by decide) (by decide) (by decide) (by decide)) m_37 (by decide) (by decide) (by decide) (by decide) (by decide)), (ZWM.keep (ZWM.keep ZW m_3 (by decide) (by decide) (by decide) (by decide)) m_37 (by decide) (by decide) (by decide) (by decide)), trivial⟩ dX12_statement_236
                      · have jc_35 := dk_neqc (k := 0) (by decide +kernel) c_35
                        have jbc_35 : 1 ≤ (x_33).toInt := by omega
                        clear jc_35
                        have w_34_1_r := w_34_1 (by omega)
                        clear w_34_1
                        have hlx_2r := hlx_2 (by omega)
                        clear hlx_2
                        refine lv_aload_n hx hb dX12_statement_219 rfl (lv_at hl 0 rfl) ?_
                        refine lv_iconst (v := 2) hx hb dX12_statement_220 (by decide +kernel) ?_
                        have hz_40 : (2 : Int32).toInt = 2 := by decide +kernel
                        refine dg_callv hS hA1 hA (va_runV (As := [.int 2]) (rest := []) F (c_m_reading l g D o S_3 2 (by decide +kernel) sg ((m_3.1 0 3 _ sM_0 (by decide)).trans f_sg) (by omega) sa ((m_3.1 0 4 _ sM_0 (by decide)).trans f_sa) (by omega) se ((m_3.1 0 5 _ sM_0 (by decide)).trans f_se) (by omega) sl ((m_3.1 0 2 _ sM_0 (by decide)).trans f_sl) (by omega) y_4 f_y_4 (by omega) cd ((m_3.1 0 34 _ sM_0 (by decide)).trans f_cd) (by omega) (by omega) (by omega) (ZWM.keep ZW m_3 (by decide) (by decide) (by decide) (by decide)) (ZKM.keep ZK m_3 (by decide) (by decide)) (ZVM.keep ZV m_3 (by decide) (by decide) (by decide) (by decide) (by decide)) I_3 H.size) (cwV 1 hts (bw_V wB_1279 wB_1280 wB_1281 wB_881 wB_1278) rfl rfl rfl (by decide +kernel) ⟨Nat.le_of_ble_eq_true rfl, Nat.le_of_ble_eq_true rfl⟩) (dg_preV sM_0 rfl K ST hP hS hA1 hA) rfl rfl hl.1 rfl (lv_room (Nat.le_of_ble_eq_true rfl)) dX12_statement_221 ⟨Nat.le_of_ble_eq_true rfl, Nat.le_of_ble_eq_true rfl⟩) (fun S_41 hw_41 H locs hP hS => ?_)
                        obtain ⟨I_41, m_41, w_41_0, w_41_1, w_41_2, -⟩ := hw_41
                        have M_41 := dg_sm.tr M_3 m_41 (by decide) (by decide)
                        have hz_42 : (2 : Int32).toInt = 2 := by decide +kernel
                        obtain ⟨y_43, y_44, y_45, y_46, y_47, f_y_43, f_y_44, f_y_45, f_y_46, f_y_47, w_41_0⟩ := w_41_0
                        have w_41_0 : ((y_44).toInt ≤ (y_45).toInt ∧ (y_45).toInt ≤ (sl).toInt ∧ ((y_43).toInt ≠ 0 → (y_44).toInt + 1 ≤ (y_45).toInt)) ∧ (sa).toInt ≤ (y_44).toInt ∧ ((y_4).toInt ≠ 0 → (y_46).toInt ≠ 0) ∧ (((y_46).toInt = 0 → (sa).toInt + 1 ≤ (y_44).toInt) ∧ ((y_46).toInt = 0 → (y_47).toInt ≤ (y_44).toInt)) := w_41_0
                        obtain ⟨⟨w_41_0_0, w_41_0_1, w_41_0_2⟩, w_41_0_3, w_41_0_4, ⟨w_41_0_5, w_41_0_6⟩⟩ := w_41_0
                        clear w_41_0_4
                        have b_y_43 : 0 ≤ (y_43).toInt ∧ (y_43).toInt ≤ 3 := dg_I.intb (lo := 0) (hi := 3) I_41 sM_0 (by decide +kernel) f_y_43
                        have b_y_44 : 0 ≤ (y_44).toInt ∧ (y_44).toInt ≤ 1600 := dg_I.intb (lo := 0) (hi := 1600) I_41 sM_0 (by decide +kernel) f_y_44
                        have b_y_45 : 0 ≤ (y_45).toInt ∧ (y_45).toInt ≤ 1600 := dg_I.intb (lo := 0) (hi := 1600) I_41 sM_0 (by decide +kernel) f_y_45
                        have b_y_46 : 0 ≤ (y_46).toInt ∧ (y_46).toInt ≤ 6 := dg_I.intb (lo := 0) (hi := 6) I_41 sM_0 (by decide +kernel) f_y_46
                        have b_y_47 : 0 ≤ (y_47).toInt ∧ (y_47).toInt ≤ 1600 := dg_I.intb (lo := 0) (hi := 1600) I_41 sM_0 (by decide +kernel) f_y_47
                        have w_41_1 : ∀ k9 : Int32, S_41.1 0 8 = .int k9 → k9.toInt = 0 → ZVM S_41 := w_41_1
                        refine lv_goto (tgt := 236) hx hb dX12_statement_224 (by decide) ?_
                        refine W.widen (k := 0) (n := 0) (Nat.le_of_ble_eq_true rfl) (Nat.le_of_ble_eq_true rfl) ?_
                        rw [hQ9]
                        exact dg_vret hx hb hr hlocks hP hS ⟨I_41, M_41, ⟨y_43, y_44, y_45, y_46, y_47, f_y_43, f_y_44, f_y_45, f_y_46, f_y_47, (by omega)⟩, (fun k9 hk9 hk0 => ⟨(ZCM.keep (ZCM.keep ZC m_3 (by decide) (by decide) (by decide) (by decide)) m_41 (by decide) (by decide) (by decide) (by decide)), w_41_1 k9 hk9 hk0⟩), (ZBM.keep (ZBM.keep ZB m_3 (by decide) (by decide) (by decide) (by decide) (by decide)) m_41 (by decide) (by decide) (by decide) (by decide) (by decide)), w_41_2, trivial⟩ dX12_statement_236
                    · have jc_32 := dk_neqc (k := 0) (by decide +kernel) c_32
                      have jbc_32 : 1 ≤ (x_30).toInt := by omega
                      clear jc_32
                      have w_31_1_r := w_31_1 (by omega)
                      clear w_31_1
                      have hlx_2r := hlx_2 (by omega)
                      clear hlx_2
                      refine lv_aload_n hx hb dX12_statement_201 rfl (lv_at hl 0 rfl) ?_
                      refine lv_iconst (v := 1) hx hb dX12_statement_202 (by decide +kernel) ?_
                      have hz_48 : (1 : Int32).toInt = 1 := by decide +kernel
                      refine dg_callv hS hA1 hA (va_runV (As := [.int 1]) (rest := []) F (c_m_reading l g D o S_3 1 (by decide +kernel) sg ((m_3.1 0 3 _ sM_0 (by decide)).trans f_sg) (by omega) sa ((m_3.1 0 4 _ sM_0 (by decide)).trans f_sa) (by omega) se ((m_3.1 0 5 _ sM_0 (by decide)).trans f_se) (by omega) sl ((m_3.1 0 2 _ sM_0 (by decide)).trans f_sl) (by omega) y_4 f_y_4 (by omega) cd ((m_3.1 0 34 _ sM_0 (by decide)).trans f_cd) (by omega) (by omega) (by omega) (ZWM.keep ZW m_3 (by decide) (by decide) (by decide) (by decide)) (ZKM.keep ZK m_3 (by decide) (by decide)) (ZVM.keep ZV m_3 (by decide) (by decide) (by decide) (by decide) (by decide)) I_3 H.size) (cwV 1 hts (bw_V wB_1279 wB_1280 wB_1281 wB_881 wB_1278) rfl rfl rfl (by decide +kernel) ⟨Nat.le_of_ble_eq_true rfl, Nat.le_of_ble_eq_true rfl⟩) (dg_preV sM_0 rfl K ST hP hS hA1 hA) rfl rfl hl.1 rfl (lv_room (Nat.le_of_ble_eq_true rfl)) dX12_statement_203 ⟨Nat.le_of_ble_eq_true rfl, Nat.le_of_ble_eq_true rfl⟩) (fun S_49 hw_49 H locs hP hS => ?_)
                      obtain ⟨I_49, m_49, w_49_0, w_49_1, w_49_2, -⟩ := hw_49
                      have M_49 := dg_sm.tr M_3 m_49 (by decide) (by decide)
                      have hz_50 : (1 : Int32).toInt = 1 := by decide +kernel
                      obtain ⟨y_51, y_52, y_53, y_54, y_55, f_y_51, f_y_52, f_y_53, f_y_54, f_y_55, w_49_0⟩ := w_49_0
                      have w_49_0 : ((y_52).toInt ≤ (y_53).toInt ∧ (y_53).toInt ≤ (sl).toInt ∧ ((y_51).toInt ≠ 0 → (y_52).toInt + 1 ≤ (y_53).toInt)) ∧ (sa).toInt ≤ (y_52).toInt ∧ ((y_4).toInt ≠ 0 → (y_54).toInt ≠ 0) ∧ (((y_54).toInt = 0 → (sa).toInt + 1 ≤ (y_52).toInt) ∧ ((y_54).toInt = 0 → (y_55).toInt ≤ (y_52).toInt)) := w_49_0
                      obtain ⟨⟨w_49_0_0, w_49_0_1, w_49_0_2⟩, w_49_0_3, w_49_0_4, ⟨w_49_0_5, w_49_0_6⟩⟩ := w_49_0
                      clear w_49_0_4
                      have b_y_51 : 0 ≤ (y_51).toInt ∧ (y_51).toInt ≤ 3 := dg_I.intb (lo := 0) (hi := 3) I_49 sM_0 (by decide +kernel) f_y_51
                      have b_y_52 : 0 ≤ (y_52).toInt ∧ (y_52).toInt ≤ 1600 := dg_I.intb (lo := 0) (hi := 1600) I_49 sM_0 (by decide +kernel) f_y_52
                      have b_y_53 : 0 ≤ (y_53).toInt ∧ (y_53).toInt ≤ 1600 := dg_I.intb (lo := 0) (hi := 1600) I_49 sM_0 (by decide +kernel) f_y_53
                      have b_y_54 : 0 ≤ (y_54).toInt ∧ (y_54).toInt ≤ 6 := dg_I.intb (lo := 0) (hi := 6) I_49 sM_0 (by decide +kernel) f_y_54
                      have b_y_55 : 0 ≤ (y_55).toInt ∧ (y_55).toInt ≤ 1600 := dg_I.intb (lo := 0) (hi := 1600) I_49 sM_0 (by decide +kernel) f_y_55
                      have w_49_1 : ∀ k9 : Int32, S_49.1 0 8 = .int k9 → k9.toInt = 0 → ZVM S_49 := w_49_1
                      refine lv_goto (tgt := 236) hx hb dX12_statement_206 (by decide) ?_
                      refine W.widen (k := 0) (n := 0) (Nat.le_of_ble_eq_true rfl) (Nat.le_of_ble_eq_true rfl) ?_
                      rw [hQ9]
                      exact dg_vret hx hb hr hlocks hP hS ⟨I_49, M_49, ⟨y_51, y_52, y_53, y_54, y_55, f_y_51, f_y_52, f_y_53, f_y_54, f_y_55, (by omega)⟩, (fun k9 hk9 hk0 => ⟨(ZCM.keep (ZCM.keep ZC m_3 (by decide) (by decide) (by decide) (by decide)) m_49 (by decide) (by decide) (by decide) (by decide)), w_49_1 k9 hk9 hk0⟩), (ZBM.keep (ZBM.keep ZB m_3 (by decide) (by decide) (by decide) (by decide) (by decide)) m_49 (by decide) (by decide) (by decide) (by decide) (by decide)), w_49_2, trivial⟩ dX12_statement_236
                  · have jc_29 := dk_neqc (k := 0) (by decide +kernel) c_29
                    have jbc_29 : 1 ≤ (x_27).toInt := by omega
                    clear jc_29
                    have w_28_1_r := w_28_1 (by omega)
                    clear w_28_1
                    have hlx_2r := hlx_2 (by omega)
                    clear hlx_2
                    refine lv_aload_n hx hb dX12_statement_183 rfl (lv_at hl 0 rfl) ?_
                    refine lv_iconst (v := 0) hx hb dX12_statement_184 (by decide +kernel) ?_
                    have hz_56 : (0 : Int32).toInt = 0 := by decide +kernel
                    refine dg_callv hS hA1 hA (va_runV (As := [.int 0]) (rest := []) F (c_m_reading l g D o S_3 0 (by decide +kernel) sg ((m_3.1 0 3 _ sM_0 (by decide)).trans f_sg) (by omega) sa ((m_3.1 0 4 _ sM_0 (by decide)).trans f_sa) (by omega) se ((m_3.1 0 5 _ sM_0 (by decide)).trans f_se) (by omega) sl ((m_3.1 0 2 _ sM_0 (by decide)).trans f_sl) (by omega) y_4 f_y_4 (by omega) cd ((m_3.1 0 34 _ sM_0 (by decide)).trans f_cd) (by omega) (by omega) (by omega) (ZWM.keep ZW m_3 (by decide) (by decide) (by decide) (by decide)) (ZKM.keep ZK m_3 (by decide) (by decide)) (ZVM.keep ZV m_3 (by decide) (by decide) (by decide) (by decide) (by decide)) I_3 H.size) (cwV 1 hts (bw_V wB_1279 wB_1280 wB_1281 wB_881 wB_1278) rfl rfl rfl (by decide +kernel) ⟨Nat.le_of_ble_eq_true rfl, Nat.le_of_ble_eq_true rfl⟩) (dg_preV sM_0 rfl K ST hP hS hA1 hA) rfl rfl hl.1 rfl (lv_room (Nat.le_of_ble_eq_true rfl)) dX12_statement_185 ⟨Nat.le_of_ble_eq_true rfl, Nat.le_of_ble_eq_true rfl⟩) (fun S_57 hw_57 H locs hP hS => ?_)
                    obtain ⟨I_57, m_57, w_57_0, w_57_1, w_57_2, -⟩ := hw_57
                    have M_57 := dg_sm.tr M_3 m_57 (by decide) (by decide)
                    have hz_58 : (0 : Int32).toInt = 0 := by decide +kernel
                    obtain ⟨y_59, y_60, y_61, y_62, y_63, f_y_59, f_y_60, f_y_61, f_y_62, f_y_63, w_57_0⟩ := w_57_0
                    have w_57_0 : ((y_60).toInt ≤ (y_61).toInt ∧ (y_61).toInt ≤ (sl).toInt ∧ ((y_59).toInt ≠ 0 → (y_60).toInt + 1 ≤ (y_61).toInt)) ∧ (sa).toInt ≤ (y_60).toInt ∧ ((y_4).toInt ≠ 0 → (y_62).toInt ≠ 0) ∧ (((y_62).toInt = 0 → (sa).toInt + 1 ≤ (y_60).toInt) ∧ ((y_62).toInt = 0 → (y_63).toInt ≤ (y_60).toInt)) := w_57_0
                    obtain ⟨⟨w_57_0_0, w_57_0_1, w_57_0_2⟩, w_57_0_3, w_57_0_4, ⟨w_57_0_5, w_57_0_6⟩⟩ := w_57_0
                    clear w_57_0_4
                    have b_y_59 : 0 ≤ (y_59).toInt ∧ (y_59).toInt ≤ 3 := dg_I.intb (lo := 0) (hi := 3) I_57 sM_0 (by decide +kernel) f_y_59
                    have b_y_60 : 0 ≤ (y_60).toInt ∧ (y_60).toInt ≤ 1600 := dg_I.intb (lo := 0) (hi := 1600) I_57 sM_0 (by decide +kernel) f_y_60
                    have b_y_61 : 0 ≤ (y_61).toInt ∧ (y_61).toInt ≤ 1600 := dg_I.intb (lo := 0) (hi := 1600) I_57 sM_0 (by decide +kernel) f_y_61
                    have b_y_62 : 0 ≤ (y_62).toInt ∧ (y_62).toInt ≤ 6 := dg_I.intb (lo := 0) (hi := 6) I_57 sM_0 (by decide +kernel) f_y_62
                    have b_y_63 : 0 ≤ (y_63).toInt ∧ (y_63).toInt ≤ 1600 := dg_I.intb (lo := 0) (hi := 1600) I_57 sM_0 (by decide +kernel) f_y_63
                    have w_57_1 : ∀ k9 : Int32, S_57.1 0 8 = .int k9 → k9.toInt = 0 → ZVM S_57 := w_57_1
                    refine lv_goto (tgt := 236) hx hb dX12_statement_188 (by decide) ?_
                    refine W.widen (k := 0) (n := 0) (Nat.le_of_ble_eq_true rfl) (Nat.le_of_ble_eq_true rfl) ?_
                    rw [hQ9]
                    exact dg_vret hx hb hr hlocks hP hS ⟨I_57, M_57, ⟨y_59, y_60, y_61, y_62, y_63, f_y_59, f_y_60, f_y_61, f_y_62, f_y_63, (by omega)⟩, (fun k9 hk9 hk0 => ⟨(ZCM.keep (ZCM.keep ZC m_3 (by decide) (by decide) (by decide) (by decide)) m_57 (by decide) (by decide) (by decide) (by decide)), w_57_1 k9 hk9 hk0⟩), (ZBM.keep (ZBM.keep ZB m_3 (by decide) (by decide) (by decide) (by decide) (by decide)) m_57 (by decide) (by decide) (by decide) (by decide) (by decide)), w_57_2, trivial⟩ dX12_statement_236
                · have jc_26 := dk_neqc (k := 0) (by decide +kernel) c_26
                  have jbc_26 : 1 ≤ (x_24).toInt := by omega
                  clear jc_26
                  have w_25_1_r := w_25_1 (by omega)
                  clear w_25_1
                  have hlx_2r := hlx_2 (by omega)
                  clear hlx_2
                  refine lv_aload_n hx hb dX12_statement_166 rfl (lv_at hl 0 rfl) ?_
                  refine dg_callv hS hA1 hA (va_runV (As := []) (rest := []) F (c_m_ordering l g D o S_3 sg ((m_3.1 0 3 _ sM_0 (by decide)).trans f_sg) (by omega) sa ((m_3.1 0 4 _ sM_0 (by decide)).trans f_sa) (by omega) se ((m_3.1 0 5 _ sM_0 (by decide)).trans f_se) (by omega) sl ((m_3.1 0 2 _ sM_0 (by decide)).trans f_sl) (by omega) y_4 f_y_4 (by omega) (by omega) I_3 H.size) (cwV 0 hts (bw_V wB_1283 wB_1284 wB_1285 wB_881 wB_1282) rfl rfl rfl (by decide +kernel) ⟨Nat.le_of_ble_eq_true rfl, Nat.le_of_ble_eq_true rfl⟩) (dg_preV sM_0 rfl K ST hP hS hA1 hA) rfl rfl hl.1 rfl (lv_room (Nat.le_of_ble_eq_true rfl)) dX12_statement_167 ⟨Nat.le_of_ble_eq_true rfl, Nat.le_of_ble_eq_true rfl⟩) (fun S_64 hw_64 H locs hP hS => ?_)
                  obtain ⟨I_64, m_64, w_64_0, -⟩ := hw_64
                  have M_64 := dg_sm.tr M_3 m_64 (by decide) (by decide)
                  obtain ⟨y_65, y_66, y_67, y_68, f_y_65, f_y_66, f_y_67, f_y_68, w_64_0⟩ := w_64_0
                  have w_64_0 : ((y_66).toInt ≤ (y_67).toInt ∧ (y_67).toInt ≤ (sl).toInt ∧ ((y_65).toInt ≠ 0 → (y_66).toInt + 1 ≤ (y_67).toInt)) ∧ (sa).toInt ≤ (y_66).toInt ∧ ((y_4).toInt ≠ 0 → (y_68).toInt ≠ 0) ∧ ((y_68).toInt = 0 → (sa).toInt + 1 ≤ (y_66).toInt) := w_64_0
                  obtain ⟨⟨w_64_0_0, w_64_0_1, w_64_0_2⟩, w_64_0_3, w_64_0_4, w_64_0_5⟩ := w_64_0
                  clear w_64_0_4
                  have b_y_65 : 0 ≤ (y_65).toInt ∧ (y_65).toInt ≤ 3 := dg_I.intb (lo := 0) (hi := 3) I_64 sM_0 (by decide +kernel) f_y_65
                  have b_y_66 : 0 ≤ (y_66).toInt ∧ (y_66).toInt ≤ 1600 := dg_I.intb (lo := 0) (hi := 1600) I_64 sM_0 (by decide +kernel) f_y_66
                  have b_y_67 : 0 ≤ (y_67).toInt ∧ (y_67).toInt ≤ 1600 := dg_I.intb (lo := 0) (hi := 1600) I_64 sM_0 (by decide +kernel) f_y_67
                  have b_y_68 : 0 ≤ (y_68).toInt ∧ (y_68).toInt ≤ 6 := dg_I.intb (lo := 0) (hi := 6) I_64 sM_0 (by decide +kernel) f_y_68
                  refine lv_goto (tgt := 236) hx hb dX12_statement_170 (by decide) ?_
                  refine W.widen (k := 0) (n := 0) (Nat.le_of_ble_eq_true rfl) (Nat.le_of_ble_eq_true rfl) ?_
                  rw [hQ9]
                  exact dg_vret hx hb hr hlocks hP hS ⟨I_64, M_64, ⟨y_65, y_66, y_67, y_68, cd, f_y_65, f_y_66, f_y_67, f_y_68, (((m_64.1 0 34 _ sM_0 (by decide)).trans (m_3.1 0 34 _ sM_0 (by decide))).trans f_cd), (by omega)⟩, (fun k9 hk9 hk0 => ⟨(ZCM.keep (ZCM.keep ZC m_3 (by decide) (by decide) (by decide) (by decide)) m_64 (by decide) (by decide) (by decide) (by decide)), (ZVM.keep (ZVM.keep ZV m_3 (by decide) (by decide) (by decide) (by decide) (by decide)) m_64 (by decide) (by decide) (by decide) (by decide) (by decide))⟩), (ZBM.keep (ZBM.keep ZB m_3 (by decide) (by decide) (by decide) (by decide) (by decide)) m_64 (by decide) (by decide) (by decide) (by decide) (by decide)), (ZWM.keep (ZWM.keep ZW m_3 (by decide) (by decide) (by decide) (by decide)) m_64 (by decide) (by decide) (by decide) (by decide)), trivial⟩ dX12_statement_236
              · have jc_23 := dk_neqc (k := 0) (by decide +kernel) c_23
                have jbc_23 : 1 ≤ (x_21).toInt := by omega
                clear jc_23
                have w_22_1_r := w_22_1 (by omega)
                clear w_22_1
                have hlx_2r := hlx_2 (by omega)
                clear hlx_2
                refine lv_aload_n hx hb dX12_statement_149 rfl (lv_at hl 0 rfl) ?_
                refine dg_callv hS hA1 hA (va_runV (As := []) (rest := []) F (c_m_digging l g D o S_3 sg ((m_3.1 0 3 _ sM_0 (by decide)).trans f_sg) (by omega) sa ((m_3.1 0 4 _ sM_0 (by decide)).trans f_sa) (by omega) se ((m_3.1 0 5 _ sM_0 (by decide)).trans f_se) (by omega) sl ((m_3.1 0 2 _ sM_0 (by decide)).trans f_sl) (by omega) y_4 f_y_4 (by omega) (by omega) (ZCM.keep ZC m_3 (by decide) (by decide) (by decide) (by decide)) I_3 H.size) (cwV 0 hts (bw_V wB_1287 wB_1288 wB_1289 wB_881 wB_1286) rfl rfl rfl (by decide +kernel) ⟨Nat.le_of_ble_eq_true rfl, Nat.le_of_ble_eq_true rfl⟩) (dg_preV sM_0 rfl K ST hP hS hA1 hA) rfl rfl hl.1 rfl (lv_room (Nat.le_of_ble_eq_true rfl)) dX12_statement_150 ⟨Nat.le_of_ble_eq_true rfl, Nat.le_of_ble_eq_true rfl⟩) (fun S_69 hw_69 H locs hP hS => ?_)
                obtain ⟨I_69, m_69, w_69_0, -⟩ := hw_69
                have M_69 := dg_sm.tr M_3 m_69 (by decide) (by decide)
                obtain ⟨y_70, y_71, y_72, y_73, f_y_70, f_y_71, f_y_72, f_y_73, w_69_0⟩ := w_69_0
                have w_69_0 : ((y_71).toInt ≤ (y_72).toInt ∧ (y_72).toInt ≤ (sl).toInt ∧ ((y_70).toInt ≠ 0 → (y_71).toInt + 1 ≤ (y_72).toInt)) ∧ (sa).toInt ≤ (y_71).toInt ∧ ((y_4).toInt ≠ 0 → (y_73).toInt ≠ 0) ∧ ((y_73).toInt = 0 → (sa).toInt + 1 ≤ (y_71).toInt) := w_69_0
                obtain ⟨⟨w_69_0_0, w_69_0_1, w_69_0_2⟩, w_69_0_3, w_69_0_4, w_69_0_5⟩ := w_69_0
                clear w_69_0_4
                have b_y_70 : 0 ≤ (y_70).toInt ∧ (y_70).toInt ≤ 3 := dg_I.intb (lo := 0) (hi := 3) I_69 sM_0 (by decide +kernel) f_y_70
                have b_y_71 : 0 ≤ (y_71).toInt ∧ (y_71).toInt ≤ 1600 := dg_I.intb (lo := 0) (hi := 1600) I_69 sM_0 (by decide +kernel) f_y_71
                have b_y_72 : 0 ≤ (y_72).toInt ∧ (y_72).toInt ≤ 1600 := dg_I.intb (lo := 0) (hi := 1600) I_69 sM_0 (by decide +kernel) f_y_72
                have b_y_73 : 0 ≤ (y_73).toInt ∧ (y_73).toInt ≤ 6 := dg_I.intb (lo := 0) (hi := 6) I_69 sM_0 (by decide +kernel) f_y_73
                refine lv_goto (tgt := 236) hx hb dX12_statement_153 (by decide) ?_
                refine W.widen (k := 0) (n := 0) (Nat.le_of_ble_eq_true rfl) (Nat.le_of_ble_eq_true rfl) ?_
                rw [hQ9]
                exact dg_vret hx hb hr hlocks hP hS ⟨I_69, M_69, ⟨y_70, y_71, y_72, y_73, cd, f_y_70, f_y_71, f_y_72, f_y_73, (((m_69.1 0 34 _ sM_0 (by decide)).trans (m_3.1 0 34 _ sM_0 (by decide))).trans f_cd), (by omega)⟩, (fun k9 hk9 hk0 => ⟨(ZCM.keep (ZCM.keep ZC m_3 (by decide) (by decide) (by decide) (by decide)) m_69 (by decide) (by decide) (by decide) (by decide)), (ZVM.keep (ZVM.keep ZV m_3 (by decide) (by decide) (by decide) (by decide) (by decide)) m_69 (by decide) (by decide) (by decide) (by decide) (by decide))⟩), (ZBM.keep (ZBM.keep ZB m_3 (by decide) (by decide) (by decide) (by decide) (by decide)) m_69 (by decide) (by decide) (by decide) (by decide) (by decide)), (ZWM.keep (ZWM.keep ZW m_3 (by decide) (by decide) (by decide) (by decide)) m_69 (by decide) (by decide) (by decide) (by decide)), trivial⟩ dX12_statement_236
            · have jc_20 := dk_neqc (k := 0) (by decide +kernel) c_20
              have jbc_20 : 1 ≤ (x_18).toInt := by omega
              clear jc_20
              have w_19_1_r := w_19_1 (by omega)
              clear w_19_1
              have hlx_2r := hlx_2 (by omega)
              clear hlx_2
              refine lv_aload_n hx hb dX12_statement_132 rfl (lv_at hl 0 rfl) ?_
              refine dg_callv hS hA1 hA (va_runV (As := []) (rest := []) F (c_m_mining l g D o S_3 sg ((m_3.1 0 3 _ sM_0 (by decide)).trans f_sg) (by omega) sa ((m_3.1 0 4 _ sM_0 (by decide)).trans f_sa) (by omega) se ((m_3.1 0 5 _ sM_0 (by decide)).trans f_se) (by omega) sl ((m_3.1 0 2 _ sM_0 (by decide)).trans f_sl) (by omega) y_4 f_y_4 (by omega) (by omega) I_3 H.size) (cwV 0 hts (bw_V wB_1291 wB_1292 wB_1293 wB_881 wB_1290) rfl rfl rfl (by decide +kernel) ⟨Nat.le_of_ble_eq_true rfl, Nat.le_of_ble_eq_true rfl⟩) (dg_preV sM_0 rfl K ST hP hS hA1 hA) rfl rfl hl.1 rfl (lv_room (Nat.le_of_ble_eq_true rfl)) dX12_statement_133 ⟨Nat.le_of_ble_eq_true rfl, Nat.le_of_ble_eq_true rfl⟩) (fun S_74 hw_74 H locs hP hS => ?_)
              obtain ⟨I_74, m_74, w_74_0, -⟩ := hw_74
              have M_74 := dg_sm.tr M_3 m_74 (by decide) (by decide)
              obtain ⟨y_75, y_76, y_77, y_78, f_y_75, f_y_76, f_y_77, f_y_78, w_74_0⟩ := w_74_0
              have w_74_0 : ((y_76).toInt ≤ (y_77).toInt ∧ (y_77).toInt ≤ (sl).toInt ∧ ((y_75).toInt ≠ 0 → (y_76).toInt + 1 ≤ (y_77).toInt)) ∧ (sa).toInt ≤ (y_76).toInt ∧ ((y_4).toInt ≠ 0 → (y_78).toInt ≠ 0) ∧ ((y_78).toInt = 0 → (sa).toInt + 1 ≤ (y_76).toInt) := w_74_0
              obtain ⟨⟨w_74_0_0, w_74_0_1, w_74_0_2⟩, w_74_0_3, w_74_0_4, w_74_0_5⟩ := w_74_0
              clear w_74_0_4
              have b_y_75 : 0 ≤ (y_75).toInt ∧ (y_75).toInt ≤ 3 := dg_I.intb (lo := 0) (hi := 3) I_74 sM_0 (by decide +kernel) f_y_75
              have b_y_76 : 0 ≤ (y_76).toInt ∧ (y_76).toInt ≤ 1600 := dg_I.intb (lo := 0) (hi := 1600) I_74 sM_0 (by decide +kernel) f_y_76
              have b_y_77 : 0 ≤ (y_77).toInt ∧ (y_77).toInt ≤ 1600 := dg_I.intb (lo := 0) (hi := 1600) I_74 sM_0 (by decide +kernel) f_y_77
              have b_y_78 : 0 ≤ (y_78).toInt ∧ (y_78).toInt ≤ 6 := dg_I.intb (lo := 0) (hi := 6) I_74 sM_0 (by decide +kernel) f_y_78
              refine lv_goto (tgt := 236) hx hb dX12_statement_136 (by decide) ?_
              refine W.widen (k := 0) (n := 0) (Nat.le_of_ble_eq_true rfl) (Nat.le_of_ble_eq_true rfl) ?_
              rw [hQ9]
              exact dg_vret hx hb hr hlocks hP hS ⟨I_74, M_74, ⟨y_75, y_76, y_77, y_78, cd, f_y_75, f_y_76, f_y_77, f_y_78, (((m_74.1 0 34 _ sM_0 (by decide)).trans (m_3.1 0 34 _ sM_0 (by decide))).trans f_cd), (by omega)⟩, (fun k9 hk9 hk0 => ⟨(ZCM.keep (ZCM.keep ZC m_3 (by decide) (by decide) (by decide) (by decide)) m_74 (by decide) (by decide) (by decide) (by decide)), (ZVM.keep (ZVM.keep ZV m_3 (by decide) (by decide) (by decide) (by decide) (by decide)) m_74 (by decide) (by decide) (by decide) (by decide) (by decide))⟩), (ZBM.keep (ZBM.keep ZB m_3 (by decide) (by decide) (by decide) (by decide) (by decide)) m_74 (by decide) (by decide) (by decide) (by decide) (by decide)), (ZWM.keep (ZWM.keep ZW m_3 (by decide) (by decide) (by decide) (by decide)) m_74 (by decide) (by decide) (by decide) (by decide)), trivial⟩ dX12_statement_236
          · have jc_17 := dk_neqc (k := 0) (by decide +kernel) c_17
            have jbc_17 : 1 ≤ (x_15).toInt := by omega
            clear jc_17
            have w_16_1_r := w_16_1 (by omega)
            clear w_16_1
            have hlx_2r := hlx_2 (by omega)
            clear hlx_2
            refine lv_aload_n hx hb dX12_statement_115 rfl (lv_at hl 0 rfl) ?_
            refine dg_callv hS hA1 hA (va_runV (As := []) (rest := []) F (c_m_grading l g D o S_3 sg ((m_3.1 0 3 _ sM_0 (by decide)).trans f_sg) (by omega) sa ((m_3.1 0 4 _ sM_0 (by decide)).trans f_sa) (by omega) se ((m_3.1 0 5 _ sM_0 (by decide)).trans f_se) (by omega) sl ((m_3.1 0 2 _ sM_0 (by decide)).trans f_sl) (by omega) y_4 f_y_4 (by omega) (by omega) (ZCM.keep ZC m_3 (by decide) (by decide) (by decide) (by decide)) I_3 H.size) (cwV 0 hts (bw_V wB_1295 wB_1296 wB_1297 wB_881 wB_1294) rfl rfl rfl (by decide +kernel) ⟨Nat.le_of_ble_eq_true rfl, Nat.le_of_ble_eq_true rfl⟩) (dg_preV sM_0 rfl K ST hP hS hA1 hA) rfl rfl hl.1 rfl (lv_room (Nat.le_of_ble_eq_true rfl)) dX12_statement_116 ⟨Nat.le_of_ble_eq_true rfl, Nat.le_of_ble_eq_true rfl⟩) (fun S_79 hw_79 H locs hP hS => ?_)
            obtain ⟨I_79, m_79, w_79_0, -⟩ := hw_79
            have M_79 := dg_sm.tr M_3 m_79 (by decide) (by decide)
            obtain ⟨y_80, y_81, y_82, y_83, f_y_80, f_y_81, f_y_82, f_y_83, w_79_0⟩ := w_79_0
            have w_79_0 : ((y_81).toInt ≤ (y_82).toInt ∧ (y_82).toInt ≤ (sl).toInt ∧ ((y_80).toInt ≠ 0 → (y_81).toInt + 1 ≤ (y_82).toInt)) ∧ (sa).toInt ≤ (y_81).toInt ∧ ((y_4).toInt ≠ 0 → (y_83).toInt ≠ 0) ∧ ((y_83).toInt = 0 → (sa).toInt + 1 ≤ (y_81).toInt) := w_79_0
            obtain ⟨⟨w_79_0_0, w_79_0_1, w_79_0_2⟩, w_79_0_3, w_79_0_4, w_79_0_5⟩ := w_79_0
            clear w_79_0_4
            have b_y_80 : 0 ≤ (y_80).toInt ∧ (y_80).toInt ≤ 3 := dg_I.intb (lo := 0) (hi := 3) I_79 sM_0 (by decide +kernel) f_y_80
            have b_y_81 : 0 ≤ (y_81).toInt ∧ (y_81).toInt ≤ 1600 := dg_I.intb (lo := 0) (hi := 1600) I_79 sM_0 (by decide +kernel) f_y_81
            have b_y_82 : 0 ≤ (y_82).toInt ∧ (y_82).toInt ≤ 1600 := dg_I.intb (lo := 0) (hi := 1600) I_79 sM_0 (by decide +kernel) f_y_82
            have b_y_83 : 0 ≤ (y_83).toInt ∧ (y_83).toInt ≤ 6 := dg_I.intb (lo := 0) (hi := 6) I_79 sM_0 (by decide +kernel) f_y_83
            refine lv_goto (tgt := 236) hx hb dX12_statement_119 (by decide) ?_
            refine W.widen (k := 0) (n := 0) (Nat.le_of_ble_eq_true rfl) (Nat.le_of_ble_eq_true rfl) ?_
            rw [hQ9]
            exact dg_vret hx hb hr hlocks hP hS ⟨I_79, M_79, ⟨y_80, y_81, y_82, y_83, cd, f_y_80, f_y_81, f_y_82, f_y_83, (((m_79.1 0 34 _ sM_0 (by decide)).trans (m_3.1 0 34 _ sM_0 (by decide))).trans f_cd), (by omega)⟩, (fun k9 hk9 hk0 => ⟨(ZCM.keep (ZCM.keep ZC m_3 (by decide) (by decide) (by decide) (by decide)) m_79 (by decide) (by decide) (by decide) (by decide)), (ZVM.keep (ZVM.keep ZV m_3 (by decide) (by decide) (by decide) (by decide) (by decide)) m_79 (by decide) (by decide) (by decide) (by decide) (by decide))⟩), (ZBM.keep (ZBM.keep ZB m_3 (by decide) (by decide) (by decide) (by decide) (by decide)) m_79 (by decide) (by decide) (by decide) (by decide) (by decide)), (ZWM.keep (ZWM.keep ZW m_3 (by decide) (by decide) (by decide) (by decide)) m_79 (by decide) (by decide) (by decide) (by decide)), trivial⟩ dX12_statement_236
        · have jc_14 := dk_neqc (k := 0) (by decide +kernel) c_14
          have jbc_14 : 1 ≤ (x_12).toInt := by omega
          clear jc_14
          have w_13_1_r := w_13_1 (by omega)
          clear w_13_1
          have hlx_2r := hlx_2 (by omega)
          clear hlx_2
          refine lv_aload_n hx hb dX12_statement_87 rfl (lv_at hl 0 rfl) ?_
          refine dg_get (C := RX12) (T := TX12) (N := 77) hx hb hts (fun w h => bw_mem (wU_X12 w h)) hown K hP sM_0 rfl 18 (by decide) (hts _ (bw_mem wB_1093)) (fun _ h9 => h9) (v := .ref (o + 6)) (show S_3.1 0 18 = .ref (o + 6) from dg_I.rel (d := 6) I_3 sM_0 (by decide +kernel)) dX12_statement_88 ?_
          refine lv_aload_n hx hb dX12_statement_91 rfl (lv_at hl 0 rfl) ?_
          refine dg_get (C := RX12) (T := TX12) (N := 77) hx hb hts (fun w h => bw_mem (wU_X12 w h)) hown K hP sM_0 rfl 35 (by decide) (hts _ (bw_mem wB_1195)) (fun _ h9 => h9) (v := .int x_2) ((m_3.1 0 35 _ sM_0 (by decide)).trans f_x_2) dX12_statement_92 ?_
          refine lv_aload_n hx hb dX12_statement_95 rfl (lv_at hl 0 rfl) ?_
          refine lv_bipush (v := 100) hx hb dX12_statement_96 (by decide +kernel) ?_
          refine dg_calli hS hA1 hA (va_runV (As := [.int 100]) (rest := [.int x_2, .ref (o + 6)]) F (c_m_telling l g D o S_3 100 sg ((m_3.1 0 3 _ sM_0 (by decide)).trans f_sg) (by omega) sa ((m_3.1 0 4 _ sM_0 (by decide)).trans f_sa) (by omega) se ((m_3.1 0 5 _ sM_0 (by decide)).trans f_se) (by omega) sl ((m_3.1 0 2 _ sM_0 (by decide)).trans f_sl) (by omega) y_4 f_y_4 (by omega) (by omega) I_3 H.size) (cwV 1 hts (bw_V wB_1299 wB_1300 wB_1301 wB_881 wB_1298) rfl rfl rfl (by decide +kernel) ⟨Nat.le_of_ble_eq_true rfl, Nat.le_of_ble_eq_true rfl⟩) (dg_preV sM_0 rfl K ST hP hS hA1 hA) rfl rfl hl.1 rfl (lv_room (Nat.le_of_ble_eq_true rfl)) dX12_statement_98 ⟨Nat.le_of_ble_eq_true rfl, Nat.le_of_ble_eq_true rfl⟩) (fun x_84 S_85 hw_85 H locs hP hS => ?_)
          obtain ⟨I_85, m_85, w_85_0, w_85_1, -⟩ := hw_85
          have M_85 := dg_sm.tr M_3 m_85 (by decide) (by decide)
          have hz_86 : (100 : Int32).toInt = 100 := by decide +kernel
          have w_85_0 : 0 ≤ (x_84).toInt ∧ (x_84).toInt ≤ 9999 := w_85_0
          obtain ⟨y_87, y_88, y_89, y_90, f_y_87, f_y_88, f_y_89, f_y_90, w_85_1⟩ := w_85_1
          have w_85_1 : ((y_88).toInt ≤ (y_89).toInt ∧ (y_89).toInt ≤ (sl).toInt ∧ ((y_87).toInt ≠ 0 → (y_88).toInt + 1 ≤ (y_89).toInt)) ∧ (sa).toInt ≤ (y_88).toInt ∧ ((y_4).toInt ≠ 0 → (y_90).toInt ≠ 0) ∧ ((y_90).toInt = 0 → (0 ≤ (x_84).toInt ∧ (x_84).toInt ≤ ((100 : Int32)).toInt ∧ (sa).toInt + 1 ≤ (y_88).toInt)) := w_85_1
          obtain ⟨⟨w_85_1_0, w_85_1_1, w_85_1_2⟩, w_85_1_3, w_85_1_4, w_85_1_5⟩ := w_85_1
          clear w_85_1_4
          have b_y_87 : 0 ≤ (y_87).toInt ∧ (y_87).toInt ≤ 3 := dg_I.intb (lo := 0) (hi := 3) I_85 sM_0 (by decide +kernel) f_y_87
          have b_y_88 : 0 ≤ (y_88).toInt ∧ (y_88).toInt ≤ 1600 := dg_I.intb (lo := 0) (hi := 1600) I_85 sM_0 (by decide +kernel) f_y_88
          have b_y_89 : 0 ≤ (y_89).toInt ∧ (y_89).toInt ≤ 1600 := dg_I.intb (lo := 0) (hi := 1600) I_85 sM_0 (by decide +kernel) f_y_89
          have b_y_90 : 0 ≤ (y_90).toInt ∧ (y_90).toInt ≤ 6 := dg_I.intb (lo := 0) (hi := 6) I_85 sM_0 (by decide +kernel) f_y_90
          have hin_91 : vp_in x_2 2 := (dk_inv (by omega) (by omega))
          refine dg_iast hx hb K hP hS hA1 sM_6 hin_91 dX12_statement_101 (fun S_92 e_92 H locs hP hS => ?_)
          have I_92 := dg_I.ufu (lo := 0) (hi := 9999) I_85 e_92 sM_6 (by decide +kernel) (show 0 ≤ (x_84).toInt ∧ (x_84).toInt ≤ 9999 from (by omega))
          have M_92 := dg_sm.uf M_85 e_92 sM_6 (by decide)
          refine lv_goto (tgt := 236) hx hb dX12_statement_102 (by decide) ?_
          refine W.widen (k := 0) (n := 0) (Nat.le_of_ble_eq_true rfl) (Nat.le_of_ble_eq_true rfl) ?_
          rw [hQ9]
          exact dg_vret hx hb hr hlocks hP hS ⟨I_92, M_92, ⟨y_87, y_88, y_89, y_90, cd, ((dg_uf_F e_92 0 3).trans f_y_87), ((dg_uf_F e_92 0 4).trans f_y_88), ((dg_uf_F e_92 0 5).trans f_y_89), ((dg_uf_F e_92 0 8).trans f_y_90), (((dg_uf_F e_92 0 34).trans ((m_85.1 0 34 _ sM_0 (by decide)).trans (m_3.1 0 34 _ sM_0 (by decide)))).trans f_cd), (by omega)⟩, (fun k9 hk9 hk0 => ⟨(ZCM.keep (ZCM.keep (ZCM.keep ZC m_3 (by decide) (by decide) (by decide) (by decide)) m_85 (by decide) (by decide) (by decide) (by decide)) (dg_sm.uf (WF := []) (WA := [6]) dg_sm.rf e_92 sM_6 (by decide)) (by decide) (by decide) (by decide) (by decide)), (ZVM.keep (ZVM.keep (ZVM.keep ZV m_3 (by decide) (by decide) (by decide) (by decide) (by decide)) m_85 (by decide) (by decide) (by decide) (by decide) (by decide)) (dg_sm.uf (WF := []) (WA := [6]) dg_sm.rf e_92 sM_6 (by decide)) (by decide) (by decide) (by decide) (by decide) (by decide))⟩), (ZBM.keep (ZBM.keep (ZBM.keep ZB m_3 (by decide) (by decide) (by decide) (by decide) (by decide)) m_85 (by decide) (by decide) (by decide) (by decide) (by decide)) (dg_sm.uf (WF := []) (WA := [6]) dg_sm.rf e_92 sM_6 (by decide)) (by decide) (by decide) (by decide) (by decide) (by decide)), (ZWM.keep (ZWM.keep (ZWM.keep ZW m_3 (by decide) (by decide) (by decide) (by decide)) m_85 (by decide) (by decide) (by decide) (by decide)) (dg_sm.uf (WF := []) (WA := [6]) dg_sm.rf e_92 sM_6 (by decide)) (by decide) (by decide) (by decide) (by decide)), trivial⟩ dX12_statement_236
      · have jc_11 := dk_neqc (k := 0) (by decide +kernel) c_11
        have jbc_11 : 1 ≤ (x_9).toInt := by omega
        clear jc_11
        have w_10_1_r := w_10_1 (by omega)
        clear w_10_1
        have hlx_2r := hlx_2 (by omega)
        clear hlx_2
        refine lv_aload_n hx hb dX12_statement_59 rfl (lv_at hl 0 rfl) ?_
        refine dg_get (C := RX12) (T := TX12) (N := 77) hx hb hts (fun w h => bw_mem (wU_X12 w h)) hown K hP sM_0 rfl 17 (by decide) (hts _ (bw_mem wB_1012)) (fun _ h9 => h9) (v := .ref (o + 5)) (show S_3.1 0 17 = .ref (o + 5) from dg_I.rel (d := 5) I_3 sM_0 (by decide +kernel)) dX12_statement_60 ?_
        refine lv_aload_n hx hb dX12_statement_63 rfl (lv_at hl 0 rfl) ?_
        refine dg_get (C := RX12) (T := TX12) (N := 77) hx hb hts (fun w h => bw_mem (wU_X12 w h)) hown K hP sM_0 rfl 35 (by decide) (hts _ (bw_mem wB_1195)) (fun _ h9 => h9) (v := .int x_2) ((m_3.1 0 35 _ sM_0 (by decide)).trans f_x_2) dX12_statement_64 ?_
        refine lv_aload_n hx hb dX12_statement_67 rfl (lv_at hl 0 rfl) ?_
        refine lv_bipush (v := 20) hx hb dX12_statement_68 (by decide +kernel) ?_
        refine dg_calli hS hA1 hA (va_runV (As := [.int 20]) (rest := [.int x_2, .ref (o + 5)]) F (c_m_telling l g D o S_3 20 sg ((m_3.1 0 3 _ sM_0 (by decide)).trans f_sg) (by omega) sa ((m_3.1 0 4 _ sM_0 (by decide)).trans f_sa) (by omega) se ((m_3.1 0 5 _ sM_0 (by decide)).trans f_se) (by omega) sl ((m_3.1 0 2 _ sM_0 (by decide)).trans f_sl) (by omega) y_4 f_y_4 (by omega) (by omega) I_3 H.size) (cwV 1 hts (bw_V wB_1299 wB_1300 wB_1301 wB_881 wB_1298) rfl rfl rfl (by decide +kernel) ⟨Nat.le_of_ble_eq_true rfl, Nat.le_of_ble_eq_true rfl⟩) (dg_preV sM_0 rfl K ST hP hS hA1 hA) rfl rfl hl.1 rfl (lv_room (Nat.le_of_ble_eq_true rfl)) dX12_statement_70 ⟨Nat.le_of_ble_eq_true rfl, Nat.le_of_ble_eq_true rfl⟩) (fun x_93 S_94 hw_94 H locs hP hS => ?_)
        obtain ⟨I_94, m_94, w_94_0, w_94_1, -⟩ := hw_94
        have M_94 := dg_sm.tr M_3 m_94 (by decide) (by decide)
        have hz_95 : (20 : Int32).toInt = 20 := by decide +kernel
        have w_94_0 : 0 ≤ (x_93).toInt ∧ (x_93).toInt ≤ 9999 := w_94_0
        obtain ⟨y_96, y_97, y_98, y_99, f_y_96, f_y_97, f_y_98, f_y_99, w_94_1⟩ := w_94_1
        have w_94_1 : ((y_97).toInt ≤ (y_98).toInt ∧ (y_98).toInt ≤ (sl).toInt ∧ ((y_96).toInt ≠ 0 → (y_97).toInt + 1 ≤ (y_98).toInt)) ∧ (sa).toInt ≤ (y_97).toInt ∧ ((y_4).toInt ≠ 0 → (y_99).toInt ≠ 0) ∧ ((y_99).toInt = 0 → (0 ≤ (x_93).toInt ∧ (x_93).toInt ≤ ((20 : Int32)).toInt ∧ (sa).toInt + 1 ≤ (y_97).toInt)) := w_94_1
        obtain ⟨⟨w_94_1_0, w_94_1_1, w_94_1_2⟩, w_94_1_3, w_94_1_4, w_94_1_5⟩ := w_94_1
        clear w_94_1_4
        have b_y_96 : 0 ≤ (y_96).toInt ∧ (y_96).toInt ≤ 3 := dg_I.intb (lo := 0) (hi := 3) I_94 sM_0 (by decide +kernel) f_y_96
        have b_y_97 : 0 ≤ (y_97).toInt ∧ (y_97).toInt ≤ 1600 := dg_I.intb (lo := 0) (hi := 1600) I_94 sM_0 (by decide +kernel) f_y_97
        have b_y_98 : 0 ≤ (y_98).toInt ∧ (y_98).toInt ≤ 1600 := dg_I.intb (lo := 0) (hi := 1600) I_94 sM_0 (by decide +kernel) f_y_98
        have b_y_99 : 0 ≤ (y_99).toInt ∧ (y_99).toInt ≤ 6 := dg_I.intb (lo := 0) (hi := 6) I_94 sM_0 (by decide +kernel) f_y_99
        have hin_100 : vp_in x_2 2 := (dk_inv (by omega) (by omega))
        refine dg_iast hx hb K hP hS hA1 sM_5 hin_100 dX12_statement_73 (fun S_101 e_101 H locs hP hS => ?_)
        have I_101 := dg_I.ufu (lo := 0) (hi := 9999) I_94 e_101 sM_5 (by decide +kernel) (show 0 ≤ (x_93).toInt ∧ (x_93).toInt ≤ 9999 from (by omega))
        have M_101 := dg_sm.uf M_94 e_101 sM_5 (by decide)
        refine lv_goto (tgt := 236) hx hb dX12_statement_74 (by decide) ?_
        refine W.widen (k := 0) (n := 0) (Nat.le_of_ble_eq_true rfl) (Nat.le_of_ble_eq_true rfl) ?_
        rw [hQ9]
        exact dg_vret hx hb hr hlocks hP hS ⟨I_101, M_101, ⟨y_96, y_97, y_98, y_99, cd, ((dg_uf_F e_101 0 3).trans f_y_96), ((dg_uf_F e_101 0 4).trans f_y_97), ((dg_uf_F e_101 0 5).trans f_y_98), ((dg_uf_F e_101 0 8).trans f_y_99), (((dg_uf_F e_101 0 34).trans ((m_94.1 0 34 _ sM_0 (by decide)).trans (m_3.1 0 34 _ sM_0 (by decide)))).trans f_cd), (by omega)⟩, (fun k9 hk9 hk0 => ⟨(ZCM.keep (ZCM.keep (ZCM.keep ZC m_3 (by decide) (by decide) (by decide) (by decide)) m_94 (by decide) (by decide) (by decide) (by decide)) (dg_sm.uf (WF := []) (WA := [5]) dg_sm.rf e_101 sM_5 (by decide)) (by decide) (by decide) (by decide) (by decide)), (ZVM.keep (ZVM.keep (ZVM.keep ZV m_3 (by decide) (by decide) (by decide) (by decide) (by decide)) m_94 (by decide) (by decide) (by decide) (by decide) (by decide)) (dg_sm.uf (WF := []) (WA := [5]) dg_sm.rf e_101 sM_5 (by decide)) (by decide) (by decide) (by decide) (by decide) (by decide))⟩), (ZBM.keep (ZBM.keep (ZBM.keep ZB m_3 (by decide) (by decide) (by decide) (by decide) (by decide)) m_94 (by decide) (by decide) (by decide) (by decide) (by decide)) (dg_sm.uf (WF := []) (WA := [5]) dg_sm.rf e_101 sM_5 (by decide)) (by decide) (by decide) (by decide) (by decide) (by decide)), (ZWM.keep (ZWM.keep (ZWM.keep ZW m_3 (by decide) (by decide) (by decide) (by decide)) m_94 (by decide) (by decide) (by decide) (by decide)) (dg_sm.uf (WF := []) (WA := [5]) dg_sm.rf e_101 sM_5 (by decide)) (by decide) (by decide) (by decide) (by decide)), trivial⟩ dX12_statement_236
    · have jc_8 := dk_neqc (k := 0) (by decide +kernel) c_8
      have jbc_8 : 1 ≤ (x_6).toInt := by omega
      clear jc_8
      have w_7_1_r := w_7_1 (by omega)
      clear w_7_1
      have hlx_2r := hlx_2 (by omega)
      clear hlx_2
      refine lv_aload_n hx hb dX12_statement_22 rfl (lv_at hl 0 rfl) ?_
      refine dg_get (C := RX12) (T := TX12) (N := 77) hx hb hts (fun w h => bw_mem (wU_X12 w h)) hown K hP sM_0 rfl 16 (by decide) (hts _ (bw_mem wB_941)) (fun _ h9 => h9) (v := .ref (o + 4)) (show S_3.1 0 16 = .ref (o + 4) from dg_I.rel (d := 4) I_3 sM_0 (by decide +kernel)) dX12_statement_23 ?_
      refine lv_aload_n hx hb dX12_statement_26 rfl (lv_at hl 0 rfl) ?_
      refine dg_get (C := RX12) (T := TX12) (N := 77) hx hb hts (fun w h => bw_mem (wU_X12 w h)) hown K hP sM_0 rfl 35 (by decide) (hts _ (bw_mem wB_1195)) (fun _ h9 => h9) (v := .int x_2) ((m_3.1 0 35 _ sM_0 (by decide)).trans f_x_2) dX12_statement_27 ?_
      refine lv_aload_n hx hb dX12_statement_30 rfl (lv_at hl 0 rfl) ?_
      refine lv_aload_n hx hb dX12_statement_31 rfl (lv_at hl 0 rfl) ?_
      refine dg_get (C := RX12) (T := TX12) (N := 77) hx hb hts (fun w h => bw_mem (wU_X12 w h)) hown K hP sM_0 rfl 14 (by decide) (hts _ (bw_mem wB_892)) (fun _ h9 => h9) (v := .ref (o + 2)) (show S_3.1 0 14 = .ref (o + 2) from dg_I.rel (d := 2) I_3 sM_0 (by decide +kernel)) dX12_statement_32 ?_
      refine lv_aload_n hx hb dX12_statement_35 rfl (lv_at hl 0 rfl) ?_
      refine dg_get (C := RX12) (T := TX12) (N := 77) hx hb hts (fun w h => bw_mem (wU_X12 w h)) hown K hP sM_0 rfl 35 (by decide) (hts _ (bw_mem wB_1195)) (fun _ h9 => h9) (v := .int x_2) ((m_3.1 0 35 _ sM_0 (by decide)).trans f_x_2) dX12_statement_36 ?_
      have hin_102 : vp_in x_2 2 := (dk_inv (by omega) (by omega))
      refine dg_iald hx hb K hP sM_2 hin_102 dX12_statement_39 (fun x_103 ex_103 => ?_)
      have b_x_103 := dk_all_at (dg_I.row (lo := 0) (hi := 9999) I_3 sM_2 (by decide +kernel)) hin_102 ex_103
      have zc_x_103 : 3 ≤ (x_103).toInt ∧ (x_103).toInt ≤ 7 := by rw [ex_103]; exact ⟨((ZCM.keep ZC m_3 (by decide) (by decide) (by decide) (by decide)) _ ((m_3.1 0 35 _ sM_0 (by decide)).trans f_x_2)).1, ((ZCM.keep ZC m_3 (by decide) (by decide) (by decide) (by decide)) _ ((m_3.1 0 35 _ sM_0 (by decide)).trans f_x_2)).2.1⟩
      refine lv_iconst (v := 1) hx hb dX12_statement_40 (by decide +kernel) ?_
      refine lv_isub hx hb dX12_statement_41 ?_
      refine lv_topi (fun x_104 ex_104 => ?_)
      have jx_104 : (x_104).toInt = (x_103).toInt - 1 := by rw [ex_104]; exact dk_subT rfl (by decide +kernel) (by omega) (by omega)
      refine dg_calli hS hA1 hA (va_runV (As := [.int x_104]) (rest := [.int x_2, .ref (o + 4)]) F (c_m_telling l g D o S_3 x_104 sg ((m_3.1 0 3 _ sM_0 (by decide)).trans f_sg) (by omega) sa ((m_3.1 0 4 _ sM_0 (by decide)).trans f_sa) (by omega) se ((m_3.1 0 5 _ sM_0 (by decide)).trans f_se) (by omega) sl ((m_3.1 0 2 _ sM_0 (by decide)).trans f_sl) (by omega) y_4 f_y_4 (by omega) (by omega) I_3 H.size) (cwV 1 hts (bw_V wB_1299 wB_1300 wB_1301 wB_881 wB_1298) rfl rfl rfl (by decide +kernel) ⟨Nat.le_of_ble_eq_true rfl, Nat.le_of_ble_eq_true rfl⟩) (dg_preV sM_0 rfl K ST hP hS hA1 hA) rfl rfl hl.1 rfl (lv_room (Nat.le_of_ble_eq_true rfl)) dX12_statement_42 ⟨Nat.le_of_ble_eq_true rfl, Nat.le_of_ble_eq_true rfl⟩) (fun x_105 S_106 hw_106 H locs hP hS => ?_)
      obtain ⟨I_106, m_106, w_106_0, w_106_1, -⟩ := hw_106
      have M_106 := dg_sm.tr M_3 m_106 (by decide) (by decide)
      have w_106_0 : 0 ≤ (x_105).toInt ∧ (x_105).toInt ≤ 9999 := w_106_0
      obtain ⟨y_107, y_108, y_109, y_110, f_y_107, f_y_108, f_y_109, f_y_110, w_106_1⟩ := w_106_1
      have w_106_1 : ((y_108).toInt ≤ (y_109).toInt ∧ (y_109).toInt ≤ (sl).toInt ∧ ((y_107).toInt ≠ 0 → (y_108).toInt + 1 ≤ (y_109).toInt)) ∧ (sa).toInt ≤ (y_108).toInt ∧ ((y_4).toInt ≠ 0 → (y_110).toInt ≠ 0) ∧ ((y_110).toInt = 0 → (0 ≤ (x_105).toInt ∧ (x_105).toInt ≤ (x_104).toInt ∧ (sa).toInt + 1 ≤ (y_108).toInt)) := w_106_1
      obtain ⟨⟨w_106_1_0, w_106_1_1, w_106_1_2⟩, w_106_1_3, w_106_1_4, w_106_1_5⟩ := w_106_1
      clear w_106_1_4
      have b_y_107 : 0 ≤ (y_107).toInt ∧ (y_107).toInt ≤ 3 := dg_I.intb (lo := 0) (hi := 3) I_106 sM_0 (by decide +kernel) f_y_107
      have b_y_108 : 0 ≤ (y_108).toInt ∧ (y_108).toInt ≤ 1600 := dg_I.intb (lo := 0) (hi := 1600) I_106 sM_0 (by decide +kernel) f_y_108
      have b_y_109 : 0 ≤ (y_109).toInt ∧ (y_109).toInt ≤ 1600 := dg_I.intb (lo := 0) (hi := 1600) I_106 sM_0 (by decide +kernel) f_y_109
      have b_y_110 : 0 ≤ (y_110).toInt ∧ (y_110).toInt ≤ 6 := dg_I.intb (lo := 0) (hi := 6) I_106 sM_0 (by decide +kernel) f_y_110
      have hin_111 : vp_in x_2 2 := (dk_inv (by omega) (by omega))
      refine dg_iast hx hb K hP hS hA1 sM_4 hin_111 dX12_statement_45 (fun S_112 e_112 H locs hP hS => ?_)
      have I_112 := dg_I.ufu (lo := 0) (hi := 9999) I_106 e_112 sM_4 (by decide +kernel) (show 0 ≤ (x_105).toInt ∧ (x_105).toInt ≤ 9999 from (by omega))
      have M_112 := dg_sm.uf M_106 e_112 sM_4 (by decide)
      have ZB_112 : ZBM S_112 := ZBM.up (r := 4) (ZBM.keep (ZBM.keep ZB m_3 (by decide) (by decide) (by decide) (by decide) (by decide)) m_106 (by decide) (by decide) (by decide) (by decide) (by decide)) (by decide) (((m_106.1 0 13 _ sM_0 (by decide)).trans (m_3.1 0 13 _ sM_0 (by decide))).trans f_x_1) (by omega) e_112 (by omega)
      refine lv_goto (tgt := 236) hx hb dX12_statement_46 (by decide) ?_
      refine W.widen (k := 0) (n := 0) (Nat.le_of_ble_eq_true rfl) (Nat.le_of_ble_eq_true rfl) ?_
      rw [hQ9]
      exact dg_vret hx hb hr hlocks hP hS ⟨I_112, M_112, ⟨y_107, y_108, y_109, y_110, cd, ((dg_uf_F e_112 0 3).trans f_y_107), ((dg_uf_F e_112 0 4).trans f_y_108), ((dg_uf_F e_112 0 5).trans f_y_109), ((dg_uf_F e_112 0 8).trans f_y_110), (((dg_uf_F e_112 0 34).trans ((m_106.1 0 34 _ sM_0 (by decide)).trans (m_3.1 0 34 _ sM_0 (by decide)))).trans f_cd), (by omega)⟩, (fun k9 hk9 hk0 => by have q9 := (((dg_uf_F e_112 0 8).trans f_y_110)).symm.trans hk9; cases q9; exact ⟨ZCM.shaft (ZCM.keep (ZCM.keep ZC m_3 (by decide) (by decide) (by decide) (by decide)) m_106 (by decide) (by decide) (by decide) (by decide)) (((m_106.1 0 35 _ sM_0 (by decide)).trans (m_3.1 0 35 _ sM_0 (by decide))).trans f_x_2) e_112 (by omega), (ZVM.keep (ZVM.keep (ZVM.keep ZV m_3 (by decide) (by decide) (by decide) (by decide) (by decide)) m_106 (by decide) (by decide) (by decide) (by decide) (by decide)) (dg_sm.uf (WF := []) (WA := [4]) dg_sm.rf e_112 sM_4 (by decide)) (by decide) (by decide) (by decide) (by decide) (by decide))⟩), ZB_112, (ZWM.keep (ZWM.keep (ZWM.keep ZW m_3 (by decide) (by decide) (by decide) (by decide)) m_106 (by decide) (by decide) (by decide) (by decide)) (dg_sm.uf (WF := []) (WA := [4]) dg_sm.rf e_112 sM_4 (by decide)) (by decide) (by decide) (by decide) (by decide)), trivial⟩ dX12_statement_236
  · have jc_5 := dk_nlec (k := 0) (by decide +kernel) c_5
    refine W.widen (k := 0) (n := 0) (Nat.le_of_ble_eq_true rfl) (Nat.le_of_ble_eq_true rfl) ?_
    rw [hQ9]
    exact dg_vret hx hb hr hlocks hP hS ⟨I_3, M_3, ⟨sg, sa, se, y_4, cd, ((m_3.1 0 3 _ sM_0 (by decide)).trans f_sg), ((m_3.1 0 4 _ sM_0 (by decide)).trans f_sa), ((m_3.1 0 5 _ sM_0 (by decide)).trans f_se), f_y_4, ((m_3.1 0 34 _ sM_0 (by decide)).trans f_cd), (by omega)⟩, (fun k9 hk9 hk0 => by have q9 := (f_y_4).symm.trans hk9; cases q9; omega), (ZBM.keep ZB m_3 (by decide) (by decide) (by decide) (by decide) (by decide)), (ZWM.keep ZW m_3 (by decide) (by decide) (by decide) (by decide)), trivial⟩ dX12_statement_11
set_option maxHeartbeats 8000000 in
set_option maxRecDepth 100000 in
theorem c_m_finishes (l : Launch) (g : Nat → ClassId) (D : va_G) (o : Nat) (S : dg_S) (a1 : Int32) (sg : Int32) (f_sg : S.1 0 3 = .int sg) (b_sg : 0 ≤ (sg).toInt ∧ (sg).toInt ≤ 3) (sa : Int32) (f_sa : S.1 0 4 = .int sa) (b_sa : 0 ≤ (sa).toInt ∧ (sa).toInt ≤ 1600) (se : Int32) (f_se : S.1 0 5 = .int se) (b_se : 0 ≤ (se).toInt ∧ (se).toInt ≤ 1600) (sl : Int32) (f_sl : S.1 0 2 = .int sl) (b_sl : 0 ≤ (sl).toInt ∧ (sl).toInt ≤ 1600) (fk : Int32) (f_fk : S.1 0 8 = .int fk) (b_fk : 0 ≤ (fk).toInt ∧ (fk).toInt ≤ 6) (va : Int32) (f_va : S.1 0 6 = .int va) (b_va : 0 ≤ (va).toInt ∧ (va).toInt ≤ 9999) (hlx : (sa).toInt ≤ (se).toInt ∧ (se).toInt ≤ (sl).toInt ∧ ((sg).toInt ≠ 0 → (sa).toInt + 1 ≤ (se).toInt)) (I : CM o S) (sz : Nat) : Met l yX12_finishes (bw yX12_finishes cX12_finishes 3 none) ({ frames := 4, cells := 0, slots := 0, locals := 98 } : Room) (dk_Pc g D (dg_w g shM o rfM S) sz [.ref (o + 0), .int a1]) (va_Qv (fun S' => CM o S' ∧ dg_sm shM [(0, 3), (0, 4), (0, 5), (0, 6), (0, 7), (0, 8), (0, 9), (0, 12)] [] S S' ∧ (∃ y9_3 y9_4 y9_5 y9_8 : Int32, S'.1 0 3 = .int y9_3 ∧ S'.1 0 4 = .int y9_4 ∧ S'.1 0 5 = .int y9_5 ∧ S'.1 0 8 = .int y9_8 ∧ (((y9_4).toInt ≤ (y9_5).toInt ∧ (y9_5).toInt ≤ (sl).toInt ∧ ((y9_3).toInt ≠ 0 → (y9_4).toInt + 1 ≤ (y9_5).toInt)) ∧ (sa).toInt ≤ (y9_4).toInt ∧ ((fk).toInt ≠ 0 → (y9_8).toInt ≠ 0) ∧ ((y9_8).toInt = 0 → (sa).toInt + 1 ≤ (y9_4).toInt))) ∧ True) (dg_B g D shM o rfM) (dg_A o shM.length sz)) 0 0 (dg_A o shM.length sz) := by
  refine dg_met (cc := cX12_finishes) (maxL := 3) (ret := none) (by decide) rfl (Nat.le_of_ble_eq_true rfl) ?_
  intro p e s m args below meth c A hAe harg hx hb hr hml hts hown hlocks hin hP K hS hA1 hA ST hsz ls hl
  rw [← hAe]
  have F : CallFix p m c cX12_finishes 3 s args (bw yX12_finishes cX12_finishes 3 none) RX12 := ⟨hx, hb, hml, hown, hts⟩
  have hl : lv_has ls 3 [(0, .ref (o + 0)), (1, .int a1)] := hl
  have M_0 : dg_sm shM [(0, 3), (0, 4), (0, 5), (0, 6), (0, 7), (0, 8), (0, 9), (0, 12)] [] S S := dg_sm.rf
  obtain ⟨Q9, hQ9⟩ : ∃ Q : State → Prop, Q = MQ below (va_Qv (fun S' => CM o S' ∧ dg_sm shM [(0, 3), (0, 4), (0, 5), (0, 6), (0, 7), (0, 8), (0, 9), (0, 12)] [] S S' ∧ (∃ y9_3 y9_4 y9_5 y9_8 : Int32, S'.1 0 3 = .int y9_3 ∧ S'.1 0 4 = .int y9_4 ∧ S'.1 0 5 = .int y9_5 ∧ S'.1 0 8 = .int y9_8 ∧ (((y9_4).toInt ≤ (y9_5).toInt ∧ (y9_5).toInt ≤ (sl).toInt ∧ ((y9_3).toInt ≠ 0 → (y9_4).toInt + 1 ≤ (y9_5).toInt)) ∧ (sa).toInt ≤ (y9_4).toInt ∧ ((fk).toInt ≠ 0 → (y9_8).toInt ≠ 0) ∧ ((y9_8).toInt = 0 → (sa).toInt + 1 ≤ (y9_4).toInt))) ∧ True) (dg_B g D shM o rfM) A) args s 0 0 A := ⟨_, rfl⟩
  rw [← hQ9]
  obtain ⟨hlx_0, hlx_1, hlx_2⟩ := hlx
  refine lv_aload_n hx hb dX12_finishes_0 rfl (lv_at hl 0 rfl) ?_
  refine dg_callv hS hA1 hA (va_runV (As := []) (rest := []) F (c_m_lex l g D o S fk f_fk (by omega) I s.heap.size) (cwV 0 hts (bw_V wB_1153 wB_1154 wB_1155 wB_881 wB_1152) rfl rfl rfl (by decide +kernel) ⟨Nat.le_of_ble_eq_true rfl, Nat.le_of_ble_eq_true rfl⟩) (dg_preV sM_0 rfl K ST hP hS hA1 hA) rfl rfl hl.1 rfl (lv_room (Nat.le_of_ble_eq_true rfl)) dX12_finishes_1 ⟨Nat.le_of_ble_eq_true rfl, Nat.le_of_ble_eq_true rfl⟩) (fun S_1 hw_1 H locs hP hS => ?_)
  obtain ⟨I_1, m_1, w_1_0, -⟩ := hw_1
  have M_1 := dg_sm.tr M_0 m_1 (by decide) (by decide)
  obtain ⟨y_2, f_y_2, w_1_0⟩ := w_1_0
  have w_1_0 : (fk).toInt ≠ 0 → (y_2).toInt = (fk).toInt := w_1_0
  have b_y_2 : 0 ≤ (y_2).toInt ∧ (y_2).toInt ≤ 6 := dg_I.intb (lo := 0) (hi := 6) I_1 sM_0 (by decide +kernel) f_y_2
  refine lv_aload_n hx hb dX12_finishes_4 rfl (lv_at hl 0 rfl) ?_
  refine dg_get (C := RX12) (T := TX12) (N := 77) hx hb hts (fun w h => bw_mem (wU_X12 w h)) hown K hP sM_0 rfl 8 (by decide) (hts _ (bw_mem wB_1133)) (fun _ h9 => h9) (v := .int y_2) f_y_2 dX12_finishes_5 ?_
  refine lv_if_le (tgt := 12) hx hb dX12_finishes_8 (by decide) (fun c_3 => ?_) (fun c_3 => ?_)
  · have jc_3 := dk_lec (k := 0) (by decide +kernel) c_3
    have w_1_0c : (fk).toInt = 0 := by omega
    clear w_1_0
    refine lv_aload_n hx hb dX12_finishes_12 rfl (lv_at hl 0 rfl) ?_
    refine dg_get (C := RX12) (T := TX12) (N := 77) hx hb hts (fun w h => bw_mem (wU_X12 w h)) hown K hP sM_0 rfl 5 (by decide) (hts _ (bw_mem wB_1143)) (fun _ h9 => h9) (v := .int se) ((m_1.1 0 5 _ sM_0 (by decide)).trans f_se) dX12_finishes_13 ?_
    refine lv_istore_n (lv' := [(2, .int se), (0, .ref (o + 0)), (1, .int a1)]) hx hb dX12_finishes_16 rfl hl (by decide) rfl (fun ls hl => ?_)
    have L_160 : ∀ (n : Nat) (x_159 : Int32), (0 ≤ (x_159).toInt ∧ (x_159).toInt ≤ 1600) → ((1601 - (x_159).toInt).toNat < n) → ∀ (H : Heap) (locs : List Loc), va_P D vwCl (dg_w g shM o rfM S_1) H → va_S A s.heap H locs → ∀ ls : Array Slot, lv_has ls 3 [(2, .int x_159), (0, .ref (o + 0)), (1, .int a1)] → W p l e ({ frames := 4, cells := 0, slots := 0, locals := 98 } : Room) s m args below meth c H locs 0 0 Q9 (F0 m 17 ls []) := by
      intro n
      induction n with
      | zero =>
        intro x_159 b_x_159 hmu H locs hP hS ls hl
        omega
      | succ n ih =>
        intro x_159 b_x_159 hmu H locs hP hS ls hl
        refine lv_iload_n hx hb dX12_finishes_17 rfl (lv_at hl 0 rfl) ?_
        refine lv_aload_n hx hb dX12_finishes_18 rfl (lv_at hl 1 rfl) ?_
        refine dg_get (C := RX12) (T := TX12) (N := 77) hx hb hts (fun w h => bw_mem (wU_X12 w h)) hown K hP sM_0 rfl 2 (by decide) (hts _ (bw_mem wB_1144)) (fun _ h9 => h9) (v := .int sl) ((m_1.1 0 2 _ sM_0 (by decide)).trans f_sl) dX12_finishes_19 ?_
        refine lv_icmp_ge (tgt := 53) hx hb dX12_finishes_22 (by decide) (fun c_161 => ?_) (fun c_161 => ?_)
        · have jc_161 := dk_gec (k := (sl).toInt) rfl c_161
          refine lv_aload_n hx hb dX12_finishes_53 rfl (lv_at hl 1 rfl) ?_
          refine lv_bipush (v := 59) hx hb dX12_finishes_54 (by decide +kernel) ?_
          refine dg_calli hS hA1 hA (va_runV (As := [.int 59]) (rest := []) F (c_m_isSign l g D o S_1 59 sg ((m_1.1 0 3 _ sM_0 (by decide)).trans f_sg) (by omega) va ((m_1.1 0 6 _ sM_0 (by decide)).trans f_va) (by omega) I_1 H.size) (cwV 1 hts (bw_V wB_1157 wB_1158 wB_1159 wB_881 wB_1156) rfl rfl rfl (by decide +kernel) ⟨Nat.le_of_ble_eq_true rfl, Nat.le_of_ble_eq_true rfl⟩) (dg_preV sM_0 rfl K ST hP hS hA1 hA) rfl rfl hl.1 rfl (lv_room (Nat.le_of_ble_eq_true rfl)) dX12_finishes_56 ⟨Nat.le_of_ble_eq_true rfl, Nat.le_of_ble_eq_true rfl⟩) (fun x_162 S_163 hw_163 H locs hP hS => ?_)
          rw [hw_163.1] at hP
          obtain ⟨hq_163, w_163_0, w_163_1, -⟩ := hw_163
          have hz_164 : (59 : Int32).toInt = 59 := by decide +kernel
          have w_163_0 : 0 ≤ (x_162).toInt ∧ (x_162).toInt ≤ 1 := w_163_0
          have w_163_1 : (x_162).toInt = 1 ↔ ((sg).toInt = 3 ∧ (va).toInt = ((59 : Int32)).toInt) := w_163_1
          refine lv_if_eq (tgt := 83) hx hb dX12_finishes_59 (by decide) (fun c_165 => ?_) (fun c_165 => ?_)
          · have jc_165 := dk_eqc (k := 0) (by decide +kernel) c_165
            clear w_163_1
            refine lv_aload_n hx hb dX12_finishes_83 rfl (lv_at hl 1 rfl) ?_
            refine lv_bipush (v := 59) hx hb dX12_finishes_84 (by decide +kernel) ?_
            refine dg_callv hS hA1 hA (va_runV (As := [.int 59]) (rest := []) F (c_m_must l g D o S_1 59 sg ((m_1.1 0 3 _ sM_0 (by decide)).trans f_sg) (by omega) sa ((m_1.1 0 4 _ sM_0 (by decide)).trans f_sa) (by omega) se ((m_1.1 0 5 _ sM_0 (by decide)).trans f_se) (by omega) sl ((m_1.1 0 2 _ sM_0 (by decide)).trans f_sl) (by omega) y_2 f_y_2 (by omega) va ((m_1.1 0 6 _ sM_0 (by decide)).trans f_va) (by omega) (by omega) I_1 H.size) (cwV 1 hts (bw_V wB_1303 wB_1304 wB_1305 wB_881 wB_1302) rfl rfl rfl (by decide +kernel) ⟨Nat.le_of_ble_eq_true rfl, Nat.le_of_ble_eq_true rfl⟩) (dg_preV sM_0 rfl K ST hP hS hA1 hA) rfl rfl hl.1 rfl (lv_room (Nat.le_of_ble_eq_true rfl)) dX12_finishes_86 ⟨Nat.le_of_ble_eq_true rfl, Nat.le_of_ble_eq_true rfl⟩) (fun S_166 hw_166 H locs hP hS => ?_)
            obtain ⟨I_166, m_166, w_166_0, -⟩ := hw_166
            have M_166 := dg_sm.tr M_1 m_166 (by decide) (by decide)
            have hz_167 : (59 : Int32).toInt = 59 := by decide +kernel
            obtain ⟨y_168, y_169, y_170, y_171, f_y_168, f_y_169, f_y_170, f_y_171, w_166_0⟩ := w_166_0
            have w_166_0 : ((y_169).toInt ≤ (y_170).toInt ∧ (y_170).toInt ≤ (sl).toInt ∧ ((y_168).toInt ≠ 0 → (y_169).toInt + 1 ≤ (y_170).toInt)) ∧ (sa).toInt ≤ (y_169).toInt ∧ ((y_2).toInt ≠ 0 → (y_171).toInt ≠ 0) ∧ ((y_171).toInt = 0 → (sa).toInt + 1 ≤ (y_169).toInt) := w_166_0
            obtain ⟨⟨w_166_0_0, w_166_0_1, w_166_0_2⟩, w_166_0_3, w_166_0_4, w_166_0_5⟩ := w_166_0
            clear w_166_0_4
            have b_y_168 : 0 ≤ (y_168).toInt ∧ (y_168).toInt ≤ 3 := dg_I.intb (lo := 0) (hi := 3) I_166 sM_0 (by decide +kernel) f_y_168
            have b_y_169 : 0 ≤ (y_169).toInt ∧ (y_169).toInt ≤ 1600 := dg_I.intb (lo := 0) (hi := 1600) I_166 sM_0 (by decide +kernel) f_y_169
            have b_y_170 : 0 ≤ (y_170).toInt ∧ (y_170).toInt ≤ 1600 := dg_I.intb (lo := 0) (hi := 1600) I_166 sM_0 (by decide +kernel) f_y_170
            have b_y_171 : 0 ≤ (y_171).toInt ∧ (y_171).toInt ≤ 6 := dg_I.intb (lo := 0) (hi := 6) I_166 sM_0 (by decide +kernel) f_y_171
            refine W.widen (k := 0) (n := 0) (Nat.le_of_ble_eq_true rfl) (Nat.le_of_ble_eq_true rfl) ?_
            rw [hQ9]
            exact dg_vret hx hb hr hlocks hP hS ⟨I_166, M_166, ⟨y_168, y_169, y_170, y_171, f_y_168, f_y_169, f_y_170, f_y_171, (by omega)⟩, trivial⟩ dX12_finishes_89
          · have jc_165 := dk_neqc (k := 0) (by decide +kernel) c_165
            have jbc_165 : 1 ≤ (x_162).toInt := by omega
            clear jc_165
            have w_163_1_r := w_163_1.mp (by omega)
            obtain ⟨w_163_1_r1, w_163_1_r2⟩ := w_163_1_r
            clear w_163_1
            have hlx_2r := hlx_2 (by omega)
            clear hlx_2
            refine lv_iload_n hx hb dX12_finishes_62 rfl (lv_at hl 2 rfl) ?_
            refine lv_bipush (v := 80) hx hb dX12_finishes_63 (by decide +kernel) ?_
            refine lv_icmp_ne (tgt := 83) hx hb dX12_finishes_65 (by decide) (fun c_172 => ?_) (fun c_172 => ?_)
            · have jc_172 := dk_neqc (k := 80) (by decide +kernel) c_172
              clear jc_172
              refine lv_aload_n hx hb dX12_finishes_83 rfl (lv_at hl 1 rfl) ?_
              refine lv_bipush (v := 59) hx hb dX12_finishes_84 (by decide +kernel) ?_
              refine dg_callv hS hA1 hA (va_runV (As := [.int 59]) (rest := []) F (c_m_must l g D o S_1 59 sg ((m_1.1 0 3 _ sM_0 (by decide)).trans f_sg) (by omega) sa ((m_1.1 0 4 _ sM_0 (by decide)).trans f_sa) (by omega) se ((m_1.1 0 5 _ sM_0 (by decide)).trans f_se) (by omega) sl ((m_1.1 0 2 _ sM_0 (by decide)).trans f_sl) (by omega) y_2 f_y_2 (by omega) va ((m_1.1 0 6 _ sM_0 (by decide)).trans f_va) (by omega) (by omega) I_1 H.size) (cwV 1 hts (bw_V wB_1303 wB_1304 wB_1305 wB_881 wB_1302) rfl rfl rfl (by decide +kernel) ⟨Nat.le_of_ble_eq_true rfl, Nat.le_of_ble_eq_true rfl⟩) (dg_preV sM_0 rfl K ST hP hS hA1 hA) rfl rfl hl.1 rfl (lv_room (Nat.le_of_ble_eq_true rfl)) dX12_finishes_86 ⟨Nat.le_of_ble_eq_true rfl, Nat.le_of_ble_eq_true rfl⟩) (fun S_173 hw_173 H locs hP hS => ?_)
              obtain ⟨I_173, m_173, w_173_0, -⟩ := hw_173
              have M_173 := dg_sm.tr M_1 m_173 (by decide) (by decide)
              have hz_174 : (59 : Int32).toInt = 59 := by decide +kernel
              obtain ⟨y_175, y_176, y_177, y_178, f_y_175, f_y_176, f_y_177, f_y_178, w_173_0⟩ := w_173_0
              have w_173_0 : ((y_176).toInt ≤ (y_177).toInt ∧ (y_177).toInt ≤ (sl).toInt ∧ ((y_175).toInt ≠ 0 → (y_176).toInt + 1 ≤ (y_177).toInt)) ∧ (sa).toInt ≤ (y_176).toInt ∧ ((y_2).toInt ≠ 0 → (y_178).toInt ≠ 0) ∧ ((y_178).toInt = 0 → (sa).toInt + 1 ≤ (y_176).toInt) := w_173_0
              obtain ⟨⟨w_173_0_0, w_173_0_1, w_173_0_2⟩, w_173_0_3, w_173_0_4, w_173_0_5⟩ := w_173_0
              clear w_173_0_4
              have b_y_175 : 0 ≤ (y_175).toInt ∧ (y_175).toInt ≤ 3 := dg_I.intb (lo := 0) (hi := 3) I_173 sM_0 (by decide +kernel) f_y_175
              have b_y_176 : 0 ≤ (y_176).toInt ∧ (y_176).toInt ≤ 1600 := dg_I.intb (lo := 0) (hi := 1600) I_173 sM_0 (by decide +kernel) f_y_176
              have b_y_177 : 0 ≤ (y_177).toInt ∧ (y_177).toInt ≤ 1600 := dg_I.intb (lo := 0) (hi := 1600) I_173 sM_0 (by decide +kernel) f_y_177
              have b_y_178 : 0 ≤ (y_178).toInt ∧ (y_178).toInt ≤ 6 := dg_I.intb (lo := 0) (hi := 6) I_173 sM_0 (by decide +kernel) f_y_178
              refine W.widen (k := 0) (n := 0) (Nat.le_of_ble_eq_true rfl) (Nat.le_of_ble_eq_true rfl) ?_
              rw [hQ9]
              exact dg_vret hx hb hr hlocks hP hS ⟨I_173, M_173, ⟨y_175, y_176, y_177, y_178, f_y_175, f_y_176, f_y_177, f_y_178, (by omega)⟩, trivial⟩ dX12_finishes_89
            · have jc_172 := dk_eqc (k := 80) (by decide +kernel) c_172
              refine lv_iload_n hx hb dX12_finishes_68 rfl (lv_at hl 0 rfl) ?_
              refine lv_aload_n hx hb dX12_finishes_69 rfl (lv_at hl 1 rfl) ?_
              refine dg_get (C := RX12) (T := TX12) (N := 77) hx hb hts (fun w h => bw_mem (wU_X12 w h)) hown K hP sM_0 rfl 2 (by decide) (hts _ (bw_mem wB_1144)) (fun _ h9 => h9) (v := .int sl) ((m_1.1 0 2 _ sM_0 (by decide)).trans f_sl) dX12_finishes_70 ?_
              refine lv_icmp_ge (tgt := 83) hx hb dX12_finishes_73 (by decide) (fun c_179 => ?_) (fun c_179 => ?_)
              · have jc_179 := dk_gec (k := (sl).toInt) rfl c_179
                refine lv_aload_n hx hb dX12_finishes_83 rfl (lv_at hl 1 rfl) ?_
                refine lv_bipush (v := 59) hx hb dX12_finishes_84 (by decide +kernel) ?_
                refine dg_callv hS hA1 hA (va_runV (As := [.int 59]) (rest := []) F (c_m_must l g D o S_1 59 sg ((m_1.1 0 3 _ sM_0 (by decide)).trans f_sg) (by omega) sa ((m_1.1 0 4 _ sM_0 (by decide)).trans f_sa) (by omega) se ((m_1.1 0 5 _ sM_0 (by decide)).trans f_se) (by omega) sl ((m_1.1 0 2 _ sM_0 (by decide)).trans f_sl) (by omega) y_2 f_y_2 (by omega) va ((m_1.1 0 6 _ sM_0 (by decide)).trans f_va) (by omega) (by omega) I_1 H.size) (cwV 1 hts (bw_V wB_1303 wB_1304 wB_1305 wB_881 wB_1302) rfl rfl rfl (by decide +kernel) ⟨Nat.le_of_ble_eq_true rfl, Nat.le_of_ble_eq_true rfl⟩) (dg_preV sM_0 rfl K ST hP hS hA1 hA) rfl rfl hl.1 rfl (lv_room (Nat.le_of_ble_eq_true rfl)) dX12_finishes_86 ⟨Nat.le_of_ble_eq_true rfl, Nat.le_of_ble_eq_true rfl⟩) (fun S_180 hw_180 H locs hP hS => ?_)
                obtain ⟨I_180, m_180, w_180_0, -⟩ := hw_180
                have M_180 := dg_sm.tr M_1 m_180 (by decide) (by decide)
                have hz_181 : (59 : Int32).toInt = 59 := by decide +kernel
                obtain ⟨y_182, y_183, y_184, y_185, f_y_182, f_y_183, f_y_184, f_y_185, w_180_0⟩ := w_180_0
                have w_180_0 : ((y_183).toInt ≤ (y_184).toInt ∧ (y_184).toInt ≤ (sl).toInt ∧ ((y_182).toInt ≠ 0 → (y_183).toInt + 1 ≤ (y_184).toInt)) ∧ (sa).toInt ≤ (y_183).toInt ∧ ((y_2).toInt ≠ 0 → (y_185).toInt ≠ 0) ∧ ((y_185).toInt = 0 → (sa).toInt + 1 ≤ (y_183).toInt) := w_180_0
                obtain ⟨⟨w_180_0_0, w_180_0_1, w_180_0_2⟩, w_180_0_3, w_180_0_4, w_180_0_5⟩ := w_180_0
                clear w_180_0_4
                have b_y_182 : 0 ≤ (y_182).toInt ∧ (y_182).toInt ≤ 3 := dg_I.intb (lo := 0) (hi := 3) I_180 sM_0 (by decide +kernel) f_y_182
                have b_y_183 : 0 ≤ (y_183).toInt ∧ (y_183).toInt ≤ 1600 := dg_I.intb (lo := 0) (hi := 1600) I_180 sM_0 (by decide +kernel) f_y_183
                have b_y_184 : 0 ≤ (y_184).toInt ∧ (y_184).toInt ≤ 1600 := dg_I.intb (lo := 0) (hi := 1600) I_180 sM_0 (by decide +kernel) f_y_184
                have b_y_185 : 0 ≤ (y_185).toInt ∧ (y_185).toInt ≤ 6 := dg_I.intb (lo := 0) (hi := 6) I_180 sM_0 (by decide +kernel) f_y_185
                refine W.widen (k := 0) (n := 0) (Nat.le_of_ble_eq_true rfl) (Nat.le_of_ble_eq_true rfl) ?_
                rw [hQ9]
                exact dg_vret hx hb hr hlocks hP hS ⟨I_180, M_180, ⟨y_182, y_183, y_184, y_185, f_y_182, f_y_183, f_y_184, f_y_185, (by omega)⟩, trivial⟩ dX12_finishes_89
              · have jc_179 := dk_ngec (k := (sl).toInt) rfl c_179
                refine lv_aload_n hx hb dX12_finishes_76 rfl (lv_at hl 1 rfl) ?_
                refine lv_bipush (v := 6) hx hb dX12_finishes_77 (by decide +kernel) ?_
                refine lv_iload_n hx hb dX12_finishes_79 rfl (lv_at hl 0 rfl) ?_
                have hz_186 : (6 : Int32).toInt = 6 := by decide +kernel
                refine dg_callv hS hA1 hA (va_runV (As := [.int 6, .int x_159]) (rest := []) F (c_m_blame l g D o S_1 6 (by decide +kernel) x_159 y_2 f_y_2 (by omega) I_1 H.size) (cwV 2 hts (bw_V wB_1137 wB_1138 wB_1139 wB_881 wB_1136) rfl rfl rfl (by decide +kernel) ⟨Nat.le_of_ble_eq_true rfl, Nat.le_of_ble_eq_true rfl⟩) (dg_preV sM_0 rfl K ST hP hS hA1 hA) rfl rfl hl.1 rfl (lv_room (Nat.le_of_ble_eq_true rfl)) dX12_finishes_80 ⟨Nat.le_of_ble_eq_true rfl, Nat.le_of_ble_eq_true rfl⟩) (fun S_187 hw_187 H locs hP hS => ?_)
                obtain ⟨I_187, m_187, w_187_0, -⟩ := hw_187
                have M_187 := dg_sm.tr M_1 m_187 (by decide) (by decide)
                have hz_188 : (6 : Int32).toInt = 6 := by decide +kernel
                obtain ⟨y_189, f_y_189, w_187_0⟩ := w_187_0
                have w_187_0 : ((y_2).toInt ≠ 0 → (y_189).toInt = (y_2).toInt) ∧ ((y_2).toInt = 0 → (y_189).toInt = ((6 : Int32)).toInt) := w_187_0
                obtain ⟨w_187_0_0, w_187_0_1⟩ := w_187_0
                clear w_187_0_0
                have w_187_0_1r := w_187_0_1 (by omega)
                clear w_187_0_1
                have b_y_189 : 0 ≤ (y_189).toInt ∧ (y_189).toInt ≤ 6 := dg_I.intb (lo := 0) (hi := 6) I_187 sM_0 (by decide +kernel) f_y_189
                have hbl_y_189 : 1 ≤ (y_189).toInt := by omega
                refine lv_aload_n hx hb dX12_finishes_83 rfl (lv_at hl 1 rfl) ?_
                refine lv_bipush (v := 59) hx hb dX12_finishes_84 (by decide +kernel) ?_
                refine dg_callv hS hA1 hA (va_runV (As := [.int 59]) (rest := []) F (c_m_must l g D o S_187 59 sg (((m_187.1 0 3 _ sM_0 (by decide)).trans (m_1.1 0 3 _ sM_0 (by decide))).trans f_sg) (by omega) sa (((m_187.1 0 4 _ sM_0 (by decide)).trans (m_1.1 0 4 _ sM_0 (by decide))).trans f_sa) (by omega) se (((m_187.1 0 5 _ sM_0 (by decide)).trans (m_1.1 0 5 _ sM_0 (by decide))).trans f_se) (by omega) sl (((m_187.1 0 2 _ sM_0 (by decide)).trans (m_1.1 0 2 _ sM_0 (by decide))).trans f_sl) (by omega) y_189 f_y_189 (by omega) va (((m_187.1 0 6 _ sM_0 (by decide)).trans (m_1.1 0 6 _ sM_0 (by decide))).trans f_va) (by omega) (by omega) I_187 H.size) (cwV 1 hts (bw_V wB_1303 wB_1304 wB_1305 wB_881 wB_1302) rfl rfl rfl (by decide +kernel) ⟨Nat.le_of_ble_eq_true rfl, Nat.le_of_ble_eq_true rfl⟩) (dg_preV sM_0 rfl K ST hP hS hA1 hA) rfl rfl hl.1 rfl (lv_room (Nat.le_of_ble_eq_true rfl)) dX12_finishes_86 ⟨Nat.le_of_ble_eq_true rfl, Nat.le_of_ble_eq_true rfl⟩) (fun S_190 hw_190 H locs hP hS => ?_)
                obtain ⟨I_190, m_190, w_190_0, -⟩ := hw_190
                have M_190 := dg_sm.tr M_187 m_190 (by decide) (by decide)
                have hz_191 : (59 : Int32).toInt = 59 := by decide +kernel
                obtain ⟨y_192, y_193, y_194, y_195, f_y_192, f_y_193, f_y_194, f_y_195, w_190_0⟩ := w_190_0
                have w_190_0 : ((y_193).toInt ≤ (y_194).toInt ∧ (y_194).toInt ≤ (sl).toInt ∧ ((y_192).toInt ≠ 0 → (y_193).toInt + 1 ≤ (y_194).toInt)) ∧ (sa).toInt ≤ (y_193).toInt ∧ ((y_189).toInt ≠ 0 → (y_195).toInt ≠ 0) ∧ ((y_195).toInt = 0 → (sa).toInt + 1 ≤ (y_193).toInt) := w_190_0
                obtain ⟨⟨w_190_0_0, w_190_0_1, w_190_0_2⟩, w_190_0_3, w_190_0_4, w_190_0_5⟩ := w_190_0
                have w_190_0_4r := w_190_0_4 (by omega)
                clear w_190_0_4
                have b_y_192 : 0 ≤ (y_192).toInt ∧ (y_192).toInt ≤ 3 := dg_I.intb (lo := 0) (hi := 3) I_190 sM_0 (by decide +kernel) f_y_192
                have b_y_193 : 0 ≤ (y_193).toInt ∧ (y_193).toInt ≤ 1600 := dg_I.intb (lo := 0) (hi := 1600) I_190 sM_0 (by decide +kernel) f_y_193
                have b_y_194 : 0 ≤ (y_194).toInt ∧ (y_194).toInt ≤ 1600 := dg_I.intb (lo := 0) (hi := 1600) I_190 sM_0 (by decide +kernel) f_y_194
                have b_y_195 : 0 ≤ (y_195).toInt ∧ (y_195).toInt ≤ 6 := dg_I.intb (lo := 0) (hi := 6) I_190 sM_0 (by decide +kernel) f_y_195
                refine W.widen (k := 0) (n := 0) (Nat.le_of_ble_eq_true rfl) (Nat.le_of_ble_eq_true rfl) ?_
                rw [hQ9]
                exact dg_vret hx hb hr hlocks hP hS ⟨I_190, M_190, ⟨y_192, y_193, y_194, y_195, f_y_192, f_y_193, f_y_194, f_y_195, (by omega)⟩, trivial⟩ dX12_finishes_89
        · have jc_161 := dk_ngec (k := (sl).toInt) rfl c_161
          refine lv_aload_n hx hb dX12_finishes_25 rfl (lv_at hl 1 rfl) ?_
          refine dg_get (C := RX12) (T := TX12) (N := 77) hx hb hts (fun w h => bw_mem (wU_X12 w h)) hown K hP sM_0 rfl 0 (by decide) (hts _ (bw_mem wB_874)) (fun _ h9 => h9) (v := .ref (o + 1)) (show S_1.1 0 0 = .ref (o + 1) from dg_I.rel (d := 1) I_1 sM_0 (by decide +kernel)) dX12_finishes_26 ?_
          refine lv_iload_n hx hb dX12_finishes_29 rfl (lv_at hl 0 rfl) ?_
          have hin_196 : vp_in x_159 1800 := (dk_inv (by omega) (by omega))
          refine dg_iald hx hb K hP sM_1 hin_196 dX12_finishes_30 (fun x_197 ex_197 => ?_)
          have b_x_197 := dk_all_at (dg_I.row (lo := 0) (hi := 255) I_1 sM_1 (by decide +kernel)) hin_196 ex_197
          refine lv_bipush (v := 32) hx hb dX12_finishes_31 (by decide +kernel) ?_
          refine lv_icmp_eq (tgt := 47) hx hb dX12_finishes_33 (by decide) (fun c_198 => ?_) (fun c_198 => ?_)
          · have jc_198 := dk_eqc (k := 32) (by decide +kernel) c_198
            obtain ⟨x_199, ex_199⟩ : ∃ z, z = x_159 + 1 := ⟨_, rfl⟩
            have jx_199 : (x_199).toInt = (x_159).toInt + 1 := by rw [ex_199]; exact dk_addT rfl (by decide +kernel) (by omega) (by omega)
            refine lv_iinc (v := x_199) (lv' := [(2, .int x_199), (0, .ref (o + 0)), (1, .int a1)]) hx hb dX12_finishes_47 hl (k := 0) rfl (by rw [ex_199]; rfl) (by decide) rfl (fun ls hl => ?_)
            refine lv_goto (tgt := 17) hx hb dX12_finishes_50 (by decide) ?_
            exact ih x_199 (by omega) (by omega) _ _ hP hS _ (lv_sub hl [0, 1, 2] rfl)
          · have jc_198 := dk_neqc (k := 32) (by decide +kernel) c_198
            clear jc_198
            refine lv_aload_n hx hb dX12_finishes_36 rfl (lv_at hl 1 rfl) ?_
            refine dg_get (C := RX12) (T := TX12) (N := 77) hx hb hts (fun w h => bw_mem (wU_X12 w h)) hown K hP sM_0 rfl 0 (by decide) (hts _ (bw_mem wB_874)) (fun _ h9 => h9) (v := .ref (o + 1)) (show S_1.1 0 0 = .ref (o + 1) from dg_I.rel (d := 1) I_1 sM_0 (by decide +kernel)) dX12_finishes_37 ?_
            refine lv_iload_n hx hb dX12_finishes_40 rfl (lv_at hl 0 rfl) ?_
            have hin_200 : vp_in x_159 1800 := (dk_inv (by omega) (by omega))
            refine dg_iald hx hb K hP sM_1 hin_200 dX12_finishes_41 (fun y_201 ey_201 => ?_)
            obtain rfl : x_197 = y_201 := (ey_201.trans ex_197.symm).symm
            refine lv_bipush (v := 10) hx hb dX12_finishes_42 (by decide +kernel) ?_
            refine lv_icmp_ne (tgt := 53) hx hb dX12_finishes_44 (by decide) (fun c_202 => ?_) (fun c_202 => ?_)
            · have jc_202 := dk_neqc (k := 10) (by decide +kernel) c_202
              clear jc_202
              refine lv_aload_n hx hb dX12_finishes_53 rfl (lv_at hl 1 rfl) ?_
              refine lv_bipush (v := 59) hx hb dX12_finishes_54 (by decide +kernel) ?_
              refine dg_calli hS hA1 hA (va_runV (As := [.int 59]) (rest := []) F (c_m_isSign l g D o S_1 59 sg ((m_1.1 0 3 _ sM_0 (by decide)).trans f_sg) (by omega) va ((m_1.1 0 6 _ sM_0 (by decide)).trans f_va) (by omega) I_1 H.size) (cwV 1 hts (bw_V wB_1157 wB_1158 wB_1159 wB_881 wB_1156) rfl rfl rfl (by decide +kernel) ⟨Nat.le_of_ble_eq_true rfl, Nat.le_of_ble_eq_true rfl⟩) (dg_preV sM_0 rfl K ST hP hS hA1 hA) rfl rfl hl.1 rfl (lv_room (Nat.le_of_ble_eq_true rfl)) dX12_finishes_56 ⟨Nat.le_of_ble_eq_true rfl, Nat.le_of_ble_eq_true rfl⟩) (fun x_203 S_204 hw_204 H locs hP hS => ?_)
              rw [hw_204.1] at hP
              obtain ⟨hq_204, w_204_0, w_204_1, -⟩ := hw_204
              have hz_205 : (59 : Int32).toInt = 59 := by decide +kernel
              have w_204_0 : 0 ≤ (x_203).toInt ∧ (x_203).toInt ≤ 1 := w_204_0
              have w_204_1 : (x_203).toInt = 1 ↔ ((sg).toInt = 3 ∧ (va).toInt = ((59 : Int32)).toInt) := w_204_1
              refine lv_if_eq (tgt := 83) hx hb dX12_finishes_59 (by decide) (fun c_206 => ?_) (fun c_206 => ?_)
              · have jc_206 := dk_eqc (k := 0) (by decide +kernel) c_206
                clear w_204_1
                refine lv_aload_n hx hb dX12_finishes_83 rfl (lv_at hl 1 rfl) ?_
                refine lv_bipush (v := 59) hx hb dX12_finishes_84 (by decide +kernel) ?_
                refine dg_callv hS hA1 hA (va_runV (As := [.int 59]) (rest := []) F (c_m_must l g D o S_1 59 sg ((m_1.1 0 3 _ sM_0 (by decide)).trans f_sg) (by omega) sa ((m_1.1 0 4 _ sM_0 (by decide)).trans f_sa) (by omega) se ((m_1.1 0 5 _ sM_0 (by decide)).trans f_se) (by omega) sl ((m_1.1 0 2 _ sM_0 (by decide)).trans f_sl) (by omega) y_2 f_y_2 (by omega) va ((m_1.1 0 6 _ sM_0 (by decide)).trans f_va) (by omega) (by omega) I_1 H.size) (cwV 1 hts (bw_V wB_1303 wB_1304 wB_1305 wB_881 wB_1302) rfl rfl rfl (by decide +kernel) ⟨Nat.le_of_ble_eq_true rfl, Nat.le_of_ble_eq_true rfl⟩) (dg_preV sM_0 rfl K ST hP hS hA1 hA) rfl rfl hl.1 rfl (lv_room (Nat.le_of_ble_eq_true rfl)) dX12_finishes_86 ⟨Nat.le_of_ble_eq_true rfl, Nat.le_of_ble_eq_true rfl⟩) (fun S_207 hw_207 H locs hP hS => ?_)
                obtain ⟨I_207, m_207, w_207_0, -⟩ := hw_207
                have M_207 := dg_sm.tr M_1 m_207 (by decide) (by decide)
                have hz_208 : (59 : Int32).toInt = 59 := by decide +kernel
                obtain ⟨y_209, y_210, y_211, y_212, f_y_209, f_y_210, f_y_211, f_y_212, w_207_0⟩ := w_207_0
                have w_207_0 : ((y_210).toInt ≤ (y_211).toInt ∧ (y_211).toInt ≤ (sl).toInt ∧ ((y_209).toInt ≠ 0 → (y_210).toInt + 1 ≤ (y_211).toInt)) ∧ (sa).toInt ≤ (y_210).toInt ∧ ((y_2).toInt ≠ 0 → (y_212).toInt ≠ 0) ∧ ((y_212).toInt = 0 → (sa).toInt + 1 ≤ (y_210).toInt) := w_207_0
                obtain ⟨⟨w_207_0_0, w_207_0_1, w_207_0_2⟩, w_207_0_3, w_207_0_4, w_207_0_5⟩ := w_207_0
                clear w_207_0_4
                have b_y_209 : 0 ≤ (y_209).toInt ∧ (y_209).toInt ≤ 3 := dg_I.intb (lo := 0) (hi := 3) I_207 sM_0 (by decide +kernel) f_y_209
                have b_y_210 : 0 ≤ (y_210).toInt ∧ (y_210).toInt ≤ 1600 := dg_I.intb (lo := 0) (hi := 1600) I_207 sM_0 (by decide +kernel) f_y_210
                have b_y_211 : 0 ≤ (y_211).toInt ∧ (y_211).toInt ≤ 1600 := dg_I.intb (lo := 0) (hi := 1600) I_207 sM_0 (by decide +kernel) f_y_211
                have b_y_212 : 0 ≤ (y_212).toInt ∧ (y_212).toInt ≤ 6 := dg_I.intb (lo := 0) (hi := 6) I_207 sM_0 (by decide +kernel) f_y_212
                refine W.widen (k := 0) (n := 0) (Nat.le_of_ble_eq_true rfl) (Nat.le_of_ble_eq_true rfl) ?_
                rw [hQ9]
                exact dg_vret hx hb hr hlocks hP hS ⟨I_207, M_207, ⟨y_209, y_210, y_211, y_212, f_y_209, f_y_210, f_y_211, f_y_212, (by omega)⟩, trivial⟩ dX12_finishes_89
              · have jc_206 := dk_neqc (k := 0) (by decide +kernel) c_206
                have jbc_206 : 1 ≤ (x_203).toInt := by omega
                clear jc_206
                have w_204_1_r := w_204_1.mp (by omega)
                obtain ⟨w_204_1_r1, w_204_1_r2⟩ := w_204_1_r
                clear w_204_1
                have hlx_2r := hlx_2 (by omega)
                clear hlx_2
                refine lv_iload_n hx hb dX12_finishes_62 rfl (lv_at hl 2 rfl) ?_
                refine lv_bipush (v := 80) hx hb dX12_finishes_63 (by decide +kernel) ?_
                refine lv_icmp_ne (tgt := 83) hx hb dX12_finishes_65 (by decide) (fun c_213 => ?_) (fun c_213 => ?_)
                · have jc_213 := dk_neqc (k := 80) (by decide +kernel) c_213
                  clear jc_213
                  refine lv_aload_n hx hb dX12_finishes_83 rfl (lv_at hl 1 rfl) ?_
                  refine lv_bipush (v := 59) hx hb dX12_finishes_84 (by decide +kernel) ?_
                  refine dg_callv hS hA1 hA (va_runV (As := [.int 59]) (rest := []) F (c_m_must l g D o S_1 59 sg ((m_1.1 0 3 _ sM_0 (by decide)).trans f_sg) (by omega) sa ((m_1.1 0 4 _ sM_0 (by decide)).trans f_sa) (by omega) se ((m_1.1 0 5 _ sM_0 (by decide)).trans f_se) (by omega) sl ((m_1.1 0 2 _ sM_0 (by decide)).trans f_sl) (by omega) y_2 f_y_2 (by omega) va ((m_1.1 0 6 _ sM_0 (by decide)).trans f_va) (by omega) (by omega) I_1 H.size) (cwV 1 hts (bw_V wB_1303 wB_1304 wB_1305 wB_881 wB_1302) rfl rfl rfl (by decide +kernel) ⟨Nat.le_of_ble_eq_true rfl, Nat.le_of_ble_eq_true rfl⟩) (dg_preV sM_0 rfl K ST hP hS hA1 hA) rfl rfl hl.1 rfl (lv_room (Nat.le_of_ble_eq_true rfl)) dX12_finishes_86 ⟨Nat.le_of_ble_eq_true rfl, Nat.le_of_ble_eq_true rfl⟩) (fun S_214 hw_214 H locs hP hS => ?_)
                  obtain ⟨I_214, m_214, w_214_0, -⟩ := hw_214
                  have M_214 := dg_sm.tr M_1 m_214 (by decide) (by decide)
                  have hz_215 : (59 : Int32).toInt = 59 := by decide +kernel
                  obtain ⟨y_216, y_217, y_218, y_219, f_y_216, f_y_217, f_y_218, f_y_219, w_214_0⟩ := w_214_0
                  have w_214_0 : ((y_217).toInt ≤ (y_218).toInt ∧ (y_218).toInt ≤ (sl).toInt ∧ ((y_216).toInt ≠ 0 → (y_217).toInt + 1 ≤ (y_218).toInt)) ∧ (sa).toInt ≤ (y_217).toInt ∧ ((y_2).toInt ≠ 0 → (y_219).toInt ≠ 0) ∧ ((y_219).toInt = 0 → (sa).toInt + 1 ≤ (y_217).toInt) := w_214_0
                  obtain ⟨⟨w_214_0_0, w_214_0_1, w_214_0_2⟩, w_214_0_3, w_214_0_4, w_214_0_5⟩ := w_214_0
                  clear w_214_0_4
                  have b_y_216 : 0 ≤ (y_216).toInt ∧ (y_216).toInt ≤ 3 := dg_I.intb (lo := 0) (hi := 3) I_214 sM_0 (by decide +kernel) f_y_216
                  have b_y_217 : 0 ≤ (y_217).toInt ∧ (y_217).toInt ≤ 1600 := dg_I.intb (lo := 0) (hi := 1600) I_214 sM_0 (by decide +kernel) f_y_217
                  have b_y_218 : 0 ≤ (y_218).toInt ∧ (y_218).toInt ≤ 1600 := dg_I.intb (lo := 0) (hi := 1600) I_214 sM_0 (by decide +kernel) f_y_218
                  have b_y_219 : 0 ≤ (y_219).toInt ∧ (y_219).toInt ≤ 6 := dg_I.intb (lo := 0) (hi := 6) I_214 sM_0 (by decide +kernel) f_y_219
                  refine W.widen (k := 0) (n := 0) (Nat.le_of_ble_eq_true rfl) (Nat.le_of_ble_eq_true rfl) ?_
                  rw [hQ9]
                  exact dg_vret hx hb hr hlocks hP hS ⟨I_214, M_214, ⟨y_216, y_217, y_218, y_219, f_y_216, f_y_217, f_y_218, f_y_219, (by omega)⟩, trivial⟩ dX12_finishes_89
                · have jc_213 := dk_eqc (k := 80) (by decide +kernel) c_213
                  refine lv_iload_n hx hb dX12_finishes_68 rfl (lv_at hl 0 rfl) ?_
                  refine lv_aload_n hx hb dX12_finishes_69 rfl (lv_at hl 1 rfl) ?_
                  refine dg_get (C := RX12) (T := TX12) (N := 77) hx hb hts (fun w h => bw_mem (wU_X12 w h)) hown K hP sM_0 rfl 2 (by decide) (hts _ (bw_mem wB_1144)) (fun _ h9 => h9) (v := .int sl) ((m_1.1 0 2 _ sM_0 (by decide)).trans f_sl) dX12_finishes_70 ?_
                  refine lv_icmp_ge (tgt := 83) hx hb dX12_finishes_73 (by decide) (fun c_220 => ?_) (fun c_220 => ?_)
                  · have jc_220 := dk_gec (k := (sl).toInt) rfl c_220
                    refine lv_aload_n hx hb dX12_finishes_83 rfl (lv_at hl 1 rfl) ?_
                    refine lv_bipush (v := 59) hx hb dX12_finishes_84 (by decide +kernel) ?_
                    refine dg_callv hS hA1 hA (va_runV (As := [.int 59]) (rest := []) F (c_m_must l g D o S_1 59 sg ((m_1.1 0 3 _ sM_0 (by decide)).trans f_sg) (by omega) sa ((m_1.1 0 4 _ sM_0 (by decide)).trans f_sa) (by omega) se ((m_1.1 0 5 _ sM_0 (by decide)).trans f_se) (by omega) sl ((m_1.1 0 2 _ sM_0 (by decide)).trans f_sl) (by omega) y_2 f_y_2 (by omega) va ((m_1.1 0 6 _ sM_0 (by decide)).trans f_va) (by omega) (by omega) I_1 H.size) (cwV 1 hts (bw_V wB_1303 wB_1304 wB_1305 wB_881 wB_1302) rfl rfl rfl (by decide +kernel) ⟨Nat.le_of_ble_eq_true rfl, Nat.le_of_ble_eq_true rfl⟩) (dg_preV sM_0 rfl K ST hP hS hA1 hA) rfl rfl hl.1 rfl (lv_room (Nat.le_of_ble_eq_true rfl)) dX12_finishes_86 ⟨Nat.le_of_ble_eq_true rfl, Nat.le_of_ble_eq_true rfl⟩) (fun S_221 hw_221 H locs hP hS => ?_)
                    obtain ⟨I_221, m_221, w_221_0, -⟩ := hw_221
                    have M_221 := dg_sm.tr M_1 m_221 (by decide) (by decide)
                    have hz_222 : (59 : Int32).toInt = 59 := by decide +kernel
                    obtain ⟨y_223, y_224, y_225, y_226, f_y_223, f_y_224, f_y_225, f_y_226, w_221_0⟩ := w_221_0
                    have w_221_0 : ((y_224).toInt ≤ (y_225).toInt ∧ (y_225).toInt ≤ (sl).toInt ∧ ((y_223).toInt ≠ 0 → (y_224).toInt + 1 ≤ (y_225).toInt)) ∧ (sa).toInt ≤ (y_224).toInt ∧ ((y_2).toInt ≠ 0 → (y_226).toInt ≠ 0) ∧ ((y_226).toInt = 0 → (sa).toInt + 1 ≤ (y_224).toInt) := w_221_0
                    obtain ⟨⟨w_221_0_0, w_221_0_1, w_221_0_2⟩, w_221_0_3, w_221_0_4, w_221_0_5⟩ := w_221_0
                    clear w_221_0_4
                    have b_y_223 : 0 ≤ (y_223).toInt ∧ (y_223).toInt ≤ 3 := dg_I.intb (lo := 0) (hi := 3) I_221 sM_0 (by decide +kernel) f_y_223
                    have b_y_224 : 0 ≤ (y_224).toInt ∧ (y_224).toInt ≤ 1600 := dg_I.intb (lo := 0) (hi := 1600) I_221 sM_0 (by decide +kernel) f_y_224
                    have b_y_225 : 0 ≤ (y_225).toInt ∧ (y_225).toInt ≤ 1600 := dg_I.intb (lo := 0) (hi := 1600) I_221 sM_0 (by decide +kernel) f_y_225
                    have b_y_226 : 0 ≤ (y_226).toInt ∧ (y_226).toInt ≤ 6 := dg_I.intb (lo := 0) (hi := 6) I_221 sM_0 (by decide +kernel) f_y_226
                    refine W.widen (k := 0) (n := 0) (Nat.le_of_ble_eq_true rfl) (Nat.le_of_ble_eq_true rfl) ?_
                    rw [hQ9]
                    exact dg_vret hx hb hr hlocks hP hS ⟨I_221, M_221, ⟨y_223, y_224, y_225, y_226, f_y_223, f_y_224, f_y_225, f_y_226, (by omega)⟩, trivial⟩ dX12_finishes_89
                  · have jc_220 := dk_ngec (k := (sl).toInt) rfl c_220
                    refine lv_aload_n hx hb dX12_finishes_76 rfl (lv_at hl 1 rfl) ?_
                    refine lv_bipush (v := 6) hx hb dX12_finishes_77 (by decide +kernel) ?_
                    refine lv_iload_n hx hb dX12_finishes_79 rfl (lv_at hl 0 rfl) ?_
                    have hz_227 : (6 : Int32).toInt = 6 := by decide +kernel
                    refine dg_callv hS hA1 hA (va_runV (As := [.int 6, .int x_159]) (rest := []) F (c_m_blame l g D o S_1 6 (by decide +kernel) x_159 y_2 f_y_2 (by omega) I_1 H.size) (cwV 2 hts (bw_V wB_1137 wB_1138 wB_1139 wB_881 wB_1136) rfl rfl rfl (by decide +kernel) ⟨Nat.le_of_ble_eq_true rfl, Nat.le_of_ble_eq_true rfl⟩) (dg_preV sM_0 rfl K ST hP hS hA1 hA) rfl rfl hl.1 rfl (lv_room (Nat.le_of_ble_eq_true rfl)) dX12_finishes_80 ⟨Nat.le_of_ble_eq_true rfl, Nat.le_of_ble_eq_true rfl⟩) (fun S_228 hw_228 H locs hP hS => ?_)
                    obtain ⟨I_228, m_228, w_228_0, -⟩ := hw_228
                    have M_228 := dg_sm.tr M_1 m_228 (by decide) (by decide)
                    have hz_229 : (6 : Int32).toInt = 6 := by decide +kernel
                    obtain ⟨y_230, f_y_230, w_228_0⟩ := w_228_0
                    have w_228_0 : ((y_2).toInt ≠ 0 → (y_230).toInt = (y_2).toInt) ∧ ((y_2).toInt = 0 → (y_230).toInt = ((6 : Int32)).toInt) := w_228_0
                    obtain ⟨w_228_0_0, w_228_0_1⟩ := w_228_0
                    clear w_228_0_0
                    have w_228_0_1r := w_228_0_1 (by omega)
                    clear w_228_0_1
                    have b_y_230 : 0 ≤ (y_230).toInt ∧ (y_230).toInt ≤ 6 := dg_I.intb (lo := 0) (hi := 6) I_228 sM_0 (by decide +kernel) f_y_230
                    have hbl_y_230 : 1 ≤ (y_230).toInt := by omega
                    refine lv_aload_n hx hb dX12_finishes_83 rfl (lv_at hl 1 rfl) ?_
                    refine lv_bipush (v := 59) hx hb dX12_finishes_84 (by decide +kernel) ?_
                    refine dg_callv hS hA1 hA (va_runV (As := [.int 59]) (rest := []) F (c_m_must l g D o S_228 59 sg (((m_228.1 0 3 _ sM_0 (by decide)).trans (m_1.1 0 3 _ sM_0 (by decide))).trans f_sg) (by omega) sa (((m_228.1 0 4 _ sM_0 (by decide)).trans (m_1.1 0 4 _ sM_0 (by decide))).trans f_sa) (by omega) se (((m_228.1 0 5 _ sM_0 (by decide)).trans (m_1.1 0 5 _ sM_0 (by decide))).trans f_se) (by omega) sl (((m_228.1 0 2 _ sM_0 (by decide)).trans (m_1.1 0 2 _ sM_0 (by decide))).trans f_sl) (by omega) y_230 f_y_230 (by omega) va (((m_228.1 0 6 _ sM_0 (by decide)).trans (m_1.1 0 6 _ sM_0 (by decide))).trans f_va) (by omega) (by omega) I_228 H.size) (cwV 1 hts (bw_V wB_1303 wB_1304 wB_1305 wB_881 wB_1302) rfl rfl rfl (by decide +kernel) ⟨Nat.le_of_ble_eq_true rfl, Nat.le_of_ble_eq_true rfl⟩) (dg_preV sM_0 rfl K ST hP hS hA1 hA) rfl rfl hl.1 rfl (lv_room (Nat.le_of_ble_eq_true rfl)) dX12_finishes_86 ⟨Nat.le_of_ble_eq_true rfl, Nat.le_of_ble_eq_true rfl⟩) (fun S_231 hw_231 H locs hP hS => ?_)
                    obtain ⟨I_231, m_231, w_231_0, -⟩ := hw_231
                    have M_231 := dg_sm.tr M_228 m_231 (by decide) (by decide)
                    have hz_232 : (59 : Int32).toInt = 59 := by decide +kernel
                    obtain ⟨y_233, y_234, y_235, y_236, f_y_233, f_y_234, f_y_235, f_y_236, w_231_0⟩ := w_231_0
                    have w_231_0 : ((y_234).toInt ≤ (y_235).toInt ∧ (y_235).toInt ≤ (sl).toInt ∧ ((y_233).toInt ≠ 0 → (y_234).toInt + 1 ≤ (y_235).toInt)) ∧ (sa).toInt ≤ (y_234).toInt ∧ ((y_230).toInt ≠ 0 → (y_236).toInt ≠ 0) ∧ ((y_236).toInt = 0 → (sa).toInt + 1 ≤ (y_234).toInt) := w_231_0
                    obtain ⟨⟨w_231_0_0, w_231_0_1, w_231_0_2⟩, w_231_0_3, w_231_0_4, w_231_0_5⟩ := w_231_0
                    have w_231_0_4r := w_231_0_4 (by omega)
                    clear w_231_0_4
                    have b_y_233 : 0 ≤ (y_233).toInt ∧ (y_233).toInt ≤ 3 := dg_I.intb (lo := 0) (hi := 3) I_231 sM_0 (by decide +kernel) f_y_233
                    have b_y_234 : 0 ≤ (y_234).toInt ∧ (y_234).toInt ≤ 1600 := dg_I.intb (lo := 0) (hi := 1600) I_231 sM_0 (by decide +kernel) f_y_234
                    have b_y_235 : 0 ≤ (y_235).toInt ∧ (y_235).toInt ≤ 1600 := dg_I.intb (lo := 0) (hi := 1600) I_231 sM_0 (by decide +kernel) f_y_235
                    have b_y_236 : 0 ≤ (y_236).toInt ∧ (y_236).toInt ≤ 6 := dg_I.intb (lo := 0) (hi := 6) I_231 sM_0 (by decide +kernel) f_y_236
                    refine W.widen (k := 0) (n := 0) (Nat.le_of_ble_eq_true rfl) (Nat.le_of_ble_eq_true rfl) ?_
                    rw [hQ9]
                    exact dg_vret hx hb hr hlocks hP hS ⟨I_231, M_231, ⟨y_233, y_234, y_235, y_236, f_y_233, f_y_234, f_y_235, f_y_236, (by omega)⟩, trivial⟩ dX12_finishes_89
            · have jc_202 := dk_eqc (k := 10) (by decide +kernel) c_202
              obtain ⟨x_237, ex_237⟩ : ∃ z, z = x_159 + 1 := ⟨_, rfl⟩
              have jx_237 : (x_237).toInt = (x_159).toInt + 1 := by rw [ex_237]; exact dk_addT rfl (by decide +kernel) (by omega) (by omega)
              refine lv_iinc (v := x_237) (lv' := [(2, .int x_237), (0, .ref (o + 0)), (1, .int a1)]) hx hb dX12_finishes_47 hl (k := 0) rfl (by rw [ex_237]; rfl) (by decide) rfl (fun ls hl => ?_)
              refine lv_goto (tgt := 17) hx hb dX12_finishes_50 (by decide) ?_
              exact ih x_237 (by omega) (by omega) _ _ hP hS _ (lv_sub hl [0, 1, 2] rfl)
    exact L_160 ((1601 - ((se : Int32)).toInt).toNat + 1) se (by omega) (by omega) _ _ hP hS _ (lv_sub hl [0, 1, 2] rfl)
  · have jc_3 := dk_nlec (k := 0) (by decide +kernel) c_3
    refine W.widen (k := 0) (n := 0) (Nat.le_of_ble_eq_true rfl) (Nat.le_of_ble_eq_true rfl) ?_
    rw [hQ9]
    exact dg_vret hx hb hr hlocks hP hS ⟨I_1, M_1, ⟨sg, sa, se, y_2, ((m_1.1 0 3 _ sM_0 (by decide)).trans f_sg), ((m_1.1 0 4 _ sM_0 (by decide)).trans f_sa), ((m_1.1 0 5 _ sM_0 (by decide)).trans f_se), f_y_2, (by omega)⟩, trivial⟩ dX12_finishes_11
