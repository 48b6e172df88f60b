/-! 44.m12.lean.txt -/
theorem dX12_add_0 : decode cX12_add 0 = .ok (.aload_n 0, 1) := dk_o42 (by decide +kernel)
theorem dX12_add_1 : decode cX12_add 1 = .ok (.getfield 102, 3) := dk_o180 (by decide +kernel)
theorem dX12_add_4 : decode cX12_add 4 = .ok (.sipush 1600, 3) := dk_o17 (by decide +kernel)
theorem dX12_add_7 : decode cX12_add 7 = .ok (.aload_n 0, 1) := dk_o42 (by decide +kernel)
theorem dX12_add_8 : decode cX12_add 8 = .ok (.getfield 118, 3) := dk_o180 (by decide +kernel)
theorem dX12_add_11 : decode cX12_add 11 = .ok (.imul, 1) := dk_o104 (by decide +kernel)
theorem dX12_add_12 : decode cX12_add 12 = .ok (.aload_n 0, 1) := dk_o42 (by decide +kernel)
theorem dX12_add_13 : decode cX12_add 13 = .ok (.getfield 115, 3) := dk_o180 (by decide +kernel)
theorem dX12_add_16 : decode cX12_add 16 = .ok (.iadd, 1) := dk_o96 (by decide +kernel)
theorem dX12_add_17 : decode cX12_add 17 = .ok (.iload_n 1, 1) := dk_o27 (by decide +kernel)
theorem dX12_add_18 : decode cX12_add 18 = .ok (.iastore, 1) := dk_o79 (by decide +kernel)
theorem dX12_add_19 : decode cX12_add 19 = .ok (.aload_n 0, 1) := dk_o42 (by decide +kernel)
theorem dX12_add_20 : decode cX12_add 20 = .ok (.getfield 105, 3) := dk_o180 (by decide +kernel)
theorem dX12_add_23 : decode cX12_add 23 = .ok (.sipush 1600, 3) := dk_o17 (by decide +kernel)
theorem dX12_add_26 : decode cX12_add 26 = .ok (.aload_n 0, 1) := dk_o42 (by decide +kernel)
theorem dX12_add_27 : decode cX12_add 27 = .ok (.getfield 118, 3) := dk_o180 (by decide +kernel)
theorem dX12_add_30 : decode cX12_add 30 = .ok (.imul, 1) := dk_o104 (by decide +kernel)
theorem dX12_add_31 : decode cX12_add 31 = .ok (.aload_n 0, 1) := dk_o42 (by decide +kernel)
theorem dX12_add_32 : decode cX12_add 32 = .ok (.getfield 115, 3) := dk_o180 (by decide +kernel)
theorem dX12_add_35 : decode cX12_add 35 = .ok (.iadd, 1) := dk_o96 (by decide +kernel)
theorem dX12_add_36 : decode cX12_add 36 = .ok (.iload_n 2, 1) := dk_o28 (by decide +kernel)
theorem dX12_add_37 : decode cX12_add 37 = .ok (.iastore, 1) := dk_o79 (by decide +kernel)
theorem dX12_add_38 : decode cX12_add 38 = .ok (.aload_n 0, 1) := dk_o42 (by decide +kernel)
theorem dX12_add_39 : decode cX12_add 39 = .ok (.dup, 1) := dk_o89 (by decide +kernel)
theorem dX12_add_40 : decode cX12_add 40 = .ok (.getfield 115, 3) := dk_o180 (by decide +kernel)
theorem dX12_add_43 : decode cX12_add 43 = .ok (.iconst 1, 1) := dk_o4 (by decide +kernel)
theorem dX12_add_44 : decode cX12_add 44 = .ok (.iadd, 1) := dk_o96 (by decide +kernel)
theorem dX12_add_45 : decode cX12_add 45 = .ok (.putfield 115, 3) := dk_o181 (by decide +kernel)
theorem dX12_add_48 : decode cX12_add 48 = .ok (.return_, 1) := dk_o177 (by decide +kernel)
theorem dX12_rank_0 : decode cX12_rank 0 = .ok (.iload_n 0, 1) := dk_o26 (by decide +kernel)
theorem dX12_rank_1 : decode cX12_rank 1 = .ok (.bipush 42, 2) := dk_o16 (by decide +kernel)
theorem dX12_rank_3 : decode cX12_rank 3 = .ok (.if_icmp .ne 7, 3) := dk_o160 (by decide +kernel)
theorem dX12_rank_6 : decode cX12_rank 6 = .ok (.iconst 1, 1) := dk_o4 (by decide +kernel)
theorem dX12_rank_7 : decode cX12_rank 7 = .ok (.goto 63, 3) := dk_o167 (by decide +kernel)
theorem dX12_rank_10 : decode cX12_rank 10 = .ok (.iload_n 0, 1) := dk_o26 (by decide +kernel)
theorem dX12_rank_11 : decode cX12_rank 11 = .ok (.bipush 41, 2) := dk_o16 (by decide +kernel)
theorem dX12_rank_13 : decode cX12_rank 13 = .ok (.if_icmp .ne 7, 3) := dk_o160 (by decide +kernel)
theorem dX12_rank_16 : decode cX12_rank 16 = .ok (.iconst 2, 1) := dk_o5 (by decide +kernel)
theorem dX12_rank_17 : decode cX12_rank 17 = .ok (.goto 53, 3) := dk_o167 (by decide +kernel)
theorem dX12_rank_20 : decode cX12_rank 20 = .ok (.iload_n 0, 1) := dk_o26 (by decide +kernel)
theorem dX12_rank_21 : decode cX12_rank 21 = .ok (.bipush 43, 2) := dk_o16 (by decide +kernel)
theorem dX12_rank_23 : decode cX12_rank 23 = .ok (.if_icmp .ne 7, 3) := dk_o160 (by decide +kernel)
theorem dX12_rank_26 : decode cX12_rank 26 = .ok (.iconst 3, 1) := dk_o6 (by decide +kernel)
theorem dX12_rank_27 : decode cX12_rank 27 = .ok (.goto 43, 3) := dk_o167 (by decide +kernel)
theorem dX12_rank_30 : decode cX12_rank 30 = .ok (.iload_n 0, 1) := dk_o26 (by decide +kernel)
theorem dX12_rank_31 : decode cX12_rank 31 = .ok (.bipush 38, 2) := dk_o16 (by decide +kernel)
theorem dX12_rank_33 : decode cX12_rank 33 = .ok (.if_icmp .eq 15, 3) := dk_o159 (by decide +kernel)
theorem dX12_rank_36 : decode cX12_rank 36 = .ok (.iload_n 0, 1) := dk_o26 (by decide +kernel)
theorem dX12_rank_37 : decode cX12_rank 37 = .ok (.bipush 39, 2) := dk_o16 (by decide +kernel)
theorem dX12_rank_39 : decode cX12_rank 39 = .ok (.if_icmp .eq 9, 3) := dk_o159 (by decide +kernel)
theorem dX12_rank_42 : decode cX12_rank 42 = .ok (.iload_n 0, 1) := dk_o26 (by decide +kernel)
theorem dX12_rank_43 : decode cX12_rank 43 = .ok (.bipush 40, 2) := dk_o16 (by decide +kernel)
theorem dX12_rank_45 : decode cX12_rank 45 = .ok (.if_icmp .ne 7, 3) := dk_o160 (by decide +kernel)
theorem dX12_rank_48 : decode cX12_rank 48 = .ok (.iconst 4, 1) := dk_o7 (by decide +kernel)
theorem dX12_rank_49 : decode cX12_rank 49 = .ok (.goto 21, 3) := dk_o167 (by decide +kernel)
theorem dX12_rank_52 : decode cX12_rank 52 = .ok (.iload_n 0, 1) := dk_o26 (by decide +kernel)
theorem dX12_rank_53 : decode cX12_rank 53 = .ok (.bipush 31, 2) := dk_o16 (by decide +kernel)
theorem dX12_rank_55 : decode cX12_rank 55 = .ok (.if_icmp .eq 9, 3) := dk_o159 (by decide +kernel)
theorem dX12_rank_58 : decode cX12_rank 58 = .ok (.iload_n 0, 1) := dk_o26 (by decide +kernel)
theorem dX12_rank_59 : decode cX12_rank 59 = .ok (.bipush 32, 2) := dk_o16 (by decide +kernel)
theorem dX12_rank_61 : decode cX12_rank 61 = .ok (.if_icmp .ne 7, 3) := dk_o160 (by decide +kernel)
theorem dX12_rank_64 : decode cX12_rank 64 = .ok (.iconst 5, 1) := dk_o8 (by decide +kernel)
theorem dX12_rank_65 : decode cX12_rank 65 = .ok (.goto 5, 3) := dk_o167 (by decide +kernel)
theorem dX12_rank_68 : decode cX12_rank 68 = .ok (.bipush 6, 2) := dk_o16 (by decide +kernel)
theorem dX12_rank_70 : decode cX12_rank 70 = .ok (.ireturn, 1) := dk_o172 (by decide +kernel)
theorem dX12_joins_0 : decode cX12_joins 0 = .ok (.aload_n 0, 1) := dk_o42 (by decide +kernel)
theorem dX12_joins_1 : decode cX12_joins 1 = .ok (.getfield 149, 3) := dk_o180 (by decide +kernel)
theorem dX12_joins_4 : decode cX12_joins 4 = .ok (.aload_n 0, 1) := dk_o42 (by decide +kernel)
theorem dX12_joins_5 : decode cX12_joins 5 = .ok (.getfield 137, 3) := dk_o180 (by decide +kernel)
theorem dX12_joins_8 : decode cX12_joins 8 = .ok (.aload_n 0, 1) := dk_o42 (by decide +kernel)
theorem dX12_joins_9 : decode cX12_joins 9 = .ok (.getfield 140, 3) := dk_o180 (by decide +kernel)
theorem dX12_joins_12 : decode cX12_joins 12 = .ok (.iconst 1, 1) := dk_o4 (by decide +kernel)
theorem dX12_joins_13 : decode cX12_joins 13 = .ok (.isub, 1) := dk_o100 (by decide +kernel)
theorem dX12_joins_14 : decode cX12_joins 14 = .ok (.iaload, 1) := dk_o46 (by decide +kernel)
theorem dX12_joins_15 : decode cX12_joins 15 = .ok (.if_icmp .le 72, 3) := dk_o164 (by decide +kernel)
theorem dX12_joins_18 : decode cX12_joins 18 = .ok (.aload_n 0, 1) := dk_o42 (by decide +kernel)
theorem dX12_joins_19 : decode cX12_joins 19 = .ok (.getfield 146, 3) := dk_o180 (by decide +kernel)
theorem dX12_joins_22 : decode cX12_joins 22 = .ok (.aload_n 0, 1) := dk_o42 (by decide +kernel)
theorem dX12_joins_23 : decode cX12_joins 23 = .ok (.getfield 149, 3) := dk_o180 (by decide +kernel)
theorem dX12_joins_26 : decode cX12_joins 26 = .ok (.iconst 1, 1) := dk_o4 (by decide +kernel)
theorem dX12_joins_27 : decode cX12_joins 27 = .ok (.isub, 1) := dk_o100 (by decide +kernel)
theorem dX12_joins_28 : decode cX12_joins 28 = .ok (.iaload, 1) := dk_o46 (by decide +kernel)
theorem dX12_joins_29 : decode cX12_joins 29 = .ok (.invokestatic 337, 3) := dk_o184 (by decide +kernel)
theorem dX12_joins_32 : decode cX12_joins 32 = .ok (.iload_n 1, 1) := dk_o27 (by decide +kernel)
theorem dX12_joins_33 : decode cX12_joins 33 = .ok (.if_icmp .lt 54, 3) := dk_o161 (by decide +kernel)
theorem dX12_joins_36 : decode cX12_joins 36 = .ok (.aload_n 0, 1) := dk_o42 (by decide +kernel)
theorem dX12_joins_37 : decode cX12_joins 37 = .ok (.dup, 1) := dk_o89 (by decide +kernel)
theorem dX12_joins_38 : decode cX12_joins 38 = .ok (.getfield 149, 3) := dk_o180 (by decide +kernel)
theorem dX12_joins_41 : decode cX12_joins 41 = .ok (.iconst 1, 1) := dk_o4 (by decide +kernel)
theorem dX12_joins_42 : decode cX12_joins 42 = .ok (.isub, 1) := dk_o100 (by decide +kernel)
theorem dX12_joins_43 : decode cX12_joins 43 = .ok (.putfield 149, 3) := dk_o181 (by decide +kernel)
theorem dX12_joins_46 : decode cX12_joins 46 = .ok (.aload_n 0, 1) := dk_o42 (by decide +kernel)
theorem dX12_joins_47 : decode cX12_joins 47 = .ok (.aload_n 0, 1) := dk_o42 (by decide +kernel)
theorem dX12_joins_48 : decode cX12_joins 48 = .ok (.getfield 146, 3) := dk_o180 (by decide +kernel)
theorem dX12_joins_51 : decode cX12_joins 51 = .ok (.aload_n 0, 1) := dk_o42 (by decide +kernel)
theorem dX12_joins_52 : decode cX12_joins 52 = .ok (.getfield 149, 3) := dk_o180 (by decide +kernel)
theorem dX12_joins_55 : decode cX12_joins 55 = .ok (.iaload, 1) := dk_o46 (by decide +kernel)
theorem dX12_joins_56 : decode cX12_joins 56 = .ok (.iconst 0, 1) := dk_o3 (by decide +kernel)
theorem dX12_joins_57 : decode cX12_joins 57 = .ok (.invokevirtual 340, 3) := dk_o182 (by decide +kernel)
theorem dX12_joins_60 : decode cX12_joins 60 = .ok (.aload_n 0, 1) := dk_o42 (by decide +kernel)
theorem dX12_joins_61 : decode cX12_joins 61 = .ok (.getfield 146, 3) := dk_o180 (by decide +kernel)
theorem dX12_joins_64 : decode cX12_joins 64 = .ok (.aload_n 0, 1) := dk_o42 (by decide +kernel)
theorem dX12_joins_65 : decode cX12_joins 65 = .ok (.getfield 149, 3) := dk_o180 (by decide +kernel)
theorem dX12_joins_68 : decode cX12_joins 68 = .ok (.iaload, 1) := dk_o46 (by decide +kernel)
theorem dX12_joins_69 : decode cX12_joins 69 = .ok (.bipush 43, 2) := dk_o16 (by decide +kernel)
theorem dX12_joins_71 : decode cX12_joins 71 = .ok (.if_icmp .ne (-71), 3) := dk_o160 (by decide +kernel)
theorem dX12_joins_74 : decode cX12_joins 74 = .ok (.aload_n 0, 1) := dk_o42 (by decide +kernel)
theorem dX12_joins_75 : decode cX12_joins 75 = .ok (.dup, 1) := dk_o89 (by decide +kernel)
theorem dX12_joins_76 : decode cX12_joins 76 = .ok (.getfield 143, 3) := dk_o180 (by decide +kernel)
theorem dX12_joins_79 : decode cX12_joins 79 = .ok (.iconst 1, 1) := dk_o4 (by decide +kernel)
theorem dX12_joins_80 : decode cX12_joins 80 = .ok (.isub, 1) := dk_o100 (by decide +kernel)
theorem dX12_joins_81 : decode cX12_joins 81 = .ok (.putfield 143, 3) := dk_o181 (by decide +kernel)
theorem dX12_joins_84 : decode cX12_joins 84 = .ok (.goto (-84), 3) := dk_o167 (by decide +kernel)
theorem dX12_joins_87 : decode cX12_joins 87 = .ok (.return_, 1) := dk_o177 (by decide +kernel)
theorem dX12_holdsBack_0 : decode cX12_holdsBack 0 = .ok (.aload_n 0, 1) := dk_o42 (by decide +kernel)
theorem dX12_holdsBack_1 : decode cX12_holdsBack 1 = .ok (.getfield 146, 3) := dk_o180 (by decide +kernel)
theorem dX12_holdsBack_4 : decode cX12_holdsBack 4 = .ok (.aload_n 0, 1) := dk_o42 (by decide +kernel)
theorem dX12_holdsBack_5 : decode cX12_holdsBack 5 = .ok (.getfield 149, 3) := dk_o180 (by decide +kernel)
theorem dX12_holdsBack_8 : decode cX12_holdsBack 8 = .ok (.iload_n 1, 1) := dk_o27 (by decide +kernel)
theorem dX12_holdsBack_9 : decode cX12_holdsBack 9 = .ok (.iastore, 1) := dk_o79 (by decide +kernel)
theorem dX12_holdsBack_10 : decode cX12_holdsBack 10 = .ok (.aload_n 0, 1) := dk_o42 (by decide +kernel)
theorem dX12_holdsBack_11 : decode cX12_holdsBack 11 = .ok (.dup, 1) := dk_o89 (by decide +kernel)
theorem dX12_holdsBack_12 : decode cX12_holdsBack 12 = .ok (.getfield 149, 3) := dk_o180 (by decide +kernel)
theorem dX12_holdsBack_15 : decode cX12_holdsBack 15 = .ok (.iconst 1, 1) := dk_o4 (by decide +kernel)
theorem dX12_holdsBack_16 : decode cX12_holdsBack 16 = .ok (.iadd, 1) := dk_o96 (by decide +kernel)
theorem dX12_holdsBack_17 : decode cX12_holdsBack 17 = .ok (.putfield 149, 3) := dk_o181 (by decide +kernel)
theorem dX12_holdsBack_20 : decode cX12_holdsBack 20 = .ok (.return_, 1) := dk_o177 (by decide +kernel)
theorem dX12_pushes_0 : decode cX12_pushes 0 = .ok (.aload_n 0, 1) := dk_o42 (by decide +kernel)
theorem dX12_pushes_1 : decode cX12_pushes 1 = .ok (.getfield 124, 3) := dk_o180 (by decide +kernel)
theorem dX12_pushes_4 : decode cX12_pushes 4 = .ok (.aload_n 0, 1) := dk_o42 (by decide +kernel)
theorem dX12_pushes_5 : decode cX12_pushes 5 = .ok (.getfield 140, 3) := dk_o180 (by decide +kernel)
theorem dX12_pushes_8 : decode cX12_pushes 8 = .ok (.iload_n 1, 1) := dk_o27 (by decide +kernel)
theorem dX12_pushes_9 : decode cX12_pushes 9 = .ok (.iastore, 1) := dk_o79 (by decide +kernel)
theorem dX12_pushes_10 : decode cX12_pushes 10 = .ok (.aload_n 0, 1) := dk_o42 (by decide +kernel)
theorem dX12_pushes_11 : decode cX12_pushes 11 = .ok (.getfield 127, 3) := dk_o180 (by decide +kernel)
theorem dX12_pushes_14 : decode cX12_pushes 14 = .ok (.aload_n 0, 1) := dk_o42 (by decide +kernel)
theorem dX12_pushes_15 : decode cX12_pushes 15 = .ok (.getfield 140, 3) := dk_o180 (by decide +kernel)
theorem dX12_pushes_18 : decode cX12_pushes 18 = .ok (.iconst 0, 1) := dk_o3 (by decide +kernel)
theorem dX12_pushes_19 : decode cX12_pushes 19 = .ok (.iastore, 1) := dk_o79 (by decide +kernel)
theorem dX12_pushes_20 : decode cX12_pushes 20 = .ok (.aload_n 0, 1) := dk_o42 (by decide +kernel)
theorem dX12_pushes_21 : decode cX12_pushes 21 = .ok (.getfield 130, 3) := dk_o180 (by decide +kernel)
theorem dX12_pushes_24 : decode cX12_pushes 24 = .ok (.aload_n 0, 1) := dk_o42 (by decide +kernel)
theorem dX12_pushes_25 : decode cX12_pushes 25 = .ok (.getfield 140, 3) := dk_o180 (by decide +kernel)
theorem dX12_pushes_28 : decode cX12_pushes 28 = .ok (.iconst 1, 1) := dk_o4 (by decide +kernel)
theorem dX12_pushes_29 : decode cX12_pushes 29 = .ok (.bastore, 1) := dk_o84 (by decide +kernel)
theorem dX12_pushes_30 : decode cX12_pushes 30 = .ok (.aload_n 0, 1) := dk_o42 (by decide +kernel)
theorem dX12_pushes_31 : decode cX12_pushes 31 = .ok (.getfield 137, 3) := dk_o180 (by decide +kernel)
theorem dX12_pushes_34 : decode cX12_pushes 34 = .ok (.aload_n 0, 1) := dk_o42 (by decide +kernel)
theorem dX12_pushes_35 : decode cX12_pushes 35 = .ok (.getfield 140, 3) := dk_o180 (by decide +kernel)
theorem dX12_pushes_38 : decode cX12_pushes 38 = .ok (.aload_n 0, 1) := dk_o42 (by decide +kernel)
theorem dX12_pushes_39 : decode cX12_pushes 39 = .ok (.getfield 149, 3) := dk_o180 (by decide +kernel)
theorem dX12_pushes_42 : decode cX12_pushes 42 = .ok (.iastore, 1) := dk_o79 (by decide +kernel)
theorem dX12_pushes_43 : decode cX12_pushes 43 = .ok (.aload_n 0, 1) := dk_o42 (by decide +kernel)
theorem dX12_pushes_44 : decode cX12_pushes 44 = .ok (.dup, 1) := dk_o89 (by decide +kernel)
theorem dX12_pushes_45 : decode cX12_pushes 45 = .ok (.getfield 140, 3) := dk_o180 (by decide +kernel)
theorem dX12_pushes_48 : decode cX12_pushes 48 = .ok (.iconst 1, 1) := dk_o4 (by decide +kernel)
theorem dX12_pushes_49 : decode cX12_pushes 49 = .ok (.iadd, 1) := dk_o96 (by decide +kernel)
theorem dX12_pushes_50 : decode cX12_pushes 50 = .ok (.putfield 140, 3) := dk_o181 (by decide +kernel)
theorem dX12_pushes_53 : decode cX12_pushes 53 = .ok (.return_, 1) := dk_o177 (by decide +kernel)
theorem dX12_frames_0 : decode cX12_frames 0 = .ok (.aload_n 0, 1) := dk_o42 (by decide +kernel)
theorem dX12_frames_1 : decode cX12_frames 1 = .ok (.getfield 143, 3) := dk_o180 (by decide +kernel)
theorem dX12_frames_4 : decode cX12_frames 4 = .ok (.bipush 7, 2) := dk_o16 (by decide +kernel)
theorem dX12_frames_6 : decode cX12_frames 6 = .ok (.if_icmp .ne 12, 3) := dk_o160 (by decide +kernel)
theorem dX12_frames_9 : decode cX12_frames 9 = .ok (.aload_n 0, 1) := dk_o42 (by decide +kernel)
theorem dX12_frames_10 : decode cX12_frames 10 = .ok (.iconst 5, 1) := dk_o8 (by decide +kernel)
theorem dX12_frames_11 : decode cX12_frames 11 = .ok (.aload_n 0, 1) := dk_o42 (by decide +kernel)
theorem dX12_frames_12 : decode cX12_frames 12 = .ok (.getfield 23, 3) := dk_o180 (by decide +kernel)
theorem dX12_frames_15 : decode cX12_frames 15 = .ok (.invokevirtual 255, 3) := dk_o182 (by decide +kernel)
theorem dX12_frames_18 : decode cX12_frames 18 = .ok (.aload_n 0, 1) := dk_o42 (by decide +kernel)
theorem dX12_frames_19 : decode cX12_frames 19 = .ok (.getfield 36, 3) := dk_o180 (by decide +kernel)
theorem dX12_frames_22 : decode cX12_frames 22 = .ok (.ifCond .le 4, 3) := dk_o158 (by decide +kernel)
theorem dX12_frames_25 : decode cX12_frames 25 = .ok (.return_, 1) := dk_o177 (by decide +kernel)
theorem dX12_frames_26 : decode cX12_frames 26 = .ok (.aload_n 0, 1) := dk_o42 (by decide +kernel)
theorem dX12_frames_27 : decode cX12_frames 27 = .ok (.dup, 1) := dk_o89 (by decide +kernel)
theorem dX12_frames_28 : decode cX12_frames 28 = .ok (.getfield 143, 3) := dk_o180 (by decide +kernel)
theorem dX12_frames_31 : decode cX12_frames 31 = .ok (.iconst 1, 1) := dk_o4 (by decide +kernel)
theorem dX12_frames_32 : decode cX12_frames 32 = .ok (.iadd, 1) := dk_o96 (by decide +kernel)
theorem dX12_frames_33 : decode cX12_frames 33 = .ok (.putfield 143, 3) := dk_o181 (by decide +kernel)
theorem dX12_frames_36 : decode cX12_frames 36 = .ok (.aload_n 0, 1) := dk_o42 (by decide +kernel)
theorem dX12_frames_37 : decode cX12_frames 37 = .ok (.invokevirtual 272, 3) := dk_o182 (by decide +kernel)
theorem dX12_frames_40 : decode cX12_frames 40 = .ok (.aload_n 0, 1) := dk_o42 (by decide +kernel)
theorem dX12_frames_41 : decode cX12_frames 41 = .ok (.iload_n 1, 1) := dk_o27 (by decide +kernel)
theorem dX12_frames_42 : decode cX12_frames 42 = .ok (.invokevirtual 343, 3) := dk_o182 (by decide +kernel)
theorem dX12_frames_45 : decode cX12_frames 45 = .ok (.return_, 1) := dk_o177 (by decide +kernel)
theorem dX12_isTest_0 : decode cX12_isTest 0 = .ok (.iload_n 0, 1) := dk_o26 (by decide +kernel)
theorem dX12_isTest_1 : decode cX12_isTest 1 = .ok (.iconst 1, 1) := dk_o4 (by decide +kernel)
theorem dX12_isTest_2 : decode cX12_isTest 2 = .ok (.if_icmp .eq 14, 3) := dk_o159 (by decide +kernel)
theorem dX12_isTest_5 : decode cX12_isTest 5 = .ok (.iload_n 0, 1) := dk_o26 (by decide +kernel)
theorem dX12_isTest_6 : decode cX12_isTest 6 = .ok (.iconst 5, 1) := dk_o8 (by decide +kernel)
theorem dX12_isTest_7 : decode cX12_isTest 7 = .ok (.if_icmp .eq 9, 3) := dk_o159 (by decide +kernel)
theorem dX12_isTest_10 : decode cX12_isTest 10 = .ok (.iload_n 0, 1) := dk_o26 (by decide +kernel)
theorem dX12_isTest_11 : decode cX12_isTest 11 = .ok (.bipush 6, 2) := dk_o16 (by decide +kernel)
theorem dX12_isTest_13 : decode cX12_isTest 13 = .ok (.if_icmp .ne 7, 3) := dk_o160 (by decide +kernel)
theorem dX12_isTest_16 : decode cX12_isTest 16 = .ok (.iconst 1, 1) := dk_o4 (by decide +kernel)
theorem dX12_isTest_17 : decode cX12_isTest 17 = .ok (.goto 4, 3) := dk_o167 (by decide +kernel)
theorem dX12_isTest_20 : decode cX12_isTest 20 = .ok (.iconst 0, 1) := dk_o3 (by decide +kernel)
theorem dX12_isTest_21 : decode cX12_isTest 21 = .ok (.ireturn, 1) := dk_o172 (by decide +kernel)
theorem wB_401 : Cond.fieldLink RX12 102 "DarkMineModel" "codeSort" "[I" ∈ dgB := List.mem_filter.mpr ⟨tbl_6 _ (List.mem_of_getElem? (i := 193) (by decide +kernel)), by decide +kernel⟩
theorem wB_402 : Cond.fieldLink RX12 115 "DarkMineModel" "codes" "I" ∈ dgB := List.mem_filter.mpr ⟨tbl_6 _ (List.mem_of_getElem? (i := 197) (by decide +kernel)), by decide +kernel⟩
theorem wB_403 : Cond.fieldLink RX12 105 "DarkMineModel" "codeValue" "[I" ∈ dgB := List.mem_filter.mpr ⟨tbl_6 _ (List.mem_of_getElem? (i := 194) (by decide +kernel)), by decide +kernel⟩
theorem wB_404 : Cond.fieldLink RX12 149 "DarkMineModel" "opMany" "I" ∈ dgB := List.mem_filter.mpr ⟨tbl_6 _ (List.mem_of_getElem? (i := 208) (by decide +kernel)), by decide +kernel⟩
theorem wB_405 : Cond.fieldLink RX12 137 "DarkMineModel" "base" "[I" ∈ dgB := List.mem_filter.mpr ⟨tbl_6 _ (List.mem_of_getElem? (i := 204) (by decide +kernel)), by decide +kernel⟩
theorem wB_406 : Cond.fieldLink RX12 140 "DarkMineModel" "deep" "I" ∈ dgB := List.mem_filter.mpr ⟨tbl_6 _ (List.mem_of_getElem? (i := 205) (by decide +kernel)), by decide +kernel⟩
theorem wB_407 : Cond.fieldLink RX12 146 "DarkMineModel" "ops" "[I" ∈ dgB := List.mem_filter.mpr ⟨tbl_6 _ (List.mem_of_getElem? (i := 207) (by decide +kernel)), by decide +kernel⟩
theorem wB_408 : Cond.code yX12_rank cX12_rank 1 (some .int) ∈ dgB := List.mem_filter.mpr ⟨tbl_8 _ (List.mem_of_getElem? (i := 102) rfl), rfl⟩
theorem wB_409 : Cond.methodLink RX12 337 yX12_rank ∈ dgB := List.mem_filter.mpr ⟨tbl_8 _ (List.mem_of_getElem? (i := 100) (by decide +kernel)), by decide +kernel⟩
theorem wB_410 : Cond.static yX12_rank ∈ dgB := List.mem_filter.mpr ⟨tbl_8 _ (List.mem_of_getElem? (i := 101) (by decide +kernel)), by decide +kernel⟩
theorem wB_411 : Cond.code yX12_add cX12_add 3 none ∈ dgB := List.mem_filter.mpr ⟨tbl_8 _ (List.mem_of_getElem? (i := 91) rfl), rfl⟩
theorem wB_412 : Cond.methodLink RX12 340 yX12_add ∈ dgB := List.mem_filter.mpr ⟨tbl_8 _ (List.mem_of_getElem? (i := 88) (by decide +kernel)), by decide +kernel⟩
theorem wB_413 : Cond.instanceMethod yX12_add ∈ dgB := List.mem_filter.mpr ⟨tbl_8 _ (List.mem_of_getElem? (i := 90) (by decide +kernel)), by decide +kernel⟩
theorem wB_414 : Cond.selects RX12 yX12_add yX12_add ∈ dgB := List.mem_filter.mpr ⟨List.mem_of_getElem? (i := 111) (by decide +kernel), by decide +kernel⟩
theorem wB_415 : Cond.fieldLink RX12 143 "DarkMineModel" "open" "I" ∈ dgB := List.mem_filter.mpr ⟨tbl_6 _ (List.mem_of_getElem? (i := 206) (by decide +kernel)), by decide +kernel⟩
theorem wB_416 : Cond.fieldLink RX12 124 "DarkMineModel" "frame" "[I" ∈ dgB := List.mem_filter.mpr ⟨tbl_6 _ (List.mem_of_getElem? (i := 200) (by decide +kernel)), by decide +kernel⟩
theorem wB_417 : Cond.fieldLink RX12 127 "DarkMineModel" "phase" "[I" ∈ dgB := List.mem_filter.mpr ⟨tbl_6 _ (List.mem_of_getElem? (i := 201) (by decide +kernel)), by decide +kernel⟩
theorem wB_418 : Cond.fieldLink RX12 130 "DarkMineModel" "begins" "[Z" ∈ dgB := List.mem_filter.mpr ⟨tbl_6 _ (List.mem_of_getElem? (i := 202) (by decide +kernel)), by decide +kernel⟩
theorem wB_419 : Cond.code yX12_pushes cX12_pushes 2 none ∈ dgB := List.mem_filter.mpr ⟨tbl_8 _ (List.mem_of_getElem? (i := 72) rfl), rfl⟩
theorem wB_420 : Cond.methodLink RX12 343 yX12_pushes ∈ dgB := List.mem_filter.mpr ⟨tbl_8 _ (List.mem_of_getElem? (i := 69) (by decide +kernel)), by decide +kernel⟩
theorem wB_421 : Cond.instanceMethod yX12_pushes ∈ dgB := List.mem_filter.mpr ⟨tbl_8 _ (List.mem_of_getElem? (i := 71) (by decide +kernel)), by decide +kernel⟩
theorem wB_422 : Cond.selects RX12 yX12_pushes yX12_pushes ∈ dgB := List.mem_filter.mpr ⟨List.mem_of_getElem? (i := 107) (by decide +kernel), by decide +kernel⟩
set_option maxHeartbeats 8000000 in
set_option maxRecDepth 100000 in
theorem c_m_add (l : Launch) (g : Nat → ClassId) (D : va_G) (o : Nat) (S : dg_S) (a1 : Int32) (b_a1 : 0 ≤ (a1).toInt ∧ (a1).toInt ≤ 44) (a2 : Int32) (b_a2 : 0 ≤ (a2).toInt ∧ (a2).toInt ≤ 9999) (S0 : dg_S) (cd : Int32) (f_cd : S.1 0 34 = .int cd) (b_cd : 0 ≤ (cd).toInt ∧ (cd).toInt ≤ 1599) (ZW : ZWM S) (ZK : ZKM S) (G8 : G8M S0 S) (I : CM o S) (sz : Nat) : Met l yX12_add (bw yX12_add cX12_add 3 none) ({ frames := 1, cells := 0, slots := 0, locals := 32 } : Room) (dk_Pc g D (dg_w g shM o rfM S) sz [.ref (o + 0), .int a1, .int a2]) (va_Qv (fun S' => CM o S' ∧ dg_sm shM [(0, 34)] [18, 19] S S' ∧ (∃ y9 : Int32, S'.1 0 34 = .int y9 ∧ ((y9).toInt = (cd).toInt + 1)) ∧ (ADM S S' a1) ∧ (A5M S S' a1 a2) ∧ ZWM S' ∧ G8M S0 S' ∧ True) (dg_B g D shM o rfM) (dg_A o shM.length sz)) 0 0 (dg_A o shM.length sz) := by
  refine dg_met (cc := cX12_add) (maxL := 3) (ret := none) (dk_dq rfl) rfl (Nat.le_of_ble_eq_true rfl) ?_
  intro p e s m args below meth c A hAe harg hx hb hr hml hts hown hlocks hin hP K hS hA1 hA ST hsz ls hl
  rw [← hAe]
  have F : CallFix p m c cX12_add 3 s args (bw yX12_add cX12_add 3 none) RX12 := ⟨hx, hb, hml, hown, hts⟩
  have hl : lv_has ls 3 [(0, .ref (o + 0)), (1, .int a1), (2, .int a2)] := hl
  have M_0 : dg_sm shM [(0, 34)] [18, 19] S S := dg_sm.rf
  obtain ⟨x_1, f_x_1, b_x_1⟩ := dg_I.int (i := 0) (k := 13) (lo := 0) (hi := 1) I sM_0 (by decide +kernel)
  obtain ⟨x_2, f_x_2, b_x_2⟩ := dg_I.int (i := 0) (k := 35) (lo := 0) (hi := 1) I sM_0 (by decide +kernel)
  have hzk := ZK _ _ f_x_1 f_x_2
  refine lv_aload_n hx hb dX12_add_0 rfl (lv_at hl 0 rfl) ?_
  refine dg_get (C := RX12) (T := TX12) (N := 77) hx hb hts (fun w h => bw_mem (wU_X12 w h)) hown K hP sM_0 rfl 30 (dk_dq rfl) (hts _ (bw_mem wB_401)) (fun _ h9 => h9) (v := .ref (o + 18)) (show S.1 0 30 = .ref (o + 18) from dg_I.rel (d := 18) I sM_0 (by decide +kernel)) dX12_add_1 ?_
  refine lv_sipush (v := 1600) hx hb dX12_add_4 (by decide +kernel) ?_
  refine lv_aload_n hx hb dX12_add_7 rfl (lv_at hl 0 rfl) ?_
  refine dg_get (C := RX12) (T := TX12) (N := 77) hx hb hts (fun w h => bw_mem (wU_X12 w h)) hown K hP sM_0 rfl 35 (dk_dq rfl) (hts _ (bw_mem wB_353)) (fun _ h9 => h9) (v := .int x_2) f_x_2 dX12_add_8 ?_
  refine lv_imul hx hb dX12_add_11 ?_
  refine lv_topi (fun x_3 ex_3 => ?_)
  have jx_3 : (x_3).toInt = 1600 * (x_2).toInt := by rw [ex_3]; exact dk_mulT2 (by decide +kernel) rfl (by omega)
  refine lv_aload_n hx hb dX12_add_12 rfl (lv_at hl 0 rfl) ?_
  refine dg_get (C := RX12) (T := TX12) (N := 77) hx hb hts (fun w h => bw_mem (wU_X12 w h)) hown K hP sM_0 rfl 34 (dk_dq rfl) (hts _ (bw_mem wB_402)) (fun _ h9 => h9) (v := .int cd) f_cd dX12_add_13 ?_
  refine lv_iadd hx hb dX12_add_16 ?_
  refine lv_topi (fun x_4 ex_4 => ?_)
  have jx_4 : (x_4).toInt = (x_3).toInt + (cd).toInt := by rw [ex_4]; exact dk_addT2 rfl rfl (by omega)
  refine lv_iload_n hx hb dX12_add_17 rfl (lv_at hl 1 rfl) ?_
  have hin_5 : vp_in x_4 3200 := (dk_inv2 (by omega))
  refine dg_iast hx hb K hP hS hA1 sM_18 hin_5 dX12_add_18 (fun S_6 e_6 H locs hP hS => ?_)
  have I_6 := dg_I.ufu (lo := 0) (hi := 44) I e_6 sM_18 (by decide +kernel) (show 0 ≤ (a1).toInt ∧ (a1).toInt ≤ 44 from (by omega))
  have M_6 := dg_sm.uf M_0 e_6 sM_18 (dk_dq rfl)
  have ZW_6 : ZWM S_6 := ZWM.up18 ZW f_x_1 (by omega) e_6 (by omega)
  have G8_6 := G8M.st G8 ZK f_x_2 e_6 (by omega) (by omega)
  refine lv_aload_n hx hb dX12_add_19 rfl (lv_at hl 0 rfl) ?_
  refine dg_get (C := RX12) (T := TX12) (N := 77) hx hb hts (fun w h => bw_mem (wU_X12 w h)) hown K hP sM_0 rfl 31 (dk_dq rfl) (hts _ (bw_mem wB_403)) (fun _ h9 => h9) (v := .ref (o + 19)) (show S_6.1 0 31 = .ref (o + 19) from dg_I.rel (d := 19) I_6 sM_0 (by decide +kernel)) dX12_add_20 ?_
  refine lv_sipush (v := 1600) hx hb dX12_add_23 (by decide +kernel) ?_
  refine lv_aload_n hx hb dX12_add_26 rfl (lv_at hl 0 rfl) ?_
  refine dg_get (C := RX12) (T := TX12) (N := 77) hx hb hts (fun w h => bw_mem (wU_X12 w h)) hown K hP sM_0 rfl 35 (dk_dq rfl) (hts _ (bw_mem wB_353)) (fun _ h9 => h9) (v := .int x_2) ((dg_uf_F e_6 0 35).trans f_x_2) dX12_add_27 ?_
  refine lv_imul hx hb dX12_add_30 ?_
  refine lv_topi (fun x_7 ex_7 => ?_)
  have jx_7 : (x_7).toInt = 1600 * (x_2).toInt := by rw [ex_7]; exact dk_mulT2 (by decide +kernel) rfl (by omega)
  refine lv_aload_n hx hb dX12_add_31 rfl (lv_at hl 0 rfl) ?_
  refine dg_get (C := RX12) (T := TX12) (N := 77) hx hb hts (fun w h => bw_mem (wU_X12 w h)) hown K hP sM_0 rfl 34 (dk_dq rfl) (hts _ (bw_mem wB_402)) (fun _ h9 => h9) (v := .int cd) ((dg_uf_F e_6 0 34).trans f_cd) dX12_add_32 ?_
  refine lv_iadd hx hb dX12_add_35 ?_
  as_aux_lemma =>
    refine lv_topi (fun x_8 ex_8 => ?_)
    have jx_8 : (x_8).toInt = (x_7).toInt + (cd).toInt := by rw [ex_8]; exact dk_addT2 rfl rfl (by omega)
    refine lv_iload_n hx hb dX12_add_36 rfl (lv_at hl 2 rfl) ?_
    have hin_9 : vp_in x_8 3200 := (dk_inv2 (by omega))
    refine dg_iast hx hb K hP hS hA1 sM_19 hin_9 dX12_add_37 (fun S_10 e_10 H locs hP hS => ?_)
    have I_10 := dg_I.ufu (lo := 0) (hi := 9999) I_6 e_10 sM_19 (by decide +kernel) (show 0 ≤ (a2).toInt ∧ (a2).toInt ≤ 9999 from (by omega))
    have M_10 := dg_sm.uf M_6 e_10 sM_19 (dk_dq rfl)
    have G8_10 := G8M.st G8_6 (ZKM.keep ZK (dg_sm.uf (WF := []) (WA := [18]) dg_sm.rf e_6 sM_18 (dk_dq rfl)) (dk_dq rfl) (dk_dq rfl)) ((dg_uf_F e_6 0 35).trans f_x_2) e_10 (by omega) (by omega)
    refine lv_aload_n hx hb dX12_add_38 rfl (lv_at hl 0 rfl) ?_
    refine lv_dup hx hb dX12_add_39 rfl ?_
    refine dg_get (C := RX12) (T := TX12) (N := 77) hx hb hts (fun w h => bw_mem (wU_X12 w h)) hown K hP sM_0 rfl 34 (dk_dq rfl) (hts _ (bw_mem wB_402)) (fun _ h9 => h9) (v := .int cd) (((dg_uf_F e_10 0 34).trans (dg_uf_F e_6 0 34)).trans f_cd) dX12_add_40 ?_
    refine lv_iconst (v := 1) hx hb dX12_add_43 (by decide +kernel) ?_
    refine lv_iadd hx hb dX12_add_44 ?_
    refine lv_topi (fun x_11 ex_11 => ?_)
    have jx_11 : (x_11).toInt = (cd).toInt + 1 := by rw [ex_11]; exact dk_addT2 rfl (by decide +kernel) (by omega)
    refine dg_put (ci := 12) (v := .int x_11) (ty := tyX12 34) (C := RX12) (T := TX12) (N := 77) hx hb hts (fun w h => bw_mem (wU_X12 w h)) tyX12 tyX12_ok nmX12 hown K hP hS hA1 sM_0 rfl 34 (dk_dq rfl) (hts _ (bw_mem wB_402)) (fun _ h9 => h9) rfl (by decide +kernel) rfl rfl dX12_add_45 (fun S_12 e_12 H locs hP hS => ?_)
    have I_12 := dg_I.uFi (lo := 0) (hi := 1600) I_10 e_12 sM_0 (by decide +kernel) (show 0 ≤ (x_11).toInt ∧ (x_11).toInt ≤ 1600 from (by omega))
    have M_12 := dg_sm.uF M_10 e_12 sM_0 (dk_dq rfl)
    refine W.widen (k := 0) (n := 0) (Nat.le_of_ble_eq_true rfl) (Nat.le_of_ble_eq_true rfl) ?_
    exact dg_vret hx hb hr hlocks hP hS ⟨I_12, M_12, ⟨x_11, (dg_uF_at e_12), (by omega)⟩, (QSM.add f_x_2 f_cd (by omega) (by omega) e_6 (by omega) e_10 e_12 (by omega)), (A5M.mk f_x_2 f_cd (by omega) (by omega) e_6 e_10 e_12 (by omega)), (ZWM.keep (ZWM.keep ZW_6 (dg_sm.uf (WF := []) (WA := [19]) dg_sm.rf e_10 sM_19 (dk_dq rfl)) (dk_dq rfl) (dk_dq rfl) (dk_dq rfl) (dk_dq rfl)) (dg_sm.uF (WF := [(0, 34)]) (WA := []) dg_sm.rf e_12 sM_0 (dk_dq rfl)) (dk_dq rfl) (dk_dq rfl) (dk_dq rfl) (dk_dq rfl)), (G8M.keep G8_10 (dg_sm.uF (WF := [(0, 34)]) (WA := []) dg_sm.rf e_12 sM_0 (dk_dq rfl)) (dk_dq rfl) (dk_dq rfl) (dk_dq rfl)), trivial⟩ dX12_add_48
set_option maxHeartbeats 8000000 in
set_option maxRecDepth 100000 in
theorem c_m_rank (l : Launch) (g : Nat → ClassId) (D : va_G) (o : Nat) (S : dg_S) (a1 : Int32) (I : CM o S) (sz : Nat) : Met l yX12_rank (bw yX12_rank cX12_rank 1 (some .int)) ({ frames := 1, cells := 0, slots := 0, locals := 32 } : Room) (dk_Pc g D (dg_w g shM o rfM S) sz [.int a1]) (va_Qi (fun (r : Int32) S' => S' = S ∧ (1 ≤ (r).toInt ∧ (r).toInt ≤ 6) ∧ ((r).toInt = dk_rk (a1).toInt) ∧ True) (dg_B g D shM o rfM) (dg_A o shM.length sz)) 0 0 (dg_A o shM.length sz) := by
  refine dg_met (cc := cX12_rank) (maxL := 1) (ret := (some .int)) (dk_dq rfl) rfl (Nat.le_of_ble_eq_true rfl) ?_
  intro p e s m args below meth c A hAe harg hx hb hr hml hts hown hlocks hin hP K hS hA1 hA ST hsz ls hl
  rw [← hAe]
  have F : CallFix p m c cX12_rank 1 s args (bw yX12_rank cX12_rank 1 (some .int)) RX12 := ⟨hx, hb, hml, hown, hts⟩
  have hl : lv_has ls 1 [(0, .int a1)] := hl
  have M_0 : dg_sm shM [] [] S S := dg_sm.rf
  refine lv_iload_n hx hb dX12_rank_0 rfl (lv_at hl 0 rfl) ?_
  refine lv_bipush (v := 42) hx hb dX12_rank_1 (by decide +kernel) ?_
  refine lv_icmp_ne (tgt := 10) hx hb dX12_rank_3 (dk_dq rfl) (fun c_1 => ?_) (fun c_1 => ?_)
  · as_aux_lemma =>
      have jc_1 := dk_neqc (k := 42) (by decide +kernel) c_1
      refine lv_iload_n hx hb dX12_rank_10 rfl (lv_at hl 0 rfl) ?_
      refine lv_bipush (v := 41) hx hb dX12_rank_11 (by decide +kernel) ?_
      refine lv_icmp_ne (tgt := 20) hx hb dX12_rank_13 (dk_dq rfl) (fun c_2 => ?_) (fun c_2 => ?_)
      · as_aux_lemma =>
          have jc_2 := dk_neqc (k := 41) (by decide +kernel) c_2
          refine lv_iload_n hx hb dX12_rank_20 rfl (lv_at hl 0 rfl) ?_
          refine lv_bipush (v := 43) hx hb dX12_rank_21 (by decide +kernel) ?_
          refine lv_icmp_ne (tgt := 30) hx hb dX12_rank_23 (dk_dq rfl) (fun c_3 => ?_) (fun c_3 => ?_)
          · as_aux_lemma =>
              have jc_3 := dk_neqc (k := 43) (by decide +kernel) c_3
              refine lv_iload_n hx hb dX12_rank_30 rfl (lv_at hl 0 rfl) ?_
              refine lv_bipush (v := 38) hx hb dX12_rank_31 (by decide +kernel) ?_
              refine lv_icmp_eq (tgt := 48) hx hb dX12_rank_33 (dk_dq rfl) (fun c_4 => ?_) (fun c_4 => ?_)
              · have jc_4 := dk_eqc (k := 38) (by decide +kernel) c_4
                refine lv_iconst (v := 4) hx hb dX12_rank_48 (by decide +kernel) ?_
                refine lv_goto (tgt := 70) hx hb dX12_rank_49 (dk_dq rfl) ?_
                have hz_5 : (4 : Int32).toInt = 4 := by decide +kernel
                have hz_6 : (4 : Int32).toInt = 4 := by decide +kernel
                refine W.widen (k := 0) (n := 0) (Nat.le_of_ble_eq_true rfl) (Nat.le_of_ble_eq_true rfl) ?_
                exact dg_iret hx hb hr hlocks rfl hP hS ⟨rfl, (by decide +kernel), (by have h9 := dk_rl (a1).toInt; omega), trivial⟩ dX12_rank_70
              · as_aux_lemma =>
                  have jc_4 := dk_neqc (k := 38) (by decide +kernel) c_4
                  refine lv_iload_n hx hb dX12_rank_36 rfl (lv_at hl 0 rfl) ?_
                  refine lv_bipush (v := 39) hx hb dX12_rank_37 (by decide +kernel) ?_
                  refine lv_icmp_eq (tgt := 48) hx hb dX12_rank_39 (dk_dq rfl) (fun c_7 => ?_) (fun c_7 => ?_)
                  · have jc_7 := dk_eqc (k := 39) (by decide +kernel) c_7
                    refine lv_iconst (v := 4) hx hb dX12_rank_48 (by decide +kernel) ?_
                    refine lv_goto (tgt := 70) hx hb dX12_rank_49 (dk_dq rfl) ?_
                    have hz_8 : (4 : Int32).toInt = 4 := by decide +kernel
                    have hz_9 : (4 : Int32).toInt = 4 := by decide +kernel
                    refine W.widen (k := 0) (n := 0) (Nat.le_of_ble_eq_true rfl) (Nat.le_of_ble_eq_true rfl) ?_
                    exact dg_iret hx hb hr hlocks rfl hP hS ⟨rfl, (by decide +kernel), (by have h9 := dk_rl (a1).toInt; omega), trivial⟩ dX12_rank_70
                  · as_aux_lemma =>
                      have jc_7 := dk_neqc (k := 39) (by decide +kernel) c_7
                      refine lv_iload_n hx hb dX12_rank_42 rfl (lv_at hl 0 rfl) ?_
                      refine lv_bipush (v := 40) hx hb dX12_rank_43 (by decide +kernel) ?_
                      refine lv_icmp_ne (tgt := 52) hx hb dX12_rank_45 (dk_dq rfl) (fun c_10 => ?_) (fun c_10 => ?_)
                      · as_aux_lemma =>
                          have jc_10 := dk_neqc (k := 40) (by decide +kernel) c_10
                          refine lv_iload_n hx hb dX12_rank_52 rfl (lv_at hl 0 rfl) ?_
                          refine lv_bipush (v := 31) hx hb dX12_rank_53 (by decide +kernel) ?_
                          refine lv_icmp_eq (tgt := 64) hx hb dX12_rank_55 (dk_dq rfl) (fun c_11 => ?_) (fun c_11 => ?_)
                          · have jc_11 := dk_eqc (k := 31) (by decide +kernel) c_11
                            refine lv_iconst (v := 5) hx hb dX12_rank_64 (by decide +kernel) ?_
                            refine lv_goto (tgt := 70) hx hb dX12_rank_65 (dk_dq rfl) ?_
                            have hz_12 : (5 : Int32).toInt = 5 := by decide +kernel
                            have hz_13 : (5 : Int32).toInt = 5 := by decide +kernel
                            refine W.widen (k := 0) (n := 0) (Nat.le_of_ble_eq_true rfl) (Nat.le_of_ble_eq_true rfl) ?_
                            exact dg_iret hx hb hr hlocks rfl hP hS ⟨rfl, (by decide +kernel), (by have h9 := dk_rl (a1).toInt; omega), trivial⟩ dX12_rank_70
                          · as_aux_lemma =>
                              have jc_11 := dk_neqc (k := 31) (by decide +kernel) c_11
                              refine lv_iload_n hx hb dX12_rank_58 rfl (lv_at hl 0 rfl) ?_
                              refine lv_bipush (v := 32) hx hb dX12_rank_59 (by decide +kernel) ?_
                              refine lv_icmp_ne (tgt := 68) hx hb dX12_rank_61 (dk_dq rfl) (fun c_14 => ?_) (fun c_14 => ?_)
                              · have jc_14 := dk_neqc (k := 32) (by decide +kernel) c_14
                                refine lv_bipush (v := 6) hx hb dX12_rank_68 (by decide +kernel) ?_
                                have hz_15 : (6 : Int32).toInt = 6 := by decide +kernel
                                have hz_16 : (6 : Int32).toInt = 6 := by decide +kernel
                                refine W.widen (k := 0) (n := 0) (Nat.le_of_ble_eq_true rfl) (Nat.le_of_ble_eq_true rfl) ?_
                                exact dg_iret hx hb hr hlocks rfl hP hS ⟨rfl, (by decide +kernel), (by have h9 := dk_rl (a1).toInt; omega), trivial⟩ dX12_rank_70
                              · have jc_14 := dk_eqc (k := 32) (by decide +kernel) c_14
                                refine lv_iconst (v := 5) hx hb dX12_rank_64 (by decide +kernel) ?_
                                refine lv_goto (tgt := 70) hx hb dX12_rank_65 (dk_dq rfl) ?_
                                have hz_17 : (5 : Int32).toInt = 5 := by decide +kernel
                                have hz_18 : (5 : Int32).toInt = 5 := by decide +kernel
                                refine W.widen (k := 0) (n := 0) (Nat.le_of_ble_eq_true rfl) (Nat.le_of_ble_eq_true rfl) ?_
                                exact dg_iret hx hb hr hlocks rfl hP hS ⟨rfl, (by decide +kernel), (by have h9 := dk_rl (a1).toInt; omega), trivial⟩ dX12_rank_70
                      · have jc_10 := dk_eqc (k := 40) (by decide +kernel) c_10
                        refine lv_iconst (v := 4) hx hb dX12_rank_48 (by decide +kernel) ?_
                        refine lv_goto (tgt := 70) hx hb dX12_rank_49 (dk_dq rfl) ?_
                        have hz_19 : (4 : Int32).toInt = 4 := by decide +kernel
                        have hz_20 : (4 : Int32).toInt = 4 := by decide +kernel
                        refine W.widen (k := 0) (n := 0) (Nat.le_of_ble_eq_true rfl) (Nat.le_of_ble_eq_true rfl) ?_
                        exact dg_iret hx hb hr hlocks rfl hP hS ⟨rfl, (by decide +kernel), (by have h9 := dk_rl (a1).toInt; omega), trivial⟩ dX12_rank_70
          · have jc_3 := dk_eqc (k := 43) (by decide +kernel) c_3
            refine lv_iconst (v := 3) hx hb dX12_rank_26 (by decide +kernel) ?_
            refine lv_goto (tgt := 70) hx hb dX12_rank_27 (dk_dq rfl) ?_
            have hz_21 : (3 : Int32).toInt = 3 := by decide +kernel
            have hz_22 : (3 : Int32).toInt = 3 := by decide +kernel
            refine W.widen (k := 0) (n := 0) (Nat.le_of_ble_eq_true rfl) (Nat.le_of_ble_eq_true rfl) ?_
            exact dg_iret hx hb hr hlocks rfl hP hS ⟨rfl, (by decide +kernel), (by have h9 := dk_rl (a1).toInt; omega), trivial⟩ dX12_rank_70
      · have jc_2 := dk_eqc (k := 41) (by decide +kernel) c_2
        refine lv_iconst (v := 2) hx hb dX12_rank_16 (by decide +kernel) ?_
        refine lv_goto (tgt := 70) hx hb dX12_rank_17 (dk_dq rfl) ?_
        have hz_23 : (2 : Int32).toInt = 2 := by decide +kernel
        have hz_24 : (2 : Int32).toInt = 2 := by decide +kernel
        refine W.widen (k := 0) (n := 0) (Nat.le_of_ble_eq_true rfl) (Nat.le_of_ble_eq_true rfl) ?_
        exact dg_iret hx hb hr hlocks rfl hP hS ⟨rfl, (by decide +kernel), (by have h9 := dk_rl (a1).toInt; omega), trivial⟩ dX12_rank_70
  · have jc_1 := dk_eqc (k := 42) (by decide +kernel) c_1
    refine lv_iconst (v := 1) hx hb dX12_rank_6 (by decide +kernel) ?_
    refine lv_goto (tgt := 70) hx hb dX12_rank_7 (dk_dq rfl) ?_
    have hz_25 : (1 : Int32).toInt = 1 := by decide +kernel
    have hz_26 : (1 : Int32).toInt = 1 := by decide +kernel
    refine W.widen (k := 0) (n := 0) (Nat.le_of_ble_eq_true rfl) (Nat.le_of_ble_eq_true rfl) ?_
    exact dg_iret hx hb hr hlocks rfl hP hS ⟨rfl, (by decide +kernel), (by have h9 := dk_rl (a1).toInt; omega), trivial⟩ dX12_rank_70
set_option maxHeartbeats 8000000 in
set_option maxRecDepth 100000 in
theorem c_m_isTest (l : Launch) (g : Nat → ClassId) (D : va_G) (o : Nat) (S : dg_S) (a1 : Int32) (I : CM o S) (sz : Nat) : Met l yX12_isTest (bw yX12_isTest cX12_isTest 1 (some .boolean)) ({ frames := 1, cells := 0, slots := 0, locals := 32 } : Room) (dk_Pc g D (dg_w g shM o rfM S) sz [.int a1]) (va_Qi (fun (r : Int32) S' => S' = S ∧ (0 ≤ (r).toInt ∧ (r).toInt ≤ 1) ∧ ((r).toInt = 1 ↔ ((a1).toInt = 1 ∨ (a1).toInt = 5 ∨ (a1).toInt = 6)) ∧ True) (dg_B g D shM o rfM) (dg_A o shM.length sz)) 0 0 (dg_A o shM.length sz) := by
  refine dg_met (cc := cX12_isTest) (maxL := 1) (ret := (some .boolean)) (dk_dq rfl) rfl (Nat.le_of_ble_eq_true rfl) ?_
  intro p e s m args below meth c A hAe harg hx hb hr hml hts hown hlocks hin hP K hS hA1 hA ST hsz ls hl
  rw [← hAe]
  have F : CallFix p m c cX12_isTest 1 s args (bw yX12_isTest cX12_isTest 1 (some .boolean)) RX12 := ⟨hx, hb, hml, hown, hts⟩
  have hl : lv_has ls 1 [(0, .int a1)] := hl
  have M_0 : dg_sm shM [] [] S S := dg_sm.rf
  refine lv_iload_n hx hb dX12_isTest_0 rfl (lv_at hl 0 rfl) ?_
  refine lv_iconst (v := 1) hx hb dX12_isTest_1 (by decide +kernel) ?_
  refine lv_icmp_eq (tgt := 16) hx hb dX12_isTest_2 (dk_dq rfl) (fun c_1 => ?_) (fun c_1 => ?_)
  · have jc_1 := dk_eqc (k := 1) (by decide +kernel) c_1
    refine lv_iconst (v := 1) hx hb dX12_isTest_16 (by decide +kernel) ?_
    refine lv_goto (tgt := 21) hx hb dX12_isTest_17 (dk_dq rfl) ?_
    have hz_2 : (1 : Int32).toInt = 1 := by decide +kernel
    have hz_3 : (1 : Int32).toInt = 1 := by decide +kernel
    refine W.widen (k := 0) (n := 0) (Nat.le_of_ble_eq_true rfl) (Nat.le_of_ble_eq_true rfl) ?_
    exact dg_iret hx hb hr hlocks (by decide +kernel) hP hS ⟨rfl, (by decide +kernel), (by omega), trivial⟩ dX12_isTest_21
  · as_aux_lemma =>
      have jc_1 := dk_neqc (k := 1) (by decide +kernel) c_1
      refine lv_iload_n hx hb dX12_isTest_5 rfl (lv_at hl 0 rfl) ?_
      refine lv_iconst (v := 5) hx hb dX12_isTest_6 (by decide +kernel) ?_
      refine lv_icmp_eq (tgt := 16) hx hb dX12_isTest_7 (dk_dq rfl) (fun c_4 => ?_) (fun c_4 => ?_)
      · have jc_4 := dk_eqc (k := 5) (by decide +kernel) c_4
        refine lv_iconst (v := 1) hx hb dX12_isTest_16 (by decide +kernel) ?_
        refine lv_goto (tgt := 21) hx hb dX12_isTest_17 (dk_dq rfl) ?_
        have hz_5 : (1 : Int32).toInt = 1 := by decide +kernel
        have hz_6 : (1 : Int32).toInt = 1 := by decide +kernel
        refine W.widen (k := 0) (n := 0) (Nat.le_of_ble_eq_true rfl) (Nat.le_of_ble_eq_true rfl) ?_
        exact dg_iret hx hb hr hlocks (by decide +kernel) hP hS ⟨rfl, (by decide +kernel), (by omega), trivial⟩ dX12_isTest_21
      · as_aux_lemma =>
          have jc_4 := dk_neqc (k := 5) (by decide +kernel) c_4
          refine lv_iload_n hx hb dX12_isTest_10 rfl (lv_at hl 0 rfl) ?_
          refine lv_bipush (v := 6) hx hb dX12_isTest_11 (by decide +kernel) ?_
          refine lv_icmp_ne (tgt := 20) hx hb dX12_isTest_13 (dk_dq rfl) (fun c_7 => ?_) (fun c_7 => ?_)
          · have jc_7 := dk_neqc (k := 6) (by decide +kernel) c_7
            refine lv_iconst (v := 0) hx hb dX12_isTest_20 (by decide +kernel) ?_
            have hz_8 : (0 : Int32).toInt = 0 := by decide +kernel
            have hz_9 : (0 : Int32).toInt = 0 := by decide +kernel
            refine W.widen (k := 0) (n := 0) (Nat.le_of_ble_eq_true rfl) (Nat.le_of_ble_eq_true rfl) ?_
            exact dg_iret hx hb hr hlocks (by decide +kernel) hP hS ⟨rfl, (by decide +kernel), (by omega), trivial⟩ dX12_isTest_21
          · have jc_7 := dk_eqc (k := 6) (by decide +kernel) c_7
            refine lv_iconst (v := 1) hx hb dX12_isTest_16 (by decide +kernel) ?_
            refine lv_goto (tgt := 21) hx hb dX12_isTest_17 (dk_dq rfl) ?_
            have hz_10 : (1 : Int32).toInt = 1 := by decide +kernel
            have hz_11 : (1 : Int32).toInt = 1 := by decide +kernel
            refine W.widen (k := 0) (n := 0) (Nat.le_of_ble_eq_true rfl) (Nat.le_of_ble_eq_true rfl) ?_
            exact dg_iret hx hb hr hlocks (by decide +kernel) hP hS ⟨rfl, (by decide +kernel), (by omega), trivial⟩ dX12_isTest_21
set_option maxHeartbeats 8000000 in
set_option maxRecDepth 100000 in
theorem c_m_joins (l : Launch) (g : Nat → ClassId) (D : va_G) (o : Nat) (S : dg_S) (a1 : Int32) (b_a1 : 1 ≤ (a1).toInt ∧ (a1).toInt ≤ 6) (S0 : dg_S) (cd : Int32) (f_cd : S.1 0 34 = .int cd) (b_cd : 0 ≤ (cd).toInt ∧ (cd).toInt ≤ 1600) (om : Int32) (f_om : S.1 0 45 = .int om) (b_om : 0 ≤ (om).toInt ∧ (om).toInt ≤ 500) (hro : (cd).toInt + (om).toInt ≤ 1600) (ZW : ZWM S) (ZK : ZKM S) (P1 : P1M S) (G8 : G8M S0 S) (I : CM o S) (sz : Nat) : Met l yX12_joins (bw yX12_joins cX12_joins 2 none) ({ frames := 2, cells := 0, slots := 0, locals := 54 } : Room) (dk_Pc g D (dg_w g shM o rfM S) sz [.ref (o + 0), .int a1]) (va_Qv (fun S' => CM o S' ∧ dg_sm shM [(0, 34), (0, 43), (0, 45)] [18, 19] S S' ∧ (∃ y9_34 y9_45 : Int32, S'.1 0 34 = .int y9_34 ∧ S'.1 0 45 = .int y9_45 ∧ ((y9_34).toInt + (y9_45).toInt = (cd).toInt + (om).toInt)) ∧ (TOPM S' a1) ∧ (JNM S S' a1) ∧ (JXM S S') ∧ ZWM S' ∧ P1M S' ∧ G8M S0 S' ∧ True) (dg_B g D shM o rfM) (dg_A o shM.length sz)) 0 0 (dg_A o shM.length sz) := by
  refine dg_met (cc := cX12_joins) (maxL := 2) (ret := none) (dk_dq rfl) rfl (Nat.le_of_ble_eq_true rfl) ?_
  intro p e s m args below meth c A hAe harg hx hb hr hml hts hown hlocks hin hP K hS hA1 hA ST hsz ls hl
  rw [← hAe]
  have F : CallFix p m c cX12_joins 2 s args (bw yX12_joins cX12_joins 2 none) RX12 := ⟨hx, hb, hml, hown, hts⟩
  have hl : lv_has ls 2 [(0, .ref (o + 0)), (1, .int a1)] := hl
  have M_0 : dg_sm shM [(0, 34), (0, 43), (0, 45)] [18, 19] S S := dg_sm.rf
  have L_59 : ∀ (n : Nat) (x_56 : Int32) (x_57 : Int32), (0 ≤ (x_56).toInt ∧ (x_56).toInt ≤ 1600) → (0 ≤ (x_57).toInt ∧ (x_57).toInt ≤ 500) → (((x_57).toInt).toNat < n) → ∀ S_58 : dg_S, CM o S_58 → dg_sm shM [(0, 34), (0, 43), (0, 45)] [18, 19] S S_58 → S_58.1 0 34 = .int x_56 → S_58.1 0 45 = .int x_57 → ZWM S_58 → P1M S_58 → G8M S0 S_58 → ((x_56).toInt + (x_57).toInt = (cd).toInt + (om).toInt) → (JNM S S_58 a1) → (JXM S S_58) → ∀ (H : Heap) (locs : List Loc), va_P D vwCl (dg_w g shM o rfM S_58) H → va_S A s.heap H locs → ∀ ls : Array Slot, lv_has ls 2 [(0, .ref (o + 0)), (1, .int a1)] → W p l e ({ frames := 2, cells := 0, slots := 0, locals := 54 } : Room) s m args below meth c H locs 0 0 (MQ below (va_Qv (fun S' => CM o S' ∧ dg_sm shM [(0, 34), (0, 43), (0, 45)] [18, 19] S S' ∧ (∃ y9_34 y9_45 : Int32, S'.1 0 34 = .int y9_34 ∧ S'.1 0 45 = .int y9_45 ∧ ((y9_34).toInt + (y9_45).toInt = (cd).toInt + (om).toInt)) ∧ (TOPM S' a1) ∧ (JNM S S' a1) ∧ (JXM S S') ∧ ZWM S' ∧ P1M S' ∧ G8M S0 S' ∧ True) (dg_B g D shM o rfM) A) args s 0 0 A) (F0 m 0 ls []) := by
    as_aux_lemma =>
      intro n
      induction n with
      | zero =>
        intro x_56 x_57 b_x_56 b_x_57 hmu S_58 I_58 M_58 ff_58_34_0 ff_58_45_0 ZW_58 P1_58 G8_58 srel_58_0 srel_58_1 srel_58_2 H locs hP hS ls hl
        omega
      | succ n ih =>
        as_aux_lemma =>
          intro x_56 x_57 b_x_56 b_x_57 hmu S_58 I_58 M_58 ff_58_34_0 ff_58_45_0 ZW_58 P1_58 G8_58 srel_58_0 srel_58_1 srel_58_2 H locs hP hS ls hl
          obtain ⟨x_60, f_x_60, b_x_60⟩ := dg_I.int (i := 0) (k := 42) (lo := 0) (hi := 20) I sM_0 (by decide +kernel)
          obtain ⟨x_61, f_x_61, b_x_61⟩ := dg_I.int (i := 0) (k := 43) (lo := (-2147483648)) (hi := 2147483647) I_58 sM_0 (by decide +kernel)
          have hdm_61 := PSM.dims P1_58 ((M_58.1 0 42 _ sM_0 (dk_dq rfl)).trans f_x_60) f_x_61 ff_58_45_0
          refine lv_aload_n hx hb dX12_joins_0 rfl (lv_at hl 0 rfl) ?_
          refine dg_get (C := RX12) (T := TX12) (N := 77) hx hb hts (fun w h => bw_mem (wU_X12 w h)) hown K hP sM_0 rfl 45 (dk_dq rfl) (hts _ (bw_mem wB_404)) (fun _ h9 => h9) (v := .int x_57) ff_58_45_0 dX12_joins_1 ?_
          refine lv_aload_n hx hb dX12_joins_4 rfl (lv_at hl 0 rfl) ?_
          refine dg_get (C := RX12) (T := TX12) (N := 77) hx hb hts (fun w h => bw_mem (wU_X12 w h)) hown K hP sM_0 rfl 41 (dk_dq rfl) (hts _ (bw_mem wB_405)) (fun _ h9 => h9) (v := .ref (o + 26)) (show S_58.1 0 41 = .ref (o + 26) from dg_I.rel (d := 26) I_58 sM_0 (by decide +kernel)) dX12_joins_5 ?_
          refine lv_aload_n hx hb dX12_joins_8 rfl (lv_at hl 0 rfl) ?_
          refine dg_get (C := RX12) (T := TX12) (N := 77) hx hb hts (fun w h => bw_mem (wU_X12 w h)) hown K hP sM_0 rfl 42 (dk_dq rfl) (hts _ (bw_mem wB_406)) (fun _ h9 => h9) (v := .int x_60) ((M_58.1 0 42 _ sM_0 (dk_dq rfl)).trans f_x_60) dX12_joins_9 ?_
          refine lv_iconst (v := 1) hx hb dX12_joins_12 (by decide +kernel) ?_
          refine lv_isub hx hb dX12_joins_13 ?_
          refine lv_topi (fun x_63 ex_63 => ?_)
          have jx_63 : (x_63).toInt = (x_60).toInt - 1 := by rw [ex_63]; exact dk_subT2 rfl (by decide +kernel) (by omega)
          have hin_64 : vp_in x_63 20 := (dk_inv2 (by omega))
          refine dg_iald hx hb K hP sM_26 hin_64 dX12_joins_14 (fun x_65 ex_65 => ?_)
          have b_x_65 := dk_all_at (dg_I.row (lo := 0) (hi := 500) I_58 sM_26 (by decide +kernel)) hin_64 ex_65
          have hbt_x_65 : S_58.2.1 26 (x_63 : Int32).toNatClampNeg = x_65 := ex_65.symm
          refine lv_icmp_le (tgt := 87) hx hb dX12_joins_15 (dk_dq rfl) (fun c_66 => ?_) (fun c_66 => ?_)
          · have jc_66 := dk_lec (k := (x_65).toInt) rfl c_66
            refine W.widen (k := 0) (n := 0) (Nat.le_of_ble_eq_true rfl) (Nat.le_of_ble_eq_true rfl) ?_
            exact dg_vret hx hb hr hlocks hP hS ⟨I_58, M_58, ⟨x_56, x_57, ff_58_34_0, ff_58_45_0, (by omega)⟩, (TOPM.l (fx := x_63) ((M_58.1 0 42 _ sM_0 (dk_dq rfl)).trans f_x_60) ff_58_45_0 P1_58 f_x_61 (by omega) hbt_x_65 (by omega)), srel_58_1, srel_58_2, ZW_58, P1_58, G8_58, trivial⟩ dX12_joins_87
          · as_aux_lemma =>
              have jc_66 := dk_nlec (k := (x_65).toInt) rfl c_66
              refine lv_aload_n hx hb dX12_joins_18 rfl (lv_at hl 0 rfl) ?_
              refine dg_get (C := RX12) (T := TX12) (N := 77) hx hb hts (fun w h => bw_mem (wU_X12 w h)) hown K hP sM_0 rfl 44 (dk_dq rfl) (hts _ (bw_mem wB_407)) (fun _ h9 => h9) (v := .ref (o + 27)) (show S_58.1 0 44 = .ref (o + 27) from dg_I.rel (d := 27) I_58 sM_0 (by decide +kernel)) dX12_joins_19 ?_
              refine lv_aload_n hx hb dX12_joins_22 rfl (lv_at hl 0 rfl) ?_
              refine dg_get (C := RX12) (T := TX12) (N := 77) hx hb hts (fun w h => bw_mem (wU_X12 w h)) hown K hP sM_0 rfl 45 (dk_dq rfl) (hts _ (bw_mem wB_404)) (fun _ h9 => h9) (v := .int x_57) ff_58_45_0 dX12_joins_23 ?_
              refine lv_iconst (v := 1) hx hb dX12_joins_26 (by decide +kernel) ?_
              refine lv_isub hx hb dX12_joins_27 ?_
              refine lv_topi (fun x_67 ex_67 => ?_)
              have jx_67 : (x_67).toInt = (x_57).toInt - 1 := by rw [ex_67]; exact dk_subT2 rfl (by decide +kernel) (by omega)
              have hin_68 : vp_in x_67 500 := (dk_inv2 (by omega))
              refine dg_iald hx hb K hP sM_27 hin_68 dX12_joins_28 (fun x_69 ex_69 => ?_)
              have htt_x_69 : S_58.2.1 27 (x_67 : Int32).toNatClampNeg = x_69 := ex_69.symm
              refine dg_calli hS hA1 hA (va_runS (As := [.int x_69]) (rest := []) F (c_m_rank l g D o S_58 x_69 I_58 H.size) (va_cwS 1 hts (bw_S wB_409 wB_410 wB_297 wB_408) rfl rfl rfl (by decide +kernel) ⟨Nat.le_of_ble_eq_true rfl, Nat.le_of_ble_eq_true rfl⟩) (dg_preS K ST hP hS hA1 hA) rfl rfl hl.1 rfl (lv_room (Nat.le_of_ble_eq_true rfl)) dX12_joins_29 ⟨Nat.le_of_ble_eq_true rfl, Nat.le_of_ble_eq_true rfl⟩) (fun x_70 S_71 hw_71 H locs hP hS => ?_)
              rw [hw_71.1] at hP
              obtain ⟨hq_71, w_71_0, w_71_1, -⟩ := hw_71
              have w_71_0 : 1 ≤ (x_70).toInt ∧ (x_70).toInt ≤ 6 := w_71_0
              have w_71_1 : (x_70).toInt = dk_rk (x_69).toInt := w_71_1
              refine lv_iload_n hx hb dX12_joins_32 rfl (lv_at hl 1 rfl) ?_
              refine lv_icmp_lt (tgt := 87) hx hb dX12_joins_33 (dk_dq rfl) (fun c_72 => ?_) (fun c_72 => ?_)
              · have jc_72 := dk_ltc (k := (a1).toInt) rfl c_72
                refine W.widen (k := 0) (n := 0) (Nat.le_of_ble_eq_true rfl) (Nat.le_of_ble_eq_true rfl) ?_
                exact dg_vret hx hb hr hlocks hP hS ⟨I_58, M_58, ⟨x_56, x_57, ff_58_34_0, ff_58_45_0, (by omega)⟩, (TOPM.r ((M_58.1 0 42 _ sM_0 (dk_dq rfl)).trans f_x_60) ff_58_45_0 (g := x_67) (by omega) htt_x_69 (by omega)), srel_58_1, srel_58_2, ZW_58, P1_58, G8_58, trivial⟩ dX12_joins_87
              · as_aux_lemma =>
                  have jc_72 := dk_nltc (k := (a1).toInt) rfl c_72
                  refine lv_aload_n hx hb dX12_joins_36 rfl (lv_at hl 0 rfl) ?_
                  refine lv_dup hx hb dX12_joins_37 rfl ?_
                  refine dg_get (C := RX12) (T := TX12) (N := 77) hx hb hts (fun w h => bw_mem (wU_X12 w h)) hown K hP sM_0 rfl 45 (dk_dq rfl) (hts _ (bw_mem wB_404)) (fun _ h9 => h9) (v := .int x_57) ff_58_45_0 dX12_joins_38 ?_
                  refine lv_iconst (v := 1) hx hb dX12_joins_41 (by decide +kernel) ?_
                  refine lv_isub hx hb dX12_joins_42 ?_
                  refine lv_topi (fun x_73 ex_73 => ?_)
                  have jx_73 : (x_73).toInt = (x_57).toInt - 1 := by rw [ex_73]; exact dk_subT2 rfl (by decide +kernel) (by omega)
                  refine dg_put (ci := 12) (v := .int x_73) (ty := tyX12 45) (C := RX12) (T := TX12) (N := 77) hx hb hts (fun w h => bw_mem (wU_X12 w h)) tyX12 tyX12_ok nmX12 hown K hP hS hA1 sM_0 rfl 45 (dk_dq rfl) (hts _ (bw_mem wB_404)) (fun _ h9 => h9) rfl (by decide +kernel) rfl rfl dX12_joins_43 (fun S_74 e_74 H locs hP hS => ?_)
                  have I_74 := dg_I.uFi (lo := 0) (hi := 500) I_58 e_74 sM_0 (by decide +kernel) (show 0 ≤ (x_73).toInt ∧ (x_73).toInt ≤ 500 from (by omega))
                  have M_74 := dg_sm.uF M_58 e_74 sM_0 (dk_dq rfl)
                  refine lv_aload_n hx hb dX12_joins_46 rfl (lv_at hl 0 rfl) ?_
                  refine lv_aload_n hx hb dX12_joins_47 rfl (lv_at hl 0 rfl) ?_
                  refine dg_get (C := RX12) (T := TX12) (N := 77) hx hb hts (fun w h => bw_mem (wU_X12 w h)) hown K hP sM_0 rfl 44 (dk_dq rfl) (hts _ (bw_mem wB_407)) (fun _ h9 => h9) (v := .ref (o + 27)) (show S_74.1 0 44 = .ref (o + 27) from dg_I.rel (d := 27) I_74 sM_0 (by decide +kernel)) dX12_joins_48 ?_
                  refine lv_aload_n hx hb dX12_joins_51 rfl (lv_at hl 0 rfl) ?_
                  refine dg_get (C := RX12) (T := TX12) (N := 77) hx hb hts (fun w h => bw_mem (wU_X12 w h)) hown K hP sM_0 rfl 45 (dk_dq rfl) (hts _ (bw_mem wB_404)) (fun _ h9 => h9) (v := .int x_73) (dg_uF_at e_74) dX12_joins_52 ?_
                  have hin_75 : vp_in x_73 500 := (dk_inv2 (by omega))
                  refine dg_iald hx hb K hP sM_27 hin_75 dX12_joins_55 (fun x_76 ex_76 => ?_)
                  have hvt_x_76 : S_58.2.1 27 (x_73 : Int32).toNatClampNeg = x_76 := by rw [ex_76, ((dg_uF_f e_74 27))]
                  have hov_x_76 := P1M.opv (fy := x_60) P1_58 ((M_58.1 0 42 _ sM_0 (dk_dq rfl)).trans f_x_60) f_x_61 ff_58_45_0 (fx := x_63) (by omega) hbt_x_65 (by omega) (om1 := x_73) (by omega) hvt_x_76
                  refine lv_iconst (v := 0) hx hb dX12_joins_56 (by decide +kernel) ?_
                  have hz_77 : (0 : Int32).toInt = 0 := by decide +kernel
                  refine dg_callv hS hA1 hA (va_runV (As := [.int x_76, .int 0]) (rest := []) F (c_m_add l g D o S_74 x_76 (by omega) 0 (by decide +kernel) S0 x_56 ((dg_uF_ne e_74 (fun z => absurd z.2 (dk_dq rfl))).trans ff_58_34_0) (by omega) (ZWM.keep ZW_58 (dg_sm.uF (WF := [(0, 45)]) (WA := []) dg_sm.rf e_74 sM_0 (dk_dq rfl)) (dk_dq rfl) (dk_dq rfl) (dk_dq rfl) (dk_dq rfl)) (ZKM.keep (ZKM.keep ZK M_58 (dk_dq rfl) (dk_dq rfl)) (dg_sm.uF (WF := [(0, 45)]) (WA := []) dg_sm.rf e_74 sM_0 (dk_dq rfl)) (dk_dq rfl) (dk_dq rfl)) (G8M.keep G8_58 (dg_sm.uF (WF := [(0, 45)]) (WA := []) dg_sm.rf e_74 sM_0 (dk_dq rfl)) (dk_dq rfl) (dk_dq rfl) (dk_dq rfl)) I_74 H.size) (cwV 2 hts (bw_V wB_412 wB_413 wB_414 wB_297 wB_411) rfl rfl rfl (by decide +kernel) ⟨Nat.le_of_ble_eq_true rfl, Nat.le_of_ble_eq_true rfl⟩) (dg_preV sM_0 rfl K ST hP hS hA1 hA) rfl rfl hl.1 rfl (lv_room (Nat.le_of_ble_eq_true rfl)) dX12_joins_57 ⟨Nat.le_of_ble_eq_true rfl, Nat.le_of_ble_eq_true rfl⟩) (fun S_78 hw_78 H locs hP hS => ?_)
                  obtain ⟨I_78, m_78, w_78_0, w_78_1, w_78_2, w_78_3, w_78_4, -⟩ := hw_78
                  have M_78 := dg_sm.tr M_74 m_78 (dk_dq rfl) (dk_dq rfl)
                  have hz_79 : (0 : Int32).toInt = 0 := by decide +kernel
                  obtain ⟨y_80, f_y_80, w_78_0⟩ := w_78_0
                  have w_78_0 : (y_80).toInt = (x_56).toInt + 1 := w_78_0
                  have b_y_80 : 0 ≤ (y_80).toInt ∧ (y_80).toInt ≤ 1600 := dg_I.intb (lo := 0) (hi := 1600) I_78 sM_0 (by decide +kernel) f_y_80
                  replace w_78_1 : ADM S_74 S_78 x_76 := w_78_1
                  replace w_78_2 : A5M S_74 S_78 x_76 (0 : Int32) := w_78_2
                  refine lv_aload_n hx hb dX12_joins_60 rfl (lv_at hl 0 rfl) ?_
                  refine dg_get (C := RX12) (T := TX12) (N := 77) hx hb hts (fun w h => bw_mem (wU_X12 w h)) hown K hP sM_0 rfl 44 (dk_dq rfl) (hts _ (bw_mem wB_407)) (fun _ h9 => h9) (v := .ref (o + 27)) (show S_78.1 0 44 = .ref (o + 27) from dg_I.rel (d := 27) I_78 sM_0 (by decide +kernel)) dX12_joins_61 ?_
                  refine lv_aload_n hx hb dX12_joins_64 rfl (lv_at hl 0 rfl) ?_
                  refine dg_get (C := RX12) (T := TX12) (N := 77) hx hb hts (fun w h => bw_mem (wU_X12 w h)) hown K hP sM_0 rfl 45 (dk_dq rfl) (hts _ (bw_mem wB_404)) (fun _ h9 => h9) (v := .int x_73) ((m_78.1 0 45 _ sM_0 (dk_dq rfl)).trans (dg_uF_at e_74)) dX12_joins_65 ?_
                  have hin_81 : vp_in x_73 500 := (dk_inv2 (by omega))
                  refine dg_iald hx hb K hP sM_27 hin_81 dX12_joins_68 (fun y_82 ey_82 => ?_)
                  obtain rfl : x_76 = y_82 := ((ey_82.trans (congrFun (m_78.2 27 _ sM_27 (dk_dq rfl)).1 _)).trans ex_76.symm).symm
                  refine lv_bipush (v := 43) hx hb dX12_joins_69 (by decide +kernel) ?_
                  refine lv_icmp_ne (tgt := 0) hx hb dX12_joins_71 (dk_dq rfl) (fun c_83 => ?_) (fun c_83 => ?_)
                  · have jc_83 := dk_neqc (k := 43) (by decide +kernel) c_83
                    obtain ⟨x_84, f_x_84, b_x_84⟩ := dg_I.int (i := 0) (k := 35) (lo := 0) (hi := 1) I sM_0 (by decide +kernel)
                    obtain ⟨x_85, f_x_85, b_x_85⟩ := dg_I.int (i := 0) (k := 34) (lo := 0) (hi := 1600) I_74 sM_0 (by decide +kernel)
                    exact ih y_80 x_73 (by omega) (by omega) (by first | exact mu_lt hmu (by omega) (by omega) | omega) S_78 I_78 M_78 f_y_80 ((m_78.1 0 45 _ sM_0 (dk_dq rfl)).trans (dg_uF_at e_74)) w_78_3 (P1M.popb P1_58 ((M_58.1 0 42 _ sM_0 (dk_dq rfl)).trans f_x_60) f_x_61 ff_58_45_0 (fx := x_63) (by omega) hbt_x_65 (by omega) e_74 (by omega) hvt_x_76 m_78 w_78_1 (by omega)) w_78_4 (by omega) (JNM.sx srel_58_1 f_x_60 f_x_61 ff_58_45_0 (bi := x_63) (by omega) ((congrFun (M_58.2 26 _ sM_26 (dk_dq rfl)).1 _).symm.trans hbt_x_65) (by omega) (by omega) (ti := x_67) ((congrFun (M_58.2 27 _ sM_27 (dk_dq rfl)).1 _).symm.trans htt_x_69) (by omega) (by omega) ((congrFun (M_58.2 27 _ sM_27 (dk_dq rfl)).1 _).symm.trans hvt_x_76) (((m_78.1 0 43 _ sM_0 (dk_dq rfl)).trans (dg_uF_ne e_74 (fun z => absurd z.2 (dk_dq rfl)))).trans f_x_61) ((m_78.1 0 45 _ sM_0 (dk_dq rfl)).trans (dg_uF_at e_74)) (by omega) (by omega)) (JXM.st srel_58_2 ff_58_45_0 (q_am.to (q_am.fs (A5M.q w_78_2 (((dg_uF_ne e_74 (fun z => absurd z.2 (dk_dq rfl))).trans (M_58.1 0 35 _ sM_0 (dk_dq rfl))).trans f_x_84) f_x_85 (by omega) (by omega)) (dg_uF_ne e_74 (fun z => absurd z.2 (dk_dq rfl))) (dg_uF_ne e_74 (fun z => absurd z.2 (dk_dq rfl))) (dg_uF_f e_74 18) (dg_uF_f e_74 19)) (by rw [((congrFun (M_58.2 27 _ sM_27 (dk_dq rfl)).1 _).symm.trans hvt_x_76), show (0 : Int32).toInt = 0 from by decide +kernel, d_2_0])) ((m_78.1 0 45 _ sM_0 (dk_dq rfl)).trans (dg_uF_at e_74)) (by omega) (by omega)) _ _ hP hS _ (lv_sub hl [0, 1] rfl)
                  · have jc_83 := dk_eqc (k := 43) (by decide +kernel) c_83
                    refine lv_aload_n hx hb dX12_joins_74 rfl (lv_at hl 0 rfl) ?_
                    refine lv_dup hx hb dX12_joins_75 rfl ?_
                    refine dg_get (C := RX12) (T := TX12) (N := 77) hx hb hts (fun w h => bw_mem (wU_X12 w h)) hown K hP sM_0 rfl 43 (dk_dq rfl) (hts _ (bw_mem wB_415)) (fun _ h9 => h9) (v := .int x_61) (((m_78.1 0 43 _ sM_0 (dk_dq rfl)).trans (dg_uF_ne e_74 (fun z => absurd z.2 (dk_dq rfl)))).trans f_x_61) dX12_joins_76 ?_
                    refine lv_iconst (v := 1) hx hb dX12_joins_79 (by decide +kernel) ?_
                    refine lv_isub hx hb dX12_joins_80 ?_
                    refine lv_topi (fun x_86 ex_86 => ?_)
                    have jx_86 : (x_86).toInt = (x_61).toInt - 1 := by rw [ex_86]; exact dk_subT2 rfl (by decide +kernel) (by omega)
                    refine dg_put (ci := 12) (v := .int x_86) (ty := tyX12 43) (C := RX12) (T := TX12) (N := 77) hx hb hts (fun w h => bw_mem (wU_X12 w h)) tyX12 tyX12_ok nmX12 hown K hP hS hA1 sM_0 rfl 43 (dk_dq rfl) (hts _ (bw_mem wB_415)) (fun _ h9 => h9) rfl (by decide +kernel) rfl rfl dX12_joins_81 (fun S_87 e_87 H locs hP hS => ?_)
                    have I_87 := dg_I.uFi (lo := (-2147483648)) (hi := 2147483647) I_78 e_87 sM_0 (by decide +kernel) (show (-2147483648) ≤ (x_86).toInt ∧ (x_86).toInt ≤ 2147483647 from (dk_full _))
                    have M_87 := dg_sm.uF M_78 e_87 sM_0 (dk_dq rfl)
                    refine lv_goto (tgt := 0) hx hb dX12_joins_84 (dk_dq rfl) ?_
                    obtain ⟨x_88, f_x_88, b_x_88⟩ := dg_I.int (i := 0) (k := 35) (lo := 0) (hi := 1) I sM_0 (by decide +kernel)
                    obtain ⟨x_89, f_x_89, b_x_89⟩ := dg_I.int (i := 0) (k := 34) (lo := 0) (hi := 1600) I_74 sM_0 (by decide +kernel)
                    exact ih y_80 x_73 (by omega) (by omega) (by first | exact mu_lt hmu (by omega) (by omega) | omega) S_87 I_87 M_87 ((dg_uF_ne e_87 (fun z => absurd z.2 (dk_dq rfl))).trans f_y_80) (((dg_uF_ne e_87 (fun z => absurd z.2 (dk_dq rfl))).trans (m_78.1 0 45 _ sM_0 (dk_dq rfl))).trans (dg_uF_at e_74)) (ZWM.keep w_78_3 (dg_sm.uF (WF := [(0, 43)]) (WA := []) dg_sm.rf e_87 sM_0 (dk_dq rfl)) (dk_dq rfl) (dk_dq rfl) (dk_dq rfl) (dk_dq rfl)) (P1M.popn P1_58 ((M_58.1 0 42 _ sM_0 (dk_dq rfl)).trans f_x_60) f_x_61 ff_58_45_0 (fx := x_63) (by omega) hbt_x_65 (by omega) e_74 (by omega) hvt_x_76 m_78 w_78_1 (by omega) e_87 (by omega)) (G8M.keep w_78_4 (dg_sm.uF (WF := [(0, 43)]) (WA := []) dg_sm.rf e_87 sM_0 (dk_dq rfl)) (dk_dq rfl) (dk_dq rfl) (dk_dq rfl)) (by omega) (JNM.sx srel_58_1 f_x_60 f_x_61 ff_58_45_0 (bi := x_63) (by omega) ((congrFun (M_58.2 26 _ sM_26 (dk_dq rfl)).1 _).symm.trans hbt_x_65) (by omega) (by omega) (ti := x_67) ((congrFun (M_58.2 27 _ sM_27 (dk_dq rfl)).1 _).symm.trans htt_x_69) (by omega) (by omega) ((congrFun (M_58.2 27 _ sM_27 (dk_dq rfl)).1 _).symm.trans hvt_x_76) (dg_uF_at e_87) (((dg_uF_ne e_87 (fun z => absurd z.2 (dk_dq rfl))).trans (m_78.1 0 45 _ sM_0 (dk_dq rfl))).trans (dg_uF_at e_74)) (by omega) (by omega)) (JXM.st srel_58_2 ff_58_45_0 (q_am.to (q_am.mv (q_am.fs (A5M.q w_78_2 (((dg_uF_ne e_74 (fun z => absurd z.2 (dk_dq rfl))).trans (M_58.1 0 35 _ sM_0 (dk_dq rfl))).trans f_x_88) f_x_89 (by omega) (by omega)) (dg_uF_ne e_74 (fun z => absurd z.2 (dk_dq rfl))) (dg_uF_ne e_74 (fun z => absurd z.2 (dk_dq rfl))) (dg_uF_f e_74 18) (dg_uF_f e_74 19)) (dg_uF_ne e_87 (fun z => absurd z.2 (dk_dq rfl))) (dg_uF_ne e_87 (fun z => absurd z.2 (dk_dq rfl))) (dg_uF_f e_87 18) (dg_uF_f e_87 19)) (by rw [((congrFun (M_58.2 27 _ sM_27 (dk_dq rfl)).1 _).symm.trans hvt_x_76), show (0 : Int32).toInt = 0 from by decide +kernel, d_2_0])) (((dg_uF_ne e_87 (fun z => absurd z.2 (dk_dq rfl))).trans (m_78.1 0 45 _ sM_0 (dk_dq rfl))).trans (dg_uF_at e_74)) (by omega) (by omega)) _ _ hP hS _ (lv_sub hl [0, 1] rfl)
  obtain ⟨x_90, f_x_90, b_x_90⟩ := dg_I.int (i := 0) (k := 35) (lo := 0) (hi := 1) I sM_0 (by decide +kernel)
  exact L_59 ((((om : Int32)).toInt).toNat + 1) cd om (by omega) (by omega) (by first | exact mu_lt hmu (by omega) (by omega) | omega) S I M_0 f_cd f_om ZW P1 G8 (by omega) (JNM.z P1 rfl rfl) (JXM.z f_cd f_x_90 (by omega) (by omega)) _ _ hP hS _ (lv_sub hl [0, 1] rfl)
set_option maxHeartbeats 8000000 in
set_option maxRecDepth 100000 in
theorem c_m_holdsBack (l : Launch) (g : Nat → ClassId) (D : va_G) (o : Nat) (S : dg_S) (a1 : Int32) (om : Int32) (f_om : S.1 0 45 = .int om) (b_om : 0 ≤ (om).toInt ∧ (om).toInt ≤ 499) (I : CM o S) (sz : Nat) : Met l yX12_holdsBack (bw yX12_holdsBack cX12_holdsBack 2 none) ({ frames := 1, cells := 0, slots := 0, locals := 32 } : Room) (dk_Pc g D (dg_w g shM o rfM S) sz [.ref (o + 0), .int a1]) (va_Qv (fun S' => CM o S' ∧ dg_sm shM [(0, 45)] [27] S S' ∧ (∃ y9 : Int32, S'.1 0 45 = .int y9 ∧ ((y9).toInt = (om).toInt + 1)) ∧ (HBM S S' a1) ∧ True) (dg_B g D shM o rfM) (dg_A o shM.length sz)) 0 0 (dg_A o shM.length sz) := by
  refine dg_met (cc := cX12_holdsBack) (maxL := 2) (ret := none) (dk_dq rfl) rfl (Nat.le_of_ble_eq_true rfl) ?_
  intro p e s m args below meth c A hAe harg hx hb hr hml hts hown hlocks hin hP K hS hA1 hA ST hsz ls hl
  rw [← hAe]
  have F : CallFix p m c cX12_holdsBack 2 s args (bw yX12_holdsBack cX12_holdsBack 2 none) RX12 := ⟨hx, hb, hml, hown, hts⟩
  have hl : lv_has ls 2 [(0, .ref (o + 0)), (1, .int a1)] := hl
  have M_0 : dg_sm shM [(0, 45)] [27] S S := dg_sm.rf
  refine lv_aload_n hx hb dX12_holdsBack_0 rfl (lv_at hl 0 rfl) ?_
  refine dg_get (C := RX12) (T := TX12) (N := 77) hx hb hts (fun w h => bw_mem (wU_X12 w h)) hown K hP sM_0 rfl 44 (dk_dq rfl) (hts _ (bw_mem wB_407)) (fun _ h9 => h9) (v := .ref (o + 27)) (show S.1 0 44 = .ref (o + 27) from dg_I.rel (d := 27) I sM_0 (by decide +kernel)) dX12_holdsBack_1 ?_
  refine lv_aload_n hx hb dX12_holdsBack_4 rfl (lv_at hl 0 rfl) ?_
  refine dg_get (C := RX12) (T := TX12) (N := 77) hx hb hts (fun w h => bw_mem (wU_X12 w h)) hown K hP sM_0 rfl 45 (dk_dq rfl) (hts _ (bw_mem wB_404)) (fun _ h9 => h9) (v := .int om) f_om dX12_holdsBack_5 ?_
  refine lv_iload_n hx hb dX12_holdsBack_8 rfl (lv_at hl 1 rfl) ?_
  have hin_1 : vp_in om 500 := (dk_inv2 (by omega))
  refine dg_iast hx hb K hP hS hA1 sM_27 hin_1 dX12_holdsBack_9 (fun S_2 e_2 H locs hP hS => ?_)
  have I_2 := dg_I.uf0 I e_2 sM_27 (by decide +kernel)
  have M_2 := dg_sm.uf M_0 e_2 sM_27 (dk_dq rfl)
  refine lv_aload_n hx hb dX12_holdsBack_10 rfl (lv_at hl 0 rfl) ?_
  refine lv_dup hx hb dX12_holdsBack_11 rfl ?_
  refine dg_get (C := RX12) (T := TX12) (N := 77) hx hb hts (fun w h => bw_mem (wU_X12 w h)) hown K hP sM_0 rfl 45 (dk_dq rfl) (hts _ (bw_mem wB_404)) (fun _ h9 => h9) (v := .int om) ((dg_uf_F e_2 0 45).trans f_om) dX12_holdsBack_12 ?_
  refine lv_iconst (v := 1) hx hb dX12_holdsBack_15 (by decide +kernel) ?_
  refine lv_iadd hx hb dX12_holdsBack_16 ?_
  refine lv_topi (fun x_3 ex_3 => ?_)
  have jx_3 : (x_3).toInt = (om).toInt + 1 := by rw [ex_3]; exact dk_addT2 rfl (by decide +kernel) (by omega)
  refine dg_put (ci := 12) (v := .int x_3) (ty := tyX12 45) (C := RX12) (T := TX12) (N := 77) hx hb hts (fun w h => bw_mem (wU_X12 w h)) tyX12 tyX12_ok nmX12 hown K hP hS hA1 sM_0 rfl 45 (dk_dq rfl) (hts _ (bw_mem wB_404)) (fun _ h9 => h9) rfl (by decide +kernel) rfl rfl dX12_holdsBack_17 (fun S_4 e_4 H locs hP hS => ?_)
  have I_4 := dg_I.uFi (lo := 0) (hi := 500) I_2 e_4 sM_0 (by decide +kernel) (show 0 ≤ (x_3).toInt ∧ (x_3).toInt ≤ 500 from (by omega))
  have M_4 := dg_sm.uF M_2 e_4 sM_0 (dk_dq rfl)
  refine W.widen (k := 0) (n := 0) (Nat.le_of_ble_eq_true rfl) (Nat.le_of_ble_eq_true rfl) ?_
  exact dg_vret hx hb hr hlocks hP hS ⟨I_4, M_4, ⟨x_3, (dg_uF_at e_4), (by omega)⟩, (HBM.mk f_om e_2 e_4 (by omega)), trivial⟩ dX12_holdsBack_20
set_option maxHeartbeats 8000000 in
set_option maxRecDepth 100000 in
theorem c_m_pushes (l : Launch) (g : Nat → ClassId) (D : va_G) (o : Nat) (S : dg_S) (a1 : Int32) (b_a1 : 0 ≤ (a1).toInt ∧ (a1).toInt ≤ 6) (dp : Int32) (f_dp : S.1 0 42 = .int dp) (b_dp : 0 ≤ (dp).toInt ∧ (dp).toInt ≤ 19) (om : Int32) (f_om : S.1 0 45 = .int om) (b_om : 0 ≤ (om).toInt ∧ (om).toInt ≤ 500) (I : CM o S) (sz : Nat) : Met l yX12_pushes (bw yX12_pushes cX12_pushes 2 none) ({ frames := 1, cells := 0, slots := 0, locals := 32 } : Room) (dk_Pc g D (dg_w g shM o rfM S) sz [.ref (o + 0), .int a1]) (va_Qv (fun S' => CM o S' ∧ dg_sm shM [(0, 42)] [22, 23, 24, 26] S S' ∧ (∃ y9 : Int32, S'.1 0 42 = .int y9 ∧ ((y9).toInt = (dp).toInt + 1)) ∧ (PUM S S' a1) ∧ True) (dg_B g D shM o rfM) (dg_A o shM.length sz)) 0 0 (dg_A o shM.length sz) := by
  refine dg_met (cc := cX12_pushes) (maxL := 2) (ret := none) (dk_dq rfl) rfl (Nat.le_of_ble_eq_true rfl) ?_
  intro p e s m args below meth c A hAe harg hx hb hr hml hts hown hlocks hin hP K hS hA1 hA ST hsz ls hl
  rw [← hAe]
  have F : CallFix p m c cX12_pushes 2 s args (bw yX12_pushes cX12_pushes 2 none) RX12 := ⟨hx, hb, hml, hown, hts⟩
  have hl : lv_has ls 2 [(0, .ref (o + 0)), (1, .int a1)] := hl
  have M_0 : dg_sm shM [(0, 42)] [22, 23, 24, 26] S S := dg_sm.rf
  refine lv_aload_n hx hb dX12_pushes_0 rfl (lv_at hl 0 rfl) ?_
  refine dg_get (C := RX12) (T := TX12) (N := 77) hx hb hts (fun w h => bw_mem (wU_X12 w h)) hown K hP sM_0 rfl 37 (dk_dq rfl) (hts _ (bw_mem wB_416)) (fun _ h9 => h9) (v := .ref (o + 22)) (show S.1 0 37 = .ref (o + 22) from dg_I.rel (d := 22) I sM_0 (by decide +kernel)) dX12_pushes_1 ?_
  refine lv_aload_n hx hb dX12_pushes_4 rfl (lv_at hl 0 rfl) ?_
  refine dg_get (C := RX12) (T := TX12) (N := 77) hx hb hts (fun w h => bw_mem (wU_X12 w h)) hown K hP sM_0 rfl 42 (dk_dq rfl) (hts _ (bw_mem wB_406)) (fun _ h9 => h9) (v := .int dp) f_dp dX12_pushes_5 ?_
  refine lv_iload_n hx hb dX12_pushes_8 rfl (lv_at hl 1 rfl) ?_
  have hin_1 : vp_in dp 20 := (dk_inv2 (by omega))
  refine dg_iast hx hb K hP hS hA1 sM_22 hin_1 dX12_pushes_9 (fun S_2 e_2 H locs hP hS => ?_)
  have I_2 := dg_I.ufu (lo := 0) (hi := 6) I e_2 sM_22 (by decide +kernel) (show 0 ≤ (a1).toInt ∧ (a1).toInt ≤ 6 from (by omega))
  have M_2 := dg_sm.uf M_0 e_2 sM_22 (dk_dq rfl)
  refine lv_aload_n hx hb dX12_pushes_10 rfl (lv_at hl 0 rfl) ?_
  refine dg_get (C := RX12) (T := TX12) (N := 77) hx hb hts (fun w h => bw_mem (wU_X12 w h)) hown K hP sM_0 rfl 38 (dk_dq rfl) (hts _ (bw_mem wB_417)) (fun _ h9 => h9) (v := .ref (o + 23)) (show S_2.1 0 38 = .ref (o + 23) from dg_I.rel (d := 23) I_2 sM_0 (by decide +kernel)) dX12_pushes_11 ?_
  refine lv_aload_n hx hb dX12_pushes_14 rfl (lv_at hl 0 rfl) ?_
  refine dg_get (C := RX12) (T := TX12) (N := 77) hx hb hts (fun w h => bw_mem (wU_X12 w h)) hown K hP sM_0 rfl 42 (dk_dq rfl) (hts _ (bw_mem wB_406)) (fun _ h9 => h9) (v := .int dp) ((dg_uf_F e_2 0 42).trans f_dp) dX12_pushes_15 ?_
  refine lv_iconst (v := 0) hx hb dX12_pushes_18 (by decide +kernel) ?_
  have hin_3 : vp_in dp 20 := (dk_inv2 (by omega))
  have hz_5 : (0 : Int32).toInt = 0 := by decide +kernel
  refine dg_iast hx hb K hP hS hA1 sM_23 hin_3 dX12_pushes_19 (fun S_4 e_4 H locs hP hS => ?_)
  have I_4 := dg_I.ufu (lo := 0) (hi := 2) I_2 e_4 sM_23 (by decide +kernel) (show 0 ≤ ((0 : Int32)).toInt ∧ ((0 : Int32)).toInt ≤ 2 from (by decide +kernel))
  have M_4 := dg_sm.uf M_2 e_4 sM_23 (dk_dq rfl)
  refine lv_aload_n hx hb dX12_pushes_20 rfl (lv_at hl 0 rfl) ?_
  refine dg_get (C := RX12) (T := TX12) (N := 77) hx hb hts (fun w h => bw_mem (wU_X12 w h)) hown K hP sM_0 rfl 39 (dk_dq rfl) (hts _ (bw_mem wB_418)) (fun _ h9 => h9) (v := .ref (o + 24)) (show S_4.1 0 39 = .ref (o + 24) from dg_I.rel (d := 24) I_4 sM_0 (by decide +kernel)) dX12_pushes_21 ?_
  refine lv_aload_n hx hb dX12_pushes_24 rfl (lv_at hl 0 rfl) ?_
  refine dg_get (C := RX12) (T := TX12) (N := 77) hx hb hts (fun w h => bw_mem (wU_X12 w h)) hown K hP sM_0 rfl 42 (dk_dq rfl) (hts _ (bw_mem wB_406)) (fun _ h9 => h9) (v := .int dp) (((dg_uf_F e_4 0 42).trans (dg_uf_F e_2 0 42)).trans f_dp) dX12_pushes_25 ?_
  refine lv_iconst (v := 1) hx hb dX12_pushes_28 (by decide +kernel) ?_
  have hin_6 : vp_in dp 20 := (dk_inv2 (by omega))
  have hz_8 : (1 : Int32).toInt = 1 := by decide +kernel
  refine dg_zast hx hb K hP hS hA1 sM_24 hin_6 (by decide +kernel) dX12_pushes_29 (fun S_7 e_7 H locs hP hS => ?_)
  have I_7 := dg_I.ufu (lo := 0) (hi := 1) I_4 e_7 sM_24 (by decide +kernel) (show 0 ≤ ((1 : Int32)).toInt ∧ ((1 : Int32)).toInt ≤ 1 from (by decide +kernel))
  have M_7 := dg_sm.uf M_4 e_7 sM_24 (dk_dq rfl)
  refine lv_aload_n hx hb dX12_pushes_30 rfl (lv_at hl 0 rfl) ?_
  refine dg_get (C := RX12) (T := TX12) (N := 77) hx hb hts (fun w h => bw_mem (wU_X12 w h)) hown K hP sM_0 rfl 41 (dk_dq rfl) (hts _ (bw_mem wB_405)) (fun _ h9 => h9) (v := .ref (o + 26)) (show S_7.1 0 41 = .ref (o + 26) from dg_I.rel (d := 26) I_7 sM_0 (by decide +kernel)) dX12_pushes_31 ?_
  refine lv_aload_n hx hb dX12_pushes_34 rfl (lv_at hl 0 rfl) ?_
  refine dg_get (C := RX12) (T := TX12) (N := 77) hx hb hts (fun w h => bw_mem (wU_X12 w h)) hown K hP sM_0 rfl 42 (dk_dq rfl) (hts _ (bw_mem wB_406)) (fun _ h9 => h9) (v := .int dp) (((dg_uf_F e_7 0 42).trans ((dg_uf_F e_4 0 42).trans (dg_uf_F e_2 0 42))).trans f_dp) dX12_pushes_35 ?_
  refine lv_aload_n hx hb dX12_pushes_38 rfl (lv_at hl 0 rfl) ?_
  as_aux_lemma =>
    refine dg_get (C := RX12) (T := TX12) (N := 77) hx hb hts (fun w h => bw_mem (wU_X12 w h)) hown K hP sM_0 rfl 45 (dk_dq rfl) (hts _ (bw_mem wB_404)) (fun _ h9 => h9) (v := .int om) (((dg_uf_F e_7 0 45).trans ((dg_uf_F e_4 0 45).trans (dg_uf_F e_2 0 45))).trans f_om) dX12_pushes_39 ?_
    have hin_9 : vp_in dp 20 := (dk_inv2 (by omega))
    refine dg_iast hx hb K hP hS hA1 sM_26 hin_9 dX12_pushes_42 (fun S_10 e_10 H locs hP hS => ?_)
    have I_10 := dg_I.ufu (lo := 0) (hi := 500) I_7 e_10 sM_26 (by decide +kernel) (show 0 ≤ (om).toInt ∧ (om).toInt ≤ 500 from (by omega))
    have M_10 := dg_sm.uf M_7 e_10 sM_26 (dk_dq rfl)
    refine lv_aload_n hx hb dX12_pushes_43 rfl (lv_at hl 0 rfl) ?_
    refine lv_dup hx hb dX12_pushes_44 rfl ?_
    refine dg_get (C := RX12) (T := TX12) (N := 77) hx hb hts (fun w h => bw_mem (wU_X12 w h)) hown K hP sM_0 rfl 42 (dk_dq rfl) (hts _ (bw_mem wB_406)) (fun _ h9 => h9) (v := .int dp) (((dg_uf_F e_10 0 42).trans ((dg_uf_F e_7 0 42).trans ((dg_uf_F e_4 0 42).trans (dg_uf_F e_2 0 42)))).trans f_dp) dX12_pushes_45 ?_
    refine lv_iconst (v := 1) hx hb dX12_pushes_48 (by decide +kernel) ?_
    refine lv_iadd hx hb dX12_pushes_49 ?_
    refine lv_topi (fun x_11 ex_11 => ?_)
    have jx_11 : (x_11).toInt = (dp).toInt + 1 := by rw [ex_11]; exact dk_addT2 rfl (by decide +kernel) (by omega)
    refine dg_put (ci := 12) (v := .int x_11) (ty := tyX12 42) (C := RX12) (T := TX12) (N := 77) hx hb hts (fun w h => bw_mem (wU_X12 w h)) tyX12 tyX12_ok nmX12 hown K hP hS hA1 sM_0 rfl 42 (dk_dq rfl) (hts _ (bw_mem wB_406)) (fun _ h9 => h9) rfl (by decide +kernel) rfl rfl dX12_pushes_50 (fun S_12 e_12 H locs hP hS => ?_)
    have I_12 := dg_I.uFi (lo := 0) (hi := 20) I_10 e_12 sM_0 (by decide +kernel) (show 0 ≤ (x_11).toInt ∧ (x_11).toInt ≤ 20 from (by omega))
    have M_12 := dg_sm.uF M_10 e_12 sM_0 (dk_dq rfl)
    refine W.widen (k := 0) (n := 0) (Nat.le_of_ble_eq_true rfl) (Nat.le_of_ble_eq_true rfl) ?_
    exact dg_vret hx hb hr hlocks hP hS ⟨I_12, M_12, ⟨x_11, (dg_uF_at e_12), (by omega)⟩, (PUM.mk f_dp f_om e_2 e_4 e_7 e_10 e_12 (by omega)), trivial⟩ dX12_pushes_53
set_option maxHeartbeats 8000000 in
set_option maxRecDepth 100000 in
theorem c_m_frames (l : Launch) (g : Nat → ClassId) (D : va_G) (o : Nat) (S : dg_S) (a1 : Int32) (b_a1 : 0 ≤ (a1).toInt ∧ (a1).toInt ≤ 6) (tb : Nat → Int32) (tn : Nat) (sg : Int32) (f_sg : S.1 0 3 = .int sg) (b_sg : 0 ≤ (sg).toInt ∧ (sg).toInt ≤ 3) (sa : Int32) (f_sa : S.1 0 4 = .int sa) (b_sa : 0 ≤ (sa).toInt ∧ (sa).toInt ≤ 1600) (se : Int32) (f_se : S.1 0 5 = .int se) (b_se : 0 ≤ (se).toInt ∧ (se).toInt ≤ 1600) (sl : Int32) (f_sl : S.1 0 2 = .int sl) (b_sl : 0 ≤ (sl).toInt ∧ (sl).toInt ≤ 1600) (fk : Int32) (f_fk : S.1 0 8 = .int fk) (b_fk : 0 ≤ (fk).toInt ∧ (fk).toInt ≤ 6) (dp : Int32) (f_dp : S.1 0 42 = .int dp) (b_dp : 0 ≤ (dp).toInt ∧ (dp).toInt ≤ 19) (om : Int32) (f_om : S.1 0 45 = .int om) (b_om : 0 ≤ (om).toInt ∧ (om).toInt ≤ 500) (on : Int32) (f_on : S.1 0 43 = .int on) (b_on : 0 ≤ (on).toInt ∧ (on).toInt ≤ 7) (hlx : (sa).toInt ≤ (se).toInt ∧ (se).toInt ≤ (sl).toInt ∧ ((sg).toInt ≠ 0 → (sa).toInt + 1 ≤ (se).toInt)) (hsg : (sg).toInt ≠ 0 ∨ (fk).toInt ≠ 0) (TK : TKM tb tn S) (I : CM o S) (sz : Nat) : Met l yX12_frames (bw yX12_frames cX12_frames 2 none) ({ frames := 3, cells := 0, slots := 0, locals := 77 } : Room) (dk_Pc g D (dg_w g shM o rfM S) sz [.ref (o + 0), .int a1]) (va_Qv (fun S' => CM o S' ∧ dg_sm shM [(0, 3), (0, 4), (0, 5), (0, 6), (0, 7), (0, 8), (0, 9), (0, 12), (0, 42), (0, 43)] [22, 23, 24, 26] S S' ∧ (∃ y9_3 y9_4 y9_5 y9_8 y9_42 : Int32, S'.1 0 3 = .int y9_3 ∧ S'.1 0 4 = .int y9_4 ∧ S'.1 0 5 = .int y9_5 ∧ S'.1 0 8 = .int y9_8 ∧ S'.1 0 42 = .int y9_42 ∧ ((((y9_4).toInt ≤ (y9_5).toInt ∧ (y9_5).toInt ≤ (sl).toInt ∧ ((y9_3).toInt ≠ 0 → (y9_4).toInt + 1 ≤ (y9_5).toInt)) ∧ (sa).toInt ≤ (y9_4).toInt ∧ ((fk).toInt ≠ 0 → (y9_8).toInt ≠ 0) ∧ (((y9_8).toInt = 0 → ((sa).toInt + 1 ≤ (y9_4).toInt ∧ (y9_42).toInt = (dp).toInt + 1)))) ∧ m_hid ((fk).toInt = 0 → (((y9_8).toInt = 0 → (t_ix tb tn (y9_4 : Int32).toNatClampNeg) = (t_ix tb tn (sa : Int32).toNatClampNeg) + 1) ∧ ((y9_8).toInt ≠ 0 → (on).toInt = 7))))) ∧ (∀ k9 : Int32, S'.1 0 8 = .int k9 → k9.toInt = 0 → FRM S S' a1) ∧ TKM tb tn S' ∧ True) (dg_B g D shM o rfM) (dg_A o shM.length sz)) 0 0 (dg_A o shM.length sz) := by
  refine dg_met (cc := cX12_frames) (maxL := 2) (ret := none) (dk_dq rfl) rfl (Nat.le_of_ble_eq_true rfl) ?_
  intro p e s m args below meth c A hAe harg hx hb hr hml hts hown hlocks hin hP K hS hA1 hA ST hsz ls hl
  rw [← hAe]
  have F : CallFix p m c cX12_frames 2 s args (bw yX12_frames cX12_frames 2 none) RX12 := ⟨hx, hb, hml, hown, hts⟩
  have hl : lv_has ls 2 [(0, .ref (o + 0)), (1, .int a1)] := hl
  have M_0 : dg_sm shM [(0, 3), (0, 4), (0, 5), (0, 6), (0, 7), (0, 8), (0, 9), (0, 12), (0, 42), (0, 43)] [22, 23, 24, 26] S S := dg_sm.rf
  have hz9 := TKM.zero TK f_sg f_sa
  refine lv_aload_n hx hb dX12_frames_0 rfl (lv_at hl 0 rfl) ?_
  refine dg_get (C := RX12) (T := TX12) (N := 77) hx hb hts (fun w h => bw_mem (wU_X12 w h)) hown K hP sM_0 rfl 43 (dk_dq rfl) (hts _ (bw_mem wB_415)) (fun _ h9 => h9) (v := .int on) f_on dX12_frames_1 ?_
  refine lv_bipush (v := 7) hx hb dX12_frames_4 (by decide +kernel) ?_
  refine lv_icmp_ne (tgt := 18) hx hb dX12_frames_6 (dk_dq rfl) (fun c_1 => ?_) (fun c_1 => ?_)
  · as_aux_lemma =>
      have jc_1 := dk_neqc (k := 7) (by decide +kernel) c_1
      refine lv_aload_n hx hb dX12_frames_18 rfl (lv_at hl 0 rfl) ?_
      refine dg_get (C := RX12) (T := TX12) (N := 77) hx hb hts (fun w h => bw_mem (wU_X12 w h)) hown K hP sM_0 rfl 8 (dk_dq rfl) (hts _ (bw_mem wB_303)) (fun _ h9 => h9) (v := .int fk) f_fk dX12_frames_19 ?_
      refine lv_if_le (tgt := 26) hx hb dX12_frames_22 (dk_dq rfl) (fun c_2 => ?_) (fun c_2 => ?_)
      · as_aux_lemma =>
          have jc_2 := dk_lec (k := 0) (by decide +kernel) c_2
          refine lv_aload_n hx hb dX12_frames_26 rfl (lv_at hl 0 rfl) ?_
          refine lv_dup hx hb dX12_frames_27 rfl ?_
          refine dg_get (C := RX12) (T := TX12) (N := 77) hx hb hts (fun w h => bw_mem (wU_X12 w h)) hown K hP sM_0 rfl 43 (dk_dq rfl) (hts _ (bw_mem wB_415)) (fun _ h9 => h9) (v := .int on) f_on dX12_frames_28 ?_
          refine lv_iconst (v := 1) hx hb dX12_frames_31 (by decide +kernel) ?_
          refine lv_iadd hx hb dX12_frames_32 ?_
          refine lv_topi (fun x_3 ex_3 => ?_)
          have jx_3 : (x_3).toInt = (on).toInt + 1 := by rw [ex_3]; exact dk_addT2 rfl (by decide +kernel) (by omega)
          refine dg_put (ci := 12) (v := .int x_3) (ty := tyX12 43) (C := RX12) (T := TX12) (N := 77) hx hb hts (fun w h => bw_mem (wU_X12 w h)) tyX12 tyX12_ok nmX12 hown K hP hS hA1 sM_0 rfl 43 (dk_dq rfl) (hts _ (bw_mem wB_415)) (fun _ h9 => h9) rfl (by decide +kernel) rfl rfl dX12_frames_33 (fun S_4 e_4 H locs hP hS => ?_)
          have I_4 := dg_I.uFi (lo := (-2147483648)) (hi := 2147483647) I e_4 sM_0 (by decide +kernel) (show (-2147483648) ≤ (x_3).toInt ∧ (x_3).toInt ≤ 2147483647 from (dk_full _))
          have M_4 := dg_sm.uF M_0 e_4 sM_0 (dk_dq rfl)
          refine lv_aload_n hx hb dX12_frames_36 rfl (lv_at hl 0 rfl) ?_
          refine dg_callv hS hA1 hA (va_runV (As := []) (rest := []) F (c_m_ahead l g D o S_4 tb tn se ((dg_uF_ne e_4 (fun z => absurd z.2 (dk_dq rfl))).trans f_se) (by omega) sl ((dg_uF_ne e_4 (fun z => absurd z.2 (dk_dq rfl))).trans f_sl) (by omega) (by omega) (TKM.keep TK (dg_sm.uF (WF := [(0, 43)]) (WA := []) dg_sm.rf e_4 sM_0 (dk_dq rfl)) (dk_dq rfl) (dk_dq rfl) (dk_dq rfl) (dk_dq rfl) (dk_dq rfl) (dk_dq rfl) (dk_dq rfl) (dk_dq rfl)).1 I_4 H.size) (cwV 0 hts (bw_V wB_318 wB_319 wB_320 wB_297 wB_317) rfl rfl rfl (by decide +kernel) ⟨Nat.le_of_ble_eq_true rfl, Nat.le_of_ble_eq_true rfl⟩) (dg_preV sM_0 rfl K ST hP hS hA1 hA) rfl rfl hl.1 rfl (lv_room (Nat.le_of_ble_eq_true rfl)) dX12_frames_37 ⟨Nat.le_of_ble_eq_true rfl, Nat.le_of_ble_eq_true rfl⟩) (fun S_5 hw_5 H locs hP hS => ?_)
          obtain ⟨I_5, m_5, w_5_0, w_5_1, -⟩ := hw_5
          have M_5 := dg_sm.tr M_4 m_5 (dk_dq rfl) (dk_dq rfl)
          obtain ⟨y_6, y_7, y_8, f_y_6, f_y_7, f_y_8, w_5_0⟩ := w_5_0
          have w_5_0 : (se).toInt ≤ (y_7).toInt ∧ (y_7).toInt ≤ (y_8).toInt ∧ (y_8).toInt ≤ (sl).toInt ∧ ((y_6).toInt ≠ 0 → (y_7).toInt + 1 ≤ (y_8).toInt) := w_5_0
          have b_y_6 : 0 ≤ (y_6).toInt ∧ (y_6).toInt ≤ 3 := dg_I.intb (lo := 0) (hi := 3) I_5 sM_0 (by decide +kernel) f_y_6
          have b_y_7 : 0 ≤ (y_7).toInt ∧ (y_7).toInt ≤ 1600 := dg_I.intb (lo := 0) (hi := 1600) I_5 sM_0 (by decide +kernel) f_y_7
          have b_y_8 : 0 ≤ (y_8).toInt ∧ (y_8).toInt ≤ 1600 := dg_I.intb (lo := 0) (hi := 1600) I_5 sM_0 (by decide +kernel) f_y_8
          replace w_5_1 : TNX tb tn se S_5 := w_5_1
          obtain ⟨TK_5, nx_5, -⟩ := TKM.nx (TKM.keep TK (dg_sm.uF (WF := [(0, 43)]) (WA := []) dg_sm.rf e_4 sM_0 (dk_dq rfl)) (dk_dq rfl) (dk_dq rfl) (dk_dq rfl) (dk_dq rfl) (dk_dq rfl) (dk_dq rfl) (dk_dq rfl) (dk_dq rfl)) ((dg_uF_ne e_4 (fun z => absurd z.2 (dk_dq rfl))).trans f_sa) ((dg_uF_ne e_4 (fun z => absurd z.2 (dk_dq rfl))).trans f_se) w_5_1 m_5 (dk_dq rfl) (dk_dq rfl) f_y_7
          refine lv_aload_n hx hb dX12_frames_40 rfl (lv_at hl 0 rfl) ?_
          refine lv_iload_n hx hb dX12_frames_41 rfl (lv_at hl 1 rfl) ?_
          refine dg_callv hS hA1 hA (va_runV (As := [.int a1]) (rest := []) F (c_m_pushes l g D o S_5 a1 (by omega) dp (((m_5.1 0 42 _ sM_0 (dk_dq rfl)).trans (dg_uF_ne e_4 (fun z => absurd z.2 (dk_dq rfl)))).trans f_dp) (by omega) om (((m_5.1 0 45 _ sM_0 (dk_dq rfl)).trans (dg_uF_ne e_4 (fun z => absurd z.2 (dk_dq rfl)))).trans f_om) (by omega) I_5 H.size) (cwV 1 hts (bw_V wB_420 wB_421 wB_422 wB_297 wB_419) rfl rfl rfl (by decide +kernel) ⟨Nat.le_of_ble_eq_true rfl, Nat.le_of_ble_eq_true rfl⟩) (dg_preV sM_0 rfl K ST hP hS hA1 hA) rfl rfl hl.1 rfl (lv_room (Nat.le_of_ble_eq_true rfl)) dX12_frames_42 ⟨Nat.le_of_ble_eq_true rfl, Nat.le_of_ble_eq_true rfl⟩) (fun S_9 hw_9 H locs hP hS => ?_)
          obtain ⟨I_9, m_9, w_9_0, w_9_1, -⟩ := hw_9
          have M_9 := dg_sm.tr M_5 m_9 (dk_dq rfl) (dk_dq rfl)
          obtain ⟨y_10, f_y_10, w_9_0⟩ := w_9_0
          have w_9_0 : (y_10).toInt = (dp).toInt + 1 := w_9_0
          have b_y_10 : 0 ≤ (y_10).toInt ∧ (y_10).toInt ≤ 20 := dg_I.intb (lo := 0) (hi := 20) I_9 sM_0 (by decide +kernel) f_y_10
          replace w_9_1 : PUM S_5 S_9 a1 := w_9_1
          refine W.widen (k := 0) (n := 0) (Nat.le_of_ble_eq_true rfl) (Nat.le_of_ble_eq_true rfl) ?_
          exact dg_vret hx hb hr hlocks hP hS ⟨I_9, M_9, ⟨y_6, y_7, y_8, fk, y_10, ((m_9.1 0 3 _ sM_0 (dk_dq rfl)).trans f_y_6), ((m_9.1 0 4 _ sM_0 (dk_dq rfl)).trans f_y_7), ((m_9.1 0 5 _ sM_0 (dk_dq rfl)).trans f_y_8), (((m_9.1 0 8 _ sM_0 (dk_dq rfl)).trans ((m_5.1 0 8 _ sM_0 (dk_dq rfl)).trans (dg_uF_ne e_4 (fun z => absurd z.2 (dk_dq rfl))))).trans f_fk), f_y_10, ⟨by omega, m_hid.mk (fun h0 => ⟨fun q1 => by omega, fun q1 => by omega⟩)⟩⟩, (fun _ _ _ => FRM.mk f_on (by omega) e_4 (by omega) m_5 (dk_dq rfl) (dk_dq rfl) (dk_dq rfl) w_9_1 m_9), (TKM.keep TK_5 m_9 (dk_dq rfl) (dk_dq rfl) (dk_dq rfl) (dk_dq rfl) (dk_dq rfl) (dk_dq rfl) (dk_dq rfl) (dk_dq rfl)), trivial⟩ dX12_frames_45
      · have jc_2 := dk_nlec (k := 0) (by decide +kernel) c_2
        refine W.widen (k := 0) (n := 0) (Nat.le_of_ble_eq_true rfl) (Nat.le_of_ble_eq_true rfl) ?_
        exact dg_vret hx hb hr hlocks hP hS ⟨I, M_0, ⟨sg, sa, se, fk, dp, f_sg, f_sa, f_se, f_fk, f_dp, ⟨by omega, m_hid.mk (fun h0 => ⟨fun q1 => by omega, fun q1 => by omega⟩)⟩⟩, (fun k9 hk9 hk0 => by have q9 := (f_fk).symm.trans hk9; cases q9; omega), TK, trivial⟩ dX12_frames_25
  · as_aux_lemma =>
      have jc_1 := dk_eqc (k := 7) (by decide +kernel) c_1
      refine lv_aload_n hx hb dX12_frames_9 rfl (lv_at hl 0 rfl) ?_
      refine lv_iconst (v := 5) hx hb dX12_frames_10 (by decide +kernel) ?_
      refine lv_aload_n hx hb dX12_frames_11 rfl (lv_at hl 0 rfl) ?_
      refine dg_get (C := RX12) (T := TX12) (N := 77) hx hb hts (fun w h => bw_mem (wU_X12 w h)) hown K hP sM_0 rfl 4 (dk_dq rfl) (hts _ (bw_mem wB_291)) (fun _ h9 => h9) (v := .int sa) f_sa dX12_frames_12 ?_
      have hz_11 : (5 : Int32).toInt = 5 := by decide +kernel
      refine dg_callv hS hA1 hA (va_runV (As := [.int 5, .int sa]) (rest := []) F (c_m_blame l g D o S 5 (by decide +kernel) sa fk f_fk (by omega) I s.heap.size) (cwV 2 hts (bw_V wB_306 wB_307 wB_308 wB_297 wB_305) rfl rfl rfl (by decide +kernel) ⟨Nat.le_of_ble_eq_true rfl, Nat.le_of_ble_eq_true rfl⟩) (dg_preV sM_0 rfl K ST hP hS hA1 hA) rfl rfl hl.1 rfl (lv_room (Nat.le_of_ble_eq_true rfl)) dX12_frames_15 ⟨Nat.le_of_ble_eq_true rfl, Nat.le_of_ble_eq_true rfl⟩) (fun S_12 hw_12 H locs hP hS => ?_)
      obtain ⟨I_12, m_12, w_12_0, -⟩ := hw_12
      have M_12 := dg_sm.tr M_0 m_12 (dk_dq rfl) (dk_dq rfl)
      have hz_13 : (5 : Int32).toInt = 5 := by decide +kernel
      obtain ⟨y_14, f_y_14, w_12_0⟩ := w_12_0
      have w_12_0 : ((fk).toInt ≠ 0 → (y_14).toInt = (fk).toInt) ∧ ((fk).toInt = 0 → (y_14).toInt = ((5 : Int32)).toInt) := w_12_0
      have b_y_14 : 0 ≤ (y_14).toInt ∧ (y_14).toInt ≤ 6 := dg_I.intb (lo := 0) (hi := 6) I_12 sM_0 (by decide +kernel) f_y_14
      have hbl_y_14 : 1 ≤ (y_14).toInt := by omega
      refine lv_aload_n hx hb dX12_frames_18 rfl (lv_at hl 0 rfl) ?_
      refine dg_get (C := RX12) (T := TX12) (N := 77) hx hb hts (fun w h => bw_mem (wU_X12 w h)) hown K hP sM_0 rfl 8 (dk_dq rfl) (hts _ (bw_mem wB_303)) (fun _ h9 => h9) (v := .int y_14) f_y_14 dX12_frames_19 ?_
      refine lv_if_le (tgt := 26) hx hb dX12_frames_22 (dk_dq rfl) (fun c => absurd c (fun z => absurd (dk_lec (k := 0) (by decide +kernel) z) (by omega))) (fun _ => ?_)
      refine W.widen (k := 0) (n := 0) (Nat.le_of_ble_eq_true rfl) (Nat.le_of_ble_eq_true rfl) ?_
      exact dg_vret hx hb hr hlocks hP hS ⟨I_12, M_12, ⟨sg, sa, se, y_14, dp, ((m_12.1 0 3 _ sM_0 (dk_dq rfl)).trans f_sg), ((m_12.1 0 4 _ sM_0 (dk_dq rfl)).trans f_sa), ((m_12.1 0 5 _ sM_0 (dk_dq rfl)).trans f_se), f_y_14, ((m_12.1 0 42 _ sM_0 (dk_dq rfl)).trans f_dp), ⟨by omega, m_hid.mk (fun h0 => ⟨fun q1 => by omega, fun q1 => by omega⟩)⟩⟩, (fun k9 hk9 hk0 => by have q9 := (f_y_14).symm.trans hk9; cases q9; omega), (TKM.keep TK m_12 (dk_dq rfl) (dk_dq rfl) (dk_dq rfl) (dk_dq rfl) (dk_dq rfl) (dk_dq rfl) (dk_dq rfl) (dk_dq rfl)), trivial⟩ dX12_frames_25
  