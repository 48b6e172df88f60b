/-! 13.hist.lean.txt -/
theorem dX3_clear_0 : decode cX3_clear 0 = .ok (.aload_n 0, 1) := dk_o42 (by decide +kernel)
theorem dX3_clear_1 : decode cX3_clear 1 = .ok (.iconst 0, 1) := dk_o3 (by decide +kernel)
theorem dX3_clear_2 : decode cX3_clear 2 = .ok (.putfield 30, 3) := dk_o181 (by decide +kernel)
theorem dX3_clear_5 : decode cX3_clear 5 = .ok (.aload_n 0, 1) := dk_o42 (by decide +kernel)
theorem dX3_clear_6 : decode cX3_clear 6 = .ok (.iconst 0, 1) := dk_o3 (by decide +kernel)
theorem dX3_clear_7 : decode cX3_clear 7 = .ok (.putfield 34, 3) := dk_o181 (by decide +kernel)
theorem dX3_clear_10 : decode cX3_clear 10 = .ok (.return_, 1) := dk_o177 (by decide +kernel)
theorem dX3_keep_0 : decode cX3_keep 0 = .ok (.aload_n 0, 1) := dk_o42 (by decide +kernel)
theorem dX3_keep_1 : decode cX3_keep 1 = .ok (.getfield 30, 3) := dk_o180 (by decide +kernel)
theorem dX3_keep_4 : decode cX3_keep 4 = .ok (.bipush 40, 2) := dk_o16 (by decide +kernel)
theorem dX3_keep_6 : decode cX3_keep 6 = .ok (.if_icmp .ne 29, 3) := dk_o160 (by decide +kernel)
theorem dX3_keep_9 : decode cX3_keep 9 = .ok (.aload_n 0, 1) := dk_o42 (by decide +kernel)
theorem dX3_keep_10 : decode cX3_keep 10 = .ok (.getfield 9, 3) := dk_o180 (by decide +kernel)
theorem dX3_keep_13 : decode cX3_keep 13 = .ok (.iconst 4, 1) := dk_o7 (by decide +kernel)
theorem dX3_keep_14 : decode cX3_keep 14 = .ok (.aload_n 0, 1) := dk_o42 (by decide +kernel)
theorem dX3_keep_15 : decode cX3_keep 15 = .ok (.getfield 9, 3) := dk_o180 (by decide +kernel)
theorem dX3_keep_18 : decode cX3_keep 18 = .ok (.iconst 0, 1) := dk_o3 (by decide +kernel)
theorem dX3_keep_19 : decode cX3_keep 19 = .ok (.sipush 156, 3) := dk_o17 (by decide +kernel)
theorem dX3_keep_22 : decode cX3_keep 22 = .ok (.invokestatic 37, 3) := dk_o184 (by decide +kernel)
theorem dX3_keep_25 : decode cX3_keep 25 = .ok (.aload_n 0, 1) := dk_o42 (by decide +kernel)
theorem dX3_keep_26 : decode cX3_keep 26 = .ok (.dup, 1) := dk_o89 (by decide +kernel)
theorem dX3_keep_27 : decode cX3_keep 27 = .ok (.getfield 30, 3) := dk_o180 (by decide +kernel)
theorem dX3_keep_30 : decode cX3_keep 30 = .ok (.iconst 1, 1) := dk_o4 (by decide +kernel)
theorem dX3_keep_31 : decode cX3_keep 31 = .ok (.isub, 1) := dk_o100 (by decide +kernel)
theorem dX3_keep_32 : decode cX3_keep 32 = .ok (.putfield 30, 3) := dk_o181 (by decide +kernel)
theorem dX3_keep_35 : decode cX3_keep 35 = .ok (.iconst 4, 1) := dk_o7 (by decide +kernel)
theorem dX3_keep_36 : decode cX3_keep 36 = .ok (.aload_n 0, 1) := dk_o42 (by decide +kernel)
theorem dX3_keep_37 : decode cX3_keep 37 = .ok (.getfield 30, 3) := dk_o180 (by decide +kernel)
theorem dX3_keep_40 : decode cX3_keep 40 = .ok (.imul, 1) := dk_o104 (by decide +kernel)
theorem dX3_keep_41 : decode cX3_keep 41 = .ok (.istore 5, 2) := dk_o54 (by decide +kernel)
theorem dX3_keep_43 : decode cX3_keep 43 = .ok (.aload_n 0, 1) := dk_o42 (by decide +kernel)
theorem dX3_keep_44 : decode cX3_keep 44 = .ok (.getfield 9, 3) := dk_o180 (by decide +kernel)
theorem dX3_keep_47 : decode cX3_keep 47 = .ok (.iload 5, 2) := dk_o21 (by decide +kernel)
theorem dX3_keep_49 : decode cX3_keep 49 = .ok (.iload_n 1, 1) := dk_o27 (by decide +kernel)
theorem dX3_keep_50 : decode cX3_keep 50 = .ok (.iastore, 1) := dk_o79 (by decide +kernel)
theorem dX3_keep_51 : decode cX3_keep 51 = .ok (.aload_n 0, 1) := dk_o42 (by decide +kernel)
theorem dX3_keep_52 : decode cX3_keep 52 = .ok (.getfield 9, 3) := dk_o180 (by decide +kernel)
theorem dX3_keep_55 : decode cX3_keep 55 = .ok (.iload 5, 2) := dk_o21 (by decide +kernel)
theorem dX3_keep_57 : decode cX3_keep 57 = .ok (.iconst 1, 1) := dk_o4 (by decide +kernel)
theorem dX3_keep_58 : decode cX3_keep 58 = .ok (.iadd, 1) := dk_o96 (by decide +kernel)
theorem dX3_keep_59 : decode cX3_keep 59 = .ok (.iload_n 2, 1) := dk_o28 (by decide +kernel)
theorem dX3_keep_60 : decode cX3_keep 60 = .ok (.iastore, 1) := dk_o79 (by decide +kernel)
theorem dX3_keep_61 : decode cX3_keep 61 = .ok (.aload_n 0, 1) := dk_o42 (by decide +kernel)
theorem dX3_keep_62 : decode cX3_keep 62 = .ok (.getfield 9, 3) := dk_o180 (by decide +kernel)
theorem dX3_keep_65 : decode cX3_keep 65 = .ok (.iload 5, 2) := dk_o21 (by decide +kernel)
theorem dX3_keep_67 : decode cX3_keep 67 = .ok (.iconst 2, 1) := dk_o5 (by decide +kernel)
theorem dX3_keep_68 : decode cX3_keep 68 = .ok (.iadd, 1) := dk_o96 (by decide +kernel)
theorem dX3_keep_69 : decode cX3_keep 69 = .ok (.iload_n 3, 1) := dk_o29 (by decide +kernel)
theorem dX3_keep_70 : decode cX3_keep 70 = .ok (.iastore, 1) := dk_o79 (by decide +kernel)
theorem dX3_keep_71 : decode cX3_keep 71 = .ok (.aload_n 0, 1) := dk_o42 (by decide +kernel)
theorem dX3_keep_72 : decode cX3_keep 72 = .ok (.getfield 9, 3) := dk_o180 (by decide +kernel)
theorem dX3_keep_75 : decode cX3_keep 75 = .ok (.iload 5, 2) := dk_o21 (by decide +kernel)
theorem dX3_keep_77 : decode cX3_keep 77 = .ok (.iconst 3, 1) := dk_o6 (by decide +kernel)
theorem dX3_keep_78 : decode cX3_keep 78 = .ok (.iadd, 1) := dk_o96 (by decide +kernel)
theorem dX3_keep_79 : decode cX3_keep 79 = .ok (.iload 4, 2) := dk_o21 (by decide +kernel)
theorem dX3_keep_81 : decode cX3_keep 81 = .ok (.iastore, 1) := dk_o79 (by decide +kernel)
theorem dX3_keep_82 : decode cX3_keep 82 = .ok (.aload_n 0, 1) := dk_o42 (by decide +kernel)
theorem dX3_keep_83 : decode cX3_keep 83 = .ok (.dup, 1) := dk_o89 (by decide +kernel)
theorem dX3_keep_84 : decode cX3_keep 84 = .ok (.getfield 30, 3) := dk_o180 (by decide +kernel)
theorem dX3_keep_87 : decode cX3_keep 87 = .ok (.iconst 1, 1) := dk_o4 (by decide +kernel)
theorem dX3_keep_88 : decode cX3_keep 88 = .ok (.iadd, 1) := dk_o96 (by decide +kernel)
theorem dX3_keep_89 : decode cX3_keep 89 = .ok (.putfield 30, 3) := dk_o181 (by decide +kernel)
theorem dX3_keep_92 : decode cX3_keep 92 = .ok (.return_, 1) := dk_o177 (by decide +kernel)
theorem dX3_put_0 : decode cX3_put 0 = .ok (.aload_n 0, 1) := dk_o42 (by decide +kernel)
theorem dX3_put_1 : decode cX3_put 1 = .ok (.getfield 17, 3) := dk_o180 (by decide +kernel)
theorem dX3_put_4 : decode cX3_put 4 = .ok (.aload_n 0, 1) := dk_o42 (by decide +kernel)
theorem dX3_put_5 : decode cX3_put 5 = .ok (.getfield 43, 3) := dk_o180 (by decide +kernel)
theorem dX3_put_8 : decode cX3_put 8 = .ok (.aaload, 1) := dk_o50 (by decide +kernel)
theorem dX3_put_9 : decode cX3_put 9 = .ok (.aload_n 1, 1) := dk_o43 (by decide +kernel)
theorem dX3_put_10 : decode cX3_put 10 = .ok (.invokevirtual 46, 3) := dk_o182 (by decide +kernel)
theorem dX3_put_13 : decode cX3_put 13 = .ok (.aload_n 0, 1) := dk_o42 (by decide +kernel)
theorem dX3_put_14 : decode cX3_put 14 = .ok (.getfield 9, 3) := dk_o180 (by decide +kernel)
theorem dX3_put_17 : decode cX3_put 17 = .ok (.iconst 0, 1) := dk_o3 (by decide +kernel)
theorem dX3_put_18 : decode cX3_put 18 = .ok (.aload_n 0, 1) := dk_o42 (by decide +kernel)
theorem dX3_put_19 : decode cX3_put 19 = .ok (.getfield 23, 3) := dk_o180 (by decide +kernel)
theorem dX3_put_22 : decode cX3_put 22 = .ok (.aload_n 0, 1) := dk_o42 (by decide +kernel)
theorem dX3_put_23 : decode cX3_put 23 = .ok (.getfield 43, 3) := dk_o180 (by decide +kernel)
theorem dX3_put_26 : decode cX3_put 26 = .ok (.aaload, 1) := dk_o50 (by decide +kernel)
theorem dX3_put_27 : decode cX3_put 27 = .ok (.iconst 0, 1) := dk_o3 (by decide +kernel)
theorem dX3_put_28 : decode cX3_put 28 = .ok (.iconst 4, 1) := dk_o7 (by decide +kernel)
theorem dX3_put_29 : decode cX3_put 29 = .ok (.aload_n 0, 1) := dk_o42 (by decide +kernel)
theorem dX3_put_30 : decode cX3_put 30 = .ok (.getfield 30, 3) := dk_o180 (by decide +kernel)
theorem dX3_put_33 : decode cX3_put 33 = .ok (.imul, 1) := dk_o104 (by decide +kernel)
theorem dX3_put_34 : decode cX3_put 34 = .ok (.invokestatic 37, 3) := dk_o184 (by decide +kernel)
theorem dX3_put_37 : decode cX3_put 37 = .ok (.aload_n 0, 1) := dk_o42 (by decide +kernel)
theorem dX3_put_38 : decode cX3_put 38 = .ok (.getfield 26, 3) := dk_o180 (by decide +kernel)
theorem dX3_put_41 : decode cX3_put 41 = .ok (.aload_n 0, 1) := dk_o42 (by decide +kernel)
theorem dX3_put_42 : decode cX3_put 42 = .ok (.getfield 43, 3) := dk_o180 (by decide +kernel)
theorem dX3_put_45 : decode cX3_put 45 = .ok (.aload_n 0, 1) := dk_o42 (by decide +kernel)
theorem dX3_put_46 : decode cX3_put 46 = .ok (.getfield 30, 3) := dk_o180 (by decide +kernel)
theorem dX3_put_49 : decode cX3_put 49 = .ok (.iastore, 1) := dk_o79 (by decide +kernel)
theorem dX3_put_50 : decode cX3_put 50 = .ok (.aload_n 0, 1) := dk_o42 (by decide +kernel)
theorem dX3_put_51 : decode cX3_put 51 = .ok (.aload_n 0, 1) := dk_o42 (by decide +kernel)
theorem dX3_put_52 : decode cX3_put 52 = .ok (.getfield 43, 3) := dk_o180 (by decide +kernel)
theorem dX3_put_55 : decode cX3_put 55 = .ok (.iconst 1, 1) := dk_o4 (by decide +kernel)
theorem dX3_put_56 : decode cX3_put 56 = .ok (.iadd, 1) := dk_o96 (by decide +kernel)
theorem dX3_put_57 : decode cX3_put 57 = .ok (.bipush 20, 2) := dk_o16 (by decide +kernel)
theorem dX3_put_59 : decode cX3_put 59 = .ok (.irem, 1) := dk_o112 (by decide +kernel)
theorem dX3_put_60 : decode cX3_put 60 = .ok (.putfield 43, 3) := dk_o181 (by decide +kernel)
theorem dX3_put_63 : decode cX3_put 63 = .ok (.aload_n 0, 1) := dk_o42 (by decide +kernel)
theorem dX3_put_64 : decode cX3_put 64 = .ok (.bipush 20, 2) := dk_o16 (by decide +kernel)
theorem dX3_put_66 : decode cX3_put 66 = .ok (.aload_n 0, 1) := dk_o42 (by decide +kernel)
theorem dX3_put_67 : decode cX3_put 67 = .ok (.getfield 34, 3) := dk_o180 (by decide +kernel)
theorem dX3_put_70 : decode cX3_put 70 = .ok (.iconst 1, 1) := dk_o4 (by decide +kernel)
theorem dX3_put_71 : decode cX3_put 71 = .ok (.iadd, 1) := dk_o96 (by decide +kernel)
theorem dX3_put_72 : decode cX3_put 72 = .ok (.invokestatic 50, 3) := dk_o184 (by decide +kernel)
theorem dX3_put_75 : decode cX3_put 75 = .ok (.putfield 34, 3) := dk_o181 (by decide +kernel)
theorem dX3_put_78 : decode cX3_put 78 = .ok (.return_, 1) := dk_o177 (by decide +kernel)
theorem dX3_takeBack_0 : decode cX3_takeBack 0 = .ok (.aload_n 0, 1) := dk_o42 (by decide +kernel)
theorem dX3_takeBack_1 : decode cX3_takeBack 1 = .ok (.getfield 34, 3) := dk_o180 (by decide +kernel)
theorem dX3_takeBack_4 : decode cX3_takeBack 4 = .ok (.ifCond .ne 5, 3) := dk_o154 (by decide +kernel)
theorem dX3_takeBack_7 : decode cX3_takeBack 7 = .ok (.iconst 0, 1) := dk_o3 (by decide +kernel)
theorem dX3_takeBack_8 : decode cX3_takeBack 8 = .ok (.ireturn, 1) := dk_o172 (by decide +kernel)
theorem dX3_takeBack_9 : decode cX3_takeBack 9 = .ok (.aload_n 0, 1) := dk_o42 (by decide +kernel)
theorem dX3_takeBack_10 : decode cX3_takeBack 10 = .ok (.dup, 1) := dk_o89 (by decide +kernel)
theorem dX3_takeBack_11 : decode cX3_takeBack 11 = .ok (.getfield 34, 3) := dk_o180 (by decide +kernel)
theorem dX3_takeBack_14 : decode cX3_takeBack 14 = .ok (.iconst 1, 1) := dk_o4 (by decide +kernel)
theorem dX3_takeBack_15 : decode cX3_takeBack 15 = .ok (.isub, 1) := dk_o100 (by decide +kernel)
theorem dX3_takeBack_16 : decode cX3_takeBack 16 = .ok (.putfield 34, 3) := dk_o181 (by decide +kernel)
theorem dX3_takeBack_19 : decode cX3_takeBack 19 = .ok (.aload_n 0, 1) := dk_o42 (by decide +kernel)
theorem dX3_takeBack_20 : decode cX3_takeBack 20 = .ok (.aload_n 0, 1) := dk_o42 (by decide +kernel)
theorem dX3_takeBack_21 : decode cX3_takeBack 21 = .ok (.getfield 43, 3) := dk_o180 (by decide +kernel)
theorem dX3_takeBack_24 : decode cX3_takeBack 24 = .ok (.bipush 20, 2) := dk_o16 (by decide +kernel)
theorem dX3_takeBack_26 : decode cX3_takeBack 26 = .ok (.iadd, 1) := dk_o96 (by decide +kernel)
theorem dX3_takeBack_27 : decode cX3_takeBack 27 = .ok (.iconst 1, 1) := dk_o4 (by decide +kernel)
theorem dX3_takeBack_28 : decode cX3_takeBack 28 = .ok (.isub, 1) := dk_o100 (by decide +kernel)
theorem dX3_takeBack_29 : decode cX3_takeBack 29 = .ok (.bipush 20, 2) := dk_o16 (by decide +kernel)
theorem dX3_takeBack_31 : decode cX3_takeBack 31 = .ok (.irem, 1) := dk_o112 (by decide +kernel)
theorem dX3_takeBack_32 : decode cX3_takeBack 32 = .ok (.putfield 43, 3) := dk_o181 (by decide +kernel)
theorem dX3_takeBack_35 : decode cX3_takeBack 35 = .ok (.aload_n 1, 1) := dk_o43 (by decide +kernel)
theorem dX3_takeBack_36 : decode cX3_takeBack 36 = .ok (.aload_n 0, 1) := dk_o42 (by decide +kernel)
theorem dX3_takeBack_37 : decode cX3_takeBack 37 = .ok (.getfield 17, 3) := dk_o180 (by decide +kernel)
theorem dX3_takeBack_40 : decode cX3_takeBack 40 = .ok (.aload_n 0, 1) := dk_o42 (by decide +kernel)
theorem dX3_takeBack_41 : decode cX3_takeBack 41 = .ok (.getfield 43, 3) := dk_o180 (by decide +kernel)
theorem dX3_takeBack_44 : decode cX3_takeBack 44 = .ok (.aaload, 1) := dk_o50 (by decide +kernel)
theorem dX3_takeBack_45 : decode cX3_takeBack 45 = .ok (.invokevirtual 46, 3) := dk_o182 (by decide +kernel)
theorem dX3_takeBack_48 : decode cX3_takeBack 48 = .ok (.aload_n 0, 1) := dk_o42 (by decide +kernel)
theorem dX3_takeBack_49 : decode cX3_takeBack 49 = .ok (.aload_n 0, 1) := dk_o42 (by decide +kernel)
theorem dX3_takeBack_50 : decode cX3_takeBack 50 = .ok (.getfield 26, 3) := dk_o180 (by decide +kernel)
theorem dX3_takeBack_53 : decode cX3_takeBack 53 = .ok (.aload_n 0, 1) := dk_o42 (by decide +kernel)
theorem dX3_takeBack_54 : decode cX3_takeBack 54 = .ok (.getfield 43, 3) := dk_o180 (by decide +kernel)
theorem dX3_takeBack_57 : decode cX3_takeBack 57 = .ok (.iaload, 1) := dk_o46 (by decide +kernel)
theorem dX3_takeBack_58 : decode cX3_takeBack 58 = .ok (.putfield 30, 3) := dk_o181 (by decide +kernel)
theorem dX3_takeBack_61 : decode cX3_takeBack 61 = .ok (.aload_n 0, 1) := dk_o42 (by decide +kernel)
theorem dX3_takeBack_62 : decode cX3_takeBack 62 = .ok (.getfield 23, 3) := dk_o180 (by decide +kernel)
theorem dX3_takeBack_65 : decode cX3_takeBack 65 = .ok (.aload_n 0, 1) := dk_o42 (by decide +kernel)
theorem dX3_takeBack_66 : decode cX3_takeBack 66 = .ok (.getfield 43, 3) := dk_o180 (by decide +kernel)
theorem dX3_takeBack_69 : decode cX3_takeBack 69 = .ok (.aaload, 1) := dk_o50 (by decide +kernel)
theorem dX3_takeBack_70 : decode cX3_takeBack 70 = .ok (.iconst 0, 1) := dk_o3 (by decide +kernel)
theorem dX3_takeBack_71 : decode cX3_takeBack 71 = .ok (.aload_n 0, 1) := dk_o42 (by decide +kernel)
theorem dX3_takeBack_72 : decode cX3_takeBack 72 = .ok (.getfield 9, 3) := dk_o180 (by decide +kernel)
theorem dX3_takeBack_75 : decode cX3_takeBack 75 = .ok (.iconst 0, 1) := dk_o3 (by decide +kernel)
theorem dX3_takeBack_76 : decode cX3_takeBack 76 = .ok (.iconst 4, 1) := dk_o7 (by decide +kernel)
theorem dX3_takeBack_77 : decode cX3_takeBack 77 = .ok (.aload_n 0, 1) := dk_o42 (by decide +kernel)
theorem dX3_takeBack_78 : decode cX3_takeBack 78 = .ok (.getfield 30, 3) := dk_o180 (by decide +kernel)
theorem dX3_takeBack_81 : decode cX3_takeBack 81 = .ok (.imul, 1) := dk_o104 (by decide +kernel)
theorem dX3_takeBack_82 : decode cX3_takeBack 82 = .ok (.invokestatic 37, 3) := dk_o184 (by decide +kernel)
theorem dX3_takeBack_85 : decode cX3_takeBack 85 = .ok (.iconst 1, 1) := dk_o4 (by decide +kernel)
theorem dX3_takeBack_86 : decode cX3_takeBack 86 = .ok (.ireturn, 1) := dk_o172 (by decide +kernel)
theorem wB_654 : Cond.fieldLink RX3 30 "DarkMine$History" "keptCount" "I" ∈ dgB := List.mem_filter.mpr ⟨tbl_1 _ (List.mem_of_getElem? (i := 119) (by decide +kernel)), by decide +kernel⟩
theorem wB_655 : Cond.fieldLink RX3 34 "DarkMine$History" "acts" "I" ∈ dgB := List.mem_filter.mpr ⟨tbl_1 _ (List.mem_of_getElem? (i := 121) (by decide +kernel)), by decide +kernel⟩
theorem wB_656 : Cond.fieldLink RX3 9 "DarkMine$History" "keptParts" "[I" ∈ dgB := List.mem_filter.mpr ⟨tbl_1 _ (List.mem_of_getElem? (i := 117) (by decide +kernel)), by decide +kernel⟩
theorem wB_657 : Cond.methodLink RX3 37 arraycopyName ∈ dgB := List.mem_filter.mpr ⟨tbl_6 _ (List.mem_of_getElem? (i := 39) (by decide +kernel)), by decide +kernel⟩
theorem wB_658 : Cond.fieldLink RX3 17 "DarkMine$History" "pits" "[LDarkMine$Pit;" ∈ dgB := List.mem_filter.mpr ⟨tbl_1 _ (List.mem_of_getElem? (i := 124) (by decide +kernel)), by decide +kernel⟩
theorem wB_659 : Cond.fieldLink RX3 43 "DarkMine$History" "next" "I" ∈ dgB := List.mem_filter.mpr ⟨tbl_1 _ (List.mem_of_getElem? (i := 123) (by decide +kernel)), by decide +kernel⟩
theorem wB_660 : Cond.code yX5_copy cX5_copy 2 none ∈ dgB := List.mem_filter.mpr ⟨tbl_5 _ (List.mem_of_getElem? (i := 95) rfl), rfl⟩
theorem wB_661 : Cond.methodLink RX3 46 yX5_copy ∈ dgB := List.mem_filter.mpr ⟨tbl_6 _ (List.mem_of_getElem? (i := 38) (by decide +kernel)), by decide +kernel⟩
theorem wB_662 : Cond.instanceMethod yX5_copy ∈ dgB := List.mem_filter.mpr ⟨tbl_5 _ (List.mem_of_getElem? (i := 93) (by decide +kernel)), by decide +kernel⟩
theorem wB_663 : Cond.selects RX5 yX5_copy yX5_copy ∈ dgB := List.mem_filter.mpr ⟨tbl_5 _ (List.mem_of_getElem? (i := 94) (by decide +kernel)), by decide +kernel⟩
theorem wB_664 : Cond.fieldLink RX3 23 "DarkMine$History" "keptAhead" "[[I" ∈ dgB := List.mem_filter.mpr ⟨tbl_1 _ (List.mem_of_getElem? (i := 125) (by decide +kernel)), by decide +kernel⟩
theorem wB_665 : Cond.fieldLink RX3 26 "DarkMine$History" "keptCountAhead" "[I" ∈ dgB := List.mem_filter.mpr ⟨tbl_1 _ (List.mem_of_getElem? (i := 126) (by decide +kernel)), by decide +kernel⟩
theorem wB_666 : Cond.methodLink RX3 50 Lib.Math.min.name ∈ dgB := List.mem_filter.mpr ⟨tbl_6 _ (List.mem_of_getElem? (i := 40) (by decide +kernel)), by decide +kernel⟩
noncomputable def F_h_clear (o : Nat) (S : dg_S) : dg_S := let S_2 : dg_S := dg_uF S 17 1 (.int (0 : Int32)); let S_4 : dg_S := dg_uF S_2 17 2 (.int (0 : Int32)); (S_4)
theorem F_h_clear_p0 {o : Nat} {S : dg_S} {S_4 : dg_S} {S_2 : dg_S} (h0 : S_2 = dg_uF S 17 1 (.int (0 : Int32))) (h1 : S_4 = dg_uF S_2 17 2 (.int (0 : Int32))) : F_h_clear o S = S_4 := by
  replace h0 := Eq.symm h0
  subst h0
  replace h1 := Eq.symm h1
  subst h1
  exact rfl
set_option maxHeartbeats 8000000 in
set_option maxRecDepth 100000 in
theorem c_h_clear (l : Launch) (g : Nat → ClassId) (D : va_G) (o : Nat) (S : dg_S) (I : CX o S) (sz : Nat) : Met l yX3_clear (bw yX3_clear cX3_clear 1 none) ({ frames := 1, cells := 0, slots := 0, locals := 32 } : Room) (dk_Pc g D (dg_w g shX o rfX S) sz [.ref (o + 17)]) (va_Qv (fun S' => CX o S' ∧ dg_sm shX [(10, 1), (10, 2)] [] S S' ∧ Z4X S' ∧ (S' = F_h_clear o S) ∧ True) (dg_B g D shX o rfX) (dg_A o shX.length sz)) 0 0 (dg_A o shX.length sz) := by
  refine dg_met (cc := cX3_clear) (maxL := 1) (ret := none) (dk_dq rfl) rfl (Nat.le_of_ble_eq_true rfl) ?_
  intro p e s m args below meth c A hAe harg hx hb hr hml hts hown hlocks hin hP K hS hA1 hA ST hsz ls hl
  rw [← hAe]
  have F : CallFix p m c cX3_clear 1 s args (bw yX3_clear cX3_clear 1 none) RX3 := ⟨hx, hb, hml, hown, hts⟩
  have hl : lv_has ls 1 [(0, .ref (o + 17))] := hl
  have M_0 : dg_sm shX [(10, 1), (10, 2)] [] S S := dg_sm.rf
  refine lv_aload_n hx hb dX3_clear_0 rfl (lv_at hl 0 rfl) ?_
  refine lv_iconst (v := 0) hx hb dX3_clear_1 (by decide +kernel) ?_
  have hz_1 : (0 : Int32).toInt = 0 := by decide +kernel
  refine dg_put (ci := 3) (v := .int 0) (ty := tyX3 1) (C := RX3) (T := TX3) (N := 7) hx hb hts (fun w h => bw_mem (wU_X3 w h)) tyX3 tyX3_ok nmX3 hown K hP hS hA1 sX_17 rfl 1 (dk_dq rfl) (hts _ (bw_mem wB_654)) (fun _ h9 => h9) rfl (by decide +kernel) rfl rfl dX3_clear_2 (fun S_2 e_2 H locs hP hS => ?_)
  have I_2 := dg_I.uFi (lo := 0) (hi := 40) I e_2 sX_17 (by decide +kernel) (show 0 ≤ ((0 : Int32)).toInt ∧ ((0 : Int32)).toInt ≤ 40 from (by decide +kernel))
  have M_2 := dg_sm.uF M_0 e_2 sX_17 (dk_dq rfl)
  refine lv_aload_n hx hb dX3_clear_5 rfl (lv_at hl 0 rfl) ?_
  refine lv_iconst (v := 0) hx hb dX3_clear_6 (by decide +kernel) ?_
  have hz_3 : (0 : Int32).toInt = 0 := by decide +kernel
  refine dg_put (ci := 3) (v := .int 0) (ty := tyX3 2) (C := RX3) (T := TX3) (N := 7) hx hb hts (fun w h => bw_mem (wU_X3 w h)) tyX3 tyX3_ok nmX3 hown K hP hS hA1 sX_17 rfl 2 (dk_dq rfl) (hts _ (bw_mem wB_655)) (fun _ h9 => h9) rfl (by decide +kernel) rfl rfl dX3_clear_7 (fun S_4 e_4 H locs hP hS => ?_)
  have I_4 := dg_I.uFi (lo := 0) (hi := 20) I_2 e_4 sX_17 (by decide +kernel) (show 0 ≤ ((0 : Int32)).toInt ∧ ((0 : Int32)).toInt ≤ 20 from (by decide +kernel))
  have M_4 := dg_sm.uF M_2 e_4 sX_17 (dk_dq rfl)
  have Z4_4 : Z4X S_4 := Z4X.zero (dg_uF_at e_4)
  refine W.widen (k := 0) (n := 0) (Nat.le_of_ble_eq_true rfl) (Nat.le_of_ble_eq_true rfl) ?_
  exact dg_vret hx hb hr hlocks hP hS ⟨I_4, M_4, Z4_4, (Eq.symm (F_h_clear_p0 e_2 e_4)), trivial⟩ dX3_clear_10
noncomputable def F_h_keep_J2 (x_12 : Int32) (S_41 : dg_S) : dg_S := let x_42 : Int32 := x_12 + (1 : Int32); let S_43 : dg_S := dg_uF S_41 17 1 (.int x_42); (S_43)
noncomputable def F_h_keep_J1 (x_12 : Int32) (S_28 : dg_S) (a1 : Int32) (a2 : Int32) (a3 : Int32) (a4 : Int32) : dg_S := let x_30 : Int32 := (4 : Int32) * x_12; let S_32 : dg_S := dg_uf S_28 18 (upd (S_28.2.1 18) (x_30 : Int32).toNatClampNeg a1); let x_33 : Int32 := x_30 + (1 : Int32); let S_35 : dg_S := dg_uf S_32 18 (upd (S_32.2.1 18) (x_33 : Int32).toNatClampNeg a2); let x_36 : Int32 := x_30 + (2 : Int32); let S_38 : dg_S := dg_uf S_35 18 (upd (S_35.2.1 18) (x_36 : Int32).toNatClampNeg a3); let x_39 : Int32 := x_30 + (3 : Int32); let S_41 : dg_S := dg_uf S_38 18 (upd (S_38.2.1 18) (x_39 : Int32).toNatClampNeg a4); (F_h_keep_J2 x_12 S_41)
noncomputable def F_h_keep (o : Nat) (S : dg_S) (a1 : Int32) (a2 : Int32) (a3 : Int32) (a4 : Int32) : dg_S := let x_1 : Int32 := zI S 17 1; (if x_1 = (40 : Int32) then let S_50 : dg_S := dg_uf S 18 (va_cpy (S.2.1 18) (S.2.1 18) (4 : Int32).toNatClampNeg (0 : Int32).toNatClampNeg (156 : Int32).toNatClampNeg); let x_52 : Int32 := x_1 - (1 : Int32); let S_53 : dg_S := dg_uF S_50 17 1 (.int x_52); (F_h_keep_J1 x_52 S_53 a1 a2 a3 a4) else (F_h_keep_J1 x_1 S a1 a2 a3 a4))
theorem F_h_keep_p0 {x_12 : Int32} {S_41 : dg_S} {S_43 : dg_S} {x_42 : Int32} (h0 : x_42 = x_12 + (1 : Int32)) (h1 : S_43 = dg_uF S_41 17 1 (.int x_42)) : F_h_keep_J2 x_12 S_41 = S_43 := by
  replace h0 := Eq.symm h0
  subst h0
  replace h1 := Eq.symm h1
  subst h1
  exact rfl
theorem F_h_keep_p1 {x_12 : Int32} {S_28 : dg_S} {a1 : Int32} {a2 : Int32} {a3 : Int32} {a4 : Int32} {S_41 : dg_S} {x_30 : Int32} {S_32 : dg_S} {x_33 : Int32} {S_35 : dg_S} {x_36 : Int32} {S_38 : dg_S} {x_39 : Int32} (h0 : x_30 = (4 : Int32) * x_12) (h1 : S_32 = dg_uf S_28 18 (upd (S_28.2.1 18) (x_30 : Int32).toNatClampNeg a1)) (h2 : x_33 = x_30 + (1 : Int32)) (h3 : S_35 = dg_uf S_32 18 (upd (S_32.2.1 18) (x_33 : Int32).toNatClampNeg a2)) (h4 : x_36 = x_30 + (2 : Int32)) (h5 : S_38 = dg_uf S_35 18 (upd (S_35.2.1 18) (x_36 : Int32).toNatClampNeg a3)) (h6 : x_39 = x_30 + (3 : Int32)) (h7 : S_41 = dg_uf S_38 18 (upd (S_38.2.1 18) (x_39 : Int32).toNatClampNeg a4)) : F_h_keep_J1 x_12 S_28 a1 a2 a3 a4 = F_h_keep_J2 x_12 S_41 := by
  replace h0 := Eq.symm h0
  subst h0
  replace h1 := Eq.symm h1
  subst h1
  replace h2 := Eq.symm h2
  subst h2
  replace h3 := Eq.symm h3
  subst h3
  replace h4 := Eq.symm h4
  subst h4
  replace h5 := Eq.symm h5
  subst h5
  replace h6 := Eq.symm h6
  subst h6
  replace h7 := Eq.symm h7
  subst h7
  exact rfl
theorem F_h_keep_p2 {o : Nat} {S : dg_S} {a1 : Int32} {a2 : Int32} {a3 : Int32} {a4 : Int32} {x_1 : Int32} (h0 : x_1 = zI S 17 1) (h1 : ¬ (x_1 = (40 : Int32))) : F_h_keep o S a1 a2 a3 a4 = F_h_keep_J1 x_1 S a1 a2 a3 a4 := by
  replace h0 := Eq.symm h0
  subst h0
  exact (Eq.trans (if_neg h1) rfl)
theorem F_h_keep_p3 {o : Nat} {S : dg_S} {a1 : Int32} {a2 : Int32} {a3 : Int32} {a4 : Int32} {x_52 : Int32} {S_53 : dg_S} {x_1 : Int32} {S_50 : dg_S} (h0 : x_1 = zI S 17 1) (h1 : x_1 = (40 : Int32)) (h2 : S_50 = dg_uf S 18 (va_cpy (S.2.1 18) (S.2.1 18) (4 : Int32).toNatClampNeg (0 : Int32).toNatClampNeg (156 : Int32).toNatClampNeg)) (h3 : x_52 = x_1 - (1 : Int32)) (h4 : S_53 = dg_uF S_50 17 1 (.int x_52)) : F_h_keep o S a1 a2 a3 a4 = F_h_keep_J1 x_52 S_53 a1 a2 a3 a4 := by
  replace h0 := Eq.symm h0
  subst h0
  replace h2 := Eq.symm h2
  subst h2
  replace h3 := Eq.symm h3
  subst h3
  replace h4 := Eq.symm h4
  subst h4
  exact (Eq.trans (if_pos h1) rfl)
set_option maxHeartbeats 8000000 in
set_option maxRecDepth 100000 in
theorem c_h_keep (l : Launch) (g : Nat → ClassId) (D : va_G) (o : Nat) (S : dg_S) (a1 : Int32) (a2 : Int32) (a3 : Int32) (a4 : Int32) (I : CX o S) (sz : Nat) : Met l yX3_keep (bw yX3_keep cX3_keep 6 none) ({ frames := 2, cells := 0, slots := 0, locals := 40 } : Room) (dk_Pc g D (dg_w g shX o rfX S) sz [.ref (o + 17), .int a1, .int a2, .int a3, .int a4]) (va_Qv (fun S' => CX o S' ∧ dg_sm shX [(10, 1)] [11] S S' ∧ (S' = F_h_keep o S a1 a2 a3 a4) ∧ True) (dg_B g D shX o rfX) (dg_A o shX.length sz)) 0 0 (dg_A o shX.length sz) := by
  refine dg_met (cc := cX3_keep) (maxL := 6) (ret := none) (dk_dq rfl) rfl (Nat.le_of_ble_eq_true rfl) ?_
  intro p e s m args below meth c A hAe harg hx hb hr hml hts hown hlocks hin hP K hS hA1 hA ST hsz ls hl
  rw [← hAe]
  have F : CallFix p m c cX3_keep 6 s args (bw yX3_keep cX3_keep 6 none) RX3 := ⟨hx, hb, hml, hown, hts⟩
  have hl : lv_has ls 6 [(0, .ref (o + 17)), (1, .int a1), (2, .int a2), (3, .int a3), (4, .int a4)] := hl
  have M_0 : dg_sm shX [(10, 1)] [11] S S := dg_sm.rf
  refine lv_aload_n hx hb dX3_keep_0 rfl (lv_at hl 0 rfl) ?_
  obtain ⟨x_1, f_x_1, b_x_1⟩ := dg_I.int (i := 17) (k := 1) (lo := 0) (hi := 40) I sX_17 (by decide +kernel)
  refine dg_get (C := RX3) (T := TX3) (N := 7) hx hb hts (fun w h => bw_mem (wU_X3 w h)) hown K hP sX_17 rfl 1 (dk_dq rfl) (hts _ (bw_mem wB_654)) (fun _ h9 => h9) (v := .int x_1) f_x_1 dX3_keep_1 ?_
  refine lv_bipush (v := 40) hx hb dX3_keep_4 (by decide +kernel) ?_
  have J_29 : ∀ (x_12 : Int32), (0 ≤ (x_12).toInt ∧ (x_12).toInt ≤ 39) → ∀ S_28 : dg_S, CX o S_28 → dg_sm shX [(10, 1)] [11] S S_28 → S_28.1 17 1 = .int x_12 → (F_h_keep o S a1 a2 a3 a4 = F_h_keep_J1 x_12 S_28 a1 a2 a3 a4) → ∀ (H : Heap) (locs : List Loc), va_P D vwCl (dg_w g shX o rfX S_28) H → va_S A s.heap H locs → ∀ ls : Array Slot, lv_has ls 6 [(0, .ref (o + 17)), (1, .int a1), (2, .int a2), (3, .int a3), (4, .int a4)] → W p l e ({ frames := 2, cells := 0, slots := 0, locals := 40 } : Room) s m args below meth c H locs 0 0 (MQ below (va_Qv (fun S' => CX o S' ∧ dg_sm shX [(10, 1)] [11] S S' ∧ (S' = F_h_keep o S a1 a2 a3 a4) ∧ True) (dg_B g D shX o rfX) A) args s 0 0 A) (F0 m 35 ls []) := by
    as_aux_lemma =>
      intro x_12 b_x_12 S_28 I_28 M_28 ff_28_1_17 hF_1 H locs hP hS ls hl
      refine lv_iconst (v := 4) hx hb dX3_keep_35 (by decide +kernel) ?_
      refine lv_aload_n hx hb dX3_keep_36 rfl (lv_at hl 0 rfl) ?_
      refine dg_get (C := RX3) (T := TX3) (N := 7) hx hb hts (fun w h => bw_mem (wU_X3 w h)) hown K hP sX_17 rfl 1 (dk_dq rfl) (hts _ (bw_mem wB_654)) (fun _ h9 => h9) (v := .int x_12) ff_28_1_17 dX3_keep_37 ?_
      refine lv_imul hx hb dX3_keep_40 ?_
      refine lv_topi (fun x_30 ex_30 => ?_)
      have jx_30 : (x_30).toInt = 4 * (x_12).toInt := by rw [ex_30]; exact dk_mulT2 (by decide +kernel) rfl (by omega)
      refine lv_istore (lv' := [(5, .int x_30), (0, .ref (o + 17)), (1, .int a1), (2, .int a2), (3, .int a3), (4, .int a4)]) hx hb dX3_keep_41 hl (dk_dq rfl) rfl (fun ls hl => ?_)
      refine lv_aload_n hx hb dX3_keep_43 rfl (lv_at hl 1 rfl) ?_
      refine dg_get (C := RX3) (T := TX3) (N := 7) hx hb hts (fun w h => bw_mem (wU_X3 w h)) hown K hP sX_17 rfl 0 (dk_dq rfl) (hts _ (bw_mem wB_656)) (fun _ h9 => h9) (v := .ref (o + 18)) (show S_28.1 17 0 = .ref (o + 18) from dg_I.rel (d := 1) I_28 sX_17 (by decide +kernel)) dX3_keep_44 ?_
      refine lv_iload hx hb dX3_keep_47 (lv_at hl 0 rfl) ?_
      refine lv_iload_n hx hb dX3_keep_49 rfl (lv_at hl 2 rfl) ?_
      have hin_31 : vp_in x_30 160 := (dk_inv2 (by omega))
      refine dg_iast hx hb K hP hS hA1 sX_18 hin_31 dX3_keep_50 (fun S_32 e_32 H locs hP hS => ?_)
      have I_32 := dg_I.uf0 I_28 e_32 sX_18 (by decide +kernel)
      have M_32 := dg_sm.uf M_28 e_32 sX_18 (dk_dq rfl)
      refine lv_aload_n hx hb dX3_keep_51 rfl (lv_at hl 1 rfl) ?_
      refine dg_get (C := RX3) (T := TX3) (N := 7) hx hb hts (fun w h => bw_mem (wU_X3 w h)) hown K hP sX_17 rfl 0 (dk_dq rfl) (hts _ (bw_mem wB_656)) (fun _ h9 => h9) (v := .ref (o + 18)) (show S_32.1 17 0 = .ref (o + 18) from dg_I.rel (d := 1) I_32 sX_17 (by decide +kernel)) dX3_keep_52 ?_
      refine lv_iload hx hb dX3_keep_55 (lv_at hl 0 rfl) ?_
      refine lv_iconst (v := 1) hx hb dX3_keep_57 (by decide +kernel) ?_
      refine lv_iadd hx hb dX3_keep_58 ?_
      refine lv_topi (fun x_33 ex_33 => ?_)
      have jx_33 : (x_33).toInt = (x_30).toInt + 1 := by rw [ex_33]; exact dk_addT2 rfl (by decide +kernel) (by omega)
      refine lv_iload_n hx hb dX3_keep_59 rfl (lv_at hl 3 rfl) ?_
      have hin_34 : vp_in x_33 160 := (dk_inv2 (by omega))
      refine dg_iast hx hb K hP hS hA1 sX_18 hin_34 dX3_keep_60 (fun S_35 e_35 H locs hP hS => ?_)
      have I_35 := dg_I.uf0 I_32 e_35 sX_18 (by decide +kernel)
      have M_35 := dg_sm.uf M_32 e_35 sX_18 (dk_dq rfl)
      refine lv_aload_n hx hb dX3_keep_61 rfl (lv_at hl 1 rfl) ?_
      refine dg_get (C := RX3) (T := TX3) (N := 7) hx hb hts (fun w h => bw_mem (wU_X3 w h)) hown K hP sX_17 rfl 0 (dk_dq rfl) (hts _ (bw_mem wB_656)) (fun _ h9 => h9) (v := .ref (o + 18)) (show S_35.1 17 0 = .ref (o + 18) from dg_I.rel (d := 1) I_35 sX_17 (by decide +kernel)) dX3_keep_62 ?_
      refine lv_iload hx hb dX3_keep_65 (lv_at hl 0 rfl) ?_
      refine lv_iconst (v := 2) hx hb dX3_keep_67 (by decide +kernel) ?_
      refine lv_iadd hx hb dX3_keep_68 ?_
      refine lv_topi (fun x_36 ex_36 => ?_)
      have jx_36 : (x_36).toInt = (x_30).toInt + 2 := by rw [ex_36]; exact dk_addT2 rfl (by decide +kernel) (by omega)
      refine lv_iload_n hx hb dX3_keep_69 rfl (lv_at hl 4 rfl) ?_
      have hin_37 : vp_in x_36 160 := (dk_inv2 (by omega))
      refine dg_iast hx hb K hP hS hA1 sX_18 hin_37 dX3_keep_70 (fun S_38 e_38 H locs hP hS => ?_)
      have I_38 := dg_I.uf0 I_35 e_38 sX_18 (by decide +kernel)
      have M_38 := dg_sm.uf M_35 e_38 sX_18 (dk_dq rfl)
      as_aux_lemma =>
        refine lv_aload_n hx hb dX3_keep_71 rfl (lv_at hl 1 rfl) ?_
        refine dg_get (C := RX3) (T := TX3) (N := 7) hx hb hts (fun w h => bw_mem (wU_X3 w h)) hown K hP sX_17 rfl 0 (dk_dq rfl) (hts _ (bw_mem wB_656)) (fun _ h9 => h9) (v := .ref (o + 18)) (show S_38.1 17 0 = .ref (o + 18) from dg_I.rel (d := 1) I_38 sX_17 (by decide +kernel)) dX3_keep_72 ?_
        refine lv_iload hx hb dX3_keep_75 (lv_at hl 0 rfl) ?_
        refine lv_iconst (v := 3) hx hb dX3_keep_77 (by decide +kernel) ?_
        refine lv_iadd hx hb dX3_keep_78 ?_
        refine lv_topi (fun x_39 ex_39 => ?_)
        have jx_39 : (x_39).toInt = (x_30).toInt + 3 := by rw [ex_39]; exact dk_addT2 rfl (by decide +kernel) (by omega)
        refine lv_iload hx hb dX3_keep_79 (lv_at hl 5 rfl) ?_
        have hin_40 : vp_in x_39 160 := (dk_inv2 (by omega))
        refine dg_iast hx hb K hP hS hA1 sX_18 hin_40 dX3_keep_81 (fun S_41 e_41 H locs hP hS => ?_)
        have I_41 := dg_I.uf0 I_38 e_41 sX_18 (by decide +kernel)
        have M_41 := dg_sm.uf M_38 e_41 sX_18 (dk_dq rfl)
        have hF_2 : F_h_keep o S a1 a2 a3 a4 = F_h_keep_J2 x_12 S_41 := (Eq.trans hF_1 (F_h_keep_p1 ex_30 e_32 ex_33 e_35 ex_36 e_38 ex_39 e_41))
        refine lv_aload_n hx hb dX3_keep_82 rfl (lv_at hl 1 rfl) ?_
        refine lv_dup hx hb dX3_keep_83 rfl ?_
        refine dg_get (C := RX3) (T := TX3) (N := 7) hx hb hts (fun w h => bw_mem (wU_X3 w h)) hown K hP sX_17 rfl 1 (dk_dq rfl) (hts _ (bw_mem wB_654)) (fun _ h9 => h9) (v := .int x_12) (((dg_uf_F e_41 17 1).trans ((dg_uf_F e_38 17 1).trans ((dg_uf_F e_35 17 1).trans (dg_uf_F e_32 17 1)))).trans ff_28_1_17) dX3_keep_84 ?_
        refine lv_iconst (v := 1) hx hb dX3_keep_87 (by decide +kernel) ?_
        refine lv_iadd hx hb dX3_keep_88 ?_
        refine lv_topi (fun x_42 ex_42 => ?_)
        have jx_42 : (x_42).toInt = (x_12).toInt + 1 := by rw [ex_42]; exact dk_addT2 rfl (by decide +kernel) (by omega)
        refine dg_put (ci := 3) (v := .int x_42) (ty := tyX3 1) (C := RX3) (T := TX3) (N := 7) hx hb hts (fun w h => bw_mem (wU_X3 w h)) tyX3 tyX3_ok nmX3 hown K hP hS hA1 sX_17 rfl 1 (dk_dq rfl) (hts _ (bw_mem wB_654)) (fun _ h9 => h9) rfl (by decide +kernel) rfl rfl dX3_keep_89 (fun S_43 e_43 H locs hP hS => ?_)
        have I_43 := dg_I.uFi (lo := 0) (hi := 40) I_41 e_43 sX_17 (by decide +kernel) (show 0 ≤ (x_42).toInt ∧ (x_42).toInt ≤ 40 from (by omega))
        have M_43 := dg_sm.uF M_41 e_43 sX_17 (dk_dq rfl)
        refine W.widen (k := 0) (n := 0) (Nat.le_of_ble_eq_true rfl) (Nat.le_of_ble_eq_true rfl) ?_
        exact dg_vret hx hb hr hlocks hP hS ⟨I_43, M_43, (Eq.symm (Eq.trans hF_2 (F_h_keep_p0 ex_42 e_43))), trivial⟩ dX3_keep_92
  refine lv_icmp_ne (tgt := 35) hx hb dX3_keep_6 (dk_dq rfl) (fun c_44 => ?_) (fun c_44 => ?_)
  · have jc_44 := dk_neqc (k := 40) (by decide +kernel) c_44
    exact J_29 x_1 (by omega) S I M_0 f_x_1 (F_h_keep_p2 (zI_eq f_x_1) c_44) _ _ hP hS _ (lv_sub hl [0, 1, 2, 3, 4] rfl)
  · as_aux_lemma =>
      have jc_44 := dk_eqc (k := 40) (by decide +kernel) c_44
      refine lv_aload_n hx hb dX3_keep_9 rfl (lv_at hl 0 rfl) ?_
      refine dg_get (C := RX3) (T := TX3) (N := 7) hx hb hts (fun w h => bw_mem (wU_X3 w h)) hown K hP sX_17 rfl 0 (dk_dq rfl) (hts _ (bw_mem wB_656)) (fun _ h9 => h9) (v := .ref (o + 18)) (show S.1 17 0 = .ref (o + 18) from dg_I.rel (d := 1) I sX_17 (by decide +kernel)) dX3_keep_10 ?_
      refine lv_iconst (v := 4) hx hb dX3_keep_13 (by decide +kernel) ?_
      refine lv_aload_n hx hb dX3_keep_14 rfl (lv_at hl 0 rfl) ?_
      refine dg_get (C := RX3) (T := TX3) (N := 7) hx hb hts (fun w h => bw_mem (wU_X3 w h)) hown K hP sX_17 rfl 0 (dk_dq rfl) (hts _ (bw_mem wB_656)) (fun _ h9 => h9) (v := .ref (o + 18)) (show S.1 17 0 = .ref (o + 18) from dg_I.rel (d := 1) I sX_17 (by decide +kernel)) dX3_keep_15 ?_
      refine lv_iconst (v := 0) hx hb dX3_keep_18 (by decide +kernel) ?_
      refine lv_sipush (v := 156) hx hb dX3_keep_19 (by decide +kernel) ?_
      have hz_45 : (156 : Int32).toInt = 156 := by decide +kernel
      have hz_46 : (0 : Int32).toInt = 0 := by decide +kernel
      have hz_47 : (4 : Int32).toInt = 4 := by decide +kernel
      have hc_48 : (4 : Int32).toInt + (156 : Int32).toInt ≤ ((160 : Nat) : Int) := by omega
      have hc_49 : (0 : Int32).toInt + (156 : Int32).toInt ≤ ((160 : Nat) : Int) := by omega
      refine dg_copyi hx hb (by rw [hml]; exact hl.1.symm) hown (hts _ (bw_mem wB_657)) (hts _ (bw_mem wB_516)) (hts _ (bw_mem wB_517)) (hts _ (bw_mem wB_518)) K hP hS hA1 sX_18 sX_18 (by omega) (by omega) (by omega) hc_48 hc_49 (Nat.le_of_ble_eq_true rfl) (Nat.le_of_ble_eq_true rfl) dX3_keep_22 (fun S_50 e_50 H locs hP hS => ?_)
      have hc_51 : (4 : Int32).toNatClampNeg + (156 : Int32).toNatClampNeg ≤ 160 := by rw [dk_clN, dk_clN]; omega
      have I_50 := dg_I.uf0 I e_50 sX_18 (by decide +kernel)
      have M_50 := dg_sm.uf M_0 e_50 sX_18 (dk_dq rfl)
      refine lv_aload_n hx hb dX3_keep_25 rfl (lv_at hl 0 rfl) ?_
      refine lv_dup hx hb dX3_keep_26 rfl ?_
      refine dg_get (C := RX3) (T := TX3) (N := 7) hx hb hts (fun w h => bw_mem (wU_X3 w h)) hown K hP sX_17 rfl 1 (dk_dq rfl) (hts _ (bw_mem wB_654)) (fun _ h9 => h9) (v := .int x_1) ((dg_uf_F e_50 17 1).trans f_x_1) dX3_keep_27 ?_
      refine lv_iconst (v := 1) hx hb dX3_keep_30 (by decide +kernel) ?_
      refine lv_isub hx hb dX3_keep_31 ?_
      refine lv_topi (fun x_52 ex_52 => ?_)
      have jx_52 : (x_52).toInt = (x_1).toInt - 1 := by rw [ex_52]; exact dk_subT2 rfl (by decide +kernel) (by omega)
      refine dg_put (ci := 3) (v := .int x_52) (ty := tyX3 1) (C := RX3) (T := TX3) (N := 7) hx hb hts (fun w h => bw_mem (wU_X3 w h)) tyX3 tyX3_ok nmX3 hown K hP hS hA1 sX_17 rfl 1 (dk_dq rfl) (hts _ (bw_mem wB_654)) (fun _ h9 => h9) rfl (by decide +kernel) rfl rfl dX3_keep_32 (fun S_53 e_53 H locs hP hS => ?_)
      have I_53 := dg_I.uFi (lo := 0) (hi := 40) I_50 e_53 sX_17 (by decide +kernel) (show 0 ≤ (x_52).toInt ∧ (x_52).toInt ≤ 40 from (by omega))
      have M_53 := dg_sm.uF M_50 e_53 sX_17 (dk_dq rfl)
      exact J_29 x_52 (by omega) S_53 I_53 M_53 (dg_uF_at e_53) (F_h_keep_p3 (zI_eq f_x_1) c_44 e_50 ex_52 e_53) _ _ hP hS _ (lv_sub hl [0, 1, 2, 3, 4] rfl)
noncomputable def F_h_put_J1 (x_19 : Int32) (S_20 : dg_S) : dg_S := let x_21 : Int32 := x_19 + (1 : Int32); let x_22 : Int32 := if x_21 < (20 : Int32) then x_21 else (20 : Int32); let S_23 : dg_S := dg_uF S_20 17 2 (.int x_22); (S_23)
noncomputable def F_h_put (o : Nat) (S : dg_S) (pt : Nat) : dg_S := let x_1 : Int32 := zI S 17 3; let d_3 : Nat := 42 + 7 * (x_1 : Int32).toNatClampNeg; let S_4 : dg_S := F_p_copy o S d_3 pt; let d_6 : Nat := 21 + (x_1 : Int32).toNatClampNeg; let x_7 : Int32 := zI S 17 1; let x_8 : Int32 := (4 : Int32) * x_7; let S_13 : dg_S := dg_uf S_4 d_6 (va_cpy (S_4.2.1 18) (S_4.2.1 d_6) (0 : Int32).toNatClampNeg (0 : Int32).toNatClampNeg (x_8 : Int32).toNatClampNeg); let S_16 : dg_S := dg_uf S_13 41 (upd (S_13.2.1 41) (x_1 : Int32).toNatClampNeg x_7); let x_17 : Int32 := x_1 + (1 : Int32); let x_18 : Int32 := x_17 - x_17 / (20 : Int32) * (20 : Int32); let x_19 : Int32 := zI S_16 17 2; let S_20 : dg_S := dg_uF S_16 17 3 (.int x_18); (F_h_put_J1 x_19 S_20)
theorem F_h_put_p0 {x_19 : Int32} {S_20 : dg_S} {S_23 : dg_S} {x_21 : Int32} {x_22 : Int32} (h0 : x_21 = x_19 + (1 : Int32)) (h1 : x_22 = if x_21 < (20 : Int32) then x_21 else (20 : Int32)) (h2 : S_23 = dg_uF S_20 17 2 (.int x_22)) : F_h_put_J1 x_19 S_20 = S_23 := by
  replace h0 := Eq.symm h0
  subst h0
  replace h1 := Eq.symm h1
  subst h1
  replace h2 := Eq.symm h2
  subst h2
  exact rfl
theorem F_h_put_p1 {o : Nat} {S : dg_S} {pt : Nat} {x_19 : Int32} {S_20 : dg_S} {x_1 : Int32} {d_3 : Nat} {S_4 : dg_S} {d_6 : Nat} {x_7 : Int32} {x_8 : Int32} {S_13 : dg_S} {S_16 : dg_S} {x_17 : Int32} {x_18 : Int32} (h0 : x_1 = zI S 17 3) (h1 : d_3 = 42 + 7 * (x_1 : Int32).toNatClampNeg) (h2 : S_4 = F_p_copy o S d_3 pt) (h3 : d_6 = 21 + (x_1 : Int32).toNatClampNeg) (h4 : x_7 = zI S 17 1) (h5 : x_8 = (4 : Int32) * x_7) (h6 : S_13 = dg_uf S_4 d_6 (va_cpy (S_4.2.1 18) (S_4.2.1 d_6) (0 : Int32).toNatClampNeg (0 : Int32).toNatClampNeg (x_8 : Int32).toNatClampNeg)) (h7 : S_16 = dg_uf S_13 41 (upd (S_13.2.1 41) (x_1 : Int32).toNatClampNeg x_7)) (h8 : x_17 = x_1 + (1 : Int32)) (h9 : x_18 = x_17 - x_17 / (20 : Int32) * (20 : Int32)) (h10 : x_19 = zI S_16 17 2) (h11 : S_20 = dg_uF S_16 17 3 (.int x_18)) : F_h_put o S pt = F_h_put_J1 x_19 S_20 := by
  replace h0 := Eq.symm h0
  subst h0
  replace h1 := Eq.symm h1
  subst h1
  replace h2 := Eq.symm h2
  subst h2
  replace h3 := Eq.symm h3
  subst h3
  replace h4 := Eq.symm h4
  subst h4
  replace h5 := Eq.symm h5
  subst h5
  replace h6 := Eq.symm h6
  subst h6
  replace h7 := Eq.symm h7
  subst h7
  replace h8 := Eq.symm h8
  subst h8
  replace h9 := Eq.symm h9
  subst h9
  replace h10 := Eq.symm h10
  subst h10
  replace h11 := Eq.symm h11
  subst h11
  exact rfl
set_option maxHeartbeats 8000000 in
set_option maxRecDepth 100000 in
theorem c_h_put (l : Launch) (g : Nat → ClassId) (D : va_G) (o : Nat) (S : dg_S) (pt : Nat) (hk_pt : pX pt) (hf_pt : dg_fil S pt) (Z4 : Z4X S) (I : CX o S) (sz : Nat) : Met l yX3_put (bw yX3_put cX3_put 2 none) ({ frames := 3, cells := 0, slots := 0, locals := 61 } : Room) (dk_Pc g D (dg_w g shX o rfX S) sz [.ref (o + 17), .ref (o + pt)]) (va_Qv (fun S' => CX o S' ∧ dg_sm shX [(3, 0), (3, 1), (10, 2), (10, 3)] [4, 5, 6, 7, 8, 9, 14, 15] S S' ∧ Z4X S' ∧ dg_FG S S' ∧ (S' = F_h_put o S pt) ∧ True) (dg_B g D shX o rfX) (dg_A o shX.length sz)) 0 0 (dg_A o shX.length sz) := by
  refine dg_met (cc := cX3_put) (maxL := 2) (ret := none) (dk_dq rfl) rfl (Nat.le_of_ble_eq_true rfl) ?_
  intro p e s m args below meth c A hAe harg hx hb hr hml hts hown hlocks hin hP K hS hA1 hA ST hsz ls hl
  rw [← hAe]
  have F : CallFix p m c cX3_put 2 s args (bw yX3_put cX3_put 2 none) RX3 := ⟨hx, hb, hml, hown, hts⟩
  have hl : lv_has ls 2 [(0, .ref (o + 17)), (1, .ref (o + pt))] := hl
  have M_0 : dg_sm shX [(3, 0), (3, 1), (10, 2), (10, 3)] [4, 5, 6, 7, 8, 9, 14, 15] S S := dg_sm.rf
  refine lv_aload_n hx hb dX3_put_0 rfl (lv_at hl 0 rfl) ?_
  refine dg_get (C := RX3) (T := TX3) (N := 7) hx hb hts (fun w h => bw_mem (wU_X3 w h)) hown K hP sX_17 rfl 4 (dk_dq rfl) (hts _ (bw_mem wB_658)) (fun _ h9 => h9) (v := .ref (o + 19)) (show S.1 17 4 = .ref (o + 19) from dg_I.rel (d := 2) I sX_17 (by decide +kernel)) dX3_put_1 ?_
  refine lv_aload_n hx hb dX3_put_4 rfl (lv_at hl 0 rfl) ?_
  obtain ⟨x_1, f_x_1, b_x_1⟩ := dg_I.int (i := 17) (k := 3) (lo := 0) (hi := 19) I sX_17 (by decide +kernel)
  refine dg_get (C := RX3) (T := TX3) (N := 7) hx hb hts (fun w h => bw_mem (wU_X3 w h)) hown K hP sX_17 rfl 3 (dk_dq rfl) (hts _ (bw_mem wB_659)) (fun _ h9 => h9) (v := .int x_1) f_x_1 dX3_put_5 ?_
  have hin_2 : vp_in x_1 20 := (dk_inv2 (by omega))
  obtain ⟨d_3, hk_d_3, g_d_3, q_d_3⟩ : ∃ d, pX d ∧ rfX 19 (x_1 : Int32).toNatClampNeg = some d ∧ d = 42 + 7 * (x_1 : Int32).toNatClampNeg := ⟨_, pX_h9 _ (dk_inT hin_2).2, rfX_h (dk_inT hin_2).2, rfl⟩
  refine dg_aald hx hb K hP sX_19 hin_2 g_d_3 dX3_put_8 ?_
  refine lv_aload_n hx hb dX3_put_9 rfl (lv_at hl 1 rfl) ?_
  refine dg_callv hS hA1 hA (va_runV (As := [.ref (o + pt)]) (rest := []) F (c_p_copy l g D o S d_3 hk_d_3 pt hk_pt hf_pt I s.heap.size) (cwV 1 hts (bw_V wB_661 wB_662 wB_663 wB_493 wB_660) rfl rfl rfl (by decide +kernel) ⟨Nat.le_of_ble_eq_true rfl, Nat.le_of_ble_eq_true rfl⟩) (dg_preV (pX_0 d_3 hk_d_3) rfl K ST hP hS hA1 hA) rfl rfl hl.1 rfl (lv_room (Nat.le_of_ble_eq_true rfl)) dX3_put_10 ⟨Nat.le_of_ble_eq_true rfl, Nat.le_of_ble_eq_true rfl⟩) (fun S_4 hw_4 H locs hP hS => ?_)
  obtain ⟨I_4, m_4, w_4_0, w_4_1, w_4_2, -⟩ := hw_4
  have M_4 := dg_sm.tr M_0 m_4 (dk_dq rfl) (dk_dq rfl)
  refine lv_aload_n hx hb dX3_put_13 rfl (lv_at hl 0 rfl) ?_
  refine dg_get (C := RX3) (T := TX3) (N := 7) hx hb hts (fun w h => bw_mem (wU_X3 w h)) hown K hP sX_17 rfl 0 (dk_dq rfl) (hts _ (bw_mem wB_656)) (fun _ h9 => h9) (v := .ref (o + 18)) (show S_4.1 17 0 = .ref (o + 18) from dg_I.rel (d := 1) I_4 sX_17 (by decide +kernel)) dX3_put_14 ?_
  refine lv_iconst (v := 0) hx hb dX3_put_17 (by decide +kernel) ?_
  refine lv_aload_n hx hb dX3_put_18 rfl (lv_at hl 0 rfl) ?_
  refine dg_get (C := RX3) (T := TX3) (N := 7) hx hb hts (fun w h => bw_mem (wU_X3 w h)) hown K hP sX_17 rfl 5 (dk_dq rfl) (hts _ (bw_mem wB_664)) (fun _ h9 => h9) (v := .ref (o + 20)) (show S_4.1 17 5 = .ref (o + 20) from dg_I.rel (d := 3) I_4 sX_17 (by decide +kernel)) dX3_put_19 ?_
  refine lv_aload_n hx hb dX3_put_22 rfl (lv_at hl 0 rfl) ?_
  refine dg_get (C := RX3) (T := TX3) (N := 7) hx hb hts (fun w h => bw_mem (wU_X3 w h)) hown K hP sX_17 rfl 3 (dk_dq rfl) (hts _ (bw_mem wB_659)) (fun _ h9 => h9) (v := .int x_1) ((m_4.1 17 3 _ sX_17 (dk_dq rfl)).trans f_x_1) dX3_put_23 ?_
  have hin_5 : vp_in x_1 20 := (dk_inv2 (by omega))
  obtain ⟨d_6, hs_d_6, g_d_6, q_d_6⟩ : ∃ d, shX[d]? = some (1, 0, 160, 14) ∧ rfX 20 (x_1 : Int32).toNatClampNeg = some d ∧ d = 21 + (x_1 : Int32).toNatClampNeg := ⟨_, sX_k _ (dk_inT hin_5).2, rfX_k (dk_inT hin_5).2, rfl⟩
  refine dg_aalda hx hb K hP sX_20 hin_5 g_d_6 dX3_put_26 ?_
  refine lv_iconst (v := 0) hx hb dX3_put_27 (by decide +kernel) ?_
  refine lv_iconst (v := 4) hx hb dX3_put_28 (by decide +kernel) ?_
  refine lv_aload_n hx hb dX3_put_29 rfl (lv_at hl 0 rfl) ?_
  obtain ⟨x_7, f_x_7, b_x_7⟩ := dg_I.int (i := 17) (k := 1) (lo := 0) (hi := 40) I sX_17 (by decide +kernel)
  refine dg_get (C := RX3) (T := TX3) (N := 7) hx hb hts (fun w h => bw_mem (wU_X3 w h)) hown K hP sX_17 rfl 1 (dk_dq rfl) (hts _ (bw_mem wB_654)) (fun _ h9 => h9) (v := .int x_7) ((m_4.1 17 1 _ sX_17 (dk_dq rfl)).trans f_x_7) dX3_put_30 ?_
  refine lv_imul hx hb dX3_put_33 ?_
  refine lv_topi (fun x_8 ex_8 => ?_)
  have jx_8 : (x_8).toInt = 4 * (x_7).toInt := by rw [ex_8]; exact dk_mulT2 (by decide +kernel) rfl (by omega)
  have hz_9 : (0 : Int32).toInt = 0 := by decide +kernel
  have hz_10 : (0 : Int32).toInt = 0 := by decide +kernel
  have hc_11 : (0 : Int32).toInt + (x_8 : Int32).toInt ≤ ((160 : Nat) : Int) := by omega
  have hc_12 : (0 : Int32).toInt + (x_8 : Int32).toInt ≤ ((160 : Nat) : Int) := by omega
  as_aux_lemma =>
    refine dg_copyi hx hb (by rw [hml]; exact hl.1.symm) hown (hts _ (bw_mem wB_657)) (hts _ (bw_mem wB_516)) (hts _ (bw_mem wB_517)) (hts _ (bw_mem wB_518)) K hP hS hA1 sX_18 hs_d_6 (by omega) (by omega) (by omega) hc_11 hc_12 (Nat.le_of_ble_eq_true rfl) (Nat.le_of_ble_eq_true rfl) dX3_put_34 (fun S_13 e_13 H locs hP hS => ?_)
    have hc_14 : (0 : Int32).toNatClampNeg + (x_8 : Int32).toNatClampNeg ≤ 160 := by rw [dk_clN, dk_clN]; omega
    have I_13 := dg_I.uf0 I_4 e_13 hs_d_6 (by decide +kernel)
    have M_13 := dg_sm.uf M_4 e_13 hs_d_6 (dk_dq rfl)
    refine lv_aload_n hx hb dX3_put_37 rfl (lv_at hl 0 rfl) ?_
    refine dg_get (C := RX3) (T := TX3) (N := 7) hx hb hts (fun w h => bw_mem (wU_X3 w h)) hown K hP sX_17 rfl 6 (dk_dq rfl) (hts _ (bw_mem wB_665)) (fun _ h9 => h9) (v := .ref (o + 41)) (show S_13.1 17 6 = .ref (o + 41) from dg_I.rel (d := 24) I_13 sX_17 (by decide +kernel)) dX3_put_38 ?_
    refine lv_aload_n hx hb dX3_put_41 rfl (lv_at hl 0 rfl) ?_
    refine dg_get (C := RX3) (T := TX3) (N := 7) hx hb hts (fun w h => bw_mem (wU_X3 w h)) hown K hP sX_17 rfl 3 (dk_dq rfl) (hts _ (bw_mem wB_659)) (fun _ h9 => h9) (v := .int x_1) (((dg_uf_F e_13 17 3).trans (m_4.1 17 3 _ sX_17 (dk_dq rfl))).trans f_x_1) dX3_put_42 ?_
    refine lv_aload_n hx hb dX3_put_45 rfl (lv_at hl 0 rfl) ?_
    refine dg_get (C := RX3) (T := TX3) (N := 7) hx hb hts (fun w h => bw_mem (wU_X3 w h)) hown K hP sX_17 rfl 1 (dk_dq rfl) (hts _ (bw_mem wB_654)) (fun _ h9 => h9) (v := .int x_7) (((dg_uf_F e_13 17 1).trans (m_4.1 17 1 _ sX_17 (dk_dq rfl))).trans f_x_7) dX3_put_46 ?_
    have hin_15 : vp_in x_1 20 := (dk_inv2 (by omega))
    refine dg_iast hx hb K hP hS hA1 sX_41 hin_15 dX3_put_49 (fun S_16 e_16 H locs hP hS => ?_)
    have I_16 := dg_I.ufu (lo := 0) (hi := 40) I_13 e_16 sX_41 (by decide +kernel) (show 0 ≤ (x_7).toInt ∧ (x_7).toInt ≤ 40 from (by omega))
    have M_16 := dg_sm.uf M_13 e_16 sX_41 (dk_dq rfl)
    refine lv_aload_n hx hb dX3_put_50 rfl (lv_at hl 0 rfl) ?_
    refine lv_aload_n hx hb dX3_put_51 rfl (lv_at hl 0 rfl) ?_
    refine dg_get (C := RX3) (T := TX3) (N := 7) hx hb hts (fun w h => bw_mem (wU_X3 w h)) hown K hP sX_17 rfl 3 (dk_dq rfl) (hts _ (bw_mem wB_659)) (fun _ h9 => h9) (v := .int x_1) (((dg_uf_F e_16 17 3).trans ((dg_uf_F e_13 17 3).trans (m_4.1 17 3 _ sX_17 (dk_dq rfl)))).trans f_x_1) dX3_put_52 ?_
    refine lv_iconst (v := 1) hx hb dX3_put_55 (by decide +kernel) ?_
    refine lv_iadd hx hb dX3_put_56 ?_
    refine lv_topi (fun x_17 ex_17 => ?_)
    have jx_17 : (x_17).toInt = (x_1).toInt + 1 := by rw [ex_17]; exact dk_addT2 rfl (by decide +kernel) (by omega)
    refine lv_bipush (v := 20) hx hb dX3_put_57 (by decide +kernel) ?_
    refine lv_irem hx hb dX3_put_59 (by decide +kernel) ?_
    refine lv_topi (fun x_18 ex_18 => ?_)
    have jx_18 : (x_18).toInt = (x_17).toInt % 20 := by rw [ex_18]; exact dk_remL (by omega) (by decide +kernel) (dk_dq rfl)
    obtain ⟨x_19, f_x_19, b_x_19⟩ := dg_I.int (i := 17) (k := 2) (lo := 0) (hi := 20) I_16 sX_17 (by decide +kernel)
    refine dg_put (ci := 3) (v := .int x_18) (ty := tyX3 3) (C := RX3) (T := TX3) (N := 7) hx hb hts (fun w h => bw_mem (wU_X3 w h)) tyX3 tyX3_ok nmX3 hown K hP hS hA1 sX_17 rfl 3 (dk_dq rfl) (hts _ (bw_mem wB_659)) (fun _ h9 => h9) rfl (by decide +kernel) rfl rfl dX3_put_60 (fun S_20 e_20 H locs hP hS => ?_)
    have I_20 := dg_I.uFi (lo := 0) (hi := 19) I_16 e_20 sX_17 (by decide +kernel) (show 0 ≤ (x_18).toInt ∧ (x_18).toInt ≤ 19 from (by omega))
    have M_20 := dg_sm.uF M_16 e_20 sX_17 (dk_dq rfl)
    have hF_1 : F_h_put o S pt = F_h_put_J1 x_19 S_20 := (F_h_put_p1 (zI_eq f_x_1) q_d_3 w_4_2 q_d_6 (zI_eq f_x_7) ex_8 e_13 e_16 ex_17 ex_18 (zI_eq f_x_19) e_20)
    refine lv_aload_n hx hb dX3_put_63 rfl (lv_at hl 0 rfl) ?_
    refine lv_bipush (v := 20) hx hb dX3_put_64 (by decide +kernel) ?_
    refine lv_aload_n hx hb dX3_put_66 rfl (lv_at hl 0 rfl) ?_
    refine dg_get (C := RX3) (T := TX3) (N := 7) hx hb hts (fun w h => bw_mem (wU_X3 w h)) hown K hP sX_17 rfl 2 (dk_dq rfl) (hts _ (bw_mem wB_655)) (fun _ h9 => h9) (v := .int x_19) ((dg_uF_ne e_20 (fun z => absurd z.2 (dk_dq rfl))).trans f_x_19) dX3_put_67 ?_
    refine lv_iconst (v := 1) hx hb dX3_put_70 (by decide +kernel) ?_
    refine lv_iadd hx hb dX3_put_71 ?_
    refine lv_topi (fun x_21 ex_21 => ?_)
    have jx_21 : (x_21).toInt = (x_19).toInt + 1 := by rw [ex_21]; exact dk_addT2 rfl (by decide +kernel) (by omega)
    refine va_mmin hx hb (by rw [hml]; exact hl.1.symm) hown (hts _ (bw_mem wB_666)) (hts _ (bw_mem wB_504)) (hts _ (bw_mem wB_505)) (hts _ (bw_mem wB_506)) (Nat.le_of_ble_eq_true rfl) (Nat.le_of_ble_eq_true rfl) (Nat.le_of_ble_eq_true rfl) (Nat.le_of_ble_eq_true rfl) dX3_put_72 ?_
    refine lv_topi (fun x_22 ex_22 => ?_)
    have jx_22 := dk_minT (a := 20) (b := (x_21).toInt) (by decide +kernel) rfl ex_22
    refine dg_put (ci := 3) (v := .int x_22) (ty := tyX3 2) (C := RX3) (T := TX3) (N := 7) hx hb hts (fun w h => bw_mem (wU_X3 w h)) tyX3 tyX3_ok nmX3 hown K hP hS hA1 sX_17 rfl 2 (dk_dq rfl) (hts _ (bw_mem wB_655)) (fun _ h9 => h9) rfl (by decide +kernel) rfl rfl dX3_put_75 (fun S_23 e_23 H locs hP hS => ?_)
    have I_23 := dg_I.uFi (lo := 0) (hi := 20) I_20 e_23 sX_17 (by decide +kernel) (show 0 ≤ (x_22).toInt ∧ (x_22).toInt ≤ 20 from (by omega))
    have M_23 := dg_sm.uF M_20 e_23 sX_17 (dk_dq rfl)
    have Z4_23 : Z4X S_23 := Z4X.put (Z4X.keep (Z4X.keep (Z4X.keep Z4 m_4 w_4_1 (dk_dq rfl) (dk_dq rfl)) (dg_sm.uf (WF := []) (WA := [14]) dg_sm.rf e_13 hs_d_6 (dk_dq rfl)) (dg_FG.uf e_13 hs_d_6 (dk_dq rfl)) (dk_dq rfl) (dk_dq rfl)) (dg_sm.uf (WF := []) (WA := [15]) dg_sm.rf e_16 sX_41 (dk_dq rfl)) (dg_FG.uf e_16 sX_41 (dk_dq rfl)) (dk_dq rfl) (dk_dq rfl)) f_x_19 (((dg_uf_F e_16 17 3).trans ((dg_uf_F e_13 17 3).trans (m_4.1 17 3 _ sX_17 (dk_dq rfl)))).trans f_x_1) (by have h9 := ((dg_FG.tr (dg_FG.uf e_13 hs_d_6 (dk_dq rfl)) (dg_FG.uf e_16 sX_41 (dk_dq rfl))) d_3 hk_d_3 w_4_0); rw [q_d_3] at h9; exact h9) (by omega) (by omega) (by omega) (by omega) e_20 e_23
    refine W.widen (k := 0) (n := 0) (Nat.le_of_ble_eq_true rfl) (Nat.le_of_ble_eq_true rfl) ?_
    exact dg_vret hx hb hr hlocks hP hS ⟨I_23, M_23, Z4_23, (dg_FG.tr (dg_FG.tr (dg_FG.tr (dg_FG.tr w_4_1 (dg_FG.uf e_13 hs_d_6 (dk_dq rfl))) (dg_FG.uf e_16 sX_41 (dk_dq rfl))) (dg_FG.uF e_20)) (dg_FG.uF e_23)), (Eq.symm (Eq.trans hF_1 (F_h_put_p0 ex_21 ex_22 e_23))), trivial⟩ dX3_put_78
noncomputable def F_h_takeBack_J1 (x_8 : Int32) (x_14 : Int32) (S_15 : dg_S) : dg_S × Int32 := let d_17 : Nat := 21 + (x_8 : Int32).toNatClampNeg; let x_18 : Int32 := (4 : Int32) * x_14; let S_23 : dg_S := dg_uf S_15 18 (va_cpy (S_15.2.1 d_17) (S_15.2.1 18) (0 : Int32).toNatClampNeg (0 : Int32).toNatClampNeg (x_18 : Int32).toNatClampNeg); (S_23, (1 : Int32))
noncomputable def F_h_takeBack (o : Nat) (S : dg_S) (pt : Nat) : dg_S × Int32 := let x_1 : Int32 := zI S 17 2; (if x_1 = (0 : Int32) then (S, (0 : Int32)) else let x_3 : Int32 := zI S 17 3; let x_4 : Int32 := x_1 - (1 : Int32); let S_5 : dg_S := dg_uF S 17 2 (.int x_4); let x_6 : Int32 := x_3 + (20 : Int32); let x_7 : Int32 := x_6 - (1 : Int32); let x_8 : Int32 := x_7 - x_7 / (20 : Int32) * (20 : Int32); let S_9 : dg_S := dg_uF S_5 17 3 (.int x_8); let d_11 : Nat := 42 + 7 * (x_8 : Int32).toNatClampNeg; let S_12 : dg_S := F_p_copy o S_9 pt d_11; let x_14 : Int32 := S_12.2.1 41 (x_8 : Int32).toNatClampNeg; let S_15 : dg_S := dg_uF S_12 17 1 (.int x_14); (F_h_takeBack_J1 x_8 x_14 S_15))
theorem F_h_takeBack_p0 {x_8 : Int32} {x_14 : Int32} {S_15 : dg_S} {S_23 : dg_S} {d_17 : Nat} {x_18 : Int32} (h0 : d_17 = 21 + (x_8 : Int32).toNatClampNeg) (h1 : x_18 = (4 : Int32) * x_14) (h2 : S_23 = dg_uf S_15 18 (va_cpy (S_15.2.1 d_17) (S_15.2.1 18) (0 : Int32).toNatClampNeg (0 : Int32).toNatClampNeg (x_18 : Int32).toNatClampNeg)) : F_h_takeBack_J1 x_8 x_14 S_15 = (S_23, (1 : Int32)) := by
  replace h0 := Eq.symm h0
  subst h0
  replace h1 := Eq.symm h1
  subst h1
  replace h2 := Eq.symm h2
  subst h2
  exact rfl
theorem F_h_takeBack_p1 {o : Nat} {S : dg_S} {pt : Nat} {x_8 : Int32} {x_14 : Int32} {S_15 : dg_S} {x_1 : Int32} {x_3 : Int32} {x_4 : Int32} {S_5 : dg_S} {x_6 : Int32} {x_7 : Int32} {S_9 : dg_S} {d_11 : Nat} {S_12 : dg_S} (h0 : x_1 = zI S 17 2) (h1 : ¬ (x_1 = (0 : Int32))) (h2 : x_3 = zI S 17 3) (h3 : x_4 = x_1 - (1 : Int32)) (h4 : S_5 = dg_uF S 17 2 (.int x_4)) (h5 : x_6 = x_3 + (20 : Int32)) (h6 : x_7 = x_6 - (1 : Int32)) (h7 : x_8 = x_7 - x_7 / (20 : Int32) * (20 : Int32)) (h8 : S_9 = dg_uF S_5 17 3 (.int x_8)) (h9 : d_11 = 42 + 7 * (x_8 : Int32).toNatClampNeg) (h10 : S_12 = F_p_copy o S_9 pt d_11) (h11 : x_14 = S_12.2.1 41 (x_8 : Int32).toNatClampNeg) (h12 : S_15 = dg_uF S_12 17 1 (.int x_14)) : F_h_takeBack o S pt = F_h_takeBack_J1 x_8 x_14 S_15 := by
  replace h0 := Eq.symm h0
  subst h0
  replace h2 := Eq.symm h2
  subst h2
  replace h3 := Eq.symm h3
  subst h3
  replace h4 := Eq.symm h4
  subst h4
  replace h5 := Eq.symm h5
  subst h5
  replace h6 := Eq.symm h6
  subst h6
  replace h7 := Eq.symm h7
  subst h7
  replace h8 := Eq.symm h8
  subst h8
  replace h9 := Eq.symm h9
  subst h9
  replace h10 := Eq.symm h10
  subst h10
  replace h11 := Eq.symm h11
  subst h11
  replace h12 := Eq.symm h12
  subst h12
  exact (Eq.trans (if_neg h1) rfl)
theorem F_h_takeBack_p2 {o : Nat} {S : dg_S} {pt : Nat} {x_1 : Int32} (h0 : x_1 = zI S 17 2) (h1 : x_1 = (0 : Int32)) : F_h_takeBack o S pt = (S, (0 : Int32)) := by
  replace h0 := Eq.symm h0
  subst h0
  exact (Eq.trans (if_pos h1) rfl)
set_option maxHeartbeats 8000000 in
set_option maxRecDepth 100000 in
theorem c_h_takeBack (l : Launch) (g : Nat → ClassId) (D : va_G) (o : Nat) (S : dg_S) (pt : Nat) (hk_pt : pX pt) (Z4 : Z4X S) (I : CX o S) (sz : Nat) : Met l yX3_takeBack (bw yX3_takeBack cX3_takeBack 2 (some .boolean)) ({ frames := 3, cells := 0, slots := 0, locals := 61 } : Room) (dk_Pc g D (dg_w g shX o rfX S) sz [.ref (o + 17), .ref (o + pt)]) (va_Qi (fun (r : Int32) S' => CX o S' ∧ dg_sm shX [(3, 0), (3, 1), (10, 1), (10, 2), (10, 3)] [4, 5, 6, 7, 8, 9, 11] S S' ∧ (0 ≤ (r).toInt ∧ (r).toInt ≤ 1) ∧ Z4X S' ∧ dg_FG S S' ∧ (S' = (F_h_takeBack o S pt).1 ∧ r = (F_h_takeBack o S pt).2) ∧ True) (dg_B g D shX o rfX) (dg_A o shX.length sz)) 0 0 (dg_A o shX.length sz) := by
  refine dg_met (cc := cX3_takeBack) (maxL := 2) (ret := (some .boolean)) (dk_dq rfl) rfl (Nat.le_of_ble_eq_true rfl) ?_
  intro p e s m args below meth c A hAe harg hx hb hr hml hts hown hlocks hin hP K hS hA1 hA ST hsz ls hl
  rw [← hAe]
  have F : CallFix p m c cX3_takeBack 2 s args (bw yX3_takeBack cX3_takeBack 2 (some .boolean)) RX3 := ⟨hx, hb, hml, hown, hts⟩
  have hl : lv_has ls 2 [(0, .ref (o + 17)), (1, .ref (o + pt))] := hl
  have M_0 : dg_sm shX [(3, 0), (3, 1), (10, 1), (10, 2), (10, 3)] [4, 5, 6, 7, 8, 9, 11] S S := dg_sm.rf
  refine lv_aload_n hx hb dX3_takeBack_0 rfl (lv_at hl 0 rfl) ?_
  obtain ⟨x_1, f_x_1, b_x_1⟩ := dg_I.int (i := 17) (k := 2) (lo := 0) (hi := 20) I sX_17 (by decide +kernel)
  refine dg_get (C := RX3) (T := TX3) (N := 7) hx hb hts (fun w h => bw_mem (wU_X3 w h)) hown K hP sX_17 rfl 2 (dk_dq rfl) (hts _ (bw_mem wB_655)) (fun _ h9 => h9) (v := .int x_1) f_x_1 dX3_takeBack_1 ?_
  refine lv_if_ne (tgt := 9) hx hb dX3_takeBack_4 (dk_dq rfl) (fun c_2 => ?_) (fun c_2 => ?_)
  · as_aux_lemma =>
      have jc_2 := dk_neqc (k := 0) (by decide +kernel) c_2
      obtain ⟨x_3, f_x_3, b_x_3⟩ := dg_I.int (i := 17) (k := 3) (lo := 0) (hi := 19) I sX_17 (by decide +kernel)
      refine lv_aload_n hx hb dX3_takeBack_9 rfl (lv_at hl 0 rfl) ?_
      refine lv_dup hx hb dX3_takeBack_10 rfl ?_
      refine dg_get (C := RX3) (T := TX3) (N := 7) hx hb hts (fun w h => bw_mem (wU_X3 w h)) hown K hP sX_17 rfl 2 (dk_dq rfl) (hts _ (bw_mem wB_655)) (fun _ h9 => h9) (v := .int x_1) f_x_1 dX3_takeBack_11 ?_
      refine lv_iconst (v := 1) hx hb dX3_takeBack_14 (by decide +kernel) ?_
      refine lv_isub hx hb dX3_takeBack_15 ?_
      refine lv_topi (fun x_4 ex_4 => ?_)
      have jx_4 : (x_4).toInt = (x_1).toInt - 1 := by rw [ex_4]; exact dk_subT2 rfl (by decide +kernel) (by omega)
      refine dg_put (ci := 3) (v := .int x_4) (ty := tyX3 2) (C := RX3) (T := TX3) (N := 7) hx hb hts (fun w h => bw_mem (wU_X3 w h)) tyX3 tyX3_ok nmX3 hown K hP hS hA1 sX_17 rfl 2 (dk_dq rfl) (hts _ (bw_mem wB_655)) (fun _ h9 => h9) rfl (by decide +kernel) rfl rfl dX3_takeBack_16 (fun S_5 e_5 H locs hP hS => ?_)
      have I_5 := dg_I.uFi (lo := 0) (hi := 20) I e_5 sX_17 (by decide +kernel) (show 0 ≤ (x_4).toInt ∧ (x_4).toInt ≤ 20 from (by omega))
      have M_5 := dg_sm.uF M_0 e_5 sX_17 (dk_dq rfl)
      refine lv_aload_n hx hb dX3_takeBack_19 rfl (lv_at hl 0 rfl) ?_
      refine lv_aload_n hx hb dX3_takeBack_20 rfl (lv_at hl 0 rfl) ?_
      refine dg_get (C := RX3) (T := TX3) (N := 7) hx hb hts (fun w h => bw_mem (wU_X3 w h)) hown K hP sX_17 rfl 3 (dk_dq rfl) (hts _ (bw_mem wB_659)) (fun _ h9 => h9) (v := .int x_3) ((dg_uF_ne e_5 (fun z => absurd z.2 (dk_dq rfl))).trans f_x_3) dX3_takeBack_21 ?_
      refine lv_bipush (v := 20) hx hb dX3_takeBack_24 (by decide +kernel) ?_
      refine lv_iadd hx hb dX3_takeBack_26 ?_
      refine lv_topi (fun x_6 ex_6 => ?_)
      have jx_6 : (x_6).toInt = (x_3).toInt + 20 := by rw [ex_6]; exact dk_addT2 rfl (by decide +kernel) (by omega)
      refine lv_iconst (v := 1) hx hb dX3_takeBack_27 (by decide +kernel) ?_
      refine lv_isub hx hb dX3_takeBack_28 ?_
      refine lv_topi (fun x_7 ex_7 => ?_)
      have jx_7 : (x_7).toInt = (x_6).toInt - 1 := by rw [ex_7]; exact dk_subT2 rfl (by decide +kernel) (by omega)
      refine lv_bipush (v := 20) hx hb dX3_takeBack_29 (by decide +kernel) ?_
      refine lv_irem hx hb dX3_takeBack_31 (by decide +kernel) ?_
      refine lv_topi (fun x_8 ex_8 => ?_)
      have jx_8 : (x_8).toInt = (x_7).toInt % 20 := by rw [ex_8]; exact dk_remL (by omega) (by decide +kernel) (dk_dq rfl)
      refine dg_put (ci := 3) (v := .int x_8) (ty := tyX3 3) (C := RX3) (T := TX3) (N := 7) hx hb hts (fun w h => bw_mem (wU_X3 w h)) tyX3 tyX3_ok nmX3 hown K hP hS hA1 sX_17 rfl 3 (dk_dq rfl) (hts _ (bw_mem wB_659)) (fun _ h9 => h9) rfl (by decide +kernel) rfl rfl dX3_takeBack_32 (fun S_9 e_9 H locs hP hS => ?_)
      have I_9 := dg_I.uFi (lo := 0) (hi := 19) I_5 e_9 sX_17 (by decide +kernel) (show 0 ≤ (x_8).toInt ∧ (x_8).toInt ≤ 19 from (by omega))
      have M_9 := dg_sm.uF M_5 e_9 sX_17 (dk_dq rfl)
      obtain ⟨Z4_9, ft_9⟩ := Z4X.take Z4 f_x_1 f_x_3 (by omega) (by omega) (by omega) (by omega) e_5 e_9
      refine lv_aload_n hx hb dX3_takeBack_35 rfl (lv_at hl 1 rfl) ?_
      refine lv_aload_n hx hb dX3_takeBack_36 rfl (lv_at hl 0 rfl) ?_
      refine dg_get (C := RX3) (T := TX3) (N := 7) hx hb hts (fun w h => bw_mem (wU_X3 w h)) hown K hP sX_17 rfl 4 (dk_dq rfl) (hts _ (bw_mem wB_658)) (fun _ h9 => h9) (v := .ref (o + 19)) (show S_9.1 17 4 = .ref (o + 19) from dg_I.rel (d := 2) I_9 sX_17 (by decide +kernel)) dX3_takeBack_37 ?_
      refine lv_aload_n hx hb dX3_takeBack_40 rfl (lv_at hl 0 rfl) ?_
      refine dg_get (C := RX3) (T := TX3) (N := 7) hx hb hts (fun w h => bw_mem (wU_X3 w h)) hown K hP sX_17 rfl 3 (dk_dq rfl) (hts _ (bw_mem wB_659)) (fun _ h9 => h9) (v := .int x_8) (dg_uF_at e_9) dX3_takeBack_41 ?_
      have hin_10 : vp_in x_8 20 := (dk_inv2 (by omega))
      obtain ⟨d_11, hk_d_11, g_d_11, q_d_11⟩ : ∃ d, pX d ∧ rfX 19 (x_8 : Int32).toNatClampNeg = some d ∧ d = 42 + 7 * (x_8 : Int32).toNatClampNeg := ⟨_, pX_h9 _ (dk_inT hin_10).2, rfX_h (dk_inT hin_10).2, rfl⟩
      refine dg_aald hx hb K hP sX_19 hin_10 g_d_11 dX3_takeBack_44 ?_
      refine dg_callv hS hA1 hA (va_runV (As := [.ref (o + d_11)]) (rest := []) F (c_p_copy l g D o S_9 pt hk_pt d_11 hk_d_11 (show dg_fil S_9 d_11 from by rw [q_d_11]; exact ft_9) I_9 H.size) (cwV 1 hts (bw_V wB_661 wB_662 wB_663 wB_493 wB_660) rfl rfl rfl (by decide +kernel) ⟨Nat.le_of_ble_eq_true rfl, Nat.le_of_ble_eq_true rfl⟩) (dg_preV (pX_0 pt hk_pt) rfl K ST hP hS hA1 hA) rfl rfl hl.1 rfl (lv_room (Nat.le_of_ble_eq_true rfl)) dX3_takeBack_45 ⟨Nat.le_of_ble_eq_true rfl, Nat.le_of_ble_eq_true rfl⟩) (fun S_12 hw_12 H locs hP hS => ?_)
      obtain ⟨I_12, m_12, w_12_0, w_12_1, w_12_2, -⟩ := hw_12
      have M_12 := dg_sm.tr M_9 m_12 (dk_dq rfl) (dk_dq rfl)
      as_aux_lemma =>
        refine lv_aload_n hx hb dX3_takeBack_48 rfl (lv_at hl 0 rfl) ?_
        refine lv_aload_n hx hb dX3_takeBack_49 rfl (lv_at hl 0 rfl) ?_
        refine dg_get (C := RX3) (T := TX3) (N := 7) hx hb hts (fun w h => bw_mem (wU_X3 w h)) hown K hP sX_17 rfl 6 (dk_dq rfl) (hts _ (bw_mem wB_665)) (fun _ h9 => h9) (v := .ref (o + 41)) (show S_12.1 17 6 = .ref (o + 41) from dg_I.rel (d := 24) I_12 sX_17 (by decide +kernel)) dX3_takeBack_50 ?_
        refine lv_aload_n hx hb dX3_takeBack_53 rfl (lv_at hl 0 rfl) ?_
        refine dg_get (C := RX3) (T := TX3) (N := 7) hx hb hts (fun w h => bw_mem (wU_X3 w h)) hown K hP sX_17 rfl 3 (dk_dq rfl) (hts _ (bw_mem wB_659)) (fun _ h9 => h9) (v := .int x_8) ((m_12.1 17 3 _ sX_17 (dk_dq rfl)).trans (dg_uF_at e_9)) dX3_takeBack_54 ?_
        have hin_13 : vp_in x_8 20 := (dk_inv2 (by omega))
        refine dg_iald hx hb K hP sX_41 hin_13 dX3_takeBack_57 (fun x_14 ex_14 => ?_)
        have b_x_14 := dk_all_at (dg_I.row (lo := 0) (hi := 40) I_12 sX_41 (by decide +kernel)) hin_13 ex_14
        refine dg_put (ci := 3) (v := .int x_14) (ty := tyX3 1) (C := RX3) (T := TX3) (N := 7) hx hb hts (fun w h => bw_mem (wU_X3 w h)) tyX3 tyX3_ok nmX3 hown K hP hS hA1 sX_17 rfl 1 (dk_dq rfl) (hts _ (bw_mem wB_654)) (fun _ h9 => h9) rfl (by decide +kernel) rfl rfl dX3_takeBack_58 (fun S_15 e_15 H locs hP hS => ?_)
        have I_15 := dg_I.uFi (lo := 0) (hi := 40) I_12 e_15 sX_17 (by decide +kernel) (show 0 ≤ (x_14).toInt ∧ (x_14).toInt ≤ 40 from (by omega))
        have M_15 := dg_sm.uF M_12 e_15 sX_17 (dk_dq rfl)
        have hF_1 : F_h_takeBack o S pt = F_h_takeBack_J1 x_8 x_14 S_15 := (F_h_takeBack_p1 (zI_eq f_x_1) c_2 (zI_eq f_x_3) ex_4 e_5 ex_6 ex_7 ex_8 e_9 q_d_11 w_12_2 (Eq.symm ex_14.symm) e_15)
        refine lv_aload_n hx hb dX3_takeBack_61 rfl (lv_at hl 0 rfl) ?_
        refine dg_get (C := RX3) (T := TX3) (N := 7) hx hb hts (fun w h => bw_mem (wU_X3 w h)) hown K hP sX_17 rfl 5 (dk_dq rfl) (hts _ (bw_mem wB_664)) (fun _ h9 => h9) (v := .ref (o + 20)) (show S_15.1 17 5 = .ref (o + 20) from dg_I.rel (d := 3) I_15 sX_17 (by decide +kernel)) dX3_takeBack_62 ?_
        refine lv_aload_n hx hb dX3_takeBack_65 rfl (lv_at hl 0 rfl) ?_
        refine dg_get (C := RX3) (T := TX3) (N := 7) hx hb hts (fun w h => bw_mem (wU_X3 w h)) hown K hP sX_17 rfl 3 (dk_dq rfl) (hts _ (bw_mem wB_659)) (fun _ h9 => h9) (v := .int x_8) (((dg_uF_ne e_15 (fun z => absurd z.2 (dk_dq rfl))).trans (m_12.1 17 3 _ sX_17 (dk_dq rfl))).trans (dg_uF_at e_9)) dX3_takeBack_66 ?_
        have hin_16 : vp_in x_8 20 := (dk_inv2 (by omega))
        obtain ⟨d_17, hs_d_17, g_d_17, q_d_17⟩ : ∃ d, shX[d]? = some (1, 0, 160, 14) ∧ rfX 20 (x_8 : Int32).toNatClampNeg = some d ∧ d = 21 + (x_8 : Int32).toNatClampNeg := ⟨_, sX_k _ (dk_inT hin_16).2, rfX_k (dk_inT hin_16).2, rfl⟩
        refine dg_aalda hx hb K hP sX_20 hin_16 g_d_17 dX3_takeBack_69 ?_
        refine lv_iconst (v := 0) hx hb dX3_takeBack_70 (by decide +kernel) ?_
        refine lv_aload_n hx hb dX3_takeBack_71 rfl (lv_at hl 0 rfl) ?_
        refine dg_get (C := RX3) (T := TX3) (N := 7) hx hb hts (fun w h => bw_mem (wU_X3 w h)) hown K hP sX_17 rfl 0 (dk_dq rfl) (hts _ (bw_mem wB_656)) (fun _ h9 => h9) (v := .ref (o + 18)) (show S_15.1 17 0 = .ref (o + 18) from dg_I.rel (d := 1) I_15 sX_17 (by decide +kernel)) dX3_takeBack_72 ?_
        refine lv_iconst (v := 0) hx hb dX3_takeBack_75 (by decide +kernel) ?_
        refine lv_iconst (v := 4) hx hb dX3_takeBack_76 (by decide +kernel) ?_
        refine lv_aload_n hx hb dX3_takeBack_77 rfl (lv_at hl 0 rfl) ?_
        refine dg_get (C := RX3) (T := TX3) (N := 7) hx hb hts (fun w h => bw_mem (wU_X3 w h)) hown K hP sX_17 rfl 1 (dk_dq rfl) (hts _ (bw_mem wB_654)) (fun _ h9 => h9) (v := .int x_14) (dg_uF_at e_15) dX3_takeBack_78 ?_
        refine lv_imul hx hb dX3_takeBack_81 ?_
        refine lv_topi (fun x_18 ex_18 => ?_)
        have jx_18 : (x_18).toInt = 4 * (x_14).toInt := by rw [ex_18]; exact dk_mulT2 (by decide +kernel) rfl (by omega)
        have hz_19 : (0 : Int32).toInt = 0 := by decide +kernel
        have hz_20 : (0 : Int32).toInt = 0 := by decide +kernel
        have hc_21 : (0 : Int32).toInt + (x_18 : Int32).toInt ≤ ((160 : Nat) : Int) := by omega
        have hc_22 : (0 : Int32).toInt + (x_18 : Int32).toInt ≤ ((160 : Nat) : Int) := by omega
        refine dg_copyi hx hb (by rw [hml]; exact hl.1.symm) hown (hts _ (bw_mem wB_657)) (hts _ (bw_mem wB_516)) (hts _ (bw_mem wB_517)) (hts _ (bw_mem wB_518)) K hP hS hA1 hs_d_17 sX_18 (by omega) (by omega) (by omega) hc_21 hc_22 (Nat.le_of_ble_eq_true rfl) (Nat.le_of_ble_eq_true rfl) dX3_takeBack_82 (fun S_23 e_23 H locs hP hS => ?_)
        have hc_24 : (0 : Int32).toNatClampNeg + (x_18 : Int32).toNatClampNeg ≤ 160 := by rw [dk_clN, dk_clN]; omega
        have I_23 := dg_I.uf0 I_15 e_23 sX_18 (by decide +kernel)
        have M_23 := dg_sm.uf M_15 e_23 sX_18 (dk_dq rfl)
        refine lv_iconst (v := 1) hx hb dX3_takeBack_85 (by decide +kernel) ?_
        have hz_25 : (1 : Int32).toInt = 1 := by decide +kernel
        refine W.widen (k := 0) (n := 0) (Nat.le_of_ble_eq_true rfl) (Nat.le_of_ble_eq_true rfl) ?_
        exact dg_iret hx hb hr hlocks (by decide +kernel) hP hS ⟨I_23, M_23, (by decide +kernel), (Z4X.keep (Z4X.keep (Z4X.keep Z4_9 m_12 w_12_1 (dk_dq rfl) (dk_dq rfl)) (dg_sm.uF (WF := [(10, 1)]) (WA := []) dg_sm.rf e_15 sX_17 (dk_dq rfl)) (dg_FG.uF e_15) (dk_dq rfl) (dk_dq rfl)) (dg_sm.uf (WF := []) (WA := [11]) dg_sm.rf e_23 sX_18 (dk_dq rfl)) (dg_FG.uf e_23 sX_18 (dk_dq rfl)) (dk_dq rfl) (dk_dq rfl)), (dg_FG.tr (dg_FG.tr (dg_FG.tr (dg_FG.tr (dg_FG.uF e_5) (dg_FG.uF e_9)) w_12_1) (dg_FG.uF e_15)) (dg_FG.uf e_23 sX_18 (dk_dq rfl))), ⟨congrArg Prod.fst (Eq.symm (Eq.trans hF_1 (F_h_takeBack_p0 q_d_17 ex_18 e_23))), congrArg Prod.snd (Eq.symm (Eq.trans hF_1 (F_h_takeBack_p0 q_d_17 ex_18 e_23)))⟩, trivial⟩ dX3_takeBack_86
  · have jc_2 := dk_eqc (k := 0) (by decide +kernel) c_2
    refine lv_iconst (v := 0) hx hb dX3_takeBack_7 (by decide +kernel) ?_
    have hz_26 : (0 : Int32).toInt = 0 := by decide +kernel
    refine W.widen (k := 0) (n := 0) (Nat.le_of_ble_eq_true rfl) (Nat.le_of_ble_eq_true rfl) ?_
    exact dg_iret hx hb hr hlocks (by decide +kernel) hP hS ⟨I, M_0, (by decide +kernel), Z4, dg_FG.rf, ⟨congrArg Prod.fst (Eq.symm (F_h_takeBack_p2 (zI_eq f_x_1) c_2)), congrArg Prod.snd (Eq.symm (F_h_takeBack_p2 (zI_eq f_x_1) c_2))⟩, trivial⟩ dX3_takeBack_8
