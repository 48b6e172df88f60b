/-! 46.m14a.lean.txt -/
theorem dX12_isCounted_0 : decode cX12_isCounted 0 = .ok (.aload_n 0, 1) := dk_o42 (by decide +kernel)
theorem dX12_isCounted_1 : decode cX12_isCounted 1 = .ok (.getfield 36, 3) := dk_o180 (by decide +kernel)
theorem dX12_isCounted_4 : decode cX12_isCounted 4 = .ok (.ifCond .ne 17, 3) := dk_o154 (by decide +kernel)
theorem dX12_isCounted_7 : decode cX12_isCounted 7 = .ok (.iload_n 1, 1) := dk_o27 (by decide +kernel)
theorem dX12_isCounted_8 : decode cX12_isCounted 8 = .ok (.ifCond .eq 13, 3) := dk_o153 (by decide +kernel)
theorem dX12_isCounted_11 : decode cX12_isCounted 11 = .ok (.aload_n 0, 1) := dk_o42 (by decide +kernel)
theorem dX12_isCounted_12 : decode cX12_isCounted 12 = .ok (.bipush 6, 2) := dk_o16 (by decide +kernel)
theorem dX12_isCounted_14 : decode cX12_isCounted 14 = .ok (.aload_n 0, 1) := dk_o42 (by decide +kernel)
theorem dX12_isCounted_15 : decode cX12_isCounted 15 = .ok (.getfield 23, 3) := dk_o180 (by decide +kernel)
theorem dX12_isCounted_18 : decode cX12_isCounted 18 = .ok (.invokevirtual 255, 3) := dk_o182 (by decide +kernel)
theorem dX12_isCounted_21 : decode cX12_isCounted 21 = .ok (.aload_n 0, 1) := dk_o42 (by decide +kernel)
theorem dX12_isCounted_22 : decode cX12_isCounted 22 = .ok (.getfield 36, 3) := dk_o180 (by decide +kernel)
theorem dX12_isCounted_25 : decode cX12_isCounted 25 = .ok (.ifCond .ne 7, 3) := dk_o154 (by decide +kernel)
theorem dX12_isCounted_28 : decode cX12_isCounted 28 = .ok (.aload_n 0, 1) := dk_o42 (by decide +kernel)
theorem dX12_isCounted_29 : decode cX12_isCounted 29 = .ok (.invokevirtual 272, 3) := dk_o182 (by decide +kernel)
theorem dX12_isCounted_32 : decode cX12_isCounted 32 = .ok (.aload_n 0, 1) := dk_o42 (by decide +kernel)
theorem dX12_isCounted_33 : decode cX12_isCounted 33 = .ok (.getfield 36, 3) := dk_o180 (by decide +kernel)
theorem dX12_isCounted_36 : decode cX12_isCounted 36 = .ok (.ifCond .ne 7, 3) := dk_o154 (by decide +kernel)
theorem dX12_isCounted_39 : decode cX12_isCounted 39 = .ok (.iconst 1, 1) := dk_o4 (by decide +kernel)
theorem dX12_isCounted_40 : decode cX12_isCounted 40 = .ok (.goto 4, 3) := dk_o167 (by decide +kernel)
theorem dX12_isCounted_43 : decode cX12_isCounted 43 = .ok (.iconst 0, 1) := dk_o3 (by decide +kernel)
theorem dX12_isCounted_44 : decode cX12_isCounted 44 = .ok (.ireturn, 1) := dk_o172 (by decide +kernel)
theorem dX12_fresh_0 : decode cX12_fresh 0 = .ok (.aload_n 0, 1) := dk_o42 (by decide +kernel)
theorem dX12_fresh_1 : decode cX12_fresh 1 = .ok (.invokevirtual 266, 3) := dk_o182 (by decide +kernel)
theorem dX12_fresh_4 : decode cX12_fresh 4 = .ok (.aload_n 0, 1) := dk_o42 (by decide +kernel)
theorem dX12_fresh_5 : decode cX12_fresh 5 = .ok (.getfield 36, 3) := dk_o180 (by decide +kernel)
theorem dX12_fresh_8 : decode cX12_fresh 8 = .ok (.ifCond .le 5, 3) := dk_o158 (by decide +kernel)
theorem dX12_fresh_11 : decode cX12_fresh 11 = .ok (.lconst 0, 1) := dk_o9 (by decide +kernel)
theorem dX12_fresh_12 : decode cX12_fresh 12 = .ok (.lreturn, 1) := dk_o173 (by decide +kernel)
theorem dX12_fresh_13 : decode cX12_fresh 13 = .ok (.aload_n 0, 1) := dk_o42 (by decide +kernel)
theorem dX12_fresh_14 : decode cX12_fresh 14 = .ok (.getfield 20, 3) := dk_o180 (by decide +kernel)
theorem dX12_fresh_17 : decode cX12_fresh 17 = .ok (.iconst 1, 1) := dk_o4 (by decide +kernel)
theorem dX12_fresh_18 : decode cX12_fresh 18 = .ok (.if_icmp .ne 14, 3) := dk_o160 (by decide +kernel)
theorem dX12_fresh_21 : decode cX12_fresh 21 = .ok (.aload_n 0, 1) := dk_o42 (by decide +kernel)
theorem dX12_fresh_22 : decode cX12_fresh 22 = .ok (.aload_n 0, 1) := dk_o42 (by decide +kernel)
theorem dX12_fresh_23 : decode cX12_fresh 23 = .ok (.getfield 32, 3) := dk_o180 (by decide +kernel)
theorem dX12_fresh_26 : decode cX12_fresh 26 = .ok (.invokevirtual 368, 3) := dk_o182 (by decide +kernel)
theorem dX12_fresh_29 : decode cX12_fresh 29 = .ok (.ifCond .eq 12, 3) := dk_o153 (by decide +kernel)
theorem dX12_fresh_32 : decode cX12_fresh 32 = .ok (.aload_n 0, 1) := dk_o42 (by decide +kernel)
theorem dX12_fresh_33 : decode cX12_fresh 33 = .ok (.iconst 1, 1) := dk_o4 (by decide +kernel)
theorem dX12_fresh_34 : decode cX12_fresh 34 = .ok (.aload_n 0, 1) := dk_o42 (by decide +kernel)
theorem dX12_fresh_35 : decode cX12_fresh 35 = .ok (.getfield 23, 3) := dk_o180 (by decide +kernel)
theorem dX12_fresh_38 : decode cX12_fresh 38 = .ok (.invokevirtual 255, 3) := dk_o182 (by decide +kernel)
theorem dX12_fresh_41 : decode cX12_fresh 41 = .ok (.aload_n 0, 1) := dk_o42 (by decide +kernel)
theorem dX12_fresh_42 : decode cX12_fresh 42 = .ok (.getfield 36, 3) := dk_o180 (by decide +kernel)
theorem dX12_fresh_45 : decode cX12_fresh 45 = .ok (.ifCond .ne 23, 3) := dk_o154 (by decide +kernel)
theorem dX12_fresh_48 : decode cX12_fresh 48 = .ok (.aload_n 0, 1) := dk_o42 (by decide +kernel)
theorem dX12_fresh_49 : decode cX12_fresh 49 = .ok (.aload_n 0, 1) := dk_o42 (by decide +kernel)
theorem dX12_fresh_50 : decode cX12_fresh 50 = .ok (.getfield 32, 3) := dk_o180 (by decide +kernel)
theorem dX12_fresh_53 : decode cX12_fresh 53 = .ok (.invokevirtual 371, 3) := dk_o182 (by decide +kernel)
theorem dX12_fresh_56 : decode cX12_fresh 56 = .ok (.ifCond .eq 12, 3) := dk_o153 (by decide +kernel)
theorem dX12_fresh_59 : decode cX12_fresh 59 = .ok (.aload_n 0, 1) := dk_o42 (by decide +kernel)
theorem dX12_fresh_60 : decode cX12_fresh 60 = .ok (.iconst 2, 1) := dk_o5 (by decide +kernel)
theorem dX12_fresh_61 : decode cX12_fresh 61 = .ok (.aload_n 0, 1) := dk_o42 (by decide +kernel)
theorem dX12_fresh_62 : decode cX12_fresh 62 = .ok (.getfield 23, 3) := dk_o180 (by decide +kernel)
theorem dX12_fresh_65 : decode cX12_fresh 65 = .ok (.invokevirtual 255, 3) := dk_o182 (by decide +kernel)
theorem dX12_fresh_68 : decode cX12_fresh 68 = .ok (.aload_n 0, 1) := dk_o42 (by decide +kernel)
theorem dX12_fresh_69 : decode cX12_fresh 69 = .ok (.getfield 32, 3) := dk_o180 (by decide +kernel)
theorem dX12_fresh_72 : decode cX12_fresh 72 = .ok (.lstore_n 1, 1) := dk_o64 (by decide +kernel)
theorem dX12_fresh_73 : decode cX12_fresh 73 = .ok (.aload_n 0, 1) := dk_o42 (by decide +kernel)
theorem dX12_fresh_74 : decode cX12_fresh 74 = .ok (.getfield 36, 3) := dk_o180 (by decide +kernel)
theorem dX12_fresh_77 : decode cX12_fresh 77 = .ok (.ifCond .ne 7, 3) := dk_o154 (by decide +kernel)
theorem dX12_fresh_80 : decode cX12_fresh 80 = .ok (.aload_n 0, 1) := dk_o42 (by decide +kernel)
theorem dX12_fresh_81 : decode cX12_fresh 81 = .ok (.invokevirtual 272, 3) := dk_o182 (by decide +kernel)
theorem dX12_fresh_84 : decode cX12_fresh 84 = .ok (.lload_n 1, 1) := dk_o31 (by decide +kernel)
theorem dX12_fresh_85 : decode cX12_fresh 85 = .ok (.lreturn, 1) := dk_o173 (by decide +kernel)
theorem dX12_cellTold_0 : decode cX12_cellTold 0 = .ok (.aload_n 0, 1) := dk_o42 (by decide +kernel)
theorem dX12_cellTold_1 : decode cX12_cellTold 1 = .ok (.iconst 0, 1) := dk_o3 (by decide +kernel)
theorem dX12_cellTold_2 : decode cX12_cellTold 2 = .ok (.aload_n 0, 1) := dk_o42 (by decide +kernel)
theorem dX12_cellTold_3 : decode cX12_cellTold 3 = .ok (.getfield 54, 3) := dk_o180 (by decide +kernel)
theorem dX12_cellTold_6 : decode cX12_cellTold 6 = .ok (.aload_n 0, 1) := dk_o42 (by decide +kernel)
theorem dX12_cellTold_7 : decode cX12_cellTold 7 = .ok (.getfield 118, 3) := dk_o180 (by decide +kernel)
theorem dX12_cellTold_10 : decode cX12_cellTold 10 = .ok (.iaload, 1) := dk_o46 (by decide +kernel)
theorem dX12_cellTold_11 : decode cX12_cellTold 11 = .ok (.iconst 1, 1) := dk_o4 (by decide +kernel)
theorem dX12_cellTold_12 : decode cX12_cellTold 12 = .ok (.isub, 1) := dk_o100 (by decide +kernel)
theorem dX12_cellTold_13 : decode cX12_cellTold 13 = .ok (.invokevirtual 374, 3) := dk_o182 (by decide +kernel)
theorem dX12_cellTold_16 : decode cX12_cellTold 16 = .ok (.istore_n 1, 1) := dk_o60 (by decide +kernel)
theorem dX12_cellTold_17 : decode cX12_cellTold 17 = .ok (.aload_n 0, 1) := dk_o42 (by decide +kernel)
theorem dX12_cellTold_18 : decode cX12_cellTold 18 = .ok (.iconst 0, 1) := dk_o3 (by decide +kernel)
theorem dX12_cellTold_19 : decode cX12_cellTold 19 = .ok (.aload_n 0, 1) := dk_o42 (by decide +kernel)
theorem dX12_cellTold_20 : decode cX12_cellTold 20 = .ok (.getfield 57, 3) := dk_o180 (by decide +kernel)
theorem dX12_cellTold_23 : decode cX12_cellTold 23 = .ok (.aload_n 0, 1) := dk_o42 (by decide +kernel)
theorem dX12_cellTold_24 : decode cX12_cellTold 24 = .ok (.getfield 118, 3) := dk_o180 (by decide +kernel)
theorem dX12_cellTold_27 : decode cX12_cellTold 27 = .ok (.iaload, 1) := dk_o46 (by decide +kernel)
theorem dX12_cellTold_28 : decode cX12_cellTold 28 = .ok (.iconst 1, 1) := dk_o4 (by decide +kernel)
theorem dX12_cellTold_29 : decode cX12_cellTold 29 = .ok (.isub, 1) := dk_o100 (by decide +kernel)
theorem dX12_cellTold_30 : decode cX12_cellTold 30 = .ok (.invokevirtual 374, 3) := dk_o182 (by decide +kernel)
theorem dX12_cellTold_33 : decode cX12_cellTold 33 = .ok (.istore_n 2, 1) := dk_o61 (by decide +kernel)
theorem dX12_cellTold_34 : decode cX12_cellTold 34 = .ok (.aload_n 0, 1) := dk_o42 (by decide +kernel)
theorem dX12_cellTold_35 : decode cX12_cellTold 35 = .ok (.getfield 36, 3) := dk_o180 (by decide +kernel)
theorem dX12_cellTold_38 : decode cX12_cellTold 38 = .ok (.ifCond .le 7, 3) := dk_o158 (by decide +kernel)
theorem dX12_cellTold_41 : decode cX12_cellTold 41 = .ok (.iconst 0, 1) := dk_o3 (by decide +kernel)
theorem dX12_cellTold_42 : decode cX12_cellTold 42 = .ok (.goto 9, 3) := dk_o167 (by decide +kernel)
theorem dX12_cellTold_45 : decode cX12_cellTold 45 = .ok (.bipush 8, 2) := dk_o16 (by decide +kernel)
theorem dX12_cellTold_47 : decode cX12_cellTold 47 = .ok (.iload_n 2, 1) := dk_o28 (by decide +kernel)
theorem dX12_cellTold_48 : decode cX12_cellTold 48 = .ok (.imul, 1) := dk_o104 (by decide +kernel)
theorem dX12_cellTold_49 : decode cX12_cellTold 49 = .ok (.iload_n 1, 1) := dk_o27 (by decide +kernel)
theorem dX12_cellTold_50 : decode cX12_cellTold 50 = .ok (.iadd, 1) := dk_o96 (by decide +kernel)
theorem dX12_cellTold_51 : decode cX12_cellTold 51 = .ok (.ireturn, 1) := dk_o172 (by decide +kernel)
theorem dX12_telling_0 : decode cX12_telling 0 = .ok (.aload_n 0, 1) := dk_o42 (by decide +kernel)
theorem dX12_telling_1 : decode cX12_telling 1 = .ok (.iconst 0, 1) := dk_o3 (by decide +kernel)
theorem dX12_telling_2 : decode cX12_telling 2 = .ok (.invokevirtual 382, 3) := dk_o182 (by decide +kernel)
theorem dX12_telling_5 : decode cX12_telling 5 = .ok (.ifCond .ne 5, 3) := dk_o154 (by decide +kernel)
theorem dX12_telling_8 : decode cX12_telling 8 = .ok (.iconst 0, 1) := dk_o3 (by decide +kernel)
theorem dX12_telling_9 : decode cX12_telling 9 = .ok (.ireturn, 1) := dk_o172 (by decide +kernel)
theorem dX12_telling_10 : decode cX12_telling 10 = .ok (.aload_n 0, 1) := dk_o42 (by decide +kernel)
theorem dX12_telling_11 : decode cX12_telling 11 = .ok (.iconst 0, 1) := dk_o3 (by decide +kernel)
theorem dX12_telling_12 : decode cX12_telling 12 = .ok (.iload_n 1, 1) := dk_o27 (by decide +kernel)
theorem dX12_telling_13 : decode cX12_telling 13 = .ok (.invokevirtual 374, 3) := dk_o182 (by decide +kernel)
theorem dX12_telling_16 : decode cX12_telling 16 = .ok (.ireturn, 1) := dk_o172 (by decide +kernel)
theorem dX12_grading_0 : decode cX12_grading 0 = .ok (.aload_n 0, 1) := dk_o42 (by decide +kernel)
theorem dX12_grading_1 : decode cX12_grading 1 = .ok (.iconst 0, 1) := dk_o3 (by decide +kernel)
theorem dX12_grading_2 : decode cX12_grading 2 = .ok (.invokevirtual 382, 3) := dk_o182 (by decide +kernel)
theorem dX12_grading_5 : decode cX12_grading 5 = .ok (.ifCond .ne 4, 3) := dk_o154 (by decide +kernel)
theorem dX12_grading_8 : decode cX12_grading 8 = .ok (.return_, 1) := dk_o177 (by decide +kernel)
theorem dX12_grading_9 : decode cX12_grading 9 = .ok (.aload_n 0, 1) := dk_o42 (by decide +kernel)
theorem dX12_grading_10 : decode cX12_grading 10 = .ok (.invokevirtual 386, 3) := dk_o182 (by decide +kernel)
theorem dX12_grading_13 : decode cX12_grading 13 = .ok (.istore_n 1, 1) := dk_o60 (by decide +kernel)
theorem dX12_grading_14 : decode cX12_grading 14 = .ok (.aload_n 0, 1) := dk_o42 (by decide +kernel)
theorem dX12_grading_15 : decode cX12_grading 15 = .ok (.iconst 0, 1) := dk_o3 (by decide +kernel)
theorem dX12_grading_16 : decode cX12_grading 16 = .ok (.bipush 9, 2) := dk_o16 (by decide +kernel)
theorem dX12_grading_18 : decode cX12_grading 18 = .ok (.invokevirtual 374, 3) := dk_o182 (by decide +kernel)
theorem dX12_grading_21 : decode cX12_grading 21 = .ok (.istore_n 2, 1) := dk_o61 (by decide +kernel)
theorem dX12_grading_22 : decode cX12_grading 22 = .ok (.aload_n 0, 1) := dk_o42 (by decide +kernel)
theorem dX12_grading_23 : decode cX12_grading 23 = .ok (.getfield 36, 3) := dk_o180 (by decide +kernel)
theorem dX12_grading_26 : decode cX12_grading 26 = .ok (.ifCond .ne 18, 3) := dk_o154 (by decide +kernel)
theorem dX12_grading_29 : decode cX12_grading 29 = .ok (.aload_n 0, 1) := dk_o42 (by decide +kernel)
theorem dX12_grading_30 : decode cX12_grading 30 = .ok (.getfield 69, 3) := dk_o180 (by decide +kernel)
theorem dX12_grading_33 : decode cX12_grading 33 = .ok (.bipush 64, 2) := dk_o16 (by decide +kernel)
theorem dX12_grading_35 : decode cX12_grading 35 = .ok (.aload_n 0, 1) := dk_o42 (by decide +kernel)
theorem dX12_grading_36 : decode cX12_grading 36 = .ok (.getfield 118, 3) := dk_o180 (by decide +kernel)
theorem dX12_grading_39 : decode cX12_grading 39 = .ok (.imul, 1) := dk_o104 (by decide +kernel)
theorem dX12_grading_40 : decode cX12_grading 40 = .ok (.iload_n 1, 1) := dk_o27 (by decide +kernel)
theorem dX12_grading_41 : decode cX12_grading 41 = .ok (.iadd, 1) := dk_o96 (by decide +kernel)
theorem dX12_grading_42 : decode cX12_grading 42 = .ok (.iload_n 2, 1) := dk_o28 (by decide +kernel)
theorem dX12_grading_43 : decode cX12_grading 43 = .ok (.iastore, 1) := dk_o79 (by decide +kernel)
theorem dX12_grading_44 : decode cX12_grading 44 = .ok (.return_, 1) := dk_o177 (by decide +kernel)
theorem wB_364 : Cond.code yX12_isOwn cX12_isOwn 3 (some .boolean) ∈ dgB := List.mem_filter.mpr ⟨tbl_8 _ (List.mem_of_getElem? (i := 24) rfl), rfl⟩
theorem wB_365 : Cond.methodLink RX12 368 yX12_isOwn ∈ dgB := List.mem_filter.mpr ⟨tbl_8 _ (List.mem_of_getElem? (i := 21) (by decide +kernel)), by decide +kernel⟩
theorem wB_366 : Cond.instanceMethod yX12_isOwn ∈ dgB := List.mem_filter.mpr ⟨tbl_8 _ (List.mem_of_getElem? (i := 23) (by decide +kernel)), by decide +kernel⟩
theorem wB_367 : Cond.selects RX12 yX12_isOwn yX12_isOwn ∈ dgB := List.mem_filter.mpr ⟨List.mem_of_getElem? (i := 100) (by decide +kernel), by decide +kernel⟩
theorem wB_368 : Cond.code yX12_isNamed cX12_isNamed 4 (some .boolean) ∈ dgB := List.mem_filter.mpr ⟨tbl_8 _ (List.mem_of_getElem? (i := 48) rfl), rfl⟩
theorem wB_369 : Cond.methodLink RX12 371 yX12_isNamed ∈ dgB := List.mem_filter.mpr ⟨tbl_8 _ (List.mem_of_getElem? (i := 45) (by decide +kernel)), by decide +kernel⟩
theorem wB_370 : Cond.instanceMethod yX12_isNamed ∈ dgB := List.mem_filter.mpr ⟨tbl_8 _ (List.mem_of_getElem? (i := 47) (by decide +kernel)), by decide +kernel⟩
theorem wB_371 : Cond.selects RX12 yX12_isNamed yX12_isNamed ∈ dgB := List.mem_filter.mpr ⟨List.mem_of_getElem? (i := 101) (by decide +kernel), by decide +kernel⟩
theorem wB_372 : Cond.fieldLink RX12 54 "DarkMineModel" "columns" "[I" ∈ dgB := List.mem_filter.mpr ⟨tbl_6 _ (List.mem_of_getElem? (i := 177) (by decide +kernel)), by decide +kernel⟩
theorem wB_373 : Cond.code yX12_number cX12_number 4 (some .int) ∈ dgB := List.mem_filter.mpr ⟨tbl_7 _ (List.mem_of_getElem? (i := 211) rfl), rfl⟩
theorem wB_374 : Cond.methodLink RX12 374 yX12_number ∈ dgB := List.mem_filter.mpr ⟨tbl_7 _ (List.mem_of_getElem? (i := 208) (by decide +kernel)), by decide +kernel⟩
theorem wB_375 : Cond.instanceMethod yX12_number ∈ dgB := List.mem_filter.mpr ⟨tbl_7 _ (List.mem_of_getElem? (i := 210) (by decide +kernel)), by decide +kernel⟩
theorem wB_376 : Cond.selects RX12 yX12_number yX12_number ∈ dgB := List.mem_filter.mpr ⟨List.mem_of_getElem? (i := 89) (by decide +kernel), by decide +kernel⟩
theorem wB_377 : Cond.fieldLink RX12 57 "DarkMineModel" "rows" "[I" ∈ dgB := List.mem_filter.mpr ⟨tbl_6 _ (List.mem_of_getElem? (i := 178) (by decide +kernel)), by decide +kernel⟩
theorem wB_378 : Cond.code yX12_isCounted cX12_isCounted 2 (some .boolean) ∈ dgB := List.mem_filter.mpr ⟨tbl_8 _ (List.mem_of_getElem? (i := 0) rfl), rfl⟩
theorem wB_379 : Cond.methodLink RX12 382 yX12_isCounted ∈ dgB := List.mem_filter.mpr ⟨tbl_7 _ (List.mem_of_getElem? (i := 237) (by decide +kernel)), by decide +kernel⟩
theorem wB_380 : Cond.instanceMethod yX12_isCounted ∈ dgB := List.mem_filter.mpr ⟨tbl_7 _ (List.mem_of_getElem? (i := 239) (by decide +kernel)), by decide +kernel⟩
theorem wB_381 : Cond.selects RX12 yX12_isCounted yX12_isCounted ∈ dgB := List.mem_filter.mpr ⟨List.mem_of_getElem? (i := 95) (by decide +kernel), by decide +kernel⟩
theorem wB_382 : Cond.code yX12_cellTold cX12_cellTold 3 (some .int) ∈ dgB := List.mem_filter.mpr ⟨tbl_8 _ (List.mem_of_getElem? (i := 11) rfl), rfl⟩
theorem wB_383 : Cond.methodLink RX12 386 yX12_cellTold ∈ dgB := List.mem_filter.mpr ⟨tbl_8 _ (List.mem_of_getElem? (i := 8) (by decide +kernel)), by decide +kernel⟩
theorem wB_384 : Cond.instanceMethod yX12_cellTold ∈ dgB := List.mem_filter.mpr ⟨tbl_8 _ (List.mem_of_getElem? (i := 10) (by decide +kernel)), by decide +kernel⟩
theorem wB_385 : Cond.selects RX12 yX12_cellTold yX12_cellTold ∈ dgB := List.mem_filter.mpr ⟨List.mem_of_getElem? (i := 97) (by decide +kernel), by decide +kernel⟩
theorem wB_386 : Cond.fieldLink RX12 69 "DarkMineModel" "gradeTold" "[I" ∈ dgB := List.mem_filter.mpr ⟨tbl_6 _ (List.mem_of_getElem? (i := 182) (by decide +kernel)), by decide +kernel⟩
set_option maxHeartbeats 8000000 in
set_option maxRecDepth 100000 in
theorem c_m_isCounted (l : Launch) (g : Nat → ClassId) (D : va_G) (o : Nat) (S : dg_S) (a1 : Int32) (b_a1 : 0 ≤ (a1).toInt ∧ (a1).toInt ≤ 1) (tb : Nat → Int32) (tn : Nat) (sg : Int32) (f_sg : S.1 0 3 = .int sg) (b_sg : 0 ≤ (sg).toInt ∧ (sg).toInt ≤ 3) (sa : Int32) (f_sa : S.1 0 4 = .int sa) (b_sa : 0 ≤ (sa).toInt ∧ (sa).toInt ≤ 1600) (se : Int32) (f_se : S.1 0 5 = .int se) (b_se : 0 ≤ (se).toInt ∧ (se).toInt ≤ 1600) (sl : Int32) (f_sl : S.1 0 2 = .int sl) (b_sl : 0 ≤ (sl).toInt ∧ (sl).toInt ≤ 1600) (fk : Int32) (f_fk : S.1 0 8 = .int fk) (b_fk : 0 ≤ (fk).toInt ∧ (fk).toInt ≤ 6) (hlx : (sa).toInt ≤ (se).toInt ∧ (se).toInt ≤ (sl).toInt ∧ ((sg).toInt ≠ 0 → (sa).toInt + 1 ≤ (se).toInt)) (hk0 : (fk).toInt = 0 → (T_kd tb tn (t_ix tb tn (sa : Int32).toNatClampNeg)).toInt ≠ 0) (TK : TKM tb tn S) (I : CM o S) (sz : Nat) : Met l yX12_isCounted (bw yX12_isCounted cX12_isCounted 2 (some .boolean)) ({ frames := 3, cells := 0, slots := 0, locals := 77 } : Room) (dk_Pc g D (dg_w g shM o rfM S) sz [.ref (o + 0), .int a1]) (va_Qi (fun (r : Int32) S' => CM o S' ∧ dg_sm shM [(0, 3), (0, 4), (0, 5), (0, 6), (0, 7), (0, 8), (0, 9), (0, 12)] [] S S' ∧ (0 ≤ (r).toInt ∧ (r).toInt ≤ 1) ∧ (∃ y9_3 y9_4 y9_5 y9_8 : Int32, S'.1 0 3 = .int y9_3 ∧ S'.1 0 4 = .int y9_4 ∧ S'.1 0 5 = .int y9_5 ∧ S'.1 0 8 = .int y9_8 ∧ ((((y9_4).toInt ≤ (y9_5).toInt ∧ (y9_5).toInt ≤ (sl).toInt ∧ ((y9_3).toInt ≠ 0 → (y9_4).toInt + 1 ≤ (y9_5).toInt)) ∧ (sa).toInt ≤ (y9_4).toInt ∧ ((fk).toInt ≠ 0 → (y9_8).toInt ≠ 0) ∧ (((r).toInt = 1 → ((y9_8).toInt = 0 ∧ (fk).toInt = 0 ∧ (a1).toInt = 0 ∧ ((sg).toInt ≠ 0 → (sa).toInt + 1 ≤ (y9_4).toInt))) ∧ ((r).toInt = 0 → (y9_8).toInt ≠ 0))) ∧ (((r).toInt = 1 → (t_ix tb tn (y9_4 : Int32).toNatClampNeg) = (t_ix tb tn (sa : Int32).toNatClampNeg) + 1) ∧ ((fk).toInt = 0 → (a1).toInt = 0 → (r).toInt = 1)))) ∧ TKM tb tn S' ∧ True) (dg_B g D shM o rfM) (dg_A o shM.length sz)) 0 0 (dg_A o shM.length sz) := by
  refine dg_met (cc := cX12_isCounted) (maxL := 2) (ret := (some .boolean)) (dk_dq rfl) rfl (Nat.le_of_ble_eq_true rfl) ?_
  intro p e s m args below meth c A hAe harg hx hb hr hml hts hown hlocks hin hP K hS hA1 hA ST hsz ls hl
  rw [← hAe]
  have F : CallFix p m c cX12_isCounted 2 s args (bw yX12_isCounted cX12_isCounted 2 (some .boolean)) RX12 := ⟨hx, hb, hml, hown, hts⟩
  have hl : lv_has ls 2 [(0, .ref (o + 0)), (1, .int a1)] := hl
  have M_0 : dg_sm shM [(0, 3), (0, 4), (0, 5), (0, 6), (0, 7), (0, 8), (0, 9), (0, 12)] [] S S := dg_sm.rf
  obtain ⟨Q9, hQ9⟩ : ∃ Q : State → Prop, Q = MQ below (va_Qi (fun (r : Int32) S' => CM o S' ∧ dg_sm shM [(0, 3), (0, 4), (0, 5), (0, 6), (0, 7), (0, 8), (0, 9), (0, 12)] [] S S' ∧ (0 ≤ (r).toInt ∧ (r).toInt ≤ 1) ∧ (∃ y9_3 y9_4 y9_5 y9_8 : Int32, S'.1 0 3 = .int y9_3 ∧ S'.1 0 4 = .int y9_4 ∧ S'.1 0 5 = .int y9_5 ∧ S'.1 0 8 = .int y9_8 ∧ ((((y9_4).toInt ≤ (y9_5).toInt ∧ (y9_5).toInt ≤ (sl).toInt ∧ ((y9_3).toInt ≠ 0 → (y9_4).toInt + 1 ≤ (y9_5).toInt)) ∧ (sa).toInt ≤ (y9_4).toInt ∧ ((fk).toInt ≠ 0 → (y9_8).toInt ≠ 0) ∧ (((r).toInt = 1 → ((y9_8).toInt = 0 ∧ (fk).toInt = 0 ∧ (a1).toInt = 0 ∧ ((sg).toInt ≠ 0 → (sa).toInt + 1 ≤ (y9_4).toInt))) ∧ ((r).toInt = 0 → (y9_8).toInt ≠ 0))) ∧ (((r).toInt = 1 → (t_ix tb tn (y9_4 : Int32).toNatClampNeg) = (t_ix tb tn (sa : Int32).toNatClampNeg) + 1) ∧ ((fk).toInt = 0 → (a1).toInt = 0 → (r).toInt = 1)))) ∧ TKM tb tn S' ∧ True) (dg_B g D shM o rfM) A) args s 0 0 A := ⟨_, rfl⟩
  rw [← hQ9]
  obtain ⟨hlx_0, hlx_1, hlx_2⟩ := hlx
  refine lv_aload_n hx hb dX12_isCounted_0 rfl (lv_at hl 0 rfl) ?_
  refine dg_get (C := RX12) (T := TX12) (N := 77) hx hb hts (fun w h => bw_mem (wU_X12 w h)) hown K hP sM_0 rfl 8 (dk_dq rfl) (hts _ (bw_mem wB_303)) (fun _ h9 => h9) (v := .int fk) f_fk dX12_isCounted_1 ?_
  refine lv_if_ne (tgt := 21) hx hb dX12_isCounted_4 (dk_dq rfl) (fun c_1 => ?_) (fun c_1 => ?_)
  · as_aux_lemma =>
      have jc_1 := dk_neqc (k := 0) (by decide +kernel) c_1
      have jbc_1 : 1 ≤ (fk).toInt := by omega
      clear jc_1
      clear hk0
      refine lv_aload_n hx hb dX12_isCounted_21 rfl (lv_at hl 0 rfl) ?_
      refine dg_get (C := RX12) (T := TX12) (N := 77) hx hb hts (fun w h => bw_mem (wU_X12 w h)) hown K hP sM_0 rfl 8 (dk_dq rfl) (hts _ (bw_mem wB_303)) (fun _ h9 => h9) (v := .int fk) f_fk dX12_isCounted_22 ?_
      refine lv_if_ne (tgt := 32) hx hb dX12_isCounted_25 (dk_dq rfl) (fun _ => ?_) (fun c => absurd c (fun z => absurd (dk_eqc (k := 0) (by decide +kernel) z) (by omega)))
      refine lv_aload_n hx hb dX12_isCounted_32 rfl (lv_at hl 0 rfl) ?_
      refine dg_get (C := RX12) (T := TX12) (N := 77) hx hb hts (fun w h => bw_mem (wU_X12 w h)) hown K hP sM_0 rfl 8 (dk_dq rfl) (hts _ (bw_mem wB_303)) (fun _ h9 => h9) (v := .int fk) f_fk dX12_isCounted_33 ?_
      refine lv_if_ne (tgt := 43) hx hb dX12_isCounted_36 (dk_dq rfl) (fun _ => ?_) (fun c => absurd c (fun z => absurd (dk_eqc (k := 0) (by decide +kernel) z) (by omega)))
      refine lv_iconst (v := 0) hx hb dX12_isCounted_43 (by decide +kernel) ?_
      have hz_2 : (0 : Int32).toInt = 0 := by decide +kernel
      have hz_3 : (0 : Int32).toInt = 0 := by decide +kernel
      refine W.widen (k := 0) (n := 0) (Nat.le_of_ble_eq_true rfl) (Nat.le_of_ble_eq_true rfl) ?_
      rw [hQ9]
      exact dg_iret hx hb hr hlocks (by decide +kernel) hP hS ⟨I, M_0, (by decide +kernel), ⟨sg, sa, se, fk, f_sg, f_sa, f_se, f_fk, (by omega)⟩, TK, trivial⟩ dX12_isCounted_44
  · as_aux_lemma =>
      have jc_1 := dk_eqc (k := 0) (by decide +kernel) c_1
      have hk0r := hk0 (by omega)
      clear hk0
      refine lv_iload_n hx hb dX12_isCounted_7 rfl (lv_at hl 1 rfl) ?_
      refine lv_if_eq (tgt := 21) hx hb dX12_isCounted_8 (dk_dq rfl) (fun c_4 => ?_) (fun c_4 => ?_)
      · as_aux_lemma =>
          have jc_4 := dk_eqc (k := 0) (by decide +kernel) c_4
          refine lv_aload_n hx hb dX12_isCounted_21 rfl (lv_at hl 0 rfl) ?_
          refine dg_get (C := RX12) (T := TX12) (N := 77) hx hb hts (fun w h => bw_mem (wU_X12 w h)) hown K hP sM_0 rfl 8 (dk_dq rfl) (hts _ (bw_mem wB_303)) (fun _ h9 => h9) (v := .int fk) f_fk dX12_isCounted_22 ?_
          refine lv_if_ne (tgt := 32) hx hb dX12_isCounted_25 (dk_dq rfl) (fun c => absurd (dk_eqp (k := 0) (by decide +kernel) (by omega)) c) (fun _ => ?_)
          refine lv_aload_n hx hb dX12_isCounted_28 rfl (lv_at hl 0 rfl) ?_
          refine dg_callv hS hA1 hA (va_runV (As := []) (rest := []) F (c_m_ahead l g D o S tb tn se f_se (by omega) sl f_sl (by omega) (by omega) TK.1 I s.heap.size) (cwV 0 hts (bw_V wB_318 wB_319 wB_320 wB_297 wB_317) rfl rfl rfl (by decide +kernel) ⟨Nat.le_of_ble_eq_true rfl, Nat.le_of_ble_eq_true rfl⟩) (dg_preV sM_0 rfl K ST hP hS hA1 hA) rfl rfl hl.1 rfl (lv_room (Nat.le_of_ble_eq_true rfl)) dX12_isCounted_29 ⟨Nat.le_of_ble_eq_true rfl, Nat.le_of_ble_eq_true rfl⟩) (fun S_5 hw_5 H locs hP hS => ?_)
          obtain ⟨I_5, m_5, w_5_0, w_5_1, -⟩ := hw_5
          have M_5 := dg_sm.tr M_0 m_5 (dk_dq rfl) (dk_dq rfl)
          obtain ⟨y_6, y_7, y_8, f_y_6, f_y_7, f_y_8, w_5_0⟩ := w_5_0
          have w_5_0 : (se).toInt ≤ (y_7).toInt ∧ (y_7).toInt ≤ (y_8).toInt ∧ (y_8).toInt ≤ (sl).toInt ∧ ((y_6).toInt ≠ 0 → (y_7).toInt + 1 ≤ (y_8).toInt) := w_5_0
          obtain ⟨w_5_0_0, w_5_0_1, w_5_0_2, w_5_0_3⟩ := w_5_0
          have b_y_6 : 0 ≤ (y_6).toInt ∧ (y_6).toInt ≤ 3 := dg_I.intb (lo := 0) (hi := 3) I_5 sM_0 (by decide +kernel) f_y_6
          have b_y_7 : 0 ≤ (y_7).toInt ∧ (y_7).toInt ≤ 1600 := dg_I.intb (lo := 0) (hi := 1600) I_5 sM_0 (by decide +kernel) f_y_7
          have b_y_8 : 0 ≤ (y_8).toInt ∧ (y_8).toInt ≤ 1600 := dg_I.intb (lo := 0) (hi := 1600) I_5 sM_0 (by decide +kernel) f_y_8
          replace w_5_1 : TNX tb tn se S_5 := w_5_1
          obtain ⟨TK_5, nx_5, -⟩ := TKM.nx TK f_sa f_se w_5_1 m_5 (dk_dq rfl) (dk_dq rfl) f_y_7
          refine lv_aload_n hx hb dX12_isCounted_32 rfl (lv_at hl 0 rfl) ?_
          refine dg_get (C := RX12) (T := TX12) (N := 77) hx hb hts (fun w h => bw_mem (wU_X12 w h)) hown K hP sM_0 rfl 8 (dk_dq rfl) (hts _ (bw_mem wB_303)) (fun _ h9 => h9) (v := .int fk) ((m_5.1 0 8 _ sM_0 (dk_dq rfl)).trans f_fk) dX12_isCounted_33 ?_
          refine lv_if_ne (tgt := 43) hx hb dX12_isCounted_36 (dk_dq rfl) (fun c => absurd (dk_eqp (k := 0) (by decide +kernel) (by omega)) c) (fun _ => ?_)
          refine lv_iconst (v := 1) hx hb dX12_isCounted_39 (by decide +kernel) ?_
          refine lv_goto (tgt := 44) hx hb dX12_isCounted_40 (dk_dq rfl) ?_
          have hz_9 : (1 : Int32).toInt = 1 := by decide +kernel
          have hz_10 : (1 : Int32).toInt = 1 := by decide +kernel
          refine W.widen (k := 0) (n := 0) (Nat.le_of_ble_eq_true rfl) (Nat.le_of_ble_eq_true rfl) ?_
          rw [hQ9]
          exact dg_iret hx hb hr hlocks (by decide +kernel) hP hS ⟨I_5, M_5, (by decide +kernel), ⟨y_6, y_7, y_8, fk, f_y_6, f_y_7, f_y_8, ((m_5.1 0 8 _ sM_0 (dk_dq rfl)).trans f_fk), (by omega)⟩, TK_5, trivial⟩ dX12_isCounted_44
      · as_aux_lemma =>
          have jc_4 := dk_neqc (k := 0) (by decide +kernel) c_4
          have jbc_4 : 1 ≤ (a1).toInt := by omega
          clear jc_4
          refine lv_aload_n hx hb dX12_isCounted_11 rfl (lv_at hl 0 rfl) ?_
          refine lv_bipush (v := 6) hx hb dX12_isCounted_12 (by decide +kernel) ?_
          refine lv_aload_n hx hb dX12_isCounted_14 rfl (lv_at hl 0 rfl) ?_
          refine dg_get (C := RX12) (T := TX12) (N := 77) hx hb hts (fun w h => bw_mem (wU_X12 w h)) hown K hP sM_0 rfl 4 (dk_dq rfl) (hts _ (bw_mem wB_291)) (fun _ h9 => h9) (v := .int sa) f_sa dX12_isCounted_15 ?_
          have hz_11 : (6 : Int32).toInt = 6 := by decide +kernel
          refine dg_callv hS hA1 hA (va_runV (As := [.int 6, .int sa]) (rest := []) F (c_m_blame l g D o S 6 (by decide +kernel) sa fk f_fk (by omega) I s.heap.size) (cwV 2 hts (bw_V wB_306 wB_307 wB_308 wB_297 wB_305) rfl rfl rfl (by decide +kernel) ⟨Nat.le_of_ble_eq_true rfl, Nat.le_of_ble_eq_true rfl⟩) (dg_preV sM_0 rfl K ST hP hS hA1 hA) rfl rfl hl.1 rfl (lv_room (Nat.le_of_ble_eq_true rfl)) dX12_isCounted_18 ⟨Nat.le_of_ble_eq_true rfl, Nat.le_of_ble_eq_true rfl⟩) (fun S_12 hw_12 H locs hP hS => ?_)
          obtain ⟨I_12, m_12, w_12_0, -⟩ := hw_12
          have M_12 := dg_sm.tr M_0 m_12 (dk_dq rfl) (dk_dq rfl)
          have hz_13 : (6 : Int32).toInt = 6 := by decide +kernel
          obtain ⟨y_14, f_y_14, w_12_0⟩ := w_12_0
          have w_12_0 : ((fk).toInt ≠ 0 → (y_14).toInt = (fk).toInt) ∧ ((fk).toInt = 0 → (y_14).toInt = ((6 : Int32)).toInt) := w_12_0
          obtain ⟨w_12_0_0, w_12_0_1⟩ := w_12_0
          clear w_12_0_0
          have w_12_0_1r := w_12_0_1 (by omega)
          clear w_12_0_1
          have b_y_14 : 0 ≤ (y_14).toInt ∧ (y_14).toInt ≤ 6 := dg_I.intb (lo := 0) (hi := 6) I_12 sM_0 (by decide +kernel) f_y_14
          have hbl_y_14 : 1 ≤ (y_14).toInt := by omega
          refine lv_aload_n hx hb dX12_isCounted_21 rfl (lv_at hl 0 rfl) ?_
          refine dg_get (C := RX12) (T := TX12) (N := 77) hx hb hts (fun w h => bw_mem (wU_X12 w h)) hown K hP sM_0 rfl 8 (dk_dq rfl) (hts _ (bw_mem wB_303)) (fun _ h9 => h9) (v := .int y_14) f_y_14 dX12_isCounted_22 ?_
          refine lv_if_ne (tgt := 32) hx hb dX12_isCounted_25 (dk_dq rfl) (fun _ => ?_) (fun c => absurd c (fun z => absurd (dk_eqc (k := 0) (by decide +kernel) z) (by omega)))
          refine lv_aload_n hx hb dX12_isCounted_32 rfl (lv_at hl 0 rfl) ?_
          refine dg_get (C := RX12) (T := TX12) (N := 77) hx hb hts (fun w h => bw_mem (wU_X12 w h)) hown K hP sM_0 rfl 8 (dk_dq rfl) (hts _ (bw_mem wB_303)) (fun _ h9 => h9) (v := .int y_14) f_y_14 dX12_isCounted_33 ?_
          refine lv_if_ne (tgt := 43) hx hb dX12_isCounted_36 (dk_dq rfl) (fun _ => ?_) (fun c => absurd c (fun z => absurd (dk_eqc (k := 0) (by decide +kernel) z) (by omega)))
          refine lv_iconst (v := 0) hx hb dX12_isCounted_43 (by decide +kernel) ?_
          have hz_15 : (0 : Int32).toInt = 0 := by decide +kernel
          have hz_16 : (0 : Int32).toInt = 0 := by decide +kernel
          refine W.widen (k := 0) (n := 0) (Nat.le_of_ble_eq_true rfl) (Nat.le_of_ble_eq_true rfl) ?_
          rw [hQ9]
          exact dg_iret hx hb hr hlocks (by decide +kernel) hP hS ⟨I_12, M_12, (by decide +kernel), ⟨sg, sa, se, y_14, ((m_12.1 0 3 _ sM_0 (dk_dq rfl)).trans f_sg), ((m_12.1 0 4 _ sM_0 (dk_dq rfl)).trans f_sa), ((m_12.1 0 5 _ sM_0 (dk_dq rfl)).trans f_se), f_y_14, (by omega)⟩, (TKM.keep TK m_12 (dk_dq rfl) (dk_dq rfl) (dk_dq rfl) (dk_dq rfl) (dk_dq rfl) (dk_dq rfl) (dk_dq rfl) (dk_dq rfl)), trivial⟩ dX12_isCounted_44
set_option maxHeartbeats 8000000 in
set_option maxRecDepth 100000 in
theorem c_m_fresh (l : Launch) (g : Nat → ClassId) (D : va_G) (o : Nat) (S : dg_S) (tb : Nat → Int32) (tn : Nat) (sg9 : y_S) (sg : Int32) (f_sg : S.1 0 3 = .int sg) (b_sg : 0 ≤ (sg).toInt ∧ (sg).toInt ≤ 3) (sa : Int32) (f_sa : S.1 0 4 = .int sa) (b_sa : 0 ≤ (sa).toInt ∧ (sa).toInt ≤ 1600) (se : Int32) (f_se : S.1 0 5 = .int se) (b_se : 0 ≤ (se).toInt ∧ (se).toInt ≤ 1600) (sl : Int32) (f_sl : S.1 0 2 = .int sl) (b_sl : 0 ≤ (sl).toInt ∧ (sl).toInt ≤ 1600) (fk : Int32) (f_fk : S.1 0 8 = .int fk) (b_fk : 0 ≤ (fk).toInt ∧ (fk).toInt ≤ 6) (ii : Int32) (f_ii : S.1 0 35 = .int ii) (b_ii : 0 ≤ (ii).toInt ∧ (ii).toInt ≤ 1) (mi : Int32) (f_mi : S.2.1 8 (ii : Int32).toNatClampNeg = mi) (b_mi : 0 ≤ (mi).toInt ∧ (mi).toInt ≤ 6) (od : Int32) (f_od : S.2.1 12 (ii : Int32).toNatClampNeg = od) (b_od : 0 ≤ (od).toInt ∧ (od).toInt ≤ 5) (hlx : (sa).toInt ≤ (se).toInt ∧ (se).toInt ≤ (sl).toInt ∧ ((sg).toInt ≠ 0 → (sa).toInt + 1 ≤ (se).toInt)) (TK : TKM tb tn S) (GS : GSM sg9 S) (I : CM o S) (sz : Nat) : Met l yX12_fresh (bw yX12_fresh cX12_fresh 3 (some .long)) ({ frames := 3, cells := 0, slots := 0, locals := 78 } : Room) (dk_Pc g D (dg_w g shM o rfM S) sz [.ref (o + 0)]) (va_Ql (fun (r : Int64) S' => CM o S' ∧ dg_sm shM [(0, 3), (0, 4), (0, 5), (0, 6), (0, 7), (0, 8), (0, 9), (0, 12)] [] S S' ∧ (∃ y9_3 y9_4 y9_5 y9_8 : Int32, S'.1 0 3 = .int y9_3 ∧ S'.1 0 4 = .int y9_4 ∧ S'.1 0 5 = .int y9_5 ∧ S'.1 0 8 = .int y9_8 ∧ ((((y9_4).toInt ≤ (y9_5).toInt ∧ (y9_5).toInt ≤ (sl).toInt ∧ ((y9_3).toInt ≠ 0 → (y9_4).toInt + 1 ≤ (y9_5).toInt)) ∧ (sa).toInt ≤ (y9_4).toInt ∧ ((fk).toInt ≠ 0 → (y9_8).toInt ≠ 0) ∧ ((y9_8).toInt = 0 → (sa).toInt + 1 ≤ (y9_4).toInt)) ∧ m_hid ((fk).toInt = 0 → m_an y9_8 (y_new (T_kd tb tn) (T_vl tb tn) sg9.2.1 sg9.2.2.2.1 (t_ix tb tn (sa : Int32).toNatClampNeg)) (t_ix tb tn (y9_4 : Int32).toNatClampNeg) ∧ ((y9_8).toInt = 0 → m_WG (r).toInt = (T_vl tb tn (t_ix tb tn (sa : Int32).toNatClampNeg)).toInt ∧ m_WF (m_WG (r).toInt) = (r).toInt)))) ∧ TKM tb tn S' ∧ True) (dg_B g D shM o rfM) (dg_A o shM.length sz)) 0 0 (dg_A o shM.length sz) := by
  refine dg_met (cc := cX12_fresh) (maxL := 3) (ret := (some .long)) (dk_dq rfl) rfl (Nat.le_of_ble_eq_true rfl) ?_
  intro p e s m args below meth c A hAe harg hx hb hr hml hts hown hlocks hin hP K hS hA1 hA ST hsz ls hl
  rw [← hAe]
  have F : CallFix p m c cX12_fresh 3 s args (bw yX12_fresh cX12_fresh 3 (some .long)) RX12 := ⟨hx, hb, hml, hown, hts⟩
  have hl : lv_has ls 3 [(0, .ref (o + 0))] := hl
  have M_0 : dg_sm shM [(0, 3), (0, 4), (0, 5), (0, 6), (0, 7), (0, 8), (0, 9), (0, 12)] [] S S := dg_sm.rf
  obtain ⟨Q9, hQ9⟩ : ∃ Q : State → Prop, Q = MQ below (va_Ql (fun (r : Int64) S' => CM o S' ∧ dg_sm shM [(0, 3), (0, 4), (0, 5), (0, 6), (0, 7), (0, 8), (0, 9), (0, 12)] [] S S' ∧ (∃ y9_3 y9_4 y9_5 y9_8 : Int32, S'.1 0 3 = .int y9_3 ∧ S'.1 0 4 = .int y9_4 ∧ S'.1 0 5 = .int y9_5 ∧ S'.1 0 8 = .int y9_8 ∧ ((((y9_4).toInt ≤ (y9_5).toInt ∧ (y9_5).toInt ≤ (sl).toInt ∧ ((y9_3).toInt ≠ 0 → (y9_4).toInt + 1 ≤ (y9_5).toInt)) ∧ (sa).toInt ≤ (y9_4).toInt ∧ ((fk).toInt ≠ 0 → (y9_8).toInt ≠ 0) ∧ ((y9_8).toInt = 0 → (sa).toInt + 1 ≤ (y9_4).toInt)) ∧ m_hid ((fk).toInt = 0 → m_an y9_8 (y_new (T_kd tb tn) (T_vl tb tn) sg9.2.1 sg9.2.2.2.1 (t_ix tb tn (sa : Int32).toNatClampNeg)) (t_ix tb tn (y9_4 : Int32).toNatClampNeg) ∧ ((y9_8).toInt = 0 → m_WG (r).toInt = (T_vl tb tn (t_ix tb tn (sa : Int32).toNatClampNeg)).toInt ∧ m_WF (m_WG (r).toInt) = (r).toInt)))) ∧ TKM tb tn S' ∧ True) (dg_B g D shM o rfM) A) args s 0 0 A := ⟨_, rfl⟩
  rw [← hQ9]
  obtain ⟨hlx_0, hlx_1, hlx_2⟩ := hlx
  obtain ⟨x_1, f_x_1⟩ := dg_I.long (i := 0) (k := 7) I sM_0 (by decide +kernel)
  refine lv_aload_n hx hb dX12_fresh_0 rfl (lv_at hl 0 rfl) ?_
  refine dg_callv hS hA1 hA (va_runV (As := []) (rest := []) F (c_m_lex l g D o S tb tn fk f_fk (by omega) sa f_sa (by omega) TK I s.heap.size) (cwV 0 hts (bw_V wB_310 wB_311 wB_312 wB_297 wB_309) rfl rfl rfl (by decide +kernel) ⟨Nat.le_of_ble_eq_true rfl, Nat.le_of_ble_eq_true rfl⟩) (dg_preV sM_0 rfl K ST hP hS hA1 hA) rfl rfl hl.1 rfl (lv_room (Nat.le_of_ble_eq_true rfl)) dX12_fresh_1 ⟨Nat.le_of_ble_eq_true rfl, Nat.le_of_ble_eq_true rfl⟩) (fun S_2 hw_2 H locs hP hS => ?_)
  obtain ⟨I_2, m_2, w_2_0, -⟩ := hw_2
  have M_2 := dg_sm.tr M_0 m_2 (dk_dq rfl) (dk_dq rfl)
  obtain ⟨y_3, f_y_3, w_2_0⟩ := w_2_0
  have w_2_0 : ((fk).toInt ≠ 0 → (y_3).toInt = (fk).toInt) ∧ ((fk).toInt = 0 → ((y_3).toInt = 0 ↔ (T_kd tb tn (t_ix tb tn (sa : Int32).toNatClampNeg)).toInt ≠ 5)) := w_2_0
  obtain ⟨w_2_0_0, w_2_0_1⟩ := w_2_0
  have b_y_3 : 0 ≤ (y_3).toInt ∧ (y_3).toInt ≤ 6 := dg_I.intb (lo := 0) (hi := 6) I_2 sM_0 (by decide +kernel) f_y_3
  refine lv_aload_n hx hb dX12_fresh_4 rfl (lv_at hl 0 rfl) ?_
  refine dg_get (C := RX12) (T := TX12) (N := 77) hx hb hts (fun w h => bw_mem (wU_X12 w h)) hown K hP sM_0 rfl 8 (dk_dq rfl) (hts _ (bw_mem wB_303)) (fun _ h9 => h9) (v := .int y_3) f_y_3 dX12_fresh_5 ?_
  refine lv_if_le (tgt := 13) hx hb dX12_fresh_8 (dk_dq rfl) (fun c_4 => ?_) (fun c_4 => ?_)
  · as_aux_lemma =>
      have jc_4 := dk_lec (k := 0) (by decide +kernel) c_4
      have w_2_0_0c : (fk).toInt = 0 := by omega
      clear w_2_0_0
      have w_2_0_1r := w_2_0_1 (by omega)
      clear w_2_0_1
      refine lv_aload_n hx hb dX12_fresh_13 rfl (lv_at hl 0 rfl) ?_
      refine dg_get (C := RX12) (T := TX12) (N := 77) hx hb hts (fun w h => bw_mem (wU_X12 w h)) hown K hP sM_0 rfl 3 (dk_dq rfl) (hts _ (bw_mem wB_292)) (fun _ h9 => h9) (v := .int sg) ((m_2.1 0 3 _ sM_0 (dk_dq rfl)).trans f_sg) dX12_fresh_14 ?_
      refine lv_iconst (v := 1) hx hb dX12_fresh_17 (by decide +kernel) ?_
      refine lv_icmp_ne (tgt := 32) hx hb dX12_fresh_18 (dk_dq rfl) (fun c_5 => ?_) (fun c_5 => ?_)
      · as_aux_lemma =>
          have jc_5 := dk_neqc (k := 1) (by decide +kernel) c_5
          refine lv_aload_n hx hb dX12_fresh_32 rfl (lv_at hl 0 rfl) ?_
          refine lv_iconst (v := 1) hx hb dX12_fresh_33 (by decide +kernel) ?_
          refine lv_aload_n hx hb dX12_fresh_34 rfl (lv_at hl 0 rfl) ?_
          refine dg_get (C := RX12) (T := TX12) (N := 77) hx hb hts (fun w h => bw_mem (wU_X12 w h)) hown K hP sM_0 rfl 4 (dk_dq rfl) (hts _ (bw_mem wB_291)) (fun _ h9 => h9) (v := .int sa) ((m_2.1 0 4 _ sM_0 (dk_dq rfl)).trans f_sa) dX12_fresh_35 ?_
          have hz_6 : (1 : Int32).toInt = 1 := by decide +kernel
          refine dg_callv hS hA1 hA (va_runV (As := [.int 1, .int sa]) (rest := []) F (c_m_blame l g D o S_2 1 (by decide +kernel) sa y_3 f_y_3 (by omega) I_2 H.size) (cwV 2 hts (bw_V wB_306 wB_307 wB_308 wB_297 wB_305) rfl rfl rfl (by decide +kernel) ⟨Nat.le_of_ble_eq_true rfl, Nat.le_of_ble_eq_true rfl⟩) (dg_preV sM_0 rfl K ST hP hS hA1 hA) rfl rfl hl.1 rfl (lv_room (Nat.le_of_ble_eq_true rfl)) dX12_fresh_38 ⟨Nat.le_of_ble_eq_true rfl, Nat.le_of_ble_eq_true rfl⟩) (fun S_7 hw_7 H locs hP hS => ?_)
          obtain ⟨I_7, m_7, w_7_0, -⟩ := hw_7
          have M_7 := dg_sm.tr M_2 m_7 (dk_dq rfl) (dk_dq rfl)
          have hz_8 : (1 : Int32).toInt = 1 := by decide +kernel
          obtain ⟨y_9, f_y_9, w_7_0⟩ := w_7_0
          have w_7_0 : ((y_3).toInt ≠ 0 → (y_9).toInt = (y_3).toInt) ∧ ((y_3).toInt = 0 → (y_9).toInt = ((1 : Int32)).toInt) := w_7_0
          obtain ⟨w_7_0_0, w_7_0_1⟩ := w_7_0
          clear w_7_0_0
          have w_7_0_1r := w_7_0_1 (by omega)
          clear w_7_0_1
          have b_y_9 : 0 ≤ (y_9).toInt ∧ (y_9).toInt ≤ 6 := dg_I.intb (lo := 0) (hi := 6) I_7 sM_0 (by decide +kernel) f_y_9
          have hbl_y_9 : 1 ≤ (y_9).toInt := by omega
          refine lv_aload_n hx hb dX12_fresh_41 rfl (lv_at hl 0 rfl) ?_
          refine dg_get (C := RX12) (T := TX12) (N := 77) hx hb hts (fun w h => bw_mem (wU_X12 w h)) hown K hP sM_0 rfl 8 (dk_dq rfl) (hts _ (bw_mem wB_303)) (fun _ h9 => h9) (v := .int y_9) f_y_9 dX12_fresh_42 ?_
          refine lv_if_ne (tgt := 68) hx hb dX12_fresh_45 (dk_dq rfl) (fun _ => ?_) (fun c => absurd c (fun z => absurd (dk_eqc (k := 0) (by decide +kernel) z) (by omega)))
          refine lv_aload_n hx hb dX12_fresh_68 rfl (lv_at hl 0 rfl) ?_
          refine dg_get (C := RX12) (T := TX12) (N := 77) hx hb hts (fun w h => bw_mem (wU_X12 w h)) hown K hP sM_0 rfl 7 (dk_dq rfl) (hts _ (bw_mem wB_302)) (fun _ h9 => h9) (v := .long x_1) (((m_7.1 0 7 _ sM_0 (dk_dq rfl)).trans (m_2.1 0 7 _ sM_0 (dk_dq rfl))).trans f_x_1) dX12_fresh_69 ?_
          refine lv_lstore_n (lv' := [(1, .long x_1), (0, .ref (o + 0))]) hx hb dX12_fresh_72 rfl hl (dk_dq rfl) rfl (fun ls hl => ?_)
          refine lv_aload_n hx hb dX12_fresh_73 rfl (lv_at hl 1 rfl) ?_
          refine dg_get (C := RX12) (T := TX12) (N := 77) hx hb hts (fun w h => bw_mem (wU_X12 w h)) hown K hP sM_0 rfl 8 (dk_dq rfl) (hts _ (bw_mem wB_303)) (fun _ h9 => h9) (v := .int y_9) f_y_9 dX12_fresh_74 ?_
          refine lv_if_ne (tgt := 84) hx hb dX12_fresh_77 (dk_dq rfl) (fun _ => ?_) (fun c => absurd c (fun z => absurd (dk_eqc (k := 0) (by decide +kernel) z) (by omega)))
          refine lv_lload_n hx hb dX12_fresh_84 rfl (lv_at hl 0 rfl) ?_
          refine W.widen (k := 0) (n := 0) (Nat.le_of_ble_eq_true rfl) (Nat.le_of_ble_eq_true rfl) ?_
          rw [hQ9]
          exact dg_lret hx hb hr hlocks hP hS ⟨I_7, M_7, ⟨sg, sa, se, y_9, (((m_7.1 0 3 _ sM_0 (dk_dq rfl)).trans (m_2.1 0 3 _ sM_0 (dk_dq rfl))).trans f_sg), (((m_7.1 0 4 _ sM_0 (dk_dq rfl)).trans (m_2.1 0 4 _ sM_0 (dk_dq rfl))).trans f_sa), (((m_7.1 0 5 _ sM_0 (dk_dq rfl)).trans (m_2.1 0 5 _ sM_0 (dk_dq rfl))).trans f_se), f_y_9, ⟨by omega, m_hid.mk (fun h0 => ⟨FR.no2 (fun q2 => by first | omega | exact absurd ((TKM.w1 TK f_sg f_sa (by omega)).mpr (Or.inr q2)) (by omega) ) (by omega), fun q9 => absurd q9 (by omega)⟩)⟩⟩, (TKM.keep (TKM.keep TK m_2 (dk_dq rfl) (dk_dq rfl) (dk_dq rfl) (dk_dq rfl) (dk_dq rfl) (dk_dq rfl) (dk_dq rfl) (dk_dq rfl)) m_7 (dk_dq rfl) (dk_dq rfl) (dk_dq rfl) (dk_dq rfl) (dk_dq rfl) (dk_dq rfl) (dk_dq rfl) (dk_dq rfl)), trivial⟩ dX12_fresh_85
      · as_aux_lemma =>
          have jc_5 := dk_eqc (k := 1) (by decide +kernel) c_5
          have hlx_2r := hlx_2 (by omega)
          clear hlx_2
          refine lv_aload_n hx hb dX12_fresh_21 rfl (lv_at hl 0 rfl) ?_
          refine lv_aload_n hx hb dX12_fresh_22 rfl (lv_at hl 0 rfl) ?_
          refine dg_get (C := RX12) (T := TX12) (N := 77) hx hb hts (fun w h => bw_mem (wU_X12 w h)) hown K hP sM_0 rfl 7 (dk_dq rfl) (hts _ (bw_mem wB_302)) (fun _ h9 => h9) (v := .long x_1) ((m_2.1 0 7 _ sM_0 (dk_dq rfl)).trans f_x_1) dX12_fresh_23 ?_
          refine dg_calli hS hA1 hA (va_runV (As := [.long x_1]) (rest := []) F (c_m_isOwn l g D o S_2 x_1 I_2 H.size) (cwV 1 hts (bw_V wB_365 wB_366 wB_367 wB_297 wB_364) rfl rfl rfl (by decide +kernel) ⟨Nat.le_of_ble_eq_true rfl, Nat.le_of_ble_eq_true rfl⟩) (dg_preV sM_0 rfl K ST hP hS hA1 hA) rfl rfl hl.1 rfl (lv_room (Nat.le_of_ble_eq_true rfl)) dX12_fresh_26 ⟨Nat.le_of_ble_eq_true rfl, Nat.le_of_ble_eq_true rfl⟩) (fun x_10 S_11 hw_11 H locs hP hS => ?_)
          rw [hw_11.1] at hP
          obtain ⟨hq_11, w_11_0, w_11_1, -⟩ := hw_11
          have w_11_0 : 0 ≤ (x_10).toInt ∧ (x_10).toInt ≤ 1 := w_11_0
          have w_11_1 : (x_10).toInt = 1 ↔ m_ow (x_1).toInt = true := w_11_1
          refine lv_if_eq (tgt := 41) hx hb dX12_fresh_29 (dk_dq rfl) (fun c_12 => ?_) (fun c_12 => ?_)
          · as_aux_lemma =>
              have jc_12 := dk_eqc (k := 0) (by decide +kernel) c_12
              refine lv_aload_n hx hb dX12_fresh_41 rfl (lv_at hl 0 rfl) ?_
              refine dg_get (C := RX12) (T := TX12) (N := 77) hx hb hts (fun w h => bw_mem (wU_X12 w h)) hown K hP sM_0 rfl 8 (dk_dq rfl) (hts _ (bw_mem wB_303)) (fun _ h9 => h9) (v := .int y_3) f_y_3 dX12_fresh_42 ?_
              refine lv_if_ne (tgt := 68) hx hb dX12_fresh_45 (dk_dq rfl) (fun c => absurd (dk_eqp (k := 0) (by decide +kernel) (by omega)) c) (fun _ => ?_)
              refine lv_aload_n hx hb dX12_fresh_48 rfl (lv_at hl 0 rfl) ?_
              refine lv_aload_n hx hb dX12_fresh_49 rfl (lv_at hl 0 rfl) ?_
              refine dg_get (C := RX12) (T := TX12) (N := 77) hx hb hts (fun w h => bw_mem (wU_X12 w h)) hown K hP sM_0 rfl 7 (dk_dq rfl) (hts _ (bw_mem wB_302)) (fun _ h9 => h9) (v := .long x_1) ((m_2.1 0 7 _ sM_0 (dk_dq rfl)).trans f_x_1) dX12_fresh_50 ?_
              refine dg_calli hS hA1 hA (va_runV (As := [.long x_1]) (rest := []) F (c_m_isNamed l g D o S_2 x_1 ii ((m_2.1 0 35 _ sM_0 (dk_dq rfl)).trans f_ii) (by omega) mi ((congrFun (m_2.2 8 _ sM_8 (dk_dq rfl)).1 _).trans f_mi) (by omega) od ((congrFun (m_2.2 12 _ sM_12 (dk_dq rfl)).1 _).trans f_od) (by omega) I_2 H.size) (cwV 1 hts (bw_V wB_369 wB_370 wB_371 wB_297 wB_368) rfl rfl rfl (by decide +kernel) ⟨Nat.le_of_ble_eq_true rfl, Nat.le_of_ble_eq_true rfl⟩) (dg_preV sM_0 rfl K ST hP hS hA1 hA) rfl rfl hl.1 rfl (lv_room (Nat.le_of_ble_eq_true rfl)) dX12_fresh_53 ⟨Nat.le_of_ble_eq_true rfl, Nat.le_of_ble_eq_true rfl⟩) (fun x_13 S_14 hw_14 H locs hP hS => ?_)
              rw [hw_14.1] at hP
              obtain ⟨hq_14, w_14_0, w_14_1, -⟩ := hw_14
              try rw [hq_14] at w_14_1
              have w_14_0 : 0 ≤ (x_13).toInt ∧ (x_13).toInt ≤ 1 := w_14_0
              replace w_14_1 : m_hid ((x_13).toInt = 1 ↔ ((∃ j9 : Nat, j9 < (od : Int32).toNatClampNeg ∧ (S_2.2.2 21 (5 * (ii : Int32).toNatClampNeg + j9)).toInt = (x_1).toInt) ∨ (∃ j9 : Nat, j9 < (mi : Int32).toNatClampNeg ∧ (S_2.2.2 20 (6 * (ii : Int32).toNatClampNeg + j9)).toInt = (x_1).toInt))) := w_14_1
              have fre := FRE (TKM.keep TK m_2 (dk_dq rfl) (dk_dq rfl) (dk_dq rfl) (dk_dq rfl) (dk_dq rfl) (dk_dq rfl) (dk_dq rfl) (dk_dq rfl)) (GSM.keep GS m_2 (dk_dq rfl) (dk_dq rfl) (dk_dq rfl) (dk_dq rfl) (dk_dq rfl) (dk_dq rfl) (dk_dq rfl) (dk_dq rfl) (dk_dq rfl)) ((m_2.1 0 3 _ sM_0 (dk_dq rfl)).trans f_sg) ((m_2.1 0 4 _ sM_0 (dk_dq rfl)).trans f_sa) ((m_2.1 0 7 _ sM_0 (dk_dq rfl)).trans f_x_1) (by omega)
              have hk2 := fre.1.mp ⟨by omega, fun q9 => absurd (w_11_1.mpr q9) (by omega)⟩
              have hpv := fre.2 hk2
              have hnm := m_hid.mk (GSM.named (GSM.keep GS m_2 (dk_dq rfl) (dk_dq rfl) (dk_dq rfl) (dk_dq rfl) (dk_dq rfl) (dk_dq rfl) (dk_dq rfl) (dk_dq rfl) (dk_dq rfl)) ((m_2.1 0 35 _ sM_0 (dk_dq rfl)).trans f_ii) ((congrFun (m_2.2 8 _ sM_8 (dk_dq rfl)).1 _).trans f_mi) ((congrFun (m_2.2 12 _ sM_12 (dk_dq rfl)).1 _).trans f_od) hpv.1 hpv.2)
              have hr9 := w_14_1
              refine lv_if_eq (tgt := 68) hx hb dX12_fresh_56 (dk_dq rfl) (fun c_15 => ?_) (fun c_15 => ?_)
              · as_aux_lemma =>
                  have jc_15 := dk_eqc (k := 0) (by decide +kernel) c_15
                  refine lv_aload_n hx hb dX12_fresh_68 rfl (lv_at hl 0 rfl) ?_
                  refine dg_get (C := RX12) (T := TX12) (N := 77) hx hb hts (fun w h => bw_mem (wU_X12 w h)) hown K hP sM_0 rfl 7 (dk_dq rfl) (hts _ (bw_mem wB_302)) (fun _ h9 => h9) (v := .long x_1) ((m_2.1 0 7 _ sM_0 (dk_dq rfl)).trans f_x_1) dX12_fresh_69 ?_
                  refine lv_lstore_n (lv' := [(1, .long x_1), (0, .ref (o + 0))]) hx hb dX12_fresh_72 rfl hl (dk_dq rfl) rfl (fun ls hl => ?_)
                  refine lv_aload_n hx hb dX12_fresh_73 rfl (lv_at hl 1 rfl) ?_
                  refine dg_get (C := RX12) (T := TX12) (N := 77) hx hb hts (fun w h => bw_mem (wU_X12 w h)) hown K hP sM_0 rfl 8 (dk_dq rfl) (hts _ (bw_mem wB_303)) (fun _ h9 => h9) (v := .int y_3) f_y_3 dX12_fresh_74 ?_
                  refine lv_if_ne (tgt := 84) hx hb dX12_fresh_77 (dk_dq rfl) (fun c => absurd (dk_eqp (k := 0) (by decide +kernel) (by omega)) c) (fun _ => ?_)
                  refine lv_aload_n hx hb dX12_fresh_80 rfl (lv_at hl 1 rfl) ?_
                  refine dg_callv hS hA1 hA (va_runV (As := []) (rest := []) F (c_m_ahead l g D o S_2 tb tn se ((m_2.1 0 5 _ sM_0 (dk_dq rfl)).trans f_se) (by omega) sl ((m_2.1 0 2 _ sM_0 (dk_dq rfl)).trans f_sl) (by omega) (by omega) (TKM.keep TK m_2 (dk_dq rfl) (dk_dq rfl) (dk_dq rfl) (dk_dq rfl) (dk_dq rfl) (dk_dq rfl) (dk_dq rfl) (dk_dq rfl)).1 I_2 H.size) (cwV 0 hts (bw_V wB_318 wB_319 wB_320 wB_297 wB_317) rfl rfl rfl (by decide +kernel) ⟨Nat.le_of_ble_eq_true rfl, Nat.le_of_ble_eq_true rfl⟩) (dg_preV sM_0 rfl K ST hP hS hA1 hA) rfl rfl hl.1 rfl (lv_room (Nat.le_of_ble_eq_true rfl)) dX12_fresh_81 ⟨Nat.le_of_ble_eq_true rfl, Nat.le_of_ble_eq_true rfl⟩) (fun S_16 hw_16 H locs hP hS => ?_)
                  obtain ⟨I_16, m_16, w_16_0, w_16_1, -⟩ := hw_16
                  have M_16 := dg_sm.tr M_2 m_16 (dk_dq rfl) (dk_dq rfl)
                  obtain ⟨y_17, y_18, y_19, f_y_17, f_y_18, f_y_19, w_16_0⟩ := w_16_0
                  have w_16_0 : (se).toInt ≤ (y_18).toInt ∧ (y_18).toInt ≤ (y_19).toInt ∧ (y_19).toInt ≤ (sl).toInt ∧ ((y_17).toInt ≠ 0 → (y_18).toInt + 1 ≤ (y_19).toInt) := w_16_0
                  obtain ⟨w_16_0_0, w_16_0_1, w_16_0_2, w_16_0_3⟩ := w_16_0
                  have b_y_17 : 0 ≤ (y_17).toInt ∧ (y_17).toInt ≤ 3 := dg_I.intb (lo := 0) (hi := 3) I_16 sM_0 (by decide +kernel) f_y_17
                  have b_y_18 : 0 ≤ (y_18).toInt ∧ (y_18).toInt ≤ 1600 := dg_I.intb (lo := 0) (hi := 1600) I_16 sM_0 (by decide +kernel) f_y_18
                  have b_y_19 : 0 ≤ (y_19).toInt ∧ (y_19).toInt ≤ 1600 := dg_I.intb (lo := 0) (hi := 1600) I_16 sM_0 (by decide +kernel) f_y_19
                  replace w_16_1 : TNX tb tn se S_16 := w_16_1
                  obtain ⟨TK_16, nx_16, -⟩ := TKM.nx (TKM.keep TK m_2 (dk_dq rfl) (dk_dq rfl) (dk_dq rfl) (dk_dq rfl) (dk_dq rfl) (dk_dq rfl) (dk_dq rfl) (dk_dq rfl)) ((m_2.1 0 4 _ sM_0 (dk_dq rfl)).trans f_sa) ((m_2.1 0 5 _ sM_0 (dk_dq rfl)).trans f_se) w_16_1 m_16 (dk_dq rfl) (dk_dq rfl) f_y_18
                  refine lv_lload_n hx hb dX12_fresh_84 rfl (lv_at hl 0 rfl) ?_
                  refine W.widen (k := 0) (n := 0) (Nat.le_of_ble_eq_true rfl) (Nat.le_of_ble_eq_true rfl) ?_
                  rw [hQ9]
                  exact dg_lret hx hb hr hlocks hP hS ⟨I_16, M_16, ⟨y_17, y_18, y_19, y_3, f_y_17, f_y_18, f_y_19, ((m_16.1 0 8 _ sM_0 (dk_dq rfl)).trans f_y_3), ⟨by omega, m_hid.mk (fun h0 => ⟨FR.y hk2 rfl hnm.out (fun q9 => absurd (hr9.out.mpr q9) (by omega)) (by omega) (by omega), fun _ => ⟨hpv.2, by rw [hpv.2]; exact hpv.1.symm⟩⟩)⟩⟩, TK_16, trivial⟩ dX12_fresh_85
              · as_aux_lemma =>
                  have jc_15 := dk_neqc (k := 0) (by decide +kernel) c_15
                  have jbc_15 : 1 ≤ (x_13).toInt := by omega
                  clear jc_15
                  refine lv_aload_n hx hb dX12_fresh_59 rfl (lv_at hl 0 rfl) ?_
                  refine lv_iconst (v := 2) hx hb dX12_fresh_60 (by decide +kernel) ?_
                  refine lv_aload_n hx hb dX12_fresh_61 rfl (lv_at hl 0 rfl) ?_
                  refine dg_get (C := RX12) (T := TX12) (N := 77) hx hb hts (fun w h => bw_mem (wU_X12 w h)) hown K hP sM_0 rfl 4 (dk_dq rfl) (hts _ (bw_mem wB_291)) (fun _ h9 => h9) (v := .int sa) ((m_2.1 0 4 _ sM_0 (dk_dq rfl)).trans f_sa) dX12_fresh_62 ?_
                  have hz_20 : (2 : Int32).toInt = 2 := by decide +kernel
                  refine dg_callv hS hA1 hA (va_runV (As := [.int 2, .int sa]) (rest := []) F (c_m_blame l g D o S_2 2 (by decide +kernel) sa y_3 f_y_3 (by omega) I_2 H.size) (cwV 2 hts (bw_V wB_306 wB_307 wB_308 wB_297 wB_305) rfl rfl rfl (by decide +kernel) ⟨Nat.le_of_ble_eq_true rfl, Nat.le_of_ble_eq_true rfl⟩) (dg_preV sM_0 rfl K ST hP hS hA1 hA) rfl rfl hl.1 rfl (lv_room (Nat.le_of_ble_eq_true rfl)) dX12_fresh_65 ⟨Nat.le_of_ble_eq_true rfl, Nat.le_of_ble_eq_true rfl⟩) (fun S_21 hw_21 H locs hP hS => ?_)
                  obtain ⟨I_21, m_21, w_21_0, -⟩ := hw_21
                  have M_21 := dg_sm.tr M_2 m_21 (dk_dq rfl) (dk_dq rfl)
                  have hz_22 : (2 : Int32).toInt = 2 := by decide +kernel
                  obtain ⟨y_23, f_y_23, w_21_0⟩ := w_21_0
                  have w_21_0 : ((y_3).toInt ≠ 0 → (y_23).toInt = (y_3).toInt) ∧ ((y_3).toInt = 0 → (y_23).toInt = ((2 : Int32)).toInt) := w_21_0
                  obtain ⟨w_21_0_0, w_21_0_1⟩ := w_21_0
                  clear w_21_0_0
                  have w_21_0_1r := w_21_0_1 (by omega)
                  clear w_21_0_1
                  have b_y_23 : 0 ≤ (y_23).toInt ∧ (y_23).toInt ≤ 6 := dg_I.intb (lo := 0) (hi := 6) I_21 sM_0 (by decide +kernel) f_y_23
                  have hbl_y_23 : 1 ≤ (y_23).toInt := by omega
                  refine lv_aload_n hx hb dX12_fresh_68 rfl (lv_at hl 0 rfl) ?_
                  refine dg_get (C := RX12) (T := TX12) (N := 77) hx hb hts (fun w h => bw_mem (wU_X12 w h)) hown K hP sM_0 rfl 7 (dk_dq rfl) (hts _ (bw_mem wB_302)) (fun _ h9 => h9) (v := .long x_1) (((m_21.1 0 7 _ sM_0 (dk_dq rfl)).trans (m_2.1 0 7 _ sM_0 (dk_dq rfl))).trans f_x_1) dX12_fresh_69 ?_
                  refine lv_lstore_n (lv' := [(1, .long x_1), (0, .ref (o + 0))]) hx hb dX12_fresh_72 rfl hl (dk_dq rfl) rfl (fun ls hl => ?_)
                  refine lv_aload_n hx hb dX12_fresh_73 rfl (lv_at hl 1 rfl) ?_
                  refine dg_get (C := RX12) (T := TX12) (N := 77) hx hb hts (fun w h => bw_mem (wU_X12 w h)) hown K hP sM_0 rfl 8 (dk_dq rfl) (hts _ (bw_mem wB_303)) (fun _ h9 => h9) (v := .int y_23) f_y_23 dX12_fresh_74 ?_
                  refine lv_if_ne (tgt := 84) hx hb dX12_fresh_77 (dk_dq rfl) (fun _ => ?_) (fun c => absurd c (fun z => absurd (dk_eqc (k := 0) (by decide +kernel) z) (by omega)))
                  refine lv_lload_n hx hb dX12_fresh_84 rfl (lv_at hl 0 rfl) ?_
                  refine W.widen (k := 0) (n := 0) (Nat.le_of_ble_eq_true rfl) (Nat.le_of_ble_eq_true rfl) ?_
                  rw [hQ9]
                  exact dg_lret hx hb hr hlocks hP hS ⟨I_21, M_21, ⟨sg, sa, se, y_23, (((m_21.1 0 3 _ sM_0 (dk_dq rfl)).trans (m_2.1 0 3 _ sM_0 (dk_dq rfl))).trans f_sg), (((m_21.1 0 4 _ sM_0 (dk_dq rfl)).trans (m_2.1 0 4 _ sM_0 (dk_dq rfl))).trans f_sa), (((m_21.1 0 5 _ sM_0 (dk_dq rfl)).trans (m_2.1 0 5 _ sM_0 (dk_dq rfl))).trans f_se), f_y_23, ⟨by omega, m_hid.mk (fun h0 => ⟨FR.no3 rfl hnm.out (hr9.out.mp (by omega)) (by omega), fun q9 => absurd q9 (by omega)⟩)⟩⟩, (TKM.keep (TKM.keep TK m_2 (dk_dq rfl) (dk_dq rfl) (dk_dq rfl) (dk_dq rfl) (dk_dq rfl) (dk_dq rfl) (dk_dq rfl) (dk_dq rfl)) m_21 (dk_dq rfl) (dk_dq rfl) (dk_dq rfl) (dk_dq rfl) (dk_dq rfl) (dk_dq rfl) (dk_dq rfl) (dk_dq rfl)), trivial⟩ dX12_fresh_85
          · as_aux_lemma =>
              have jc_12 := dk_neqc (k := 0) (by decide +kernel) c_12
              have jbc_12 : 1 ≤ (x_10).toInt := by omega
              clear jc_12
              refine lv_aload_n hx hb dX12_fresh_32 rfl (lv_at hl 0 rfl) ?_
              refine lv_iconst (v := 1) hx hb dX12_fresh_33 (by decide +kernel) ?_
              refine lv_aload_n hx hb dX12_fresh_34 rfl (lv_at hl 0 rfl) ?_
              refine dg_get (C := RX12) (T := TX12) (N := 77) hx hb hts (fun w h => bw_mem (wU_X12 w h)) hown K hP sM_0 rfl 4 (dk_dq rfl) (hts _ (bw_mem wB_291)) (fun _ h9 => h9) (v := .int sa) ((m_2.1 0 4 _ sM_0 (dk_dq rfl)).trans f_sa) dX12_fresh_35 ?_
              have hz_24 : (1 : Int32).toInt = 1 := by decide +kernel
              refine dg_callv hS hA1 hA (va_runV (As := [.int 1, .int sa]) (rest := []) F (c_m_blame l g D o S_2 1 (by decide +kernel) sa y_3 f_y_3 (by omega) I_2 H.size) (cwV 2 hts (bw_V wB_306 wB_307 wB_308 wB_297 wB_305) rfl rfl rfl (by decide +kernel) ⟨Nat.le_of_ble_eq_true rfl, Nat.le_of_ble_eq_true rfl⟩) (dg_preV sM_0 rfl K ST hP hS hA1 hA) rfl rfl hl.1 rfl (lv_room (Nat.le_of_ble_eq_true rfl)) dX12_fresh_38 ⟨Nat.le_of_ble_eq_true rfl, Nat.le_of_ble_eq_true rfl⟩) (fun S_25 hw_25 H locs hP hS => ?_)
              obtain ⟨I_25, m_25, w_25_0, -⟩ := hw_25
              have M_25 := dg_sm.tr M_2 m_25 (dk_dq rfl) (dk_dq rfl)
              have hz_26 : (1 : Int32).toInt = 1 := by decide +kernel
              obtain ⟨y_27, f_y_27, w_25_0⟩ := w_25_0
              have w_25_0 : ((y_3).toInt ≠ 0 → (y_27).toInt = (y_3).toInt) ∧ ((y_3).toInt = 0 → (y_27).toInt = ((1 : Int32)).toInt) := w_25_0
              obtain ⟨w_25_0_0, w_25_0_1⟩ := w_25_0
              clear w_25_0_0
              have w_25_0_1r := w_25_0_1 (by omega)
              clear w_25_0_1
              have b_y_27 : 0 ≤ (y_27).toInt ∧ (y_27).toInt ≤ 6 := dg_I.intb (lo := 0) (hi := 6) I_25 sM_0 (by decide +kernel) f_y_27
              have hbl_y_27 : 1 ≤ (y_27).toInt := by omega
              refine lv_aload_n hx hb dX12_fresh_41 rfl (lv_at hl 0 rfl) ?_
              refine dg_get (C := RX12) (T := TX12) (N := 77) hx hb hts (fun w h => bw_mem (wU_X12 w h)) hown K hP sM_0 rfl 8 (dk_dq rfl) (hts _ (bw_mem wB_303)) (fun _ h9 => h9) (v := .int y_27) f_y_27 dX12_fresh_42 ?_
              refine lv_if_ne (tgt := 68) hx hb dX12_fresh_45 (dk_dq rfl) (fun _ => ?_) (fun c => absurd c (fun z => absurd (dk_eqc (k := 0) (by decide +kernel) z) (by omega)))
              refine lv_aload_n hx hb dX12_fresh_68 rfl (lv_at hl 0 rfl) ?_
              refine dg_get (C := RX12) (T := TX12) (N := 77) hx hb hts (fun w h => bw_mem (wU_X12 w h)) hown K hP sM_0 rfl 7 (dk_dq rfl) (hts _ (bw_mem wB_302)) (fun _ h9 => h9) (v := .long x_1) (((m_25.1 0 7 _ sM_0 (dk_dq rfl)).trans (m_2.1 0 7 _ sM_0 (dk_dq rfl))).trans f_x_1) dX12_fresh_69 ?_
              refine lv_lstore_n (lv' := [(1, .long x_1), (0, .ref (o + 0))]) hx hb dX12_fresh_72 rfl hl (dk_dq rfl) rfl (fun ls hl => ?_)
              refine lv_aload_n hx hb dX12_fresh_73 rfl (lv_at hl 1 rfl) ?_
              refine dg_get (C := RX12) (T := TX12) (N := 77) hx hb hts (fun w h => bw_mem (wU_X12 w h)) hown K hP sM_0 rfl 8 (dk_dq rfl) (hts _ (bw_mem wB_303)) (fun _ h9 => h9) (v := .int y_27) f_y_27 dX12_fresh_74 ?_
              refine lv_if_ne (tgt := 84) hx hb dX12_fresh_77 (dk_dq rfl) (fun _ => ?_) (fun c => absurd c (fun z => absurd (dk_eqc (k := 0) (by decide +kernel) z) (by omega)))
              refine lv_lload_n hx hb dX12_fresh_84 rfl (lv_at hl 0 rfl) ?_
              refine W.widen (k := 0) (n := 0) (Nat.le_of_ble_eq_true rfl) (Nat.le_of_ble_eq_true rfl) ?_
              rw [hQ9]
              exact dg_lret hx hb hr hlocks hP hS ⟨I_25, M_25, ⟨sg, sa, se, y_27, (((m_25.1 0 3 _ sM_0 (dk_dq rfl)).trans (m_2.1 0 3 _ sM_0 (dk_dq rfl))).trans f_sg), (((m_25.1 0 4 _ sM_0 (dk_dq rfl)).trans (m_2.1 0 4 _ sM_0 (dk_dq rfl))).trans f_sa), (((m_25.1 0 5 _ sM_0 (dk_dq rfl)).trans (m_2.1 0 5 _ sM_0 (dk_dq rfl))).trans f_se), f_y_27, ⟨by omega, m_hid.mk (fun h0 => ⟨FR.no2 (fun q2 => by first | omega | exact absurd ((TKM.w1 TK f_sg f_sa (by omega)).mpr (Or.inr q2)) (by omega) | exact ((FRE TK GS f_sg f_sa f_x_1 (by omega)).1.mpr q2).2 (w_11_1.mp (by omega))) (by omega), fun q9 => absurd q9 (by omega)⟩)⟩⟩, (TKM.keep (TKM.keep TK m_2 (dk_dq rfl) (dk_dq rfl) (dk_dq rfl) (dk_dq rfl) (dk_dq rfl) (dk_dq rfl) (dk_dq rfl) (dk_dq rfl)) m_25 (dk_dq rfl) (dk_dq rfl) (dk_dq rfl) (dk_dq rfl) (dk_dq rfl) (dk_dq rfl) (dk_dq rfl) (dk_dq rfl)), trivial⟩ dX12_fresh_85
  · have jc_4 := dk_nlec (k := 0) (by decide +kernel) c_4
    refine lv_lconst (v := 0) hx hb dX12_fresh_11 (by decide +kernel) ?_
    refine W.widen (k := 0) (n := 0) (Nat.le_of_ble_eq_true rfl) (Nat.le_of_ble_eq_true rfl) ?_
    rw [hQ9]
    exact dg_lret hx hb hr hlocks hP hS ⟨I_2, M_2, ⟨sg, sa, se, y_3, ((m_2.1 0 3 _ sM_0 (dk_dq rfl)).trans f_sg), ((m_2.1 0 4 _ sM_0 (dk_dq rfl)).trans f_sa), ((m_2.1 0 5 _ sM_0 (dk_dq rfl)).trans f_se), f_y_3, ⟨by omega, m_hid.mk (fun h0 => ⟨FR.no2 (fun q2 => by first | omega | exact absurd ((TKM.w1 TK f_sg f_sa (by omega)).mpr (Or.inr q2)) (by omega) ) (by omega), fun q9 => absurd q9 (by omega)⟩)⟩⟩, (TKM.keep TK m_2 (dk_dq rfl) (dk_dq rfl) (dk_dq rfl) (dk_dq rfl) (dk_dq rfl) (dk_dq rfl) (dk_dq rfl) (dk_dq rfl)), trivial⟩ dX12_fresh_12
set_option maxHeartbeats 8000000 in
set_option maxRecDepth 100000 in
theorem c_m_cellTold (l : Launch) (g : Nat → ClassId) (D : va_G) (o : Nat) (S : dg_S) (tb : Nat → Int32) (tn : Nat) (sg : Int32) (f_sg : S.1 0 3 = .int sg) (b_sg : 0 ≤ (sg).toInt ∧ (sg).toInt ≤ 3) (sa : Int32) (f_sa : S.1 0 4 = .int sa) (b_sa : 0 ≤ (sa).toInt ∧ (sa).toInt ≤ 1600) (se : Int32) (f_se : S.1 0 5 = .int se) (b_se : 0 ≤ (se).toInt ∧ (se).toInt ≤ 1600) (sl : Int32) (f_sl : S.1 0 2 = .int sl) (b_sl : 0 ≤ (sl).toInt ∧ (sl).toInt ≤ 1600) (fk : Int32) (f_fk : S.1 0 8 = .int fk) (b_fk : 0 ≤ (fk).toInt ∧ (fk).toInt ≤ 6) (ii : Int32) (f_ii : S.1 0 35 = .int ii) (b_ii : 0 ≤ (ii).toInt ∧ (ii).toInt ≤ 1) (cc : Int32) (f_cc : S.2.1 2 (ii : Int32).toNatClampNeg = cc) (b_cc : 3 ≤ (cc).toInt ∧ (cc).toInt ≤ 7) (rr : Int32) (f_rr : S.2.1 3 (ii : Int32).toNatClampNeg = rr) (b_rr : 3 ≤ (rr).toInt ∧ (rr).toInt ≤ 7) (hlx : (sa).toInt ≤ (se).toInt ∧ (se).toInt ≤ (sl).toInt ∧ ((sg).toInt ≠ 0 → (sa).toInt + 1 ≤ (se).toInt)) (TK : TKM tb tn S) (ZC : ZCM S) (I : CM o S) (sz : Nat) : Met l yX12_cellTold (bw yX12_cellTold cX12_cellTold 3 (some .int)) ({ frames := 4, cells := 0, slots := 0, locals := 100 } : Room) (dk_Pc g D (dg_w g shM o rfM S) sz [.ref (o + 0)]) (va_Qi (fun (r : Int32) S' => CM o S' ∧ dg_sm shM [(0, 3), (0, 4), (0, 5), (0, 6), (0, 7), (0, 8), (0, 9), (0, 12)] [] S S' ∧ (0 ≤ (r).toInt ∧ (r).toInt ≤ 54) ∧ (∃ y9_3 y9_4 y9_5 y9_8 : Int32, S'.1 0 3 = .int y9_3 ∧ S'.1 0 4 = .int y9_4 ∧ S'.1 0 5 = .int y9_5 ∧ S'.1 0 8 = .int y9_8 ∧ ((((y9_4).toInt ≤ (y9_5).toInt ∧ (y9_5).toInt ≤ (sl).toInt ∧ ((y9_3).toInt ≠ 0 → (y9_4).toInt + 1 ≤ (y9_5).toInt)) ∧ (sa).toInt ≤ (y9_4).toInt ∧ ((fk).toInt ≠ 0 → (y9_8).toInt ≠ 0) ∧ ((sa).toInt ≤ (sa).toInt)) ∧ m_hid ((fk).toInt = 0 → m_an y9_8 (y_cell (T_kd tb tn) (T_vl tb tn) ((cc).toInt, (rr).toInt) (t_ix tb tn (sa : Int32).toNatClampNeg)) (t_ix tb tn (y9_4 : Int32).toNatClampNeg)))) ∧ (m_hid ((fk).toInt = 0 → ∀ f9 : Int32, S'.1 0 8 = .int f9 → f9.toInt = 0 → (r).toInt = 8 * (T_vl tb tn ((t_ix tb tn (sa : Int32).toNatClampNeg) + 1)).toInt + (T_vl tb tn ((t_ix tb tn (sa : Int32).toNatClampNeg))).toInt)) ∧ TKM tb tn S' ∧ True) (dg_B g D shM o rfM) (dg_A o shM.length sz)) 0 0 (dg_A o shM.length sz) := by
  refine dg_met (cc := cX12_cellTold) (maxL := 3) (ret := (some .int)) (dk_dq rfl) rfl (Nat.le_of_ble_eq_true rfl) ?_
  intro p e s m args below meth c A hAe harg hx hb hr hml hts hown hlocks hin hP K hS hA1 hA ST hsz ls hl
  rw [← hAe]
  have F : CallFix p m c cX12_cellTold 3 s args (bw yX12_cellTold cX12_cellTold 3 (some .int)) RX12 := ⟨hx, hb, hml, hown, hts⟩
  have hl : lv_has ls 3 [(0, .ref (o + 0))] := hl
  have M_0 : dg_sm shM [(0, 3), (0, 4), (0, 5), (0, 6), (0, 7), (0, 8), (0, 9), (0, 12)] [] S S := dg_sm.rf
  obtain ⟨Q9, hQ9⟩ : ∃ Q : State → Prop, Q = MQ below (va_Qi (fun (r : Int32) S' => CM o S' ∧ dg_sm shM [(0, 3), (0, 4), (0, 5), (0, 6), (0, 7), (0, 8), (0, 9), (0, 12)] [] S S' ∧ (0 ≤ (r).toInt ∧ (r).toInt ≤ 54) ∧ (∃ y9_3 y9_4 y9_5 y9_8 : Int32, S'.1 0 3 = .int y9_3 ∧ S'.1 0 4 = .int y9_4 ∧ S'.1 0 5 = .int y9_5 ∧ S'.1 0 8 = .int y9_8 ∧ ((((y9_4).toInt ≤ (y9_5).toInt ∧ (y9_5).toInt ≤ (sl).toInt ∧ ((y9_3).toInt ≠ 0 → (y9_4).toInt + 1 ≤ (y9_5).toInt)) ∧ (sa).toInt ≤ (y9_4).toInt ∧ ((fk).toInt ≠ 0 → (y9_8).toInt ≠ 0) ∧ ((sa).toInt ≤ (sa).toInt)) ∧ m_hid ((fk).toInt = 0 → m_an y9_8 (y_cell (T_kd tb tn) (T_vl tb tn) ((cc).toInt, (rr).toInt) (t_ix tb tn (sa : Int32).toNatClampNeg)) (t_ix tb tn (y9_4 : Int32).toNatClampNeg)))) ∧ (m_hid ((fk).toInt = 0 → ∀ f9 : Int32, S'.1 0 8 = .int f9 → f9.toInt = 0 → (r).toInt = 8 * (T_vl tb tn ((t_ix tb tn (sa : Int32).toNatClampNeg) + 1)).toInt + (T_vl tb tn ((t_ix tb tn (sa : Int32).toNatClampNeg))).toInt)) ∧ TKM tb tn S' ∧ True) (dg_B g D shM o rfM) A) args s 0 0 A := ⟨_, rfl⟩
  rw [← hQ9]
  obtain ⟨hlx_0, hlx_1, hlx_2⟩ := hlx
  refine lv_aload_n hx hb dX12_cellTold_0 rfl (lv_at hl 0 rfl) ?_
  refine lv_iconst (v := 0) hx hb dX12_cellTold_1 (by decide +kernel) ?_
  refine lv_aload_n hx hb dX12_cellTold_2 rfl (lv_at hl 0 rfl) ?_
  refine dg_get (C := RX12) (T := TX12) (N := 77) hx hb hts (fun w h => bw_mem (wU_X12 w h)) hown K hP sM_0 rfl 14 (dk_dq rfl) (hts _ (bw_mem wB_372)) (fun _ h9 => h9) (v := .ref (o + 2)) (show S.1 0 14 = .ref (o + 2) from dg_I.rel (d := 2) I sM_0 (by decide +kernel)) dX12_cellTold_3 ?_
  refine lv_aload_n hx hb dX12_cellTold_6 rfl (lv_at hl 0 rfl) ?_
  refine dg_get (C := RX12) (T := TX12) (N := 77) hx hb hts (fun w h => bw_mem (wU_X12 w h)) hown K hP sM_0 rfl 35 (dk_dq rfl) (hts _ (bw_mem wB_353)) (fun _ h9 => h9) (v := .int ii) f_ii dX12_cellTold_7 ?_
  have hin_1 : vp_in ii 2 := (dk_inv2 (by omega))
  refine dg_iald hx hb K hP sM_2 hin_1 dX12_cellTold_10 (fun y_2 ey_2 => ?_)
  obtain rfl : cc = y_2 := (ey_2.trans f_cc).symm
  refine lv_iconst (v := 1) hx hb dX12_cellTold_11 (by decide +kernel) ?_
  refine lv_isub hx hb dX12_cellTold_12 ?_
  refine lv_topi (fun x_3 ex_3 => ?_)
  have jx_3 : (x_3).toInt = (cc).toInt - 1 := by rw [ex_3]; exact dk_subT2 rfl (by decide +kernel) (by omega)
  refine dg_calli hS hA1 hA (va_runV (As := [.int 0, .int x_3]) (rest := []) F (c_m_number l g D o S 0 x_3 tb tn sg f_sg (by omega) sa f_sa (by omega) se f_se (by omega) sl f_sl (by omega) fk f_fk (by omega) (by omega) TK I s.heap.size) (cwV 2 hts (bw_V wB_374 wB_375 wB_376 wB_297 wB_373) rfl rfl rfl (by decide +kernel) ⟨Nat.le_of_ble_eq_true rfl, Nat.le_of_ble_eq_true rfl⟩) (dg_preV sM_0 rfl K ST hP hS hA1 hA) rfl rfl hl.1 rfl (lv_room (Nat.le_of_ble_eq_true rfl)) dX12_cellTold_13 ⟨Nat.le_of_ble_eq_true rfl, Nat.le_of_ble_eq_true rfl⟩) (fun x_4 S_5 hw_5 H locs hP hS => ?_)
  obtain ⟨I_5, m_5, w_5_0, w_5_1, w_5_2, -⟩ := hw_5
  have M_5 := dg_sm.tr M_0 m_5 (dk_dq rfl) (dk_dq rfl)
  have hz_6 : (0 : Int32).toInt = 0 := by decide +kernel
  have w_5_0 : 0 ≤ (x_4).toInt ∧ (x_4).toInt ≤ 9999 := w_5_0
  obtain ⟨y_7, y_8, y_9, y_10, f_y_7, f_y_8, f_y_9, f_y_10, w_5_1⟩ := w_5_1
  have w_5_1 : (((y_8).toInt ≤ (y_9).toInt ∧ (y_9).toInt ≤ (sl).toInt ∧ ((y_7).toInt ≠ 0 → (y_8).toInt + 1 ≤ (y_9).toInt)) ∧ (sa).toInt ≤ (y_8).toInt ∧ ((fk).toInt ≠ 0 → (y_10).toInt ≠ 0) ∧ ((y_10).toInt = 0 → (((0 : Int32)).toInt ≤ (x_4).toInt ∧ (x_4).toInt ≤ (x_3).toInt ∧ (sa).toInt + 1 ≤ (y_8).toInt))) ∧ m_hid ((fk).toInt = 0 → m_an y_10 (y_num (T_kd tb tn) (T_vl tb tn) ((0 : Int32)).toInt (x_3).toInt (t_ix tb tn (sa : Int32).toNatClampNeg)) (t_ix tb tn (y_8 : Int32).toNatClampNeg) ∧ ((y_10).toInt = 0 → (x_4).toInt = (T_vl tb tn (t_ix tb tn (sa : Int32).toNatClampNeg)).toInt)) := w_5_1
  obtain ⟨⟨⟨w_5_1_0, w_5_1_1, w_5_1_2⟩, w_5_1_3, w_5_1_4, w_5_1_5⟩, w_5_1_6⟩ := w_5_1
  have b_y_7 : 0 ≤ (y_7).toInt ∧ (y_7).toInt ≤ 3 := dg_I.intb (lo := 0) (hi := 3) I_5 sM_0 (by decide +kernel) f_y_7
  have b_y_8 : 0 ≤ (y_8).toInt ∧ (y_8).toInt ≤ 1600 := dg_I.intb (lo := 0) (hi := 1600) I_5 sM_0 (by decide +kernel) f_y_8
  have b_y_9 : 0 ≤ (y_9).toInt ∧ (y_9).toInt ≤ 1600 := dg_I.intb (lo := 0) (hi := 1600) I_5 sM_0 (by decide +kernel) f_y_9
  have b_y_10 : 0 ≤ (y_10).toInt ∧ (y_10).toInt ≤ 6 := dg_I.intb (lo := 0) (hi := 6) I_5 sM_0 (by decide +kernel) f_y_10
  refine lv_istore_n (lv' := [(1, .int x_4), (0, .ref (o + 0))]) hx hb dX12_cellTold_16 rfl hl (dk_dq rfl) rfl (fun ls hl => ?_)
  refine lv_aload_n hx hb dX12_cellTold_17 rfl (lv_at hl 1 rfl) ?_
  refine lv_iconst (v := 0) hx hb dX12_cellTold_18 (by decide +kernel) ?_
  refine lv_aload_n hx hb dX12_cellTold_19 rfl (lv_at hl 1 rfl) ?_
  refine dg_get (C := RX12) (T := TX12) (N := 77) hx hb hts (fun w h => bw_mem (wU_X12 w h)) hown K hP sM_0 rfl 15 (dk_dq rfl) (hts _ (bw_mem wB_377)) (fun _ h9 => h9) (v := .ref (o + 3)) (show S_5.1 0 15 = .ref (o + 3) from dg_I.rel (d := 3) I_5 sM_0 (by decide +kernel)) dX12_cellTold_20 ?_
  refine lv_aload_n hx hb dX12_cellTold_23 rfl (lv_at hl 1 rfl) ?_
  as_aux_lemma =>
    refine dg_get (C := RX12) (T := TX12) (N := 77) hx hb hts (fun w h => bw_mem (wU_X12 w h)) hown K hP sM_0 rfl 35 (dk_dq rfl) (hts _ (bw_mem wB_353)) (fun _ h9 => h9) (v := .int ii) ((m_5.1 0 35 _ sM_0 (dk_dq rfl)).trans f_ii) dX12_cellTold_24 ?_
    have hin_11 : vp_in ii 2 := (dk_inv2 (by omega))
    refine dg_iald hx hb K hP sM_3 hin_11 dX12_cellTold_27 (fun y_12 ey_12 => ?_)
    obtain rfl : rr = y_12 := ((ey_12.trans (congrFun (m_5.2 3 _ sM_3 (dk_dq rfl)).1 _)).trans f_rr).symm
    refine lv_iconst (v := 1) hx hb dX12_cellTold_28 (by decide +kernel) ?_
    refine lv_isub hx hb dX12_cellTold_29 ?_
    refine lv_topi (fun x_13 ex_13 => ?_)
    have jx_13 : (x_13).toInt = (rr).toInt - 1 := by rw [ex_13]; exact dk_subT2 rfl (by decide +kernel) (by omega)
    refine dg_calli hS hA1 hA (va_runV (As := [.int 0, .int x_13]) (rest := []) F (c_m_number l g D o S_5 0 x_13 tb tn y_7 f_y_7 (by omega) y_8 f_y_8 (by omega) y_9 f_y_9 (by omega) sl ((m_5.1 0 2 _ sM_0 (dk_dq rfl)).trans f_sl) (by omega) y_10 f_y_10 (by omega) (by omega) w_5_2 I_5 H.size) (cwV 2 hts (bw_V wB_374 wB_375 wB_376 wB_297 wB_373) rfl rfl rfl (by decide +kernel) ⟨Nat.le_of_ble_eq_true rfl, Nat.le_of_ble_eq_true rfl⟩) (dg_preV sM_0 rfl K ST hP hS hA1 hA) rfl rfl hl.1 rfl (lv_room (Nat.le_of_ble_eq_true rfl)) dX12_cellTold_30 ⟨Nat.le_of_ble_eq_true rfl, Nat.le_of_ble_eq_true rfl⟩) (fun x_14 S_15 hw_15 H locs hP hS => ?_)
    obtain ⟨I_15, m_15, w_15_0, w_15_1, w_15_2, -⟩ := hw_15
    have M_15 := dg_sm.tr M_5 m_15 (dk_dq rfl) (dk_dq rfl)
    have hz_16 : (0 : Int32).toInt = 0 := by decide +kernel
    have w_15_0 : 0 ≤ (x_14).toInt ∧ (x_14).toInt ≤ 9999 := w_15_0
    obtain ⟨y_17, y_18, y_19, y_20, f_y_17, f_y_18, f_y_19, f_y_20, w_15_1⟩ := w_15_1
    have w_15_1 : (((y_18).toInt ≤ (y_19).toInt ∧ (y_19).toInt ≤ (sl).toInt ∧ ((y_17).toInt ≠ 0 → (y_18).toInt + 1 ≤ (y_19).toInt)) ∧ (y_8).toInt ≤ (y_18).toInt ∧ ((y_10).toInt ≠ 0 → (y_20).toInt ≠ 0) ∧ ((y_20).toInt = 0 → (((0 : Int32)).toInt ≤ (x_14).toInt ∧ (x_14).toInt ≤ (x_13).toInt ∧ (y_8).toInt + 1 ≤ (y_18).toInt))) ∧ m_hid ((y_10).toInt = 0 → m_an y_20 (y_num (T_kd tb tn) (T_vl tb tn) ((0 : Int32)).toInt (x_13).toInt (t_ix tb tn (y_8 : Int32).toNatClampNeg)) (t_ix tb tn (y_18 : Int32).toNatClampNeg) ∧ ((y_20).toInt = 0 → (x_14).toInt = (T_vl tb tn (t_ix tb tn (y_8 : Int32).toNatClampNeg)).toInt)) := w_15_1
    obtain ⟨⟨⟨w_15_1_0, w_15_1_1, w_15_1_2⟩, w_15_1_3, w_15_1_4, w_15_1_5⟩, w_15_1_6⟩ := w_15_1
    have b_y_17 : 0 ≤ (y_17).toInt ∧ (y_17).toInt ≤ 3 := dg_I.intb (lo := 0) (hi := 3) I_15 sM_0 (by decide +kernel) f_y_17
    have b_y_18 : 0 ≤ (y_18).toInt ∧ (y_18).toInt ≤ 1600 := dg_I.intb (lo := 0) (hi := 1600) I_15 sM_0 (by decide +kernel) f_y_18
    have b_y_19 : 0 ≤ (y_19).toInt ∧ (y_19).toInt ≤ 1600 := dg_I.intb (lo := 0) (hi := 1600) I_15 sM_0 (by decide +kernel) f_y_19
    have b_y_20 : 0 ≤ (y_20).toInt ∧ (y_20).toInt ≤ 6 := dg_I.intb (lo := 0) (hi := 6) I_15 sM_0 (by decide +kernel) f_y_20
    refine lv_istore_n (lv' := [(2, .int x_14), (1, .int x_4), (0, .ref (o + 0))]) hx hb dX12_cellTold_33 rfl hl (dk_dq rfl) rfl (fun ls hl => ?_)
    refine lv_aload_n hx hb dX12_cellTold_34 rfl (lv_at hl 2 rfl) ?_
    refine dg_get (C := RX12) (T := TX12) (N := 77) hx hb hts (fun w h => bw_mem (wU_X12 w h)) hown K hP sM_0 rfl 8 (dk_dq rfl) (hts _ (bw_mem wB_303)) (fun _ h9 => h9) (v := .int y_20) f_y_20 dX12_cellTold_35 ?_
    refine lv_if_le (tgt := 45) hx hb dX12_cellTold_38 (dk_dq rfl) (fun c_21 => ?_) (fun c_21 => ?_)
    · as_aux_lemma =>
        have jc_21 := dk_lec (k := 0) (by decide +kernel) c_21
        have w_15_1_4c : (y_10).toInt = 0 := by omega
        clear w_15_1_4
        have w_15_1_5r := w_15_1_5 (by omega)
        clear w_15_1_5
        obtain ⟨w_15_1_5r_0, w_15_1_5r_1, w_15_1_5r_2⟩ := w_15_1_5r
        have w_5_1_4c : (fk).toInt = 0 := by omega
        clear w_5_1_4
        have w_5_1_5r := w_5_1_5 (by omega)
        clear w_5_1_5
        obtain ⟨w_5_1_5r_0, w_5_1_5r_1, w_5_1_5r_2⟩ := w_5_1_5r
        refine lv_bipush (v := 8) hx hb dX12_cellTold_45 (by decide +kernel) ?_
        refine lv_iload_n hx hb dX12_cellTold_47 rfl (lv_at hl 0 rfl) ?_
        refine lv_imul hx hb dX12_cellTold_48 ?_
        refine lv_topi (fun x_22 ex_22 => ?_)
        have jx_22 : (x_22).toInt = 8 * (x_14).toInt := by rw [ex_22]; exact dk_mulT2 (by decide +kernel) rfl (by omega)
        refine lv_iload_n hx hb dX12_cellTold_49 rfl (lv_at hl 1 rfl) ?_
        refine lv_iadd hx hb dX12_cellTold_50 ?_
        refine lv_topi (fun x_23 ex_23 => ?_)
        have jx_23 : (x_23).toInt = (x_22).toInt + (x_4).toInt := by rw [ex_23]; exact dk_addT2 rfl rfl (by omega)
        refine W.widen (k := 0) (n := 0) (Nat.le_of_ble_eq_true rfl) (Nat.le_of_ble_eq_true rfl) ?_
        rw [hQ9]
        exact dg_iret hx hb hr hlocks rfl hP hS ⟨I_15, M_15, (by omega), ⟨y_17, y_18, y_19, y_20, f_y_17, f_y_18, f_y_19, f_y_20, ⟨by omega, m_hid.mk (fun h0 => CE2 (by have h9 := (w_5_1_6.out (by omega)).1; rw [show ((0 : Int32)).toInt = 0 from by decide +kernel] at h9; exact h9) (fun q1 => (by have h9 := (w_15_1_6.out (by omega)).1; rw [show ((0 : Int32)).toInt = 0 from by decide +kernel] at h9; exact h9)) (by omega) (by omega) (by omega))⟩⟩, (m_hid.mk (fun h0 f9 q9 q8 => by have q7 := (f_y_20).symm.trans q9; cases q7; have h8 := (w_5_1_6.out (by omega)).2 (by omega); have h9 := (w_15_1_6.out (by omega)).2 (by omega); have h7 := (y_num_o ((w_5_1_6.out (by omega)).1.1 (by omega))).2.2.2; rw [h7] at h9; omega)), w_15_2, trivial⟩ dX12_cellTold_51
    · have jc_21 := dk_nlec (k := 0) (by decide +kernel) c_21
      clear w_15_1_5
      refine lv_iconst (v := 0) hx hb dX12_cellTold_41 (by decide +kernel) ?_
      refine lv_goto (tgt := 51) hx hb dX12_cellTold_42 (dk_dq rfl) ?_
      have hz_24 : (0 : Int32).toInt = 0 := by decide +kernel
      have hz_25 : (0 : Int32).toInt = 0 := by decide +kernel
      have hz_26 : (0 : Int32).toInt = 0 := by decide +kernel
      refine W.widen (k := 0) (n := 0) (Nat.le_of_ble_eq_true rfl) (Nat.le_of_ble_eq_true rfl) ?_
      rw [hQ9]
      exact dg_iret hx hb hr hlocks rfl hP hS ⟨I_15, M_15, (by decide +kernel), ⟨y_17, y_18, y_19, y_20, f_y_17, f_y_18, f_y_19, f_y_20, ⟨by omega, m_hid.mk (fun h0 => CE2 (by have h9 := (w_5_1_6.out (by omega)).1; rw [show ((0 : Int32)).toInt = 0 from by decide +kernel] at h9; exact h9) (fun q1 => (by have h9 := (w_15_1_6.out (by omega)).1; rw [show ((0 : Int32)).toInt = 0 from by decide +kernel] at h9; exact h9)) (by omega) (by omega) (by omega))⟩⟩, (m_hid.mk (fun h0 f9 q9 q8 => by have q7 := (f_y_20).symm.trans q9; cases q7; exfalso; omega)), w_15_2, trivial⟩ dX12_cellTold_51
set_option maxHeartbeats 8000000 in
set_option maxRecDepth 100000 in
theorem c_m_telling (l : Launch) (g : Nat → ClassId) (D : va_G) (o : Nat) (S : dg_S) (a1 : Int32) (tb : Nat → Int32) (tn : Nat) (sg : Int32) (f_sg : S.1 0 3 = .int sg) (b_sg : 0 ≤ (sg).toInt ∧ (sg).toInt ≤ 3) (sa : Int32) (f_sa : S.1 0 4 = .int sa) (b_sa : 0 ≤ (sa).toInt ∧ (sa).toInt ≤ 1600) (se : Int32) (f_se : S.1 0 5 = .int se) (b_se : 0 ≤ (se).toInt ∧ (se).toInt ≤ 1600) (sl : Int32) (f_sl : S.1 0 2 = .int sl) (b_sl : 0 ≤ (sl).toInt ∧ (sl).toInt ≤ 1600) (fk : Int32) (f_fk : S.1 0 8 = .int fk) (b_fk : 0 ≤ (fk).toInt ∧ (fk).toInt ≤ 6) (hlx : (sa).toInt ≤ (se).toInt ∧ (se).toInt ≤ (sl).toInt ∧ ((sg).toInt ≠ 0 → (sa).toInt + 1 ≤ (se).toInt)) (hk1 : (T_kd tb tn (t_ix tb tn (sa : Int32).toNatClampNeg)).toInt = 1) (TK : TKM tb tn S) (I : CM o S) (sz : Nat) : Met l yX12_telling (bw yX12_telling cX12_telling 2 (some .int)) ({ frames := 4, cells := 0, slots := 0, locals := 100 } : Room) (dk_Pc g D (dg_w g shM o rfM S) sz [.ref (o + 0), .int a1]) (va_Qi (fun (r : Int32) S' => CM o S' ∧ dg_sm shM [(0, 3), (0, 4), (0, 5), (0, 6), (0, 7), (0, 8), (0, 9), (0, 12)] [] S S' ∧ (0 ≤ (r).toInt ∧ (r).toInt ≤ 9999) ∧ (∃ y9_3 y9_4 y9_5 y9_8 : Int32, S'.1 0 3 = .int y9_3 ∧ S'.1 0 4 = .int y9_4 ∧ S'.1 0 5 = .int y9_5 ∧ S'.1 0 8 = .int y9_8 ∧ ((((y9_4).toInt ≤ (y9_5).toInt ∧ (y9_5).toInt ≤ (sl).toInt ∧ ((y9_3).toInt ≠ 0 → (y9_4).toInt + 1 ≤ (y9_5).toInt)) ∧ (sa).toInt ≤ (y9_4).toInt ∧ ((fk).toInt ≠ 0 → (y9_8).toInt ≠ 0) ∧ ((y9_8).toInt = 0 → (0 ≤ (r).toInt ∧ (r).toInt ≤ (a1).toInt ∧ (sa).toInt + 1 ≤ (y9_4).toInt))) ∧ m_hid ((fk).toInt = 0 → m_an y9_8 (y_num (T_kd tb tn) (T_vl tb tn) 0 (a1).toInt ((t_ix tb tn (sa : Int32).toNatClampNeg) + 1)) (t_ix tb tn (y9_4 : Int32).toNatClampNeg)))) ∧ (m_hid ((fk).toInt = 0 → ∀ f9 : Int32, S'.1 0 8 = .int f9 → f9.toInt = 0 → (r).toInt = (T_vl tb tn ((t_ix tb tn (sa : Int32).toNatClampNeg) + 1)).toInt)) ∧ TKM tb tn S' ∧ True) (dg_B g D shM o rfM) (dg_A o shM.length sz)) 0 0 (dg_A o shM.length sz) := by
  refine dg_met (cc := cX12_telling) (maxL := 2) (ret := (some .int)) (dk_dq rfl) rfl (Nat.le_of_ble_eq_true rfl) ?_
  intro p e s m args below meth c A hAe harg hx hb hr hml hts hown hlocks hin hP K hS hA1 hA ST hsz ls hl
  rw [← hAe]
  have F : CallFix p m c cX12_telling 2 s args (bw yX12_telling cX12_telling 2 (some .int)) RX12 := ⟨hx, hb, hml, hown, hts⟩
  have hl : lv_has ls 2 [(0, .ref (o + 0)), (1, .int a1)] := hl
  have M_0 : dg_sm shM [(0, 3), (0, 4), (0, 5), (0, 6), (0, 7), (0, 8), (0, 9), (0, 12)] [] S S := dg_sm.rf
  obtain ⟨Q9, hQ9⟩ : ∃ Q : State → Prop, Q = MQ below (va_Qi (fun (r : Int32) S' => CM o S' ∧ dg_sm shM [(0, 3), (0, 4), (0, 5), (0, 6), (0, 7), (0, 8), (0, 9), (0, 12)] [] S S' ∧ (0 ≤ (r).toInt ∧ (r).toInt ≤ 9999) ∧ (∃ y9_3 y9_4 y9_5 y9_8 : Int32, S'.1 0 3 = .int y9_3 ∧ S'.1 0 4 = .int y9_4 ∧ S'.1 0 5 = .int y9_5 ∧ S'.1 0 8 = .int y9_8 ∧ ((((y9_4).toInt ≤ (y9_5).toInt ∧ (y9_5).toInt ≤ (sl).toInt ∧ ((y9_3).toInt ≠ 0 → (y9_4).toInt + 1 ≤ (y9_5).toInt)) ∧ (sa).toInt ≤ (y9_4).toInt ∧ ((fk).toInt ≠ 0 → (y9_8).toInt ≠ 0) ∧ ((y9_8).toInt = 0 → (0 ≤ (r).toInt ∧ (r).toInt ≤ (a1).toInt ∧ (sa).toInt + 1 ≤ (y9_4).toInt))) ∧ m_hid ((fk).toInt = 0 → m_an y9_8 (y_num (T_kd tb tn) (T_vl tb tn) 0 (a1).toInt ((t_ix tb tn (sa : Int32).toNatClampNeg) + 1)) (t_ix tb tn (y9_4 : Int32).toNatClampNeg)))) ∧ (m_hid ((fk).toInt = 0 → ∀ f9 : Int32, S'.1 0 8 = .int f9 → f9.toInt = 0 → (r).toInt = (T_vl tb tn ((t_ix tb tn (sa : Int32).toNatClampNeg) + 1)).toInt)) ∧ TKM tb tn S' ∧ True) (dg_B g D shM o rfM) A) args s 0 0 A := ⟨_, rfl⟩
  rw [← hQ9]
  obtain ⟨hlx_0, hlx_1, hlx_2⟩ := hlx
  refine lv_aload_n hx hb dX12_telling_0 rfl (lv_at hl 0 rfl) ?_
  refine lv_iconst (v := 0) hx hb dX12_telling_1 (by decide +kernel) ?_
  have hz_1 : (0 : Int32).toInt = 0 := by decide +kernel
  refine dg_calli hS hA1 hA (va_runV (As := [.int 0]) (rest := []) F (c_m_isCounted l g D o S 0 (by decide +kernel) tb tn sg f_sg (by omega) sa f_sa (by omega) se f_se (by omega) sl f_sl (by omega) fk f_fk (by omega) (by omega) (by omega) TK I s.heap.size) (cwV 1 hts (bw_V wB_379 wB_380 wB_381 wB_297 wB_378) rfl rfl rfl (by decide +kernel) ⟨Nat.le_of_ble_eq_true rfl, Nat.le_of_ble_eq_true rfl⟩) (dg_preV sM_0 rfl K ST hP hS hA1 hA) rfl rfl hl.1 rfl (lv_room (Nat.le_of_ble_eq_true rfl)) dX12_telling_2 ⟨Nat.le_of_ble_eq_true rfl, Nat.le_of_ble_eq_true rfl⟩) (fun x_2 S_3 hw_3 H locs hP hS => ?_)
  obtain ⟨I_3, m_3, w_3_0, w_3_1, w_3_2, -⟩ := hw_3
  have M_3 := dg_sm.tr M_0 m_3 (dk_dq rfl) (dk_dq rfl)
  have hz_4 : (0 : Int32).toInt = 0 := by decide +kernel
  have w_3_0 : 0 ≤ (x_2).toInt ∧ (x_2).toInt ≤ 1 := w_3_0
  obtain ⟨y_5, y_6, y_7, y_8, f_y_5, f_y_6, f_y_7, f_y_8, w_3_1⟩ := w_3_1
  have w_3_1 : (((y_6).toInt ≤ (y_7).toInt ∧ (y_7).toInt ≤ (sl).toInt ∧ ((y_5).toInt ≠ 0 → (y_6).toInt + 1 ≤ (y_7).toInt)) ∧ (sa).toInt ≤ (y_6).toInt ∧ ((fk).toInt ≠ 0 → (y_8).toInt ≠ 0) ∧ (((x_2).toInt = 1 → ((y_8).toInt = 0 ∧ (fk).toInt = 0 ∧ ((0 : Int32)).toInt = 0 ∧ ((sg).toInt ≠ 0 → (sa).toInt + 1 ≤ (y_6).toInt))) ∧ ((x_2).toInt = 0 → (y_8).toInt ≠ 0))) ∧ (((x_2).toInt = 1 → (t_ix tb tn (y_6 : Int32).toNatClampNeg) = (t_ix tb tn (sa : Int32).toNatClampNeg) + 1) ∧ ((fk).toInt = 0 → ((0 : Int32)).toInt = 0 → (x_2).toInt = 1)) := w_3_1
  obtain ⟨⟨⟨w_3_1_0, w_3_1_1, w_3_1_2⟩, w_3_1_3, w_3_1_4, ⟨w_3_1_5, w_3_1_6⟩⟩, ⟨w_3_1_7, w_3_1_8⟩⟩ := w_3_1
  have b_y_5 : 0 ≤ (y_5).toInt ∧ (y_5).toInt ≤ 3 := dg_I.intb (lo := 0) (hi := 3) I_3 sM_0 (by decide +kernel) f_y_5
  have b_y_6 : 0 ≤ (y_6).toInt ∧ (y_6).toInt ≤ 1600 := dg_I.intb (lo := 0) (hi := 1600) I_3 sM_0 (by decide +kernel) f_y_6
  have b_y_7 : 0 ≤ (y_7).toInt ∧ (y_7).toInt ≤ 1600 := dg_I.intb (lo := 0) (hi := 1600) I_3 sM_0 (by decide +kernel) f_y_7
  have b_y_8 : 0 ≤ (y_8).toInt ∧ (y_8).toInt ≤ 6 := dg_I.intb (lo := 0) (hi := 6) I_3 sM_0 (by decide +kernel) f_y_8
  refine lv_if_ne (tgt := 10) hx hb dX12_telling_5 (dk_dq rfl) (fun c_9 => ?_) (fun c_9 => ?_)
  · as_aux_lemma =>
      have jc_9 := dk_neqc (k := 0) (by decide +kernel) c_9
      have jbc_9 : 1 ≤ (x_2).toInt := by omega
      clear jc_9
      have w_3_1_5r := w_3_1_5 (by omega)
      clear w_3_1_5
      clear w_3_1_6
      have w_3_1_7r := w_3_1_7 (by omega)
      clear w_3_1_7
      obtain ⟨w_3_1_5r_0, w_3_1_5r_1, w_3_1_5r_2, w_3_1_5r_3⟩ := w_3_1_5r
      clear w_3_1_4
      have w_3_1_8r := w_3_1_8 (by omega)
      clear w_3_1_8
      refine lv_aload_n hx hb dX12_telling_10 rfl (lv_at hl 0 rfl) ?_
      refine lv_iconst (v := 0) hx hb dX12_telling_11 (by decide +kernel) ?_
      refine lv_iload_n hx hb dX12_telling_12 rfl (lv_at hl 1 rfl) ?_
      refine dg_calli hS hA1 hA (va_runV (As := [.int 0, .int a1]) (rest := []) F (c_m_number l g D o S_3 0 a1 tb tn y_5 f_y_5 (by omega) y_6 f_y_6 (by omega) y_7 f_y_7 (by omega) sl ((m_3.1 0 2 _ sM_0 (dk_dq rfl)).trans f_sl) (by omega) y_8 f_y_8 (by omega) (by omega) w_3_2 I_3 H.size) (cwV 2 hts (bw_V wB_374 wB_375 wB_376 wB_297 wB_373) rfl rfl rfl (by decide +kernel) ⟨Nat.le_of_ble_eq_true rfl, Nat.le_of_ble_eq_true rfl⟩) (dg_preV sM_0 rfl K ST hP hS hA1 hA) rfl rfl hl.1 rfl (lv_room (Nat.le_of_ble_eq_true rfl)) dX12_telling_13 ⟨Nat.le_of_ble_eq_true rfl, Nat.le_of_ble_eq_true rfl⟩) (fun x_10 S_11 hw_11 H locs hP hS => ?_)
      obtain ⟨I_11, m_11, w_11_0, w_11_1, w_11_2, -⟩ := hw_11
      have M_11 := dg_sm.tr M_3 m_11 (dk_dq rfl) (dk_dq rfl)
      have hz_12 : (0 : Int32).toInt = 0 := by decide +kernel
      have w_11_0 : 0 ≤ (x_10).toInt ∧ (x_10).toInt ≤ 9999 := w_11_0
      obtain ⟨y_13, y_14, y_15, y_16, f_y_13, f_y_14, f_y_15, f_y_16, w_11_1⟩ := w_11_1
      have w_11_1 : (((y_14).toInt ≤ (y_15).toInt ∧ (y_15).toInt ≤ (sl).toInt ∧ ((y_13).toInt ≠ 0 → (y_14).toInt + 1 ≤ (y_15).toInt)) ∧ (y_6).toInt ≤ (y_14).toInt ∧ ((y_8).toInt ≠ 0 → (y_16).toInt ≠ 0) ∧ ((y_16).toInt = 0 → (((0 : Int32)).toInt ≤ (x_10).toInt ∧ (x_10).toInt ≤ (a1).toInt ∧ (y_6).toInt + 1 ≤ (y_14).toInt))) ∧ m_hid ((y_8).toInt = 0 → m_an y_16 (y_num (T_kd tb tn) (T_vl tb tn) ((0 : Int32)).toInt (a1).toInt (t_ix tb tn (y_6 : Int32).toNatClampNeg)) (t_ix tb tn (y_14 : Int32).toNatClampNeg) ∧ ((y_16).toInt = 0 → (x_10).toInt = (T_vl tb tn (t_ix tb tn (y_6 : Int32).toNatClampNeg)).toInt)) := w_11_1
      obtain ⟨⟨⟨w_11_1_0, w_11_1_1, w_11_1_2⟩, w_11_1_3, w_11_1_4, w_11_1_5⟩, w_11_1_6⟩ := w_11_1
      clear w_11_1_4
      have b_y_13 : 0 ≤ (y_13).toInt ∧ (y_13).toInt ≤ 3 := dg_I.intb (lo := 0) (hi := 3) I_11 sM_0 (by decide +kernel) f_y_13
      have b_y_14 : 0 ≤ (y_14).toInt ∧ (y_14).toInt ≤ 1600 := dg_I.intb (lo := 0) (hi := 1600) I_11 sM_0 (by decide +kernel) f_y_14
      have b_y_15 : 0 ≤ (y_15).toInt ∧ (y_15).toInt ≤ 1600 := dg_I.intb (lo := 0) (hi := 1600) I_11 sM_0 (by decide +kernel) f_y_15
      have b_y_16 : 0 ≤ (y_16).toInt ∧ (y_16).toInt ≤ 6 := dg_I.intb (lo := 0) (hi := 6) I_11 sM_0 (by decide +kernel) f_y_16
      refine W.widen (k := 0) (n := 0) (Nat.le_of_ble_eq_true rfl) (Nat.le_of_ble_eq_true rfl) ?_
      rw [hQ9]
      exact dg_iret hx hb hr hlocks rfl hP hS ⟨I_11, M_11, (by omega), ⟨y_13, y_14, y_15, y_16, f_y_13, f_y_14, f_y_15, f_y_16, ⟨by omega, m_hid.mk (fun h0 => (by have h9 := (w_11_1_6.out (by omega)).1; rw [show ((0 : Int32)).toInt = 0 from by decide +kernel, show (t_ix tb tn (y_6 : Int32).toNatClampNeg) = ((t_ix tb tn (sa : Int32).toNatClampNeg) + 1) from by omega] at h9; exact h9))⟩⟩, (m_hid.mk (fun h0 f9 q9 q8 => by have q7 := (f_y_16).symm.trans q9; cases q7; have h9 := (w_11_1_6.out (by omega)).2 (by omega); rw [show (t_ix tb tn (y_6 : Int32).toNatClampNeg) = ((t_ix tb tn (sa : Int32).toNatClampNeg) + 1) from by omega] at h9; exact h9)), w_11_2, trivial⟩ dX12_telling_16
  · have jc_9 := dk_eqc (k := 0) (by decide +kernel) c_9
    clear w_3_1_5
    have w_3_1_6r := w_3_1_6 (by omega)
    clear w_3_1_6
    clear w_3_1_7
    have w_3_1_6rb : 1 ≤ (y_8).toInt := by omega
    clear w_3_1_6r
    refine lv_iconst (v := 0) hx hb dX12_telling_8 (by decide +kernel) ?_
    have hz_17 : (0 : Int32).toInt = 0 := by decide +kernel
    have hz_18 : (0 : Int32).toInt = 0 := by decide +kernel
    have hz_19 : (0 : Int32).toInt = 0 := by decide +kernel
    refine W.widen (k := 0) (n := 0) (Nat.le_of_ble_eq_true rfl) (Nat.le_of_ble_eq_true rfl) ?_
    rw [hQ9]
    exact dg_iret hx hb hr hlocks rfl hP hS ⟨I_3, M_3, (by decide +kernel), ⟨y_5, y_6, y_7, y_8, f_y_5, f_y_6, f_y_7, f_y_8, ⟨by omega, m_hid.mk (fun h0 => absurd h0 (by omega))⟩⟩, (m_hid.mk (fun h0 f9 q9 q8 => by have q7 := (f_y_8).symm.trans q9; cases q7; exfalso; omega)), w_3_2, trivial⟩ dX12_telling_9
set_option maxHeartbeats 8000000 in
set_option maxRecDepth 100000 in
theorem c_m_grading (l : Launch) (g : Nat → ClassId) (D : va_G) (o : Nat) (S : dg_S) (tb : Nat → Int32) (tn : Nat) (S0 : dg_S) (sg : Int32) (f_sg : S.1 0 3 = .int sg) (b_sg : 0 ≤ (sg).toInt ∧ (sg).toInt ≤ 3) (sa : Int32) (f_sa : S.1 0 4 = .int sa) (b_sa : 0 ≤ (sa).toInt ∧ (sa).toInt ≤ 1600) (se : Int32) (f_se : S.1 0 5 = .int se) (b_se : 0 ≤ (se).toInt ∧ (se).toInt ≤ 1600) (sl : Int32) (f_sl : S.1 0 2 = .int sl) (b_sl : 0 ≤ (sl).toInt ∧ (sl).toInt ≤ 1600) (fk : Int32) (f_fk : S.1 0 8 = .int fk) (b_fk : 0 ≤ (fk).toInt ∧ (fk).toInt ≤ 6) (ii : Int32) (f_ii : S.1 0 35 = .int ii) (b_ii : 0 ≤ (ii).toInt ∧ (ii).toInt ≤ 1) (cc : Int32) (f_cc : S.2.1 2 (ii : Int32).toNatClampNeg = cc) (b_cc : 3 ≤ (cc).toInt ∧ (cc).toInt ≤ 7) (rr : Int32) (f_rr : S.2.1 3 (ii : Int32).toNatClampNeg = rr) (b_rr : 3 ≤ (rr).toInt ∧ (rr).toInt ≤ 7) (hlx : (sa).toInt ≤ (se).toInt ∧ (se).toInt ≤ (sl).toInt ∧ ((sg).toInt ≠ 0 → (sa).toInt + 1 ≤ (se).toInt)) (hk1 : (T_kd tb tn (t_ix tb tn (sa : Int32).toNatClampNeg)).toInt = 1) (TK : TKM tb tn S) (ZC : ZCM S) (GB : GBM S0 S) (ZK : ZKM S) (I : CM o S) (sz : Nat) : Met l yX12_grading (bw yX12_grading cX12_grading 3 none) ({ frames := 5, cells := 0, slots := 0, locals := 122 } : Room) (dk_Pc g D (dg_w g shM o rfM S) sz [.ref (o + 0)]) (va_Qv (fun S' => CM o S' ∧ dg_sm shM [(0, 3), (0, 4), (0, 5), (0, 6), (0, 7), (0, 8), (0, 9), (0, 12)] [7] S S' ∧ (∃ y9_3 y9_4 y9_5 y9_8 : Int32, S'.1 0 3 = .int y9_3 ∧ S'.1 0 4 = .int y9_4 ∧ S'.1 0 5 = .int y9_5 ∧ S'.1 0 8 = .int y9_8 ∧ ((((y9_4).toInt ≤ (y9_5).toInt ∧ (y9_5).toInt ≤ (sl).toInt ∧ ((y9_3).toInt ≠ 0 → (y9_4).toInt + 1 ≤ (y9_5).toInt)) ∧ (sa).toInt ≤ (y9_4).toInt ∧ ((fk).toInt ≠ 0 → (y9_8).toInt ≠ 0) ∧ ((y9_8).toInt = 0 → (sa).toInt + 1 ≤ (y9_4).toInt)) ∧ m_hid ((fk).toInt = 0 → m_an y9_8 ((y_cell (T_kd tb tn) (T_vl tb tn) ((cc).toInt, (rr).toInt) ((t_ix tb tn (sa : Int32).toNatClampNeg) + 1)).bind (y_num (T_kd tb tn) (T_vl tb tn) 0 9)) (t_ix tb tn (y9_4 : Int32).toNatClampNeg)))) ∧ (m_hid ((fk).toInt = 0 → ∀ f9 : Int32, S'.1 0 8 = .int f9 → f9.toInt = 0 → ∃ (v9 : Int32) (i9 : Nat), v9.toInt = (T_vl tb tn ((t_ix tb tn (sa : Int32).toNatClampNeg) + 3)).toInt ∧ i9 = 64 * (ii : Int32).toNatClampNeg + (8 * (T_vl tb tn ((t_ix tb tn (sa : Int32).toNatClampNeg) + 2)).toInt + (T_vl tb tn ((t_ix tb tn (sa : Int32).toNatClampNeg) + 1)).toInt).toNat ∧ S'.2.1 7 = upd (S.2.1 7) i9 v9)) ∧ TKM tb tn S' ∧ GBM S0 S' ∧ True) (dg_B g D shM o rfM) (dg_A o shM.length sz)) 0 0 (dg_A o shM.length sz) := by
  refine dg_met (cc := cX12_grading) (maxL := 3) (ret := none) (dk_dq rfl) rfl (Nat.le_of_ble_eq_true rfl) ?_
  intro p e s m args below meth c A hAe harg hx hb hr hml hts hown hlocks hin hP K hS hA1 hA ST hsz ls hl
  rw [← hAe]
  have F : CallFix p m c cX12_grading 3 s args (bw yX12_grading cX12_grading 3 none) RX12 := ⟨hx, hb, hml, hown, hts⟩
  have hl : lv_has ls 3 [(0, .ref (o + 0))] := hl
  have M_0 : dg_sm shM [(0, 3), (0, 4), (0, 5), (0, 6), (0, 7), (0, 8), (0, 9), (0, 12)] [7] S S := dg_sm.rf
  obtain ⟨Q9, hQ9⟩ : ∃ Q : State → Prop, Q = MQ below (va_Qv (fun S' => CM o S' ∧ dg_sm shM [(0, 3), (0, 4), (0, 5), (0, 6), (0, 7), (0, 8), (0, 9), (0, 12)] [7] S S' ∧ (∃ y9_3 y9_4 y9_5 y9_8 : Int32, S'.1 0 3 = .int y9_3 ∧ S'.1 0 4 = .int y9_4 ∧ S'.1 0 5 = .int y9_5 ∧ S'.1 0 8 = .int y9_8 ∧ ((((y9_4).toInt ≤ (y9_5).toInt ∧ (y9_5).toInt ≤ (sl).toInt ∧ ((y9_3).toInt ≠ 0 → (y9_4).toInt + 1 ≤ (y9_5).toInt)) ∧ (sa).toInt ≤ (y9_4).toInt ∧ ((fk).toInt ≠ 0 → (y9_8).toInt ≠ 0) ∧ ((y9_8).toInt = 0 → (sa).toInt + 1 ≤ (y9_4).toInt)) ∧ m_hid ((fk).toInt = 0 → m_an y9_8 ((y_cell (T_kd tb tn) (T_vl tb tn) ((cc).toInt, (rr).toInt) ((t_ix tb tn (sa : Int32).toNatClampNeg) + 1)).bind (y_num (T_kd tb tn) (T_vl tb tn) 0 9)) (t_ix tb tn (y9_4 : Int32).toNatClampNeg)))) ∧ (m_hid ((fk).toInt = 0 → ∀ f9 : Int32, S'.1 0 8 = .int f9 → f9.toInt = 0 → ∃ (v9 : Int32) (i9 : Nat), v9.toInt = (T_vl tb tn ((t_ix tb tn (sa : Int32).toNatClampNeg) + 3)).toInt ∧ i9 = 64 * (ii : Int32).toNatClampNeg + (8 * (T_vl tb tn ((t_ix tb tn (sa : Int32).toNatClampNeg) + 2)).toInt + (T_vl tb tn ((t_ix tb tn (sa : Int32).toNatClampNeg) + 1)).toInt).toNat ∧ S'.2.1 7 = upd (S.2.1 7) i9 v9)) ∧ TKM tb tn S' ∧ GBM S0 S' ∧ True) (dg_B g D shM o rfM) A) args s 0 0 A := ⟨_, rfl⟩
  rw [← hQ9]
  obtain ⟨hlx_0, hlx_1, hlx_2⟩ := hlx
  refine lv_aload_n hx hb dX12_grading_0 rfl (lv_at hl 0 rfl) ?_
  refine lv_iconst (v := 0) hx hb dX12_grading_1 (by decide +kernel) ?_
  have hz_1 : (0 : Int32).toInt = 0 := by decide +kernel
  refine dg_calli hS hA1 hA (va_runV (As := [.int 0]) (rest := []) F (c_m_isCounted l g D o S 0 (by decide +kernel) tb tn sg f_sg (by omega) sa f_sa (by omega) se f_se (by omega) sl f_sl (by omega) fk f_fk (by omega) (by omega) (by omega) TK I s.heap.size) (cwV 1 hts (bw_V wB_379 wB_380 wB_381 wB_297 wB_378) rfl rfl rfl (by decide +kernel) ⟨Nat.le_of_ble_eq_true rfl, Nat.le_of_ble_eq_true rfl⟩) (dg_preV sM_0 rfl K ST hP hS hA1 hA) rfl rfl hl.1 rfl (lv_room (Nat.le_of_ble_eq_true rfl)) dX12_grading_2 ⟨Nat.le_of_ble_eq_true rfl, Nat.le_of_ble_eq_true rfl⟩) (fun x_2 S_3 hw_3 H locs hP hS => ?_)
  obtain ⟨I_3, m_3, w_3_0, w_3_1, w_3_2, -⟩ := hw_3
  have M_3 := dg_sm.tr M_0 m_3 (dk_dq rfl) (dk_dq rfl)
  have hz_4 : (0 : Int32).toInt = 0 := by decide +kernel
  have w_3_0 : 0 ≤ (x_2).toInt ∧ (x_2).toInt ≤ 1 := w_3_0
  obtain ⟨y_5, y_6, y_7, y_8, f_y_5, f_y_6, f_y_7, f_y_8, w_3_1⟩ := w_3_1
  have w_3_1 : (((y_6).toInt ≤ (y_7).toInt ∧ (y_7).toInt ≤ (sl).toInt ∧ ((y_5).toInt ≠ 0 → (y_6).toInt + 1 ≤ (y_7).toInt)) ∧ (sa).toInt ≤ (y_6).toInt ∧ ((fk).toInt ≠ 0 → (y_8).toInt ≠ 0) ∧ (((x_2).toInt = 1 → ((y_8).toInt = 0 ∧ (fk).toInt = 0 ∧ ((0 : Int32)).toInt = 0 ∧ ((sg).toInt ≠ 0 → (sa).toInt + 1 ≤ (y_6).toInt))) ∧ ((x_2).toInt = 0 → (y_8).toInt ≠ 0))) ∧ (((x_2).toInt = 1 → (t_ix tb tn (y_6 : Int32).toNatClampNeg) = (t_ix tb tn (sa : Int32).toNatClampNeg) + 1) ∧ ((fk).toInt = 0 → ((0 : Int32)).toInt = 0 → (x_2).toInt = 1)) := w_3_1
  obtain ⟨⟨⟨w_3_1_0, w_3_1_1, w_3_1_2⟩, w_3_1_3, w_3_1_4, ⟨w_3_1_5, w_3_1_6⟩⟩, ⟨w_3_1_7, w_3_1_8⟩⟩ := w_3_1
  have b_y_5 : 0 ≤ (y_5).toInt ∧ (y_5).toInt ≤ 3 := dg_I.intb (lo := 0) (hi := 3) I_3 sM_0 (by decide +kernel) f_y_5
  have b_y_6 : 0 ≤ (y_6).toInt ∧ (y_6).toInt ≤ 1600 := dg_I.intb (lo := 0) (hi := 1600) I_3 sM_0 (by decide +kernel) f_y_6
  have b_y_7 : 0 ≤ (y_7).toInt ∧ (y_7).toInt ≤ 1600 := dg_I.intb (lo := 0) (hi := 1600) I_3 sM_0 (by decide +kernel) f_y_7
  have b_y_8 : 0 ≤ (y_8).toInt ∧ (y_8).toInt ≤ 6 := dg_I.intb (lo := 0) (hi := 6) I_3 sM_0 (by decide +kernel) f_y_8
  refine lv_if_ne (tgt := 9) hx hb dX12_grading_5 (dk_dq rfl) (fun c_9 => ?_) (fun c_9 => ?_)
  · as_aux_lemma =>
      have jc_9 := dk_neqc (k := 0) (by decide +kernel) c_9
      have jbc_9 : 1 ≤ (x_2).toInt := by omega
      clear jc_9
      have w_3_1_5r := w_3_1_5 (by omega)
      clear w_3_1_5
      clear w_3_1_6
      have w_3_1_7r := w_3_1_7 (by omega)
      clear w_3_1_7
      obtain ⟨w_3_1_5r_0, w_3_1_5r_1, w_3_1_5r_2, w_3_1_5r_3⟩ := w_3_1_5r
      clear w_3_1_4
      have w_3_1_8r := w_3_1_8 (by omega)
      clear w_3_1_8
      refine lv_aload_n hx hb dX12_grading_9 rfl (lv_at hl 0 rfl) ?_
      refine dg_calli hS hA1 hA (va_runV (As := []) (rest := []) F (c_m_cellTold l g D o S_3 tb tn y_5 f_y_5 (by omega) y_6 f_y_6 (by omega) y_7 f_y_7 (by omega) sl ((m_3.1 0 2 _ sM_0 (dk_dq rfl)).trans f_sl) (by omega) y_8 f_y_8 (by omega) ii ((m_3.1 0 35 _ sM_0 (dk_dq rfl)).trans f_ii) (by omega) cc ((congrFun (m_3.2 2 _ sM_2 (dk_dq rfl)).1 _).trans f_cc) (by omega) rr ((congrFun (m_3.2 3 _ sM_3 (dk_dq rfl)).1 _).trans f_rr) (by omega) (by omega) w_3_2 (ZCM.keep ZC m_3 (dk_dq rfl) (dk_dq rfl) (dk_dq rfl) (dk_dq rfl)) I_3 H.size) (cwV 0 hts (bw_V wB_383 wB_384 wB_385 wB_297 wB_382) rfl rfl rfl (by decide +kernel) ⟨Nat.le_of_ble_eq_true rfl, Nat.le_of_ble_eq_true rfl⟩) (dg_preV sM_0 rfl K ST hP hS hA1 hA) rfl rfl hl.1 rfl (lv_room (Nat.le_of_ble_eq_true rfl)) dX12_grading_10 ⟨Nat.le_of_ble_eq_true rfl, Nat.le_of_ble_eq_true rfl⟩) (fun x_10 S_11 hw_11 H locs hP hS => ?_)
      obtain ⟨I_11, m_11, w_11_0, w_11_1, w_11_2, w_11_3, -⟩ := hw_11
      have M_11 := dg_sm.tr M_3 m_11 (dk_dq rfl) (dk_dq rfl)
      have w_11_0 : 0 ≤ (x_10).toInt ∧ (x_10).toInt ≤ 54 := w_11_0
      obtain ⟨y_12, y_13, y_14, y_15, f_y_12, f_y_13, f_y_14, f_y_15, w_11_1⟩ := w_11_1
      have w_11_1 : (((y_13).toInt ≤ (y_14).toInt ∧ (y_14).toInt ≤ (sl).toInt ∧ ((y_12).toInt ≠ 0 → (y_13).toInt + 1 ≤ (y_14).toInt)) ∧ (y_6).toInt ≤ (y_13).toInt ∧ ((y_8).toInt ≠ 0 → (y_15).toInt ≠ 0) ∧ ((y_6).toInt ≤ (y_6).toInt)) ∧ m_hid ((y_8).toInt = 0 → m_an y_15 (y_cell (T_kd tb tn) (T_vl tb tn) ((cc).toInt, (rr).toInt) (t_ix tb tn (y_6 : Int32).toNatClampNeg)) (t_ix tb tn (y_13 : Int32).toNatClampNeg)) := w_11_1
      obtain ⟨⟨⟨w_11_1_0, w_11_1_1, w_11_1_2⟩, w_11_1_3, w_11_1_4, w_11_1_5⟩, w_11_1_6⟩ := w_11_1
      clear w_11_1_4
      have b_y_12 : 0 ≤ (y_12).toInt ∧ (y_12).toInt ≤ 3 := dg_I.intb (lo := 0) (hi := 3) I_11 sM_0 (by decide +kernel) f_y_12
      have b_y_13 : 0 ≤ (y_13).toInt ∧ (y_13).toInt ≤ 1600 := dg_I.intb (lo := 0) (hi := 1600) I_11 sM_0 (by decide +kernel) f_y_13
      have b_y_14 : 0 ≤ (y_14).toInt ∧ (y_14).toInt ≤ 1600 := dg_I.intb (lo := 0) (hi := 1600) I_11 sM_0 (by decide +kernel) f_y_14
      have b_y_15 : 0 ≤ (y_15).toInt ∧ (y_15).toInt ≤ 6 := dg_I.intb (lo := 0) (hi := 6) I_11 sM_0 (by decide +kernel) f_y_15
      replace w_11_2 : m_hid ((y_8).toInt = 0 → ∀ f9 : Int32, S_11.1 0 8 = .int f9 → f9.toInt = 0 → (x_10).toInt = 8 * (T_vl tb tn ((t_ix tb tn (y_6 : Int32).toNatClampNeg) + 1)).toInt + (T_vl tb tn ((t_ix tb tn (y_6 : Int32).toNatClampNeg))).toInt) := w_11_2
      refine lv_istore_n (lv' := [(1, .int x_10), (0, .ref (o + 0))]) hx hb dX12_grading_13 rfl hl (dk_dq rfl) rfl (fun ls hl => ?_)
      refine lv_aload_n hx hb dX12_grading_14 rfl (lv_at hl 1 rfl) ?_
      refine lv_iconst (v := 0) hx hb dX12_grading_15 (by decide +kernel) ?_
      refine lv_bipush (v := 9) hx hb dX12_grading_16 (by decide +kernel) ?_
      refine dg_calli hS hA1 hA (va_runV (As := [.int 0, .int 9]) (rest := []) F (c_m_number l g D o S_11 0 9 tb tn y_12 f_y_12 (by omega) y_13 f_y_13 (by omega) y_14 f_y_14 (by omega) sl (((m_11.1 0 2 _ sM_0 (dk_dq rfl)).trans (m_3.1 0 2 _ sM_0 (dk_dq rfl))).trans f_sl) (by omega) y_15 f_y_15 (by omega) (by omega) w_11_3 I_11 H.size) (cwV 2 hts (bw_V wB_374 wB_375 wB_376 wB_297 wB_373) rfl rfl rfl (by decide +kernel) ⟨Nat.le_of_ble_eq_true rfl, Nat.le_of_ble_eq_true rfl⟩) (dg_preV sM_0 rfl K ST hP hS hA1 hA) rfl rfl hl.1 rfl (lv_room (Nat.le_of_ble_eq_true rfl)) dX12_grading_18 ⟨Nat.le_of_ble_eq_true rfl, Nat.le_of_ble_eq_true rfl⟩) (fun x_16 S_17 hw_17 H locs hP hS => ?_)
      obtain ⟨I_17, m_17, w_17_0, w_17_1, w_17_2, -⟩ := hw_17
      have M_17 := dg_sm.tr M_11 m_17 (dk_dq rfl) (dk_dq rfl)
      have hz_18 : (0 : Int32).toInt = 0 := by decide +kernel
      have hz_19 : (9 : Int32).toInt = 9 := by decide +kernel
      have w_17_0 : 0 ≤ (x_16).toInt ∧ (x_16).toInt ≤ 9999 := w_17_0
      obtain ⟨y_20, y_21, y_22, y_23, f_y_20, f_y_21, f_y_22, f_y_23, w_17_1⟩ := w_17_1
      have w_17_1 : (((y_21).toInt ≤ (y_22).toInt ∧ (y_22).toInt ≤ (sl).toInt ∧ ((y_20).toInt ≠ 0 → (y_21).toInt + 1 ≤ (y_22).toInt)) ∧ (y_13).toInt ≤ (y_21).toInt ∧ ((y_15).toInt ≠ 0 → (y_23).toInt ≠ 0) ∧ ((y_23).toInt = 0 → (((0 : Int32)).toInt ≤ (x_16).toInt ∧ (x_16).toInt ≤ ((9 : Int32)).toInt ∧ (y_13).toInt + 1 ≤ (y_21).toInt))) ∧ m_hid ((y_15).toInt = 0 → m_an y_23 (y_num (T_kd tb tn) (T_vl tb tn) ((0 : Int32)).toInt ((9 : Int32)).toInt (t_ix tb tn (y_13 : Int32).toNatClampNeg)) (t_ix tb tn (y_21 : Int32).toNatClampNeg) ∧ ((y_23).toInt = 0 → (x_16).toInt = (T_vl tb tn (t_ix tb tn (y_13 : Int32).toNatClampNeg)).toInt)) := w_17_1
      obtain ⟨⟨⟨w_17_1_0, w_17_1_1, w_17_1_2⟩, w_17_1_3, w_17_1_4, w_17_1_5⟩, w_17_1_6⟩ := w_17_1
      have b_y_20 : 0 ≤ (y_20).toInt ∧ (y_20).toInt ≤ 3 := dg_I.intb (lo := 0) (hi := 3) I_17 sM_0 (by decide +kernel) f_y_20
      have b_y_21 : 0 ≤ (y_21).toInt ∧ (y_21).toInt ≤ 1600 := dg_I.intb (lo := 0) (hi := 1600) I_17 sM_0 (by decide +kernel) f_y_21
      have b_y_22 : 0 ≤ (y_22).toInt ∧ (y_22).toInt ≤ 1600 := dg_I.intb (lo := 0) (hi := 1600) I_17 sM_0 (by decide +kernel) f_y_22
      have b_y_23 : 0 ≤ (y_23).toInt ∧ (y_23).toInt ≤ 6 := dg_I.intb (lo := 0) (hi := 6) I_17 sM_0 (by decide +kernel) f_y_23
      as_aux_lemma =>
        refine lv_istore_n (lv' := [(2, .int x_16), (1, .int x_10), (0, .ref (o + 0))]) hx hb dX12_grading_21 rfl hl (dk_dq rfl) rfl (fun ls hl => ?_)
        refine lv_aload_n hx hb dX12_grading_22 rfl (lv_at hl 2 rfl) ?_
        refine dg_get (C := RX12) (T := TX12) (N := 77) hx hb hts (fun w h => bw_mem (wU_X12 w h)) hown K hP sM_0 rfl 8 (dk_dq rfl) (hts _ (bw_mem wB_303)) (fun _ h9 => h9) (v := .int y_23) f_y_23 dX12_grading_23 ?_
        refine lv_if_ne (tgt := 44) hx hb dX12_grading_26 (dk_dq rfl) (fun c_24 => ?_) (fun c_24 => ?_)
        · have jc_24 := dk_neqc (k := 0) (by decide +kernel) c_24
          have jbc_24 : 1 ≤ (y_23).toInt := by omega
          clear jc_24
          clear w_17_1_5
          refine W.widen (k := 0) (n := 0) (Nat.le_of_ble_eq_true rfl) (Nat.le_of_ble_eq_true rfl) ?_
          rw [hQ9]
          exact dg_vret hx hb hr hlocks hP hS ⟨I_17, M_17, ⟨y_20, y_21, y_22, y_23, f_y_20, f_y_21, f_y_22, f_y_23, ⟨by omega, m_hid.mk (fun h0 => m_an.bind (by have h9 := (w_11_1_6.out (by omega)); rw [show (t_ix tb tn (y_6 : Int32).toNatClampNeg) = ((t_ix tb tn (sa : Int32).toNatClampNeg) + 1) from by omega] at h9; exact h9) (fun q1 => (by have h9 := (w_17_1_6.out (by omega)).1; rw [show ((0 : Int32)).toInt = 0 from by decide +kernel, show ((9 : Int32)).toInt = 9 from by decide +kernel] at h9; exact h9)) (by omega))⟩⟩, (m_hid.mk (fun h0 f9 q9 q8 => by have q7 := (f_y_23).symm.trans q9; cases q7; exfalso; omega)), w_17_2, (GBM.keep (GBM.keep (GBM.keep GB m_3 (dk_dq rfl) (dk_dq rfl) (dk_dq rfl)) m_11 (dk_dq rfl) (dk_dq rfl) (dk_dq rfl)) m_17 (dk_dq rfl) (dk_dq rfl) (dk_dq rfl)), trivial⟩ dX12_grading_44
        · as_aux_lemma =>
            have jc_24 := dk_eqc (k := 0) (by decide +kernel) c_24
            have w_17_1_4c : (y_15).toInt = 0 := by omega
            clear w_17_1_4
            have w_17_1_5r := w_17_1_5 (by omega)
            clear w_17_1_5
            obtain ⟨w_17_1_5r_0, w_17_1_5r_1, w_17_1_5r_2⟩ := w_17_1_5r
            refine lv_aload_n hx hb dX12_grading_29 rfl (lv_at hl 2 rfl) ?_
            refine dg_get (C := RX12) (T := TX12) (N := 77) hx hb hts (fun w h => bw_mem (wU_X12 w h)) hown K hP sM_0 rfl 19 (dk_dq rfl) (hts _ (bw_mem wB_386)) (fun _ h9 => h9) (v := .ref (o + 7)) (show S_17.1 0 19 = .ref (o + 7) from dg_I.rel (d := 7) I_17 sM_0 (by decide +kernel)) dX12_grading_30 ?_
            refine lv_bipush (v := 64) hx hb dX12_grading_33 (by decide +kernel) ?_
            refine lv_aload_n hx hb dX12_grading_35 rfl (lv_at hl 2 rfl) ?_
            refine dg_get (C := RX12) (T := TX12) (N := 77) hx hb hts (fun w h => bw_mem (wU_X12 w h)) hown K hP sM_0 rfl 35 (dk_dq rfl) (hts _ (bw_mem wB_353)) (fun _ h9 => h9) (v := .int ii) (((m_17.1 0 35 _ sM_0 (dk_dq rfl)).trans ((m_11.1 0 35 _ sM_0 (dk_dq rfl)).trans (m_3.1 0 35 _ sM_0 (dk_dq rfl)))).trans f_ii) dX12_grading_36 ?_
            refine lv_imul hx hb dX12_grading_39 ?_
            refine lv_topi (fun x_25 ex_25 => ?_)
            have jx_25 : (x_25).toInt = 64 * (ii).toInt := by rw [ex_25]; exact dk_mulT2 (by decide +kernel) rfl (by omega)
            refine lv_iload_n hx hb dX12_grading_40 rfl (lv_at hl 1 rfl) ?_
            refine lv_iadd hx hb dX12_grading_41 ?_
            refine lv_topi (fun x_26 ex_26 => ?_)
            have jx_26 : (x_26).toInt = (x_25).toInt + (x_10).toInt := by rw [ex_26]; exact dk_addT2 rfl rfl (by omega)
            refine lv_iload_n hx hb dX12_grading_42 rfl (lv_at hl 0 rfl) ?_
            have hin_27 : vp_in x_26 128 := (dk_inv2 (by omega))
            refine dg_iast hx hb K hP hS hA1 sM_7 hin_27 dX12_grading_43 (fun S_28 e_28 H locs hP hS => ?_)
            have I_28 := dg_I.ufu (lo := 0) (hi := 9) I_17 e_28 sM_7 (by decide +kernel) (show 0 ≤ (x_16).toInt ∧ (x_16).toInt ≤ 9 from (by omega))
            have M_28 := dg_sm.uf M_17 e_28 sM_7 (dk_dq rfl)
            have GB_28 := GBM.st (GBM.keep (GBM.keep (GBM.keep GB m_3 (dk_dq rfl) (dk_dq rfl) (dk_dq rfl)) m_11 (dk_dq rfl) (dk_dq rfl) (dk_dq rfl)) m_17 (dk_dq rfl) (dk_dq rfl) (dk_dq rfl)) (ZKM.keep (ZKM.keep (ZKM.keep ZK m_3 (dk_dq rfl) (dk_dq rfl)) m_11 (dk_dq rfl) (dk_dq rfl)) m_17 (dk_dq rfl) (dk_dq rfl)) (((m_17.1 0 35 _ sM_0 (dk_dq rfl)).trans ((m_11.1 0 35 _ sM_0 (dk_dq rfl)).trans (m_3.1 0 35 _ sM_0 (dk_dq rfl)))).trans f_ii) 64 rfl (wi := 64) rfl e_28 (by omega) (by omega)
            refine W.widen (k := 0) (n := 0) (Nat.le_of_ble_eq_true rfl) (Nat.le_of_ble_eq_true rfl) ?_
            rw [hQ9]
            exact dg_vret hx hb hr hlocks hP hS ⟨I_28, M_28, ⟨y_20, y_21, y_22, y_23, ((dg_uf_F e_28 0 3).trans f_y_20), ((dg_uf_F e_28 0 4).trans f_y_21), ((dg_uf_F e_28 0 5).trans f_y_22), ((dg_uf_F e_28 0 8).trans f_y_23), ⟨by omega, m_hid.mk (fun h0 => m_an.bind (by have h9 := (w_11_1_6.out (by omega)); rw [show (t_ix tb tn (y_6 : Int32).toNatClampNeg) = ((t_ix tb tn (sa : Int32).toNatClampNeg) + 1) from by omega] at h9; exact h9) (fun q1 => (by have h9 := (w_17_1_6.out (by omega)).1; rw [show ((0 : Int32)).toInt = 0 from by decide +kernel, show ((9 : Int32)).toInt = 9 from by decide +kernel] at h9; exact h9)) (by omega))⟩⟩, (m_hid.mk (fun h0 f9 q9 q8 => by have q7 := (((dg_uf_F e_28 0 8).trans f_y_23)).symm.trans q9; cases q7; exact ⟨x_16, (x_26 : Int32).toNatClampNeg, by have h9 := (w_17_1_6.out (by omega)).2 (by omega); have h7 := y_cell_k ((w_11_1_6.out (by omega)).1 (by omega)); rw [h7, show (t_ix tb tn (y_6 : Int32).toNatClampNeg) = (t_ix tb tn (sa : Int32).toNatClampNeg) + 1 from by omega] at h9; (try simp only [Nat.add_assoc, Nat.reduceAdd] at h9); exact h9, by have c9 := w_11_2.out (by omega) _ f_y_15 (by omega); rw [show (t_ix tb tn (y_6 : Int32).toNatClampNeg) = (t_ix tb tn (sa : Int32).toNatClampNeg) + 1 from by omega] at c9; (try simp only [Nat.add_assoc, Nat.reduceAdd] at c9); have h8 := dk_clN x_26; have h7 := dk_clN ii; omega, by rw [dg_uf_at e_28, ((m_17.2 7 _ sM_7 (dk_dq rfl)).1.trans ((m_11.2 7 _ sM_7 (dk_dq rfl)).1.trans (m_3.2 7 _ sM_7 (dk_dq rfl)).1))]⟩)), (TKM.keep w_17_2 (dg_sm.uf (WF := []) (WA := [7]) dg_sm.rf e_28 sM_7 (dk_dq rfl)) (dk_dq rfl) (dk_dq rfl) (dk_dq rfl) (dk_dq rfl) (dk_dq rfl) (dk_dq rfl) (dk_dq rfl) (dk_dq rfl)), GB_28, trivial⟩ dX12_grading_44
  · have jc_9 := dk_eqc (k := 0) (by decide +kernel) c_9
    clear w_3_1_5
    have w_3_1_6r := w_3_1_6 (by omega)
    clear w_3_1_6
    clear w_3_1_7
    have w_3_1_6rb : 1 ≤ (y_8).toInt := by omega
    clear w_3_1_6r
    refine W.widen (k := 0) (n := 0) (Nat.le_of_ble_eq_true rfl) (Nat.le_of_ble_eq_true rfl) ?_
    rw [hQ9]
    exact dg_vret hx hb hr hlocks hP hS ⟨I_3, M_3, ⟨y_5, y_6, y_7, y_8, f_y_5, f_y_6, f_y_7, f_y_8, ⟨by omega, m_hid.mk (fun h0 => absurd h0 (by omega))⟩⟩, (m_hid.mk (fun h0 f9 q9 q8 => by have q7 := (f_y_8).symm.trans q9; cases q7; exfalso; omega)), w_3_2, (GBM.keep GB m_3 (dk_dq rfl) (dk_dq rfl) (dk_dq rfl)), trivial⟩ dX12_grading_8
