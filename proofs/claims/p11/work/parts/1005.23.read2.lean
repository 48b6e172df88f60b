/-! 23.read2.lean.txt -/
theorem dX6_takeCell_0 : decode cX6_takeCell 0 = .ok (.aload_n 0, 1) := dk_o42 (by decide +kernel)
theorem dX6_takeCell_1 : decode cX6_takeCell 1 = .ok (.iconst 0, 1) := dk_o3 (by decide +kernel)
theorem dX6_takeCell_2 : decode cX6_takeCell 2 = .ok (.aload_n 0, 1) := dk_o42 (by decide +kernel)
theorem dX6_takeCell_3 : decode cX6_takeCell 3 = .ok (.getfield 22, 3) := dk_o180 (by decide +kernel)
theorem dX6_takeCell_6 : decode cX6_takeCell 6 = .ok (.getfield 105, 3) := dk_o180 (by decide +kernel)
theorem dX6_takeCell_9 : decode cX6_takeCell 9 = .ok (.iconst 1, 1) := dk_o4 (by decide +kernel)
theorem dX6_takeCell_10 : decode cX6_takeCell 10 = .ok (.isub, 1) := dk_o100 (by decide +kernel)
theorem dX6_takeCell_11 : decode cX6_takeCell 11 = .ok (.invokevirtual 95, 3) := dk_o182 (by decide +kernel)
theorem dX6_takeCell_14 : decode cX6_takeCell 14 = .ok (.ifCond .ne 5, 3) := dk_o154 (by decide +kernel)
theorem dX6_takeCell_17 : decode cX6_takeCell 17 = .ok (.iconst (-1), 1) := dk_o2 (by decide +kernel)
theorem dX6_takeCell_18 : decode cX6_takeCell 18 = .ok (.ireturn, 1) := dk_o172 (by decide +kernel)
theorem dX6_takeCell_19 : decode cX6_takeCell 19 = .ok (.aload_n 0, 1) := dk_o42 (by decide +kernel)
theorem dX6_takeCell_20 : decode cX6_takeCell 20 = .ok (.getfield 99, 3) := dk_o180 (by decide +kernel)
theorem dX6_takeCell_23 : decode cX6_takeCell 23 = .ok (.istore_n 1, 1) := dk_o60 (by decide +kernel)
theorem dX6_takeCell_24 : decode cX6_takeCell 24 = .ok (.aload_n 0, 1) := dk_o42 (by decide +kernel)
theorem dX6_takeCell_25 : decode cX6_takeCell 25 = .ok (.iconst 0, 1) := dk_o3 (by decide +kernel)
theorem dX6_takeCell_26 : decode cX6_takeCell 26 = .ok (.aload_n 0, 1) := dk_o42 (by decide +kernel)
theorem dX6_takeCell_27 : decode cX6_takeCell 27 = .ok (.getfield 22, 3) := dk_o180 (by decide +kernel)
theorem dX6_takeCell_30 : decode cX6_takeCell 30 = .ok (.getfield 108, 3) := dk_o180 (by decide +kernel)
theorem dX6_takeCell_33 : decode cX6_takeCell 33 = .ok (.iconst 1, 1) := dk_o4 (by decide +kernel)
theorem dX6_takeCell_34 : decode cX6_takeCell 34 = .ok (.isub, 1) := dk_o100 (by decide +kernel)
theorem dX6_takeCell_35 : decode cX6_takeCell 35 = .ok (.invokevirtual 95, 3) := dk_o182 (by decide +kernel)
theorem dX6_takeCell_38 : decode cX6_takeCell 38 = .ok (.ifCond .ne 5, 3) := dk_o154 (by decide +kernel)
theorem dX6_takeCell_41 : decode cX6_takeCell 41 = .ok (.iconst (-1), 1) := dk_o2 (by decide +kernel)
theorem dX6_takeCell_42 : decode cX6_takeCell 42 = .ok (.ireturn, 1) := dk_o172 (by decide +kernel)
theorem dX6_takeCell_43 : decode cX6_takeCell 43 = .ok (.aload_n 0, 1) := dk_o42 (by decide +kernel)
theorem dX6_takeCell_44 : decode cX6_takeCell 44 = .ok (.getfield 22, 3) := dk_o180 (by decide +kernel)
theorem dX6_takeCell_47 : decode cX6_takeCell 47 = .ok (.iload_n 1, 1) := dk_o27 (by decide +kernel)
theorem dX6_takeCell_48 : decode cX6_takeCell 48 = .ok (.aload_n 0, 1) := dk_o42 (by decide +kernel)
theorem dX6_takeCell_49 : decode cX6_takeCell 49 = .ok (.getfield 99, 3) := dk_o180 (by decide +kernel)
theorem dX6_takeCell_52 : decode cX6_takeCell 52 = .ok (.invokevirtual 111, 3) := dk_o182 (by decide +kernel)
theorem dX6_takeCell_55 : decode cX6_takeCell 55 = .ok (.ireturn, 1) := dk_o172 (by decide +kernel)
theorem dX6_takeNumber_0 : decode cX6_takeNumber 0 = .ok (.aload_n 0, 1) := dk_o42 (by decide +kernel)
theorem dX6_takeNumber_1 : decode cX6_takeNumber 1 = .ok (.getfield 18, 3) := dk_o180 (by decide +kernel)
theorem dX6_takeNumber_4 : decode cX6_takeNumber 4 = .ok (.getfield 44, 3) := dk_o180 (by decide +kernel)
theorem dX6_takeNumber_7 : decode cX6_takeNumber 7 = .ok (.aload_n 0, 1) := dk_o42 (by decide +kernel)
theorem dX6_takeNumber_8 : decode cX6_takeNumber 8 = .ok (.getfield 34, 3) := dk_o180 (by decide +kernel)
theorem dX6_takeNumber_11 : decode cX6_takeNumber 11 = .ok (.iaload, 1) := dk_o46 (by decide +kernel)
theorem dX6_takeNumber_12 : decode cX6_takeNumber 12 = .ok (.iconst 3, 1) := dk_o6 (by decide +kernel)
theorem dX6_takeNumber_13 : decode cX6_takeNumber 13 = .ok (.if_icmp .eq 9, 3) := dk_o159 (by decide +kernel)
theorem dX6_takeNumber_16 : decode cX6_takeNumber 16 = .ok (.aload_n 0, 1) := dk_o42 (by decide +kernel)
theorem dX6_takeNumber_17 : decode cX6_takeNumber 17 = .ok (.iconst 1, 1) := dk_o4 (by decide +kernel)
theorem dX6_takeNumber_18 : decode cX6_takeNumber 18 = .ok (.invokevirtual 55, 3) := dk_o182 (by decide +kernel)
theorem dX6_takeNumber_21 : decode cX6_takeNumber 21 = .ok (.ireturn, 1) := dk_o172 (by decide +kernel)
theorem dX6_takeNumber_22 : decode cX6_takeNumber 22 = .ok (.aload_n 0, 1) := dk_o42 (by decide +kernel)
theorem dX6_takeNumber_23 : decode cX6_takeNumber 23 = .ok (.aload_n 0, 1) := dk_o42 (by decide +kernel)
theorem dX6_takeNumber_24 : decode cX6_takeNumber 24 = .ok (.getfield 18, 3) := dk_o180 (by decide +kernel)
theorem dX6_takeNumber_27 : decode cX6_takeNumber 27 = .ok (.getfield 61, 3) := dk_o180 (by decide +kernel)
theorem dX6_takeNumber_30 : decode cX6_takeNumber 30 = .ok (.aload_n 0, 1) := dk_o42 (by decide +kernel)
theorem dX6_takeNumber_31 : decode cX6_takeNumber 31 = .ok (.getfield 34, 3) := dk_o180 (by decide +kernel)
theorem dX6_takeNumber_34 : decode cX6_takeNumber 34 = .ok (.iaload, 1) := dk_o46 (by decide +kernel)
theorem dX6_takeNumber_35 : decode cX6_takeNumber 35 = .ok (.putfield 99, 3) := dk_o181 (by decide +kernel)
theorem dX6_takeNumber_38 : decode cX6_takeNumber 38 = .ok (.aload_n 0, 1) := dk_o42 (by decide +kernel)
theorem dX6_takeNumber_39 : decode cX6_takeNumber 39 = .ok (.getfield 99, 3) := dk_o180 (by decide +kernel)
theorem dX6_takeNumber_42 : decode cX6_takeNumber 42 = .ok (.iload_n 1, 1) := dk_o27 (by decide +kernel)
theorem dX6_takeNumber_43 : decode cX6_takeNumber 43 = .ok (.if_icmp .lt 11, 3) := dk_o161 (by decide +kernel)
theorem dX6_takeNumber_46 : decode cX6_takeNumber 46 = .ok (.aload_n 0, 1) := dk_o42 (by decide +kernel)
theorem dX6_takeNumber_47 : decode cX6_takeNumber 47 = .ok (.getfield 99, 3) := dk_o180 (by decide +kernel)
theorem dX6_takeNumber_50 : decode cX6_takeNumber 50 = .ok (.iload_n 2, 1) := dk_o28 (by decide +kernel)
theorem dX6_takeNumber_51 : decode cX6_takeNumber 51 = .ok (.if_icmp .le 9, 3) := dk_o164 (by decide +kernel)
theorem dX6_takeNumber_54 : decode cX6_takeNumber 54 = .ok (.aload_n 0, 1) := dk_o42 (by decide +kernel)
theorem dX6_takeNumber_55 : decode cX6_takeNumber 55 = .ok (.iconst 4, 1) := dk_o7 (by decide +kernel)
theorem dX6_takeNumber_56 : decode cX6_takeNumber 56 = .ok (.invokevirtual 55, 3) := dk_o182 (by decide +kernel)
theorem dX6_takeNumber_59 : decode cX6_takeNumber 59 = .ok (.ireturn, 1) := dk_o172 (by decide +kernel)
theorem dX6_takeNumber_60 : decode cX6_takeNumber 60 = .ok (.aload_n 0, 1) := dk_o42 (by decide +kernel)
theorem dX6_takeNumber_61 : decode cX6_takeNumber 61 = .ok (.invokevirtual 92, 3) := dk_o182 (by decide +kernel)
theorem dX6_takeNumber_64 : decode cX6_takeNumber 64 = .ok (.iconst 1, 1) := dk_o4 (by decide +kernel)
theorem dX6_takeNumber_65 : decode cX6_takeNumber 65 = .ok (.ireturn, 1) := dk_o172 (by decide +kernel)
theorem dX6_takeNewName_0 : decode cX6_takeNewName 0 = .ok (.aload_n 0, 1) := dk_o42 (by decide +kernel)
theorem dX6_takeNewName_1 : decode cX6_takeNewName 1 = .ok (.getfield 18, 3) := dk_o180 (by decide +kernel)
theorem dX6_takeNewName_4 : decode cX6_takeNewName 4 = .ok (.getfield 44, 3) := dk_o180 (by decide +kernel)
theorem dX6_takeNewName_7 : decode cX6_takeNewName 7 = .ok (.aload_n 0, 1) := dk_o42 (by decide +kernel)
theorem dX6_takeNewName_8 : decode cX6_takeNewName 8 = .ok (.getfield 34, 3) := dk_o180 (by decide +kernel)
theorem dX6_takeNewName_11 : decode cX6_takeNewName 11 = .ok (.iaload, 1) := dk_o46 (by decide +kernel)
theorem dX6_takeNewName_12 : decode cX6_takeNewName 12 = .ok (.iconst 2, 1) := dk_o5 (by decide +kernel)
theorem dX6_takeNewName_13 : decode cX6_takeNewName 13 = .ok (.if_icmp .eq 9, 3) := dk_o159 (by decide +kernel)
theorem dX6_takeNewName_16 : decode cX6_takeNewName 16 = .ok (.aload_n 0, 1) := dk_o42 (by decide +kernel)
theorem dX6_takeNewName_17 : decode cX6_takeNewName 17 = .ok (.iconst 1, 1) := dk_o4 (by decide +kernel)
theorem dX6_takeNewName_18 : decode cX6_takeNewName 18 = .ok (.invokevirtual 55, 3) := dk_o182 (by decide +kernel)
theorem dX6_takeNewName_21 : decode cX6_takeNewName 21 = .ok (.ireturn, 1) := dk_o172 (by decide +kernel)
theorem dX6_takeNewName_22 : decode cX6_takeNewName 22 = .ok (.aload_n 0, 1) := dk_o42 (by decide +kernel)
theorem dX6_takeNewName_23 : decode cX6_takeNewName 23 = .ok (.aload_n 0, 1) := dk_o42 (by decide +kernel)
theorem dX6_takeNewName_24 : decode cX6_takeNewName 24 = .ok (.getfield 18, 3) := dk_o180 (by decide +kernel)
theorem dX6_takeNewName_27 : decode cX6_takeNewName 27 = .ok (.getfield 61, 3) := dk_o180 (by decide +kernel)
theorem dX6_takeNewName_30 : decode cX6_takeNewName 30 = .ok (.aload_n 0, 1) := dk_o42 (by decide +kernel)
theorem dX6_takeNewName_31 : decode cX6_takeNewName 31 = .ok (.getfield 34, 3) := dk_o180 (by decide +kernel)
theorem dX6_takeNewName_34 : decode cX6_takeNewName 34 = .ok (.iaload, 1) := dk_o46 (by decide +kernel)
theorem dX6_takeNewName_35 : decode cX6_takeNewName 35 = .ok (.putfield 99, 3) := dk_o181 (by decide +kernel)
theorem dX6_takeNewName_38 : decode cX6_takeNewName 38 = .ok (.aload_n 0, 1) := dk_o42 (by decide +kernel)
theorem dX6_takeNewName_39 : decode cX6_takeNewName 39 = .ok (.getfield 22, 3) := dk_o180 (by decide +kernel)
theorem dX6_takeNewName_42 : decode cX6_takeNewName 42 = .ok (.aload_n 0, 1) := dk_o42 (by decide +kernel)
theorem dX6_takeNewName_43 : decode cX6_takeNewName 43 = .ok (.getfield 99, 3) := dk_o180 (by decide +kernel)
theorem dX6_takeNewName_46 : decode cX6_takeNewName 46 = .ok (.invokevirtual 234, 3) := dk_o182 (by decide +kernel)
theorem dX6_takeNewName_49 : decode cX6_takeNewName 49 = .ok (.ifCond .eq 9, 3) := dk_o153 (by decide +kernel)
theorem dX6_takeNewName_52 : decode cX6_takeNewName 52 = .ok (.aload_n 0, 1) := dk_o42 (by decide +kernel)
theorem dX6_takeNewName_53 : decode cX6_takeNewName 53 = .ok (.iconst 2, 1) := dk_o5 (by decide +kernel)
theorem dX6_takeNewName_54 : decode cX6_takeNewName 54 = .ok (.invokevirtual 55, 3) := dk_o182 (by decide +kernel)
theorem dX6_takeNewName_57 : decode cX6_takeNewName 57 = .ok (.ireturn, 1) := dk_o172 (by decide +kernel)
theorem dX6_takeNewName_58 : decode cX6_takeNewName 58 = .ok (.aload_n 0, 1) := dk_o42 (by decide +kernel)
theorem dX6_takeNewName_59 : decode cX6_takeNewName 59 = .ok (.invokevirtual 92, 3) := dk_o182 (by decide +kernel)
theorem dX6_takeNewName_62 : decode cX6_takeNewName 62 = .ok (.iconst 1, 1) := dk_o4 (by decide +kernel)
theorem dX6_takeNewName_63 : decode cX6_takeNewName 63 = .ok (.ireturn, 1) := dk_o172 (by decide +kernel)
theorem dX6_takeMiner_0 : decode cX6_takeMiner 0 = .ok (.aload_n 0, 1) := dk_o42 (by decide +kernel)
theorem dX6_takeMiner_1 : decode cX6_takeMiner 1 = .ok (.getfield 18, 3) := dk_o180 (by decide +kernel)
theorem dX6_takeMiner_4 : decode cX6_takeMiner 4 = .ok (.getfield 44, 3) := dk_o180 (by decide +kernel)
theorem dX6_takeMiner_7 : decode cX6_takeMiner 7 = .ok (.aload_n 0, 1) := dk_o42 (by decide +kernel)
theorem dX6_takeMiner_8 : decode cX6_takeMiner 8 = .ok (.getfield 34, 3) := dk_o180 (by decide +kernel)
theorem dX6_takeMiner_11 : decode cX6_takeMiner 11 = .ok (.iaload, 1) := dk_o46 (by decide +kernel)
theorem dX6_takeMiner_12 : decode cX6_takeMiner 12 = .ok (.iconst 2, 1) := dk_o5 (by decide +kernel)
theorem dX6_takeMiner_13 : decode cX6_takeMiner 13 = .ok (.if_icmp .eq 11, 3) := dk_o159 (by decide +kernel)
theorem dX6_takeMiner_16 : decode cX6_takeMiner 16 = .ok (.aload_n 0, 1) := dk_o42 (by decide +kernel)
theorem dX6_takeMiner_17 : decode cX6_takeMiner 17 = .ok (.iconst 1, 1) := dk_o4 (by decide +kernel)
theorem dX6_takeMiner_18 : decode cX6_takeMiner 18 = .ok (.invokevirtual 55, 3) := dk_o182 (by decide +kernel)
theorem dX6_takeMiner_21 : decode cX6_takeMiner 21 = .ok (.pop, 1) := dk_o87 (by decide +kernel)
theorem dX6_takeMiner_22 : decode cX6_takeMiner 22 = .ok (.iconst (-1), 1) := dk_o2 (by decide +kernel)
theorem dX6_takeMiner_23 : decode cX6_takeMiner 23 = .ok (.ireturn, 1) := dk_o172 (by decide +kernel)
theorem dX6_takeMiner_24 : decode cX6_takeMiner 24 = .ok (.aload_n 0, 1) := dk_o42 (by decide +kernel)
theorem dX6_takeMiner_25 : decode cX6_takeMiner 25 = .ok (.getfield 22, 3) := dk_o180 (by decide +kernel)
theorem dX6_takeMiner_28 : decode cX6_takeMiner 28 = .ok (.aload_n 0, 1) := dk_o42 (by decide +kernel)
theorem dX6_takeMiner_29 : decode cX6_takeMiner 29 = .ok (.getfield 18, 3) := dk_o180 (by decide +kernel)
theorem dX6_takeMiner_32 : decode cX6_takeMiner 32 = .ok (.getfield 61, 3) := dk_o180 (by decide +kernel)
theorem dX6_takeMiner_35 : decode cX6_takeMiner 35 = .ok (.aload_n 0, 1) := dk_o42 (by decide +kernel)
theorem dX6_takeMiner_36 : decode cX6_takeMiner 36 = .ok (.getfield 34, 3) := dk_o180 (by decide +kernel)
theorem dX6_takeMiner_39 : decode cX6_takeMiner 39 = .ok (.iaload, 1) := dk_o46 (by decide +kernel)
theorem dX6_takeMiner_40 : decode cX6_takeMiner 40 = .ok (.invokevirtual 237, 3) := dk_o182 (by decide +kernel)
theorem dX6_takeMiner_43 : decode cX6_takeMiner 43 = .ok (.istore_n 1, 1) := dk_o60 (by decide +kernel)
theorem dX6_takeMiner_44 : decode cX6_takeMiner 44 = .ok (.iload_n 1, 1) := dk_o27 (by decide +kernel)
theorem dX6_takeMiner_45 : decode cX6_takeMiner 45 = .ok (.iconst (-1), 1) := dk_o2 (by decide +kernel)
theorem dX6_takeMiner_46 : decode cX6_takeMiner 46 = .ok (.if_icmp .ne 11, 3) := dk_o160 (by decide +kernel)
theorem dX6_takeMiner_49 : decode cX6_takeMiner 49 = .ok (.aload_n 0, 1) := dk_o42 (by decide +kernel)
theorem dX6_takeMiner_50 : decode cX6_takeMiner 50 = .ok (.iconst 3, 1) := dk_o6 (by decide +kernel)
theorem dX6_takeMiner_51 : decode cX6_takeMiner 51 = .ok (.invokevirtual 55, 3) := dk_o182 (by decide +kernel)
theorem dX6_takeMiner_54 : decode cX6_takeMiner 54 = .ok (.pop, 1) := dk_o87 (by decide +kernel)
theorem dX6_takeMiner_55 : decode cX6_takeMiner 55 = .ok (.iconst (-1), 1) := dk_o2 (by decide +kernel)
theorem dX6_takeMiner_56 : decode cX6_takeMiner 56 = .ok (.ireturn, 1) := dk_o172 (by decide +kernel)
theorem dX6_takeMiner_57 : decode cX6_takeMiner 57 = .ok (.aload_n 0, 1) := dk_o42 (by decide +kernel)
theorem dX6_takeMiner_58 : decode cX6_takeMiner 58 = .ok (.invokevirtual 92, 3) := dk_o182 (by decide +kernel)
theorem dX6_takeMiner_61 : decode cX6_takeMiner 61 = .ok (.iload_n 1, 1) := dk_o27 (by decide +kernel)
theorem dX6_takeMiner_62 : decode cX6_takeMiner 62 = .ok (.ireturn, 1) := dk_o172 (by decide +kernel)
theorem wB_41 : Cond.fieldLink RX6 99 "DarkMine$Reader" "value" "I" ∈ dgB := List.mem_filter.mpr ⟨tbl_2 _ (List.mem_of_getElem? (i := 86) (by decide +kernel)), by decide +kernel⟩
theorem wB_42 : Cond.code yX2_hasName cX2_hasName 3 (some .boolean) ∈ dgB := List.mem_filter.mpr ⟨tbl_4 _ (List.mem_of_getElem? (i := 17) rfl), rfl⟩
theorem wB_43 : Cond.methodLink RX6 234 yX2_hasName ∈ dgB := List.mem_filter.mpr ⟨tbl_4 _ (List.mem_of_getElem? (i := 14) (by decide +kernel)), by decide +kernel⟩
theorem wB_44 : Cond.instanceMethod yX2_hasName ∈ dgB := List.mem_filter.mpr ⟨tbl_4 _ (List.mem_of_getElem? (i := 15) (by decide +kernel)), by decide +kernel⟩
theorem wB_45 : Cond.selects RX2 yX2_hasName yX2_hasName ∈ dgB := List.mem_filter.mpr ⟨tbl_4 _ (List.mem_of_getElem? (i := 16) (by decide +kernel)), by decide +kernel⟩
theorem wB_46 : Cond.methodLink RX6 237 yX2_minerNamed ∈ dgB := List.mem_filter.mpr ⟨tbl_4 _ (List.mem_of_getElem? (i := 30) (by decide +kernel)), by decide +kernel⟩
theorem wB_47 : Cond.fieldLink RX6 105 "DarkMine$Ground" "columns" "I" ∈ dgB := List.mem_filter.mpr ⟨tbl_1 _ (List.mem_of_getElem? (i := 178) (by decide +kernel)), by decide +kernel⟩
theorem wB_48 : Cond.code yX6_takeNumber cX6_takeNumber 3 (some .boolean) ∈ dgB := List.mem_filter.mpr ⟨tbl_3 _ (List.mem_of_getElem? (i := 217) rfl), rfl⟩
theorem wB_49 : Cond.methodLink RX6 95 yX6_takeNumber ∈ dgB := List.mem_filter.mpr ⟨tbl_3 _ (List.mem_of_getElem? (i := 214) (by decide +kernel)), by decide +kernel⟩
theorem wB_50 : Cond.instanceMethod yX6_takeNumber ∈ dgB := List.mem_filter.mpr ⟨tbl_3 _ (List.mem_of_getElem? (i := 216) (by decide +kernel)), by decide +kernel⟩
theorem wB_51 : Cond.selects RX6 yX6_takeNumber yX6_takeNumber ∈ dgB := List.mem_filter.mpr ⟨List.mem_of_getElem? (i := 11) (by decide +kernel), by decide +kernel⟩
theorem wB_52 : Cond.fieldLink RX6 108 "DarkMine$Ground" "rows" "I" ∈ dgB := List.mem_filter.mpr ⟨tbl_1 _ (List.mem_of_getElem? (i := 184) (by decide +kernel)), by decide +kernel⟩
theorem wB_53 : Cond.code yX2_placeOf cX2_placeOf 3 (some .int) ∈ dgB := List.mem_filter.mpr ⟨tbl_3 _ (List.mem_of_getElem? (i := 225) rfl), rfl⟩
theorem wB_54 : Cond.methodLink RX6 111 yX2_placeOf ∈ dgB := List.mem_filter.mpr ⟨tbl_3 _ (List.mem_of_getElem? (i := 222) (by decide +kernel)), by decide +kernel⟩
theorem wB_55 : Cond.instanceMethod yX2_placeOf ∈ dgB := List.mem_filter.mpr ⟨tbl_3 _ (List.mem_of_getElem? (i := 223) (by decide +kernel)), by decide +kernel⟩
theorem wB_56 : Cond.selects RX2 yX2_placeOf yX2_placeOf ∈ dgB := List.mem_filter.mpr ⟨tbl_3 _ (List.mem_of_getElem? (i := 224) (by decide +kernel)), by decide +kernel⟩
set_option maxHeartbeats 8000000 in
set_option maxRecDepth 100000 in
theorem c_rd_takeNumber (l : Launch) (g : Nat → ClassId) (D : va_G) (o : Nat) (S : dg_S) (a1 : Int32) (a2 : Int32) (en : Int32) (kd : Nat → Int32) (vl : Nat → Int32) (n0 : Int32) (f_n0 : S.1 209 4 = .int n0) (b_n0 : 0 ≤ (n0).toInt ∧ (n0).toInt ≤ 1600) (ke : Int32) (f_ke : S.2.1 211 (en : Int32).toNatClampNeg = ke) (b_ke : 0 ≤ (ke).toInt ∧ (ke).toInt ≤ 0) (hne : (n0).toInt ≤ (en).toInt ∧ (en).toInt ≤ 1600 ∧ 0 ≤ (en).toInt) (hkd : ∀ k9 : Nat, k9 ≤ (en : Int32).toNatClampNeg → S.2.1 211 k9 = kd k9) (hvl : ∀ k9 : Nat, k9 ≤ (en : Int32).toNatClampNeg → S.2.1 213 k9 = vl k9) (I : CX o S) (sz : Nat) : Met l yX6_takeNumber (bw yX6_takeNumber cX6_takeNumber 3 (some .boolean)) ({ frames := 2, cells := 0, slots := 0, locals := 54 } : Room) (dk_Pc g D (dg_w g shX o rfX S) sz [.ref (o + 209), .int a1, .int a2]) (va_Qi (fun (r : Int32) S' => CX o S' ∧ dg_sm shX [(31, 0), (31, 1), (31, 4), (31, 5)] [] S S' ∧ (0 ≤ (r).toInt ∧ (r).toInt ≤ 1) ∧ (∃ y9 : Int32, S'.1 209 5 = .int y9 ∧ ((r).toInt = 1 → (y9).toInt = (vl (n0 : Int32).toNatClampNeg).toInt ∧ (a1).toInt ≤ (y9).toInt ∧ (y9).toInt ≤ (a2).toInt)) ∧ (∃ y9 : Int32, S'.1 209 4 = .int y9 ∧ ((y9).toInt ≤ (en).toInt ∧ g_ans r (y_num kd vl (a1).toInt (a2).toInt (n0 : Int32).toNatClampNeg) (y9 : Int32).toNatClampNeg)) ∧ True) (dg_B g D shX o rfX) (dg_A o shX.length sz)) 0 0 (dg_A o shX.length sz) := by
  refine dg_met (cc := cX6_takeNumber) (maxL := 3) (ret := (some .boolean)) (dk_dq rfl) rfl (Nat.le_of_ble_eq_true rfl) ?_
  intro p e s m args below meth c A hAe harg hx hb hr hml hts hown hlocks hin hP K hS hA1 hA ST hsz ls hl
  rw [← hAe]
  have F : CallFix p m c cX6_takeNumber 3 s args (bw yX6_takeNumber cX6_takeNumber 3 (some .boolean)) RX6 := ⟨hx, hb, hml, hown, hts⟩
  have hl : lv_has ls 3 [(0, .ref (o + 209)), (1, .int a1), (2, .int a2)] := hl
  have M_0 : dg_sm shX [(31, 0), (31, 1), (31, 4), (31, 5)] [] S S := dg_sm.rf
  refine lv_aload_n hx hb dX6_takeNumber_0 rfl (lv_at hl 0 rfl) ?_
  refine dg_get (C := RX6) (T := TX6) (N := 8) hx hb hts (fun w h => bw_mem (wU_X6 w h)) hown K hP sX_209 rfl 2 (dk_dq rfl) (hts _ (bw_mem wB_13)) (fun _ h9 => h9) (v := .ref (o + 210)) (show S.1 209 2 = .ref (o + 210) from dg_I.rel (d := 1) I sX_209 (by decide +kernel)) dX6_takeNumber_1 ?_
  refine dg_get (C := RX9) (T := TX9) (N := 5) hx hb hts (fun w h => bw_mem (wU_X9 w h)) hown K hP sX_210 rfl 0 (dk_dq rfl) (hts _ (bw_mem wB_14)) (fun _ h9 => h9) (v := .ref (o + 211)) (show S.1 210 0 = .ref (o + 211) from dg_I.rel (d := 1) I sX_210 (by decide +kernel)) dX6_takeNumber_4 ?_
  refine lv_aload_n hx hb dX6_takeNumber_7 rfl (lv_at hl 0 rfl) ?_
  refine dg_get (C := RX6) (T := TX6) (N := 8) hx hb hts (fun w h => bw_mem (wU_X6 w h)) hown K hP sX_209 rfl 4 (dk_dq rfl) (hts _ (bw_mem wB_15)) (fun _ h9 => h9) (v := .int n0) f_n0 dX6_takeNumber_8 ?_
  have hin_1 : vp_in n0 1601 := (dk_inv2 (by omega))
  refine dg_iald hx hb K hP sX_211 hin_1 dX6_takeNumber_11 (fun x_2 ex_2 => ?_)
  have hs_x_2 : (n0 : Int32).toInt = (en).toInt → (x_2).toInt = (ke).toInt := fun h => by have h9 := Int32.toInt_inj.mp h; rw [ex_2, h9]; exact congrArg Int32.toInt f_ke
  have kx_2 : (kd (n0 : Int32).toNatClampNeg).toInt = (x_2).toInt := by rw [ex_2, hkd _ (by unfold Int32.toNatClampNeg; omega)]
  refine lv_iconst (v := 3) hx hb dX6_takeNumber_12 (by decide +kernel) ?_
  refine lv_icmp_eq (tgt := 22) hx hb dX6_takeNumber_13 (dk_dq rfl) (fun c_3 => ?_) (fun c_3 => ?_)
  · as_aux_lemma =>
      have jc_3 := dk_eqc (k := 3) (by decide +kernel) c_3
      refine lv_aload_n hx hb dX6_takeNumber_22 rfl (lv_at hl 0 rfl) ?_
      refine lv_aload_n hx hb dX6_takeNumber_23 rfl (lv_at hl 0 rfl) ?_
      refine dg_get (C := RX6) (T := TX6) (N := 8) hx hb hts (fun w h => bw_mem (wU_X6 w h)) hown K hP sX_209 rfl 2 (dk_dq rfl) (hts _ (bw_mem wB_13)) (fun _ h9 => h9) (v := .ref (o + 210)) (show S.1 209 2 = .ref (o + 210) from dg_I.rel (d := 1) I sX_209 (by decide +kernel)) dX6_takeNumber_24 ?_
      refine dg_get (C := RX9) (T := TX9) (N := 5) hx hb hts (fun w h => bw_mem (wU_X9 w h)) hown K hP sX_210 rfl 2 (dk_dq rfl) (hts _ (bw_mem wB_16)) (fun _ h9 => h9) (v := .ref (o + 213)) (show S.1 210 2 = .ref (o + 213) from dg_I.rel (d := 3) I sX_210 (by decide +kernel)) dX6_takeNumber_27 ?_
      refine lv_aload_n hx hb dX6_takeNumber_30 rfl (lv_at hl 0 rfl) ?_
      refine dg_get (C := RX6) (T := TX6) (N := 8) hx hb hts (fun w h => bw_mem (wU_X6 w h)) hown K hP sX_209 rfl 4 (dk_dq rfl) (hts _ (bw_mem wB_15)) (fun _ h9 => h9) (v := .int n0) f_n0 dX6_takeNumber_31 ?_
      have hin_4 : vp_in n0 1601 := (dk_inv2 (by omega))
      refine dg_iald hx hb K hP sX_213 hin_4 dX6_takeNumber_34 (fun x_5 ex_5 => ?_)
      have kx_5 : (vl (n0 : Int32).toNatClampNeg).toInt = (x_5).toInt := by rw [ex_5, hvl _ (by unfold Int32.toNatClampNeg; omega)]
      refine dg_put (ci := 6) (v := .int x_5) (ty := tyX6 5) (C := RX6) (T := TX6) (N := 8) hx hb hts (fun w h => bw_mem (wU_X6 w h)) tyX6 tyX6_ok nmX6 hown K hP hS hA1 sX_209 rfl 5 (dk_dq rfl) (hts _ (bw_mem wB_41)) (fun _ h9 => h9) rfl (by decide +kernel) rfl rfl dX6_takeNumber_35 (fun S_6 e_6 H locs hP hS => ?_)
      have I_6 := dg_I.uFi (lo := (-2147483648)) (hi := 2147483647) I e_6 sX_209 (by decide +kernel) (show (-2147483648) ≤ (x_5).toInt ∧ (x_5).toInt ≤ 2147483647 from (dk_full _))
      have M_6 := dg_sm.uF M_0 e_6 sX_209 (dk_dq rfl)
      refine lv_aload_n hx hb dX6_takeNumber_38 rfl (lv_at hl 0 rfl) ?_
      refine dg_get (C := RX6) (T := TX6) (N := 8) hx hb hts (fun w h => bw_mem (wU_X6 w h)) hown K hP sX_209 rfl 5 (dk_dq rfl) (hts _ (bw_mem wB_41)) (fun _ h9 => h9) (v := .int x_5) (dg_uF_at e_6) dX6_takeNumber_39 ?_
      refine lv_iload_n hx hb dX6_takeNumber_42 rfl (lv_at hl 1 rfl) ?_
      refine lv_icmp_lt (tgt := 54) hx hb dX6_takeNumber_43 (dk_dq rfl) (fun c_7 => ?_) (fun c_7 => ?_)
      · have hf_7 := dk_full x_5
        have hf_8 := dk_full a1
        have jc_7 := dk_ltc (k := (a1).toInt) rfl c_7
        refine lv_aload_n hx hb dX6_takeNumber_54 rfl (lv_at hl 0 rfl) ?_
        refine lv_iconst (v := 4) hx hb dX6_takeNumber_55 (by decide +kernel) ?_
        refine dg_calli hS hA1 hA (va_runV (As := [.int 4]) (rest := []) F (c_rd_fail l g D o S_6 4 en n0 ((dg_uF_ne e_6 (fun z => absurd z.2 (dk_dq rfl))).trans f_n0) (by omega) ke ((congrFun (dg_uF_f e_6 211) _).trans f_ke) (by omega) (by omega) I_6 H.size) (cwV 1 hts (bw_V wB_30 wB_31 wB_32 wB_24 wB_29) rfl rfl rfl (by decide +kernel) ⟨Nat.le_of_ble_eq_true rfl, Nat.le_of_ble_eq_true rfl⟩) (dg_preV sX_209 rfl K ST hP hS hA1 hA) rfl rfl hl.1 rfl (lv_room (Nat.le_of_ble_eq_true rfl)) dX6_takeNumber_56 ⟨Nat.le_of_ble_eq_true rfl, Nat.le_of_ble_eq_true rfl⟩) (fun x_10 S_11 hw_11 H locs hP hS => ?_)
        obtain ⟨I_11, m_11, w_11_0, -⟩ := hw_11
        have M_11 := dg_sm.tr M_6 m_11 (dk_dq rfl) (dk_dq rfl)
        have w_11_0 : 0 ≤ (x_10).toInt ∧ (x_10).toInt ≤ 0 := w_11_0
        refine W.widen (k := 0) (n := 0) (Nat.le_of_ble_eq_true rfl) (Nat.le_of_ble_eq_true rfl) ?_
        exact dg_iret hx hb hr hlocks (dk_znar2 (by omega)) hP hS ⟨I_11, M_11, (by omega), ⟨x_5, ((m_11.1 209 5 _ sX_209 (dk_dq rfl)).trans (dg_uF_at e_6)), (by omega)⟩, ⟨n0, (((m_11.1 209 4 _ sX_209 (dk_dq rfl)).trans (dg_uF_ne e_6 (fun z => absurd z.2 (dk_dq rfl)))).trans f_n0), ⟨by omega, (g_ans.n (by omega) (y_num_f (by omega)))⟩⟩, trivial⟩ dX6_takeNumber_59
      · as_aux_lemma =>
          have hf_11 := dk_full x_5
          have hf_12 := dk_full a1
          have jc_7 := dk_nltc (k := (a1).toInt) rfl c_7
          refine lv_aload_n hx hb dX6_takeNumber_46 rfl (lv_at hl 0 rfl) ?_
          refine dg_get (C := RX6) (T := TX6) (N := 8) hx hb hts (fun w h => bw_mem (wU_X6 w h)) hown K hP sX_209 rfl 5 (dk_dq rfl) (hts _ (bw_mem wB_41)) (fun _ h9 => h9) (v := .int x_5) (dg_uF_at e_6) dX6_takeNumber_47 ?_
          refine lv_iload_n hx hb dX6_takeNumber_50 rfl (lv_at hl 2 rfl) ?_
          refine lv_icmp_le (tgt := 60) hx hb dX6_takeNumber_51 (dk_dq rfl) (fun c_14 => ?_) (fun c_14 => ?_)
          · as_aux_lemma =>
              have hf_14 := dk_full x_5
              have hf_15 := dk_full a2
              have jc_14 := dk_lec (k := (a2).toInt) rfl c_14
              refine lv_aload_n hx hb dX6_takeNumber_60 rfl (lv_at hl 0 rfl) ?_
              refine dg_callv hS hA1 hA (va_runV (As := []) (rest := []) F (c_rd_pass l g D o S_6 en kd vl n0 ((dg_uF_ne e_6 (fun z => absurd z.2 (dk_dq rfl))).trans f_n0) (by omega) ke ((congrFun (dg_uF_f e_6 211) _).trans f_ke) (by omega) (by omega) (fun k9 h9 => (congrFun (dg_uF_f e_6 211) k9).trans (hkd k9 h9)) (fun k9 h9 => (congrFun (dg_uF_f e_6 213) k9).trans (hvl k9 h9)) I_6 H.size) (cwV 0 hts (bw_V wB_26 wB_27 wB_28 wB_24 wB_25) rfl rfl rfl (by decide +kernel) ⟨Nat.le_of_ble_eq_true rfl, Nat.le_of_ble_eq_true rfl⟩) (dg_preV sX_209 rfl K ST hP hS hA1 hA) rfl rfl hl.1 rfl (lv_room (Nat.le_of_ble_eq_true rfl)) dX6_takeNumber_61 ⟨Nat.le_of_ble_eq_true rfl, Nat.le_of_ble_eq_true rfl⟩) (fun S_17 hw_17 H locs hP hS => ?_)
              obtain ⟨I_17, m_17, w_17_0, -⟩ := hw_17
              have M_17 := dg_sm.tr M_6 m_17 (dk_dq rfl) (dk_dq rfl)
              obtain ⟨y_18, f_y_18, w_17_0⟩ := w_17_0
              have w_17_0 : (y_18).toInt ≤ (en).toInt ∧ ((kd (n0 : Int32).toNatClampNeg).toInt ≠ 0 → (y_18 : Int32).toNatClampNeg = (n0 : Int32).toNatClampNeg + 1) := w_17_0
              have b_y_18 : 0 ≤ (y_18).toInt ∧ (y_18).toInt ≤ 1600 := dg_I.intb (lo := 0) (hi := 1600) I_17 sX_209 (by decide +kernel) f_y_18
              have nq_y_18 : (y_18 : Int32).toNatClampNeg = (n0 : Int32).toNatClampNeg + 1 := by have h9 := w_17_0.2 (by omega); omega
              refine lv_iconst (v := 1) hx hb dX6_takeNumber_64 (by decide +kernel) ?_
              have hz_19 : (1 : Int32).toInt = 1 := by decide +kernel
              have hz_20 : (1 : Int32).toInt = 1 := by decide +kernel
              have hz_21 : (1 : Int32).toInt = 1 := by decide +kernel
              refine W.widen (k := 0) (n := 0) (Nat.le_of_ble_eq_true rfl) (Nat.le_of_ble_eq_true rfl) ?_
              exact dg_iret hx hb hr hlocks (by decide +kernel) hP hS ⟨I_17, M_17, (by decide +kernel), ⟨x_5, ((m_17.1 209 5 _ sX_209 (dk_dq rfl)).trans (dg_uF_at e_6)), (by omega)⟩, ⟨y_18, f_y_18, ⟨by omega, (g_ans.y (by omega) ((y_num_t (by omega) (by omega) (by omega)).trans (by rw [nq_y_18])))⟩⟩, trivial⟩ dX6_takeNumber_65
          · have hf_21 := dk_full x_5
            have hf_22 := dk_full a2
            have jc_14 := dk_nlec (k := (a2).toInt) rfl c_14
            refine lv_aload_n hx hb dX6_takeNumber_54 rfl (lv_at hl 0 rfl) ?_
            refine lv_iconst (v := 4) hx hb dX6_takeNumber_55 (by decide +kernel) ?_
            refine dg_calli hS hA1 hA (va_runV (As := [.int 4]) (rest := []) F (c_rd_fail l g D o S_6 4 en n0 ((dg_uF_ne e_6 (fun z => absurd z.2 (dk_dq rfl))).trans f_n0) (by omega) ke ((congrFun (dg_uF_f e_6 211) _).trans f_ke) (by omega) (by omega) I_6 H.size) (cwV 1 hts (bw_V wB_30 wB_31 wB_32 wB_24 wB_29) rfl rfl rfl (by decide +kernel) ⟨Nat.le_of_ble_eq_true rfl, Nat.le_of_ble_eq_true rfl⟩) (dg_preV sX_209 rfl K ST hP hS hA1 hA) rfl rfl hl.1 rfl (lv_room (Nat.le_of_ble_eq_true rfl)) dX6_takeNumber_56 ⟨Nat.le_of_ble_eq_true rfl, Nat.le_of_ble_eq_true rfl⟩) (fun x_24 S_25 hw_25 H locs hP hS => ?_)
            obtain ⟨I_25, m_25, w_25_0, -⟩ := hw_25
            have M_25 := dg_sm.tr M_6 m_25 (dk_dq rfl) (dk_dq rfl)
            have w_25_0 : 0 ≤ (x_24).toInt ∧ (x_24).toInt ≤ 0 := w_25_0
            refine W.widen (k := 0) (n := 0) (Nat.le_of_ble_eq_true rfl) (Nat.le_of_ble_eq_true rfl) ?_
            exact dg_iret hx hb hr hlocks (dk_znar2 (by omega)) hP hS ⟨I_25, M_25, (by omega), ⟨x_5, ((m_25.1 209 5 _ sX_209 (dk_dq rfl)).trans (dg_uF_at e_6)), (by omega)⟩, ⟨n0, (((m_25.1 209 4 _ sX_209 (dk_dq rfl)).trans (dg_uF_ne e_6 (fun z => absurd z.2 (dk_dq rfl)))).trans f_n0), ⟨by omega, (g_ans.n (by omega) (y_num_f (by omega)))⟩⟩, trivial⟩ dX6_takeNumber_59
  · have jc_3 := dk_neqc (k := 3) (by decide +kernel) c_3
    refine lv_aload_n hx hb dX6_takeNumber_16 rfl (lv_at hl 0 rfl) ?_
    refine lv_iconst (v := 1) hx hb dX6_takeNumber_17 (by decide +kernel) ?_
    refine dg_calli hS hA1 hA (va_runV (As := [.int 1]) (rest := []) F (c_rd_fail l g D o S 1 en n0 f_n0 (by omega) ke f_ke (by omega) (by omega) I s.heap.size) (cwV 1 hts (bw_V wB_30 wB_31 wB_32 wB_24 wB_29) rfl rfl rfl (by decide +kernel) ⟨Nat.le_of_ble_eq_true rfl, Nat.le_of_ble_eq_true rfl⟩) (dg_preV sX_209 rfl K ST hP hS hA1 hA) rfl rfl hl.1 rfl (lv_room (Nat.le_of_ble_eq_true rfl)) dX6_takeNumber_18 ⟨Nat.le_of_ble_eq_true rfl, Nat.le_of_ble_eq_true rfl⟩) (fun x_26 S_27 hw_27 H locs hP hS => ?_)
    obtain ⟨I_27, m_27, w_27_0, -⟩ := hw_27
    have M_27 := dg_sm.tr M_0 m_27 (dk_dq rfl) (dk_dq rfl)
    have w_27_0 : 0 ≤ (x_26).toInt ∧ (x_26).toInt ≤ 0 := w_27_0
    obtain ⟨x_28, f_x_28, b_x_28⟩ := dg_I.int (i := 209) (k := 5) (lo := (-2147483648)) (hi := 2147483647) I_27 sX_209 (by decide +kernel)
    refine W.widen (k := 0) (n := 0) (Nat.le_of_ble_eq_true rfl) (Nat.le_of_ble_eq_true rfl) ?_
    exact dg_iret hx hb hr hlocks (dk_znar2 (by omega)) hP hS ⟨I_27, M_27, (by omega), ⟨x_28, f_x_28, (by omega)⟩, ⟨n0, ((m_27.1 209 4 _ sX_209 (dk_dq rfl)).trans f_n0), ⟨by omega, (g_ans.n (by omega) (y_num_f (by omega)))⟩⟩, trivial⟩ dX6_takeNumber_21
set_option maxHeartbeats 8000000 in
set_option maxRecDepth 100000 in
theorem c_rd_takeNewName (l : Launch) (g : Nat → ClassId) (D : va_G) (o : Nat) (S : dg_S) (en : Int32) (kd : Nat → Int32) (vl : Nat → Int32) (fm : Nat → Int32) (fo : Nat → Int32) (gd : Nat) (hk_gd : rX gd) (f_gd : S.1 209 3 = .ref (o + gd)) (n0 : Int32) (f_n0 : S.1 209 4 = .int n0) (b_n0 : 0 ≤ (n0).toInt ∧ (n0).toInt ≤ 1600) (mi : Int32) (f_mi : S.1 gd 6 = .int mi) (b_mi : 0 ≤ (mi).toInt ∧ (mi).toInt ≤ 6) (od : Int32) (f_od : S.1 gd 11 = .int od) (b_od : 0 ≤ (od).toInt ∧ (od).toInt ≤ 5) (ke : Int32) (f_ke : S.2.1 211 (en : Int32).toNatClampNeg = ke) (b_ke : 0 ≤ (ke).toInt ∧ (ke).toInt ≤ 0) (hne : (n0).toInt ≤ (en).toInt ∧ (en).toInt ≤ 1600 ∧ 0 ≤ (en).toInt) (hkd : ∀ k9 : Nat, k9 ≤ (en : Int32).toNatClampNeg → S.2.1 211 k9 = kd k9) (hvl : ∀ k9 : Nat, k9 ≤ (en : Int32).toNatClampNeg → S.2.1 213 k9 = vl k9) (hfm : S.2.1 (gd + 2) = fm) (hfo : S.2.1 (gd + 5) = fo) (I : CX o S) (sz : Nat) : Met l yX6_takeNewName (bw yX6_takeNewName cX6_takeNewName 1 (some .boolean)) ({ frames := 3, cells := 0, slots := 0, locals := 76 } : Room) (dk_Pc g D (dg_w g shX o rfX S) sz [.ref (o + 209)]) (va_Qi (fun (r : Int32) S' => CX o S' ∧ dg_sm shX [(31, 0), (31, 1), (31, 4), (31, 5)] [] S S' ∧ (0 ≤ (r).toInt ∧ (r).toInt ≤ 1) ∧ (∃ y9 : Int32, S'.1 209 5 = .int y9 ∧ ((r).toInt = 1 → (y9).toInt = (vl (n0 : Int32).toNatClampNeg).toInt)) ∧ (∃ y9 : Int32, S'.1 209 4 = .int y9 ∧ ((y9).toInt ≤ (en).toInt ∧ g_ans r (y_new kd vl (y_nm fm (mi : Int32).toNatClampNeg) (y_nm fo (od : Int32).toNatClampNeg) (n0 : Int32).toNatClampNeg) (y9 : Int32).toNatClampNeg)) ∧ True) (dg_B g D shX o rfX) (dg_A o shX.length sz)) 0 0 (dg_A o shX.length sz) := by
  refine dg_met (cc := cX6_takeNewName) (maxL := 1) (ret := (some .boolean)) (dk_dq rfl) rfl (Nat.le_of_ble_eq_true rfl) ?_
  intro p e s m args below meth c A hAe harg hx hb hr hml hts hown hlocks hin hP K hS hA1 hA ST hsz ls hl
  rw [← hAe]
  have F : CallFix p m c cX6_takeNewName 1 s args (bw yX6_takeNewName cX6_takeNewName 1 (some .boolean)) RX6 := ⟨hx, hb, hml, hown, hts⟩
  have hl : lv_has ls 1 [(0, .ref (o + 209))] := hl
  have M_0 : dg_sm shX [(31, 0), (31, 1), (31, 4), (31, 5)] [] S S := dg_sm.rf
  refine lv_aload_n hx hb dX6_takeNewName_0 rfl (lv_at hl 0 rfl) ?_
  refine dg_get (C := RX6) (T := TX6) (N := 8) hx hb hts (fun w h => bw_mem (wU_X6 w h)) hown K hP sX_209 rfl 2 (dk_dq rfl) (hts _ (bw_mem wB_13)) (fun _ h9 => h9) (v := .ref (o + 210)) (show S.1 209 2 = .ref (o + 210) from dg_I.rel (d := 1) I sX_209 (by decide +kernel)) dX6_takeNewName_1 ?_
  refine dg_get (C := RX9) (T := TX9) (N := 5) hx hb hts (fun w h => bw_mem (wU_X9 w h)) hown K hP sX_210 rfl 0 (dk_dq rfl) (hts _ (bw_mem wB_14)) (fun _ h9 => h9) (v := .ref (o + 211)) (show S.1 210 0 = .ref (o + 211) from dg_I.rel (d := 1) I sX_210 (by decide +kernel)) dX6_takeNewName_4 ?_
  refine lv_aload_n hx hb dX6_takeNewName_7 rfl (lv_at hl 0 rfl) ?_
  refine dg_get (C := RX6) (T := TX6) (N := 8) hx hb hts (fun w h => bw_mem (wU_X6 w h)) hown K hP sX_209 rfl 4 (dk_dq rfl) (hts _ (bw_mem wB_15)) (fun _ h9 => h9) (v := .int n0) f_n0 dX6_takeNewName_8 ?_
  have hin_1 : vp_in n0 1601 := (dk_inv2 (by omega))
  refine dg_iald hx hb K hP sX_211 hin_1 dX6_takeNewName_11 (fun x_2 ex_2 => ?_)
  have hs_x_2 : (n0 : Int32).toInt = (en).toInt → (x_2).toInt = (ke).toInt := fun h => by have h9 := Int32.toInt_inj.mp h; rw [ex_2, h9]; exact congrArg Int32.toInt f_ke
  have kx_2 : (kd (n0 : Int32).toNatClampNeg).toInt = (x_2).toInt := by rw [ex_2, hkd _ (by unfold Int32.toNatClampNeg; omega)]
  refine lv_iconst (v := 2) hx hb dX6_takeNewName_12 (by decide +kernel) ?_
  refine lv_icmp_eq (tgt := 22) hx hb dX6_takeNewName_13 (dk_dq rfl) (fun c_3 => ?_) (fun c_3 => ?_)
  · as_aux_lemma =>
      have jc_3 := dk_eqc (k := 2) (by decide +kernel) c_3
      refine lv_aload_n hx hb dX6_takeNewName_22 rfl (lv_at hl 0 rfl) ?_
      refine lv_aload_n hx hb dX6_takeNewName_23 rfl (lv_at hl 0 rfl) ?_
      refine dg_get (C := RX6) (T := TX6) (N := 8) hx hb hts (fun w h => bw_mem (wU_X6 w h)) hown K hP sX_209 rfl 2 (dk_dq rfl) (hts _ (bw_mem wB_13)) (fun _ h9 => h9) (v := .ref (o + 210)) (show S.1 209 2 = .ref (o + 210) from dg_I.rel (d := 1) I sX_209 (by decide +kernel)) dX6_takeNewName_24 ?_
      refine dg_get (C := RX9) (T := TX9) (N := 5) hx hb hts (fun w h => bw_mem (wU_X9 w h)) hown K hP sX_210 rfl 2 (dk_dq rfl) (hts _ (bw_mem wB_16)) (fun _ h9 => h9) (v := .ref (o + 213)) (show S.1 210 2 = .ref (o + 213) from dg_I.rel (d := 3) I sX_210 (by decide +kernel)) dX6_takeNewName_27 ?_
      refine lv_aload_n hx hb dX6_takeNewName_30 rfl (lv_at hl 0 rfl) ?_
      refine dg_get (C := RX6) (T := TX6) (N := 8) hx hb hts (fun w h => bw_mem (wU_X6 w h)) hown K hP sX_209 rfl 4 (dk_dq rfl) (hts _ (bw_mem wB_15)) (fun _ h9 => h9) (v := .int n0) f_n0 dX6_takeNewName_31 ?_
      have hin_4 : vp_in n0 1601 := (dk_inv2 (by omega))
      refine dg_iald hx hb K hP sX_213 hin_4 dX6_takeNewName_34 (fun x_5 ex_5 => ?_)
      have kx_5 : (vl (n0 : Int32).toNatClampNeg).toInt = (x_5).toInt := by rw [ex_5, hvl _ (by unfold Int32.toNatClampNeg; omega)]
      refine dg_put (ci := 6) (v := .int x_5) (ty := tyX6 5) (C := RX6) (T := TX6) (N := 8) hx hb hts (fun w h => bw_mem (wU_X6 w h)) tyX6 tyX6_ok nmX6 hown K hP hS hA1 sX_209 rfl 5 (dk_dq rfl) (hts _ (bw_mem wB_41)) (fun _ h9 => h9) rfl (by decide +kernel) rfl rfl dX6_takeNewName_35 (fun S_6 e_6 H locs hP hS => ?_)
      have I_6 := dg_I.uFi (lo := (-2147483648)) (hi := 2147483647) I e_6 sX_209 (by decide +kernel) (show (-2147483648) ≤ (x_5).toInt ∧ (x_5).toInt ≤ 2147483647 from (dk_full _))
      have M_6 := dg_sm.uF M_0 e_6 sX_209 (dk_dq rfl)
      refine lv_aload_n hx hb dX6_takeNewName_38 rfl (lv_at hl 0 rfl) ?_
      refine dg_get (C := RX6) (T := TX6) (N := 8) hx hb hts (fun w h => bw_mem (wU_X6 w h)) hown K hP sX_209 rfl 3 (dk_dq rfl) (hts _ (bw_mem wB_38)) (fun _ h9 => h9) (v := .ref (o + gd)) ((dg_uF_ne e_6 (fun z => absurd z.2 (dk_dq rfl))).trans f_gd) dX6_takeNewName_39 ?_
      refine lv_aload_n hx hb dX6_takeNewName_42 rfl (lv_at hl 0 rfl) ?_
      refine dg_get (C := RX6) (T := TX6) (N := 8) hx hb hts (fun w h => bw_mem (wU_X6 w h)) hown K hP sX_209 rfl 5 (dk_dq rfl) (hts _ (bw_mem wB_41)) (fun _ h9 => h9) (v := .int x_5) (dg_uF_at e_6) dX6_takeNewName_43 ?_
      refine dg_calli hS hA1 hA (va_runV (As := [.int x_5]) (rest := []) F (c_g_hasName l g D o S_6 gd hk_gd x_5 fm fo mi ((dg_uF_ne e_6 (fun z => absurd z.2 (dk_dq rfl))).trans f_mi) (by omega) od ((dg_uF_ne e_6 (fun z => absurd z.2 (dk_dq rfl))).trans f_od) (by omega) ((dg_uF_f e_6 (gd + 2)).trans hfm) ((dg_uF_f e_6 (gd + 5)).trans hfo) I_6 H.size) (cwV 1 hts (bw_V wB_43 wB_44 wB_45 wB_9 wB_42) rfl rfl rfl (by decide +kernel) ⟨Nat.le_of_ble_eq_true rfl, Nat.le_of_ble_eq_true rfl⟩) (dg_preV (rX_0 gd hk_gd) rfl K ST hP hS hA1 hA) rfl rfl hl.1 rfl (lv_room (Nat.le_of_ble_eq_true rfl)) dX6_takeNewName_46 ⟨Nat.le_of_ble_eq_true rfl, Nat.le_of_ble_eq_true rfl⟩) (fun x_7 S_8 hw_8 H locs hP hS => ?_)
      rw [hw_8.1] at hP
      obtain ⟨hq_8, w_8_0, w_8_1, -⟩ := hw_8
      have w_8_0 : 0 ≤ (x_7).toInt ∧ (x_7).toInt ≤ 1 := w_8_0
      have w_8_1 : (x_7).toInt = 1 ↔ ((y_nm fm (mi : Int32).toNatClampNeg).contains (x_5).toInt || (y_nm fo (od : Int32).toNatClampNeg).contains (x_5).toInt) = true := w_8_1
      refine lv_if_eq (tgt := 58) hx hb dX6_takeNewName_49 (dk_dq rfl) (fun c_9 => ?_) (fun c_9 => ?_)
      · as_aux_lemma =>
          have jc_9 := dk_eqc (k := 0) (by decide +kernel) c_9
          have qw_8_1 := g_iff_f w_8_1 (by omega)
          refine lv_aload_n hx hb dX6_takeNewName_58 rfl (lv_at hl 0 rfl) ?_
          refine dg_callv hS hA1 hA (va_runV (As := []) (rest := []) F (c_rd_pass l g D o S_6 en kd vl n0 ((dg_uF_ne e_6 (fun z => absurd z.2 (dk_dq rfl))).trans f_n0) (by omega) ke ((congrFun (dg_uF_f e_6 211) _).trans f_ke) (by omega) (by omega) (fun k9 h9 => (congrFun (dg_uF_f e_6 211) k9).trans (hkd k9 h9)) (fun k9 h9 => (congrFun (dg_uF_f e_6 213) k9).trans (hvl k9 h9)) I_6 H.size) (cwV 0 hts (bw_V wB_26 wB_27 wB_28 wB_24 wB_25) rfl rfl rfl (by decide +kernel) ⟨Nat.le_of_ble_eq_true rfl, Nat.le_of_ble_eq_true rfl⟩) (dg_preV sX_209 rfl K ST hP hS hA1 hA) rfl rfl hl.1 rfl (lv_room (Nat.le_of_ble_eq_true rfl)) dX6_takeNewName_59 ⟨Nat.le_of_ble_eq_true rfl, Nat.le_of_ble_eq_true rfl⟩) (fun S_10 hw_10 H locs hP hS => ?_)
          obtain ⟨I_10, m_10, w_10_0, -⟩ := hw_10
          have M_10 := dg_sm.tr M_6 m_10 (dk_dq rfl) (dk_dq rfl)
          obtain ⟨y_11, f_y_11, w_10_0⟩ := w_10_0
          have w_10_0 : (y_11).toInt ≤ (en).toInt ∧ ((kd (n0 : Int32).toNatClampNeg).toInt ≠ 0 → (y_11 : Int32).toNatClampNeg = (n0 : Int32).toNatClampNeg + 1) := w_10_0
          have b_y_11 : 0 ≤ (y_11).toInt ∧ (y_11).toInt ≤ 1600 := dg_I.intb (lo := 0) (hi := 1600) I_10 sX_209 (by decide +kernel) f_y_11
          have nq_y_11 : (y_11 : Int32).toNatClampNeg = (n0 : Int32).toNatClampNeg + 1 := by have h9 := w_10_0.2 (by omega); omega
          refine lv_iconst (v := 1) hx hb dX6_takeNewName_62 (by decide +kernel) ?_
          have hz_12 : (1 : Int32).toInt = 1 := by decide +kernel
          have hz_13 : (1 : Int32).toInt = 1 := by decide +kernel
          have hz_14 : (1 : Int32).toInt = 1 := by decide +kernel
          refine W.widen (k := 0) (n := 0) (Nat.le_of_ble_eq_true rfl) (Nat.le_of_ble_eq_true rfl) ?_
          exact dg_iret hx hb hr hlocks (by decide +kernel) hP hS ⟨I_10, M_10, (by decide +kernel), ⟨x_5, ((m_10.1 209 5 _ sX_209 (dk_dq rfl)).trans (dg_uF_at e_6)), (by omega)⟩, ⟨y_11, f_y_11, ⟨by omega, (g_ans.y (by omega) ((y_new_t (v := _) (by omega) (by omega) qw_8_1).trans (by rw [nq_y_11])))⟩⟩, trivial⟩ dX6_takeNewName_63
      · have jc_9 := dk_neqc (k := 0) (by decide +kernel) c_9
        have qw_8_1 := w_8_1.mp (by omega)
        refine lv_aload_n hx hb dX6_takeNewName_52 rfl (lv_at hl 0 rfl) ?_
        refine lv_iconst (v := 2) hx hb dX6_takeNewName_53 (by decide +kernel) ?_
        refine dg_calli hS hA1 hA (va_runV (As := [.int 2]) (rest := []) F (c_rd_fail l g D o S_6 2 en n0 ((dg_uF_ne e_6 (fun z => absurd z.2 (dk_dq rfl))).trans f_n0) (by omega) ke ((congrFun (dg_uF_f e_6 211) _).trans f_ke) (by omega) (by omega) I_6 H.size) (cwV 1 hts (bw_V wB_30 wB_31 wB_32 wB_24 wB_29) rfl rfl rfl (by decide +kernel) ⟨Nat.le_of_ble_eq_true rfl, Nat.le_of_ble_eq_true rfl⟩) (dg_preV sX_209 rfl K ST hP hS hA1 hA) rfl rfl hl.1 rfl (lv_room (Nat.le_of_ble_eq_true rfl)) dX6_takeNewName_54 ⟨Nat.le_of_ble_eq_true rfl, Nat.le_of_ble_eq_true rfl⟩) (fun x_15 S_16 hw_16 H locs hP hS => ?_)
        obtain ⟨I_16, m_16, w_16_0, -⟩ := hw_16
        have M_16 := dg_sm.tr M_6 m_16 (dk_dq rfl) (dk_dq rfl)
        have w_16_0 : 0 ≤ (x_15).toInt ∧ (x_15).toInt ≤ 0 := w_16_0
        refine W.widen (k := 0) (n := 0) (Nat.le_of_ble_eq_true rfl) (Nat.le_of_ble_eq_true rfl) ?_
        exact dg_iret hx hb hr hlocks (dk_znar2 (by omega)) hP hS ⟨I_16, M_16, (by omega), ⟨x_5, ((m_16.1 209 5 _ sX_209 (dk_dq rfl)).trans (dg_uF_at e_6)), (by omega)⟩, ⟨n0, (((m_16.1 209 4 _ sX_209 (dk_dq rfl)).trans (dg_uF_ne e_6 (fun z => absurd z.2 (dk_dq rfl)))).trans f_n0), ⟨by omega, (g_ans.n (by omega) (y_new_f2 (by omega) qw_8_1))⟩⟩, trivial⟩ dX6_takeNewName_57
  · have jc_3 := dk_neqc (k := 2) (by decide +kernel) c_3
    refine lv_aload_n hx hb dX6_takeNewName_16 rfl (lv_at hl 0 rfl) ?_
    refine lv_iconst (v := 1) hx hb dX6_takeNewName_17 (by decide +kernel) ?_
    refine dg_calli hS hA1 hA (va_runV (As := [.int 1]) (rest := []) F (c_rd_fail l g D o S 1 en n0 f_n0 (by omega) ke f_ke (by omega) (by omega) I s.heap.size) (cwV 1 hts (bw_V wB_30 wB_31 wB_32 wB_24 wB_29) rfl rfl rfl (by decide +kernel) ⟨Nat.le_of_ble_eq_true rfl, Nat.le_of_ble_eq_true rfl⟩) (dg_preV sX_209 rfl K ST hP hS hA1 hA) rfl rfl hl.1 rfl (lv_room (Nat.le_of_ble_eq_true rfl)) dX6_takeNewName_18 ⟨Nat.le_of_ble_eq_true rfl, Nat.le_of_ble_eq_true rfl⟩) (fun x_17 S_18 hw_18 H locs hP hS => ?_)
    obtain ⟨I_18, m_18, w_18_0, -⟩ := hw_18
    have M_18 := dg_sm.tr M_0 m_18 (dk_dq rfl) (dk_dq rfl)
    have w_18_0 : 0 ≤ (x_17).toInt ∧ (x_17).toInt ≤ 0 := w_18_0
    obtain ⟨x_19, f_x_19, b_x_19⟩ := dg_I.int (i := 209) (k := 5) (lo := (-2147483648)) (hi := 2147483647) I_18 sX_209 (by decide +kernel)
    refine W.widen (k := 0) (n := 0) (Nat.le_of_ble_eq_true rfl) (Nat.le_of_ble_eq_true rfl) ?_
    exact dg_iret hx hb hr hlocks (dk_znar2 (by omega)) hP hS ⟨I_18, M_18, (by omega), ⟨x_19, f_x_19, (by omega)⟩, ⟨n0, ((m_18.1 209 4 _ sX_209 (dk_dq rfl)).trans f_n0), ⟨by omega, (g_ans.n (by omega) (y_new_f (by omega)))⟩⟩, trivial⟩ dX6_takeNewName_21
set_option maxHeartbeats 8000000 in
set_option maxRecDepth 100000 in
theorem c_rd_takeMiner (l : Launch) (g : Nat → ClassId) (D : va_G) (o : Nat) (S : dg_S) (en : Int32) (kd : Nat → Int32) (vl : Nat → Int32) (fm : Nat → Int32) (gd : Nat) (hk_gd : rX gd) (f_gd : S.1 209 3 = .ref (o + gd)) (n0 : Int32) (f_n0 : S.1 209 4 = .int n0) (b_n0 : 0 ≤ (n0).toInt ∧ (n0).toInt ≤ 1600) (mi : Int32) (f_mi : S.1 gd 6 = .int mi) (b_mi : 0 ≤ (mi).toInt ∧ (mi).toInt ≤ 6) (ke : Int32) (f_ke : S.2.1 211 (en : Int32).toNatClampNeg = ke) (b_ke : 0 ≤ (ke).toInt ∧ (ke).toInt ≤ 0) (hne : (n0).toInt ≤ (en).toInt ∧ (en).toInt ≤ 1600 ∧ 0 ≤ (en).toInt) (hkd : ∀ k9 : Nat, k9 ≤ (en : Int32).toNatClampNeg → S.2.1 211 k9 = kd k9) (hvl : ∀ k9 : Nat, k9 ≤ (en : Int32).toNatClampNeg → S.2.1 213 k9 = vl k9) (hfm : S.2.1 (gd + 2) = fm) (I : CX o S) (sz : Nat) : Met l yX6_takeMiner (bw yX6_takeMiner cX6_takeMiner 2 (some .int)) ({ frames := 2, cells := 0, slots := 0, locals := 54 } : Room) (dk_Pc g D (dg_w g shX o rfX S) sz [.ref (o + 209)]) (va_Qi (fun (r : Int32) S' => CX o S' ∧ dg_sm shX [(31, 0), (31, 1), (31, 4)] [] S S' ∧ ((-1) ≤ (r).toInt ∧ (r).toInt ≤ 5) ∧ ((r).toInt ≠ -1 → (r).toInt = z_ix (y_nm fm (mi : Int32).toNatClampNeg) (vl (n0 : Int32).toNatClampNeg).toInt) ∧ (∃ y9 : Int32, S'.1 209 4 = .int y9 ∧ ((y9).toInt ≤ (en).toInt ∧ g_an2 r (y_old kd vl (y_nm fm (mi : Int32).toNatClampNeg) (n0 : Int32).toNatClampNeg) (y9 : Int32).toNatClampNeg)) ∧ True) (dg_B g D shX o rfX) (dg_A o shX.length sz)) 0 0 (dg_A o shX.length sz) := by
  refine dg_met (cc := cX6_takeMiner) (maxL := 2) (ret := (some .int)) (dk_dq rfl) rfl (Nat.le_of_ble_eq_true rfl) ?_
  intro p e s m args below meth c A hAe harg hx hb hr hml hts hown hlocks hin hP K hS hA1 hA ST hsz ls hl
  rw [← hAe]
  have F : CallFix p m c cX6_takeMiner 2 s args (bw yX6_takeMiner cX6_takeMiner 2 (some .int)) RX6 := ⟨hx, hb, hml, hown, hts⟩
  have hl : lv_has ls 2 [(0, .ref (o + 209))] := hl
  have M_0 : dg_sm shX [(31, 0), (31, 1), (31, 4)] [] S S := dg_sm.rf
  refine lv_aload_n hx hb dX6_takeMiner_0 rfl (lv_at hl 0 rfl) ?_
  refine dg_get (C := RX6) (T := TX6) (N := 8) hx hb hts (fun w h => bw_mem (wU_X6 w h)) hown K hP sX_209 rfl 2 (dk_dq rfl) (hts _ (bw_mem wB_13)) (fun _ h9 => h9) (v := .ref (o + 210)) (show S.1 209 2 = .ref (o + 210) from dg_I.rel (d := 1) I sX_209 (by decide +kernel)) dX6_takeMiner_1 ?_
  refine dg_get (C := RX9) (T := TX9) (N := 5) hx hb hts (fun w h => bw_mem (wU_X9 w h)) hown K hP sX_210 rfl 0 (dk_dq rfl) (hts _ (bw_mem wB_14)) (fun _ h9 => h9) (v := .ref (o + 211)) (show S.1 210 0 = .ref (o + 211) from dg_I.rel (d := 1) I sX_210 (by decide +kernel)) dX6_takeMiner_4 ?_
  refine lv_aload_n hx hb dX6_takeMiner_7 rfl (lv_at hl 0 rfl) ?_
  refine dg_get (C := RX6) (T := TX6) (N := 8) hx hb hts (fun w h => bw_mem (wU_X6 w h)) hown K hP sX_209 rfl 4 (dk_dq rfl) (hts _ (bw_mem wB_15)) (fun _ h9 => h9) (v := .int n0) f_n0 dX6_takeMiner_8 ?_
  have hin_1 : vp_in n0 1601 := (dk_inv2 (by omega))
  refine dg_iald hx hb K hP sX_211 hin_1 dX6_takeMiner_11 (fun x_2 ex_2 => ?_)
  have hs_x_2 : (n0 : Int32).toInt = (en).toInt → (x_2).toInt = (ke).toInt := fun h => by have h9 := Int32.toInt_inj.mp h; rw [ex_2, h9]; exact congrArg Int32.toInt f_ke
  have kx_2 : (kd (n0 : Int32).toNatClampNeg).toInt = (x_2).toInt := by rw [ex_2, hkd _ (by unfold Int32.toNatClampNeg; omega)]
  refine lv_iconst (v := 2) hx hb dX6_takeMiner_12 (by decide +kernel) ?_
  refine lv_icmp_eq (tgt := 24) hx hb dX6_takeMiner_13 (dk_dq rfl) (fun c_3 => ?_) (fun c_3 => ?_)
  · as_aux_lemma =>
      have jc_3 := dk_eqc (k := 2) (by decide +kernel) c_3
      refine lv_aload_n hx hb dX6_takeMiner_24 rfl (lv_at hl 0 rfl) ?_
      refine dg_get (C := RX6) (T := TX6) (N := 8) hx hb hts (fun w h => bw_mem (wU_X6 w h)) hown K hP sX_209 rfl 3 (dk_dq rfl) (hts _ (bw_mem wB_38)) (fun _ h9 => h9) (v := .ref (o + gd)) f_gd dX6_takeMiner_25 ?_
      refine lv_aload_n hx hb dX6_takeMiner_28 rfl (lv_at hl 0 rfl) ?_
      refine dg_get (C := RX6) (T := TX6) (N := 8) hx hb hts (fun w h => bw_mem (wU_X6 w h)) hown K hP sX_209 rfl 2 (dk_dq rfl) (hts _ (bw_mem wB_13)) (fun _ h9 => h9) (v := .ref (o + 210)) (show S.1 209 2 = .ref (o + 210) from dg_I.rel (d := 1) I sX_209 (by decide +kernel)) dX6_takeMiner_29 ?_
      refine dg_get (C := RX9) (T := TX9) (N := 5) hx hb hts (fun w h => bw_mem (wU_X9 w h)) hown K hP sX_210 rfl 2 (dk_dq rfl) (hts _ (bw_mem wB_16)) (fun _ h9 => h9) (v := .ref (o + 213)) (show S.1 210 2 = .ref (o + 213) from dg_I.rel (d := 3) I sX_210 (by decide +kernel)) dX6_takeMiner_32 ?_
      refine lv_aload_n hx hb dX6_takeMiner_35 rfl (lv_at hl 0 rfl) ?_
      refine dg_get (C := RX6) (T := TX6) (N := 8) hx hb hts (fun w h => bw_mem (wU_X6 w h)) hown K hP sX_209 rfl 4 (dk_dq rfl) (hts _ (bw_mem wB_15)) (fun _ h9 => h9) (v := .int n0) f_n0 dX6_takeMiner_36 ?_
      have hin_4 : vp_in n0 1601 := (dk_inv2 (by omega))
      refine dg_iald hx hb K hP sX_213 hin_4 dX6_takeMiner_39 (fun x_5 ex_5 => ?_)
      have kx_5 : (vl (n0 : Int32).toNatClampNeg).toInt = (x_5).toInt := by rw [ex_5, hvl _ (by unfold Int32.toNatClampNeg; omega)]
      refine dg_calli hS hA1 hA (va_runV (As := [.int x_5]) (rest := []) F (c_g_minerNamed l g D o S gd hk_gd x_5 fm mi f_mi (by omega) hfm I s.heap.size) (cwV 1 hts (bw_V wB_46 wB_7 wB_8 wB_9 wB_5) rfl rfl rfl (by decide +kernel) ⟨Nat.le_of_ble_eq_true rfl, Nat.le_of_ble_eq_true rfl⟩) (dg_preV (rX_0 gd hk_gd) rfl K ST hP hS hA1 hA) rfl rfl hl.1 rfl (lv_room (Nat.le_of_ble_eq_true rfl)) dX6_takeMiner_40 ⟨Nat.le_of_ble_eq_true rfl, Nat.le_of_ble_eq_true rfl⟩) (fun x_6 S_7 hw_7 H locs hP hS => ?_)
      rw [hw_7.1] at hP
      obtain ⟨hq_7, w_7_0, w_7_1, w_7_2, -⟩ := hw_7
      have w_7_0 : (-1) ≤ (x_6).toInt ∧ (x_6).toInt ≤ 5 := w_7_0
      have w_7_1 : (x_6).toInt ≠ -1 → (x_6).toInt = z_ix (y_nm fm (mi : Int32).toNatClampNeg) (x_5).toInt := w_7_1
      have w_7_2 : (x_6).toInt ≠ -1 ↔ (y_nm fm (mi : Int32).toNatClampNeg).contains (x_5).toInt = true := w_7_2
      refine lv_istore_n (lv' := [(1, .int x_6), (0, .ref (o + 209))]) hx hb dX6_takeMiner_43 rfl hl (dk_dq rfl) rfl (fun ls hl => ?_)
      refine lv_iload_n hx hb dX6_takeMiner_44 rfl (lv_at hl 0 rfl) ?_
      refine lv_iconst (v := (-1)) hx hb dX6_takeMiner_45 (by decide +kernel) ?_
      refine lv_icmp_ne (tgt := 57) hx hb dX6_takeMiner_46 (dk_dq rfl) (fun c_8 => ?_) (fun c_8 => ?_)
      · have jc_8 := dk_neqc (k := (-1)) (by decide +kernel) c_8
        have qw_7_2 := w_7_2.mp (by omega)
        refine lv_aload_n hx hb dX6_takeMiner_57 rfl (lv_at hl 1 rfl) ?_
        refine dg_callv hS hA1 hA (va_runV (As := []) (rest := []) F (c_rd_pass l g D o S en kd vl n0 f_n0 (by omega) ke f_ke (by omega) (by omega) hkd hvl I H.size) (cwV 0 hts (bw_V wB_26 wB_27 wB_28 wB_24 wB_25) rfl rfl rfl (by decide +kernel) ⟨Nat.le_of_ble_eq_true rfl, Nat.le_of_ble_eq_true rfl⟩) (dg_preV sX_209 rfl K ST hP hS hA1 hA) rfl rfl hl.1 rfl (lv_room (Nat.le_of_ble_eq_true rfl)) dX6_takeMiner_58 ⟨Nat.le_of_ble_eq_true rfl, Nat.le_of_ble_eq_true rfl⟩) (fun S_9 hw_9 H locs hP hS => ?_)
        obtain ⟨I_9, m_9, w_9_0, -⟩ := hw_9
        have M_9 := dg_sm.tr M_0 m_9 (dk_dq rfl) (dk_dq rfl)
        obtain ⟨y_10, f_y_10, w_9_0⟩ := w_9_0
        have w_9_0 : (y_10).toInt ≤ (en).toInt ∧ ((kd (n0 : Int32).toNatClampNeg).toInt ≠ 0 → (y_10 : Int32).toNatClampNeg = (n0 : Int32).toNatClampNeg + 1) := w_9_0
        have b_y_10 : 0 ≤ (y_10).toInt ∧ (y_10).toInt ≤ 1600 := dg_I.intb (lo := 0) (hi := 1600) I_9 sX_209 (by decide +kernel) f_y_10
        have nq_y_10 : (y_10 : Int32).toNatClampNeg = (n0 : Int32).toNatClampNeg + 1 := by have h9 := w_9_0.2 (by omega); omega
        refine lv_iload_n hx hb dX6_takeMiner_61 rfl (lv_at hl 0 rfl) ?_
        refine W.widen (k := 0) (n := 0) (Nat.le_of_ble_eq_true rfl) (Nat.le_of_ble_eq_true rfl) ?_
        exact dg_iret hx hb hr hlocks rfl hP hS ⟨I_9, M_9, (by omega), (fun q9 => by rw [kx_5]; exact w_7_1 (by omega)), ⟨y_10, f_y_10, ⟨by omega, (g_an2.y (by omega) ((y_old_t (by omega) (by omega) qw_7_2).trans (by rw [nq_y_10])))⟩⟩, trivial⟩ dX6_takeMiner_62
      · as_aux_lemma =>
          have jc_8 := dk_eqc (k := (-1)) (by decide +kernel) c_8
          have qw_7_2 := g_iff_f w_7_2 (by omega)
          refine lv_aload_n hx hb dX6_takeMiner_49 rfl (lv_at hl 1 rfl) ?_
          refine lv_iconst (v := 3) hx hb dX6_takeMiner_50 (by decide +kernel) ?_
          refine dg_calli hS hA1 hA (va_runV (As := [.int 3]) (rest := []) F (c_rd_fail l g D o S 3 en n0 f_n0 (by omega) ke f_ke (by omega) (by omega) I H.size) (cwV 1 hts (bw_V wB_30 wB_31 wB_32 wB_24 wB_29) rfl rfl rfl (by decide +kernel) ⟨Nat.le_of_ble_eq_true rfl, Nat.le_of_ble_eq_true rfl⟩) (dg_preV sX_209 rfl K ST hP hS hA1 hA) rfl rfl hl.1 rfl (lv_room (Nat.le_of_ble_eq_true rfl)) dX6_takeMiner_51 ⟨Nat.le_of_ble_eq_true rfl, Nat.le_of_ble_eq_true rfl⟩) (fun x_11 S_12 hw_12 H locs hP hS => ?_)
          obtain ⟨I_12, m_12, w_12_0, -⟩ := hw_12
          have M_12 := dg_sm.tr M_0 m_12 (dk_dq rfl) (dk_dq rfl)
          have w_12_0 : 0 ≤ (x_11).toInt ∧ (x_11).toInt ≤ 0 := w_12_0
          refine lv_pop hx hb dX6_takeMiner_54 rfl ?_
          refine lv_iconst (v := (-1)) hx hb dX6_takeMiner_55 (by decide +kernel) ?_
          have hz_13 : (-1 : Int32).toInt = (-1) := by decide +kernel
          have hz_14 : (-1 : Int32).toInt = (-1) := by decide +kernel
          have hz_15 : (-1 : Int32).toInt = (-1) := by decide +kernel
          have hz_16 : (-1 : Int32).toInt = (-1) := by decide +kernel
          refine W.widen (k := 0) (n := 0) (Nat.le_of_ble_eq_true rfl) (Nat.le_of_ble_eq_true rfl) ?_
          exact dg_iret hx hb hr hlocks rfl hP hS ⟨I_12, M_12, (by decide +kernel), (fun q9 => absurd (by omega) q9), ⟨n0, ((m_12.1 209 4 _ sX_209 (dk_dq rfl)).trans f_n0), ⟨by omega, (g_an2.n (by omega) (y_old_f2 (by omega) qw_7_2))⟩⟩, trivial⟩ dX6_takeMiner_56
  · have jc_3 := dk_neqc (k := 2) (by decide +kernel) c_3
    refine lv_aload_n hx hb dX6_takeMiner_16 rfl (lv_at hl 0 rfl) ?_
    refine lv_iconst (v := 1) hx hb dX6_takeMiner_17 (by decide +kernel) ?_
    refine dg_calli hS hA1 hA (va_runV (As := [.int 1]) (rest := []) F (c_rd_fail l g D o S 1 en n0 f_n0 (by omega) ke f_ke (by omega) (by omega) I s.heap.size) (cwV 1 hts (bw_V wB_30 wB_31 wB_32 wB_24 wB_29) rfl rfl rfl (by decide +kernel) ⟨Nat.le_of_ble_eq_true rfl, Nat.le_of_ble_eq_true rfl⟩) (dg_preV sX_209 rfl K ST hP hS hA1 hA) rfl rfl hl.1 rfl (lv_room (Nat.le_of_ble_eq_true rfl)) dX6_takeMiner_18 ⟨Nat.le_of_ble_eq_true rfl, Nat.le_of_ble_eq_true rfl⟩) (fun x_17 S_18 hw_18 H locs hP hS => ?_)
    obtain ⟨I_18, m_18, w_18_0, -⟩ := hw_18
    have M_18 := dg_sm.tr M_0 m_18 (dk_dq rfl) (dk_dq rfl)
    have w_18_0 : 0 ≤ (x_17).toInt ∧ (x_17).toInt ≤ 0 := w_18_0
    refine lv_pop hx hb dX6_takeMiner_21 rfl ?_
    refine lv_iconst (v := (-1)) hx hb dX6_takeMiner_22 (by decide +kernel) ?_
    have hz_19 : (-1 : Int32).toInt = (-1) := by decide +kernel
    have hz_20 : (-1 : Int32).toInt = (-1) := by decide +kernel
    have hz_21 : (-1 : Int32).toInt = (-1) := by decide +kernel
    have hz_22 : (-1 : Int32).toInt = (-1) := by decide +kernel
    refine W.widen (k := 0) (n := 0) (Nat.le_of_ble_eq_true rfl) (Nat.le_of_ble_eq_true rfl) ?_
    exact dg_iret hx hb hr hlocks rfl hP hS ⟨I_18, M_18, (by decide +kernel), (fun q9 => absurd (by omega) q9), ⟨n0, ((m_18.1 209 4 _ sX_209 (dk_dq rfl)).trans f_n0), ⟨by omega, (g_an2.n (by omega) (y_old_f (by omega)))⟩⟩, trivial⟩ dX6_takeMiner_23
set_option maxHeartbeats 8000000 in
set_option maxRecDepth 100000 in
theorem c_rd_takeCell (l : Launch) (g : Nat → ClassId) (D : va_G) (o : Nat) (S : dg_S) (en : Int32) (kd : Nat → Int32) (vl : Nat → Int32) (gd : Nat) (hk_gd : rX gd) (f_gd : S.1 209 3 = .ref (o + gd)) (n0 : Int32) (f_n0 : S.1 209 4 = .int n0) (b_n0 : 0 ≤ (n0).toInt ∧ (n0).toInt ≤ 1600) (cx : Int32) (f_cx : S.1 gd 0 = .int cx) (b_cx : 0 ≤ (cx).toInt ∧ (cx).toInt ≤ 7) (ry : Int32) (f_ry : S.1 gd 1 = .int ry) (b_ry : 0 ≤ (ry).toInt ∧ (ry).toInt ≤ 7) (ke : Int32) (f_ke : S.2.1 211 (en : Int32).toNatClampNeg = ke) (b_ke : 0 ≤ (ke).toInt ∧ (ke).toInt ≤ 0) (hne : (n0).toInt ≤ (en).toInt ∧ (en).toInt ≤ 1600 ∧ 0 ≤ (en).toInt) (hkd : ∀ k9 : Nat, k9 ≤ (en : Int32).toNatClampNeg → S.2.1 211 k9 = kd k9) (hvl : ∀ k9 : Nat, k9 ≤ (en : Int32).toNatClampNeg → S.2.1 213 k9 = vl k9) (I : CX o S) (sz : Nat) : Met l yX6_takeCell (bw yX6_takeCell cX6_takeCell 2 (some .int)) ({ frames := 3, cells := 0, slots := 0, locals := 76 } : Room) (dk_Pc g D (dg_w g shX o rfX S) sz [.ref (o + 209)]) (va_Qi (fun (r : Int32) S' => CX o S' ∧ dg_sm shX [(31, 0), (31, 1), (31, 4), (31, 5)] [] S S' ∧ (((-1) ≤ (r).toInt ∧ (r).toInt ≤ 62) ∧ ((r).toInt ≤ (-1) ∨ 8 ≤ (r).toInt)) ∧ ((r).toInt ≠ -1 → (r).toInt = 8 * (vl ((n0 : Int32).toNatClampNeg + 1)).toInt + (vl (n0 : Int32).toNatClampNeg).toInt + 8) ∧ (∃ y9 : Int32, S'.1 209 4 = .int y9 ∧ ((y9).toInt ≤ (en).toInt ∧ g_an2 r (y_cell kd vl ((cx).toInt, (ry).toInt) (n0 : Int32).toNatClampNeg) (y9 : Int32).toNatClampNeg)) ∧ True) (dg_B g D shX o rfX) (dg_A o shX.length sz)) 0 0 (dg_A o shX.length sz) := by
  refine dg_met (cc := cX6_takeCell) (maxL := 2) (ret := (some .int)) (dk_dq rfl) rfl (Nat.le_of_ble_eq_true rfl) ?_
  intro p e s m args below meth c A hAe harg hx hb hr hml hts hown hlocks hin hP K hS hA1 hA ST hsz ls hl
  rw [← hAe]
  have F : CallFix p m c cX6_takeCell 2 s args (bw yX6_takeCell cX6_takeCell 2 (some .int)) RX6 := ⟨hx, hb, hml, hown, hts⟩
  have hl : lv_has ls 2 [(0, .ref (o + 209))] := hl
  have M_0 : dg_sm shX [(31, 0), (31, 1), (31, 4), (31, 5)] [] S S := dg_sm.rf
  refine lv_aload_n hx hb dX6_takeCell_0 rfl (lv_at hl 0 rfl) ?_
  refine lv_iconst (v := 0) hx hb dX6_takeCell_1 (by decide +kernel) ?_
  refine lv_aload_n hx hb dX6_takeCell_2 rfl (lv_at hl 0 rfl) ?_
  refine dg_get (C := RX6) (T := TX6) (N := 8) hx hb hts (fun w h => bw_mem (wU_X6 w h)) hown K hP sX_209 rfl 3 (dk_dq rfl) (hts _ (bw_mem wB_38)) (fun _ h9 => h9) (v := .ref (o + gd)) f_gd dX6_takeCell_3 ?_
  refine dg_get (C := RX2) (T := TX2) (N := 19) hx hb hts (fun w h => bw_mem (wU_X2 w h)) hown K hP (rX_0 gd hk_gd) rfl 0 (dk_dq rfl) (hts _ (bw_mem wB_47)) (fun _ h9 => h9) (v := .int cx) f_cx dX6_takeCell_6 ?_
  refine lv_iconst (v := 1) hx hb dX6_takeCell_9 (by decide +kernel) ?_
  refine lv_isub hx hb dX6_takeCell_10 ?_
  refine lv_topi (fun x_1 ex_1 => ?_)
  have jx_1 : (x_1).toInt = (cx).toInt - 1 := by rw [ex_1]; exact dk_subT2 rfl (by decide +kernel) (by omega)
  refine dg_calli hS hA1 hA (va_runV (As := [.int 0, .int x_1]) (rest := []) F (c_rd_takeNumber l g D o S 0 x_1 en kd vl n0 f_n0 (by omega) ke f_ke (by omega) (by omega) hkd hvl I s.heap.size) (cwV 2 hts (bw_V wB_49 wB_50 wB_51 wB_24 wB_48) rfl rfl rfl (by decide +kernel) ⟨Nat.le_of_ble_eq_true rfl, Nat.le_of_ble_eq_true rfl⟩) (dg_preV sX_209 rfl K ST hP hS hA1 hA) rfl rfl hl.1 rfl (lv_room (Nat.le_of_ble_eq_true rfl)) dX6_takeCell_11 ⟨Nat.le_of_ble_eq_true rfl, Nat.le_of_ble_eq_true rfl⟩) (fun x_2 S_3 hw_3 H locs hP hS => ?_)
  obtain ⟨I_3, m_3, w_3_0, w_3_1, w_3_2, -⟩ := hw_3
  have M_3 := dg_sm.tr M_0 m_3 (dk_dq rfl) (dk_dq rfl)
  have hz_4 : (0 : Int32).toInt = 0 := by decide +kernel
  have w_3_0 : 0 ≤ (x_2).toInt ∧ (x_2).toInt ≤ 1 := w_3_0
  obtain ⟨y_5, f_y_5, w_3_1⟩ := w_3_1
  have w_3_1 : (x_2).toInt = 1 → (y_5).toInt = (vl (n0 : Int32).toNatClampNeg).toInt ∧ ((0 : Int32)).toInt ≤ (y_5).toInt ∧ (y_5).toInt ≤ (x_1).toInt := w_3_1
  obtain ⟨y_6, f_y_6, w_3_2⟩ := w_3_2
  have w_3_2 : (y_6).toInt ≤ (en).toInt ∧ g_ans x_2 (y_num kd vl ((0 : Int32)).toInt (x_1).toInt (n0 : Int32).toNatClampNeg) (y_6 : Int32).toNatClampNeg := w_3_2
  have b_y_6 : 0 ≤ (y_6).toInt ∧ (y_6).toInt ≤ 1600 := dg_I.intb (lo := 0) (hi := 1600) I_3 sX_209 (by decide +kernel) f_y_6
  refine lv_if_ne (tgt := 19) hx hb dX6_takeCell_14 (dk_dq rfl) (fun c_7 => ?_) (fun c_7 => ?_)
  · as_aux_lemma =>
      have jc_7 := dk_neqc (k := 0) (by decide +kernel) c_7
      have qw_3_2 : y_num kd vl 0 ((cx).toInt - 1) (n0 : Int32).toNatClampNeg = some (y_6 : Int32).toNatClampNeg := by have h9 := w_3_2.2.1 (by omega); rw [show (0 : Int32).toInt = 0 from by decide +kernel, jx_1] at h9; exact h9
      have nq_y_6 : (y_6 : Int32).toNatClampNeg = (n0 : Int32).toNatClampNeg + 1 := by have h9 := (y_num_o qw_3_2).2.2.2; omega
      have qw_3_2k : y_num kd vl 0 ((cx).toInt - 1) (n0 : Int32).toNatClampNeg = some ((n0 : Int32).toNatClampNeg + 1) := by rw [qw_3_2, nq_y_6]
      refine lv_aload_n hx hb dX6_takeCell_19 rfl (lv_at hl 0 rfl) ?_
      refine dg_get (C := RX6) (T := TX6) (N := 8) hx hb hts (fun w h => bw_mem (wU_X6 w h)) hown K hP sX_209 rfl 5 (dk_dq rfl) (hts _ (bw_mem wB_41)) (fun _ h9 => h9) (v := .int y_5) f_y_5 dX6_takeCell_20 ?_
      refine lv_istore_n (lv' := [(1, .int y_5), (0, .ref (o + 209))]) hx hb dX6_takeCell_23 rfl hl (dk_dq rfl) rfl (fun ls hl => ?_)
      refine lv_aload_n hx hb dX6_takeCell_24 rfl (lv_at hl 1 rfl) ?_
      refine lv_iconst (v := 0) hx hb dX6_takeCell_25 (by decide +kernel) ?_
      refine lv_aload_n hx hb dX6_takeCell_26 rfl (lv_at hl 1 rfl) ?_
      refine dg_get (C := RX6) (T := TX6) (N := 8) hx hb hts (fun w h => bw_mem (wU_X6 w h)) hown K hP sX_209 rfl 3 (dk_dq rfl) (hts _ (bw_mem wB_38)) (fun _ h9 => h9) (v := .ref (o + gd)) ((m_3.1 209 3 _ sX_209 (dk_dq rfl)).trans f_gd) dX6_takeCell_27 ?_
      refine dg_get (C := RX2) (T := TX2) (N := 19) hx hb hts (fun w h => bw_mem (wU_X2 w h)) hown K hP (rX_0 gd hk_gd) rfl 1 (dk_dq rfl) (hts _ (bw_mem wB_52)) (fun _ h9 => h9) (v := .int ry) ((m_3.1 gd 1 _ (rX_0 gd hk_gd) (dk_dq rfl)).trans f_ry) dX6_takeCell_30 ?_
      refine lv_iconst (v := 1) hx hb dX6_takeCell_33 (by decide +kernel) ?_
      refine lv_isub hx hb dX6_takeCell_34 ?_
      refine lv_topi (fun x_8 ex_8 => ?_)
      have jx_8 : (x_8).toInt = (ry).toInt - 1 := by rw [ex_8]; exact dk_subT2 rfl (by decide +kernel) (by omega)
      refine dg_calli hS hA1 hA (va_runV (As := [.int 0, .int x_8]) (rest := []) F (c_rd_takeNumber l g D o S_3 0 x_8 en kd vl y_6 f_y_6 (by omega) ke ((congrFun (m_3.2 211 _ sX_211 (dk_dq rfl)).1 _).trans f_ke) (by omega) (by omega) (fun k9 h9 => (congrFun (m_3.2 211 _ sX_211 (dk_dq rfl)).1 k9).trans (hkd k9 h9)) (fun k9 h9 => (congrFun (m_3.2 213 _ sX_213 (dk_dq rfl)).1 k9).trans (hvl k9 h9)) I_3 H.size) (cwV 2 hts (bw_V wB_49 wB_50 wB_51 wB_24 wB_48) rfl rfl rfl (by decide +kernel) ⟨Nat.le_of_ble_eq_true rfl, Nat.le_of_ble_eq_true rfl⟩) (dg_preV sX_209 rfl K ST hP hS hA1 hA) rfl rfl hl.1 rfl (lv_room (Nat.le_of_ble_eq_true rfl)) dX6_takeCell_35 ⟨Nat.le_of_ble_eq_true rfl, Nat.le_of_ble_eq_true rfl⟩) (fun x_9 S_10 hw_10 H locs hP hS => ?_)
      obtain ⟨I_10, m_10, w_10_0, w_10_1, w_10_2, -⟩ := hw_10
      have M_10 := dg_sm.tr M_3 m_10 (dk_dq rfl) (dk_dq rfl)
      have hz_11 : (0 : Int32).toInt = 0 := by decide +kernel
      have w_10_0 : 0 ≤ (x_9).toInt ∧ (x_9).toInt ≤ 1 := w_10_0
      obtain ⟨y_12, f_y_12, w_10_1⟩ := w_10_1
      have w_10_1 : (x_9).toInt = 1 → (y_12).toInt = (vl (y_6 : Int32).toNatClampNeg).toInt ∧ ((0 : Int32)).toInt ≤ (y_12).toInt ∧ (y_12).toInt ≤ (x_8).toInt := w_10_1
      obtain ⟨y_13, f_y_13, w_10_2⟩ := w_10_2
      have w_10_2 : (y_13).toInt ≤ (en).toInt ∧ g_ans x_9 (y_num kd vl ((0 : Int32)).toInt (x_8).toInt (y_6 : Int32).toNatClampNeg) (y_13 : Int32).toNatClampNeg := w_10_2
      have b_y_13 : 0 ≤ (y_13).toInt ∧ (y_13).toInt ≤ 1600 := dg_I.intb (lo := 0) (hi := 1600) I_10 sX_209 (by decide +kernel) f_y_13
      refine lv_if_ne (tgt := 43) hx hb dX6_takeCell_38 (dk_dq rfl) (fun c_14 => ?_) (fun c_14 => ?_)
      · as_aux_lemma =>
          have jc_14 := dk_neqc (k := 0) (by decide +kernel) c_14
          have qw_10_2 : y_num kd vl 0 ((ry).toInt - 1) ((n0 : Int32).toNatClampNeg + 1) = some (y_13 : Int32).toNatClampNeg := by have h9 := w_10_2.2.1 (by omega); rw [show (0 : Int32).toInt = 0 from by decide +kernel, jx_8, nq_y_6] at h9; exact h9
          have nq_y_13 : (y_13 : Int32).toNatClampNeg = (n0 : Int32).toNatClampNeg + 2 := by have h9 := (y_num_o qw_10_2).2.2.2; omega
          have qw_10_2k : y_num kd vl 0 ((ry).toInt - 1) ((n0 : Int32).toNatClampNeg + 1) = some ((n0 : Int32).toNatClampNeg + 2) := by rw [qw_10_2, nq_y_13]
          refine lv_aload_n hx hb dX6_takeCell_43 rfl (lv_at hl 1 rfl) ?_
          refine dg_get (C := RX6) (T := TX6) (N := 8) hx hb hts (fun w h => bw_mem (wU_X6 w h)) hown K hP sX_209 rfl 3 (dk_dq rfl) (hts _ (bw_mem wB_38)) (fun _ h9 => h9) (v := .ref (o + gd)) (((m_10.1 209 3 _ sX_209 (dk_dq rfl)).trans (m_3.1 209 3 _ sX_209 (dk_dq rfl))).trans f_gd) dX6_takeCell_44 ?_
          refine lv_iload_n hx hb dX6_takeCell_47 rfl (lv_at hl 0 rfl) ?_
          refine lv_aload_n hx hb dX6_takeCell_48 rfl (lv_at hl 1 rfl) ?_
          refine dg_get (C := RX6) (T := TX6) (N := 8) hx hb hts (fun w h => bw_mem (wU_X6 w h)) hown K hP sX_209 rfl 5 (dk_dq rfl) (hts _ (bw_mem wB_41)) (fun _ h9 => h9) (v := .int y_12) f_y_12 dX6_takeCell_49 ?_
          refine dg_calli hS hA1 hA (va_runV (As := [.int y_5, .int y_12]) (rest := []) F (c_g_placeOfF l g D o S_10 gd hk_gd y_5 y_12 cx (((m_10.1 gd 0 _ (rX_0 gd hk_gd) (dk_dq rfl)).trans (m_3.1 gd 0 _ (rX_0 gd hk_gd) (dk_dq rfl))).trans f_cx) (by omega) ry (((m_10.1 gd 1 _ (rX_0 gd hk_gd) (dk_dq rfl)).trans (m_3.1 gd 1 _ (rX_0 gd hk_gd) (dk_dq rfl))).trans f_ry) (by omega) I_10 H.size) (cwV 2 hts (bw_V wB_54 wB_55 wB_56 wB_9 wB_53) rfl rfl rfl (by decide +kernel) ⟨Nat.le_of_ble_eq_true rfl, Nat.le_of_ble_eq_true rfl⟩) (dg_preV (rX_0 gd hk_gd) rfl K ST hP hS hA1 hA) rfl rfl hl.1 rfl (lv_room (Nat.le_of_ble_eq_true rfl)) dX6_takeCell_52 ⟨Nat.le_of_ble_eq_true rfl, Nat.le_of_ble_eq_true rfl⟩) (fun x_15 S_16 hw_16 H locs hP hS => ?_)
          rw [hw_16.1] at hP
          obtain ⟨hq_16, w_16_0, w_16_1, w_16_2, -⟩ := hw_16
          have w_16_0 : ((-1) ≤ (x_15).toInt ∧ (x_15).toInt ≤ 62) ∧ ((x_15).toInt ≤ (-1) ∨ 8 ≤ (x_15).toInt) := w_16_0
          have w_16_1 : (x_15).toInt ≠ -1 ↔ (0 ≤ (y_5).toInt ∧ (y_5).toInt < (cx).toInt ∧ 0 ≤ (y_12).toInt ∧ (y_12).toInt < (ry).toInt) := w_16_1
          have w_16_2 : (x_15).toInt ≠ -1 → (x_15).toInt = 8 * (y_12).toInt + (y_5).toInt + 8 := w_16_2
          refine W.widen (k := 0) (n := 0) (Nat.le_of_ble_eq_true rfl) (Nat.le_of_ble_eq_true rfl) ?_
          exact dg_iret hx hb hr hlocks rfl hP hS ⟨I_10, M_10, (by omega), (fun q9 => by have h9_0 := (w_3_1 (by omega)).1; have h9_1 := (w_10_1 (by omega)).1; rw [nq_y_6] at h9_1; (try simp only [Nat.add_assoc, Nat.reduceAdd] at h9_1); omega), ⟨y_13, f_y_13, ⟨by omega, (g_an2.y (by omega) (by simp [y_cell, nq_y_6, qw_3_2k, nq_y_13, qw_10_2k]))⟩⟩, trivial⟩ dX6_takeCell_55
      · have jc_14 := dk_eqc (k := 0) (by decide +kernel) c_14
        have qw_10_2 : y_num kd vl 0 ((ry).toInt - 1) ((n0 : Int32).toNatClampNeg + 1) = none := by have h9 := w_10_2.2.2 (by omega); rw [show (0 : Int32).toInt = 0 from by decide +kernel, jx_8, nq_y_6] at h9; exact h9
        refine lv_iconst (v := (-1)) hx hb dX6_takeCell_41 (by decide +kernel) ?_
        have hz_17 : (-1 : Int32).toInt = (-1) := by decide +kernel
        have hz_18 : (-1 : Int32).toInt = (-1) := by decide +kernel
        have hz_19 : (-1 : Int32).toInt = (-1) := by decide +kernel
        have hz_20 : (-1 : Int32).toInt = (-1) := by decide +kernel
        refine W.widen (k := 0) (n := 0) (Nat.le_of_ble_eq_true rfl) (Nat.le_of_ble_eq_true rfl) ?_
        exact dg_iret hx hb hr hlocks rfl hP hS ⟨I_10, M_10, (by decide +kernel), (fun q9 => absurd (by omega) q9), ⟨y_13, f_y_13, ⟨by omega, (g_an2.n (by omega) (by simp [y_cell, nq_y_6, qw_3_2k, qw_10_2]))⟩⟩, trivial⟩ dX6_takeCell_42
  · have jc_7 := dk_eqc (k := 0) (by decide +kernel) c_7
    have qw_3_2 : y_num kd vl 0 ((cx).toInt - 1) (n0 : Int32).toNatClampNeg = none := by have h9 := w_3_2.2.2 (by omega); rw [show (0 : Int32).toInt = 0 from by decide +kernel, jx_1] at h9; exact h9
    refine lv_iconst (v := (-1)) hx hb dX6_takeCell_17 (by decide +kernel) ?_
    have hz_21 : (-1 : Int32).toInt = (-1) := by decide +kernel
    have hz_22 : (-1 : Int32).toInt = (-1) := by decide +kernel
    have hz_23 : (-1 : Int32).toInt = (-1) := by decide +kernel
    have hz_24 : (-1 : Int32).toInt = (-1) := by decide +kernel
    refine W.widen (k := 0) (n := 0) (Nat.le_of_ble_eq_true rfl) (Nat.le_of_ble_eq_true rfl) ?_
    exact dg_iret hx hb hr hlocks rfl hP hS ⟨I_3, M_3, (by decide +kernel), (fun q9 => absurd (by omega) q9), ⟨y_6, f_y_6, ⟨by omega, (g_an2.n (by omega) (by simp [y_cell, qw_3_2]))⟩⟩, trivial⟩ dX6_takeCell_18
