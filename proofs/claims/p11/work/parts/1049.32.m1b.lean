/-! 32.m1b.lean.txt -/
theorem dX12_put_0 : decode cX12_put 0 = .ok (.bipush 24, 2) := dk_o16 (by decide +kernel)
theorem dX12_put_2 : decode cX12_put 2 = .ok (.istore_n 2, 1) := dk_o61 (by decide +kernel)
theorem dX12_put_3 : decode cX12_put 3 = .ok (.iload_n 2, 1) := dk_o28 (by decide +kernel)
theorem dX12_put_4 : decode cX12_put 4 = .ok (.ifCond .lt 35, 3) := dk_o155 (by decide +kernel)
theorem dX12_put_7 : decode cX12_put 7 = .ok (.aload_n 0, 1) := dk_o42 (by decide +kernel)
theorem dX12_put_8 : decode cX12_put 8 = .ok (.getfield 7, 3) := dk_o180 (by decide +kernel)
theorem dX12_put_11 : decode cX12_put 11 = .ok (.aload_n 0, 1) := dk_o42 (by decide +kernel)
theorem dX12_put_12 : decode cX12_put 12 = .ok (.getfield 13, 3) := dk_o180 (by decide +kernel)
theorem dX12_put_15 : decode cX12_put 15 = .ok (.iload_n 1, 1) := dk_o27 (by decide +kernel)
theorem dX12_put_16 : decode cX12_put 16 = .ok (.iload_n 2, 1) := dk_o28 (by decide +kernel)
theorem dX12_put_17 : decode cX12_put 17 = .ok (.ishr, 1) := dk_o122 (by decide +kernel)
theorem dX12_put_18 : decode cX12_put 18 = .ok (.sipush 255, 3) := dk_o17 (by decide +kernel)
theorem dX12_put_21 : decode cX12_put 21 = .ok (.iand, 1) := dk_o126 (by decide +kernel)
theorem dX12_put_22 : decode cX12_put 22 = .ok (.iastore, 1) := dk_o79 (by decide +kernel)
theorem dX12_put_23 : decode cX12_put 23 = .ok (.aload_n 0, 1) := dk_o42 (by decide +kernel)
theorem dX12_put_24 : decode cX12_put 24 = .ok (.dup, 1) := dk_o89 (by decide +kernel)
theorem dX12_put_25 : decode cX12_put 25 = .ok (.getfield 13, 3) := dk_o180 (by decide +kernel)
theorem dX12_put_28 : decode cX12_put 28 = .ok (.iconst 1, 1) := dk_o4 (by decide +kernel)
theorem dX12_put_29 : decode cX12_put 29 = .ok (.iadd, 1) := dk_o96 (by decide +kernel)
theorem dX12_put_30 : decode cX12_put 30 = .ok (.putfield 13, 3) := dk_o181 (by decide +kernel)
theorem dX12_put_33 : decode cX12_put 33 = .ok (.iinc 2 (-8), 3) := dk_o132 (by decide +kernel)
theorem dX12_put_36 : decode cX12_put 36 = .ok (.goto (-33), 3) := dk_o167 (by decide +kernel)
theorem dX12_put_39 : decode cX12_put 39 = .ok (.return_, 1) := dk_o177 (by decide +kernel)
theorem dX12_feed_0 : decode cX12_feed 0 = .ok (.aload_n 0, 1) := dk_o42 (by decide +kernel)
theorem dX12_feed_1 : decode cX12_feed 1 = .ok (.getfield 13, 3) := dk_o180 (by decide +kernel)
theorem dX12_feed_4 : decode cX12_feed 4 = .ok (.bipush 20, 2) := dk_o16 (by decide +kernel)
theorem dX12_feed_6 : decode cX12_feed 6 = .ok (.iadd, 1) := dk_o96 (by decide +kernel)
theorem dX12_feed_7 : decode cX12_feed 7 = .ok (.sipush 1600, 3) := dk_o17 (by decide +kernel)
theorem dX12_feed_10 : decode cX12_feed 10 = .ok (.if_icmp .le 9, 3) := dk_o164 (by decide +kernel)
theorem dX12_feed_13 : decode cX12_feed 13 = .ok (.aload_n 0, 1) := dk_o42 (by decide +kernel)
theorem dX12_feed_14 : decode cX12_feed 14 = .ok (.iconst 0, 1) := dk_o3 (by decide +kernel)
theorem dX12_feed_15 : decode cX12_feed 15 = .ok (.invokevirtual 247, 3) := dk_o182 (by decide +kernel)
theorem dX12_feed_18 : decode cX12_feed 18 = .ok (.ireturn, 1) := dk_o172 (by decide +kernel)
theorem dX12_feed_19 : decode cX12_feed 19 = .ok (.aload_n 0, 1) := dk_o42 (by decide +kernel)
theorem dX12_feed_20 : decode cX12_feed 20 = .ok (.iload_n 1, 1) := dk_o27 (by decide +kernel)
theorem dX12_feed_21 : decode cX12_feed 21 = .ok (.invokevirtual 251, 3) := dk_o182 (by decide +kernel)
theorem dX12_feed_24 : decode cX12_feed 24 = .ok (.aload_n 0, 1) := dk_o42 (by decide +kernel)
theorem dX12_feed_25 : decode cX12_feed 25 = .ok (.iload_n 2, 1) := dk_o28 (by decide +kernel)
theorem dX12_feed_26 : decode cX12_feed 26 = .ok (.invokevirtual 251, 3) := dk_o182 (by decide +kernel)
theorem dX12_feed_29 : decode cX12_feed 29 = .ok (.aload_n 0, 1) := dk_o42 (by decide +kernel)
theorem dX12_feed_30 : decode cX12_feed 30 = .ok (.iload_n 3, 1) := dk_o29 (by decide +kernel)
theorem dX12_feed_31 : decode cX12_feed 31 = .ok (.invokevirtual 251, 3) := dk_o182 (by decide +kernel)
theorem dX12_feed_34 : decode cX12_feed 34 = .ok (.aload_n 0, 1) := dk_o42 (by decide +kernel)
theorem dX12_feed_35 : decode cX12_feed 35 = .ok (.iload 4, 2) := dk_o21 (by decide +kernel)
theorem dX12_feed_37 : decode cX12_feed 37 = .ok (.invokevirtual 251, 3) := dk_o182 (by decide +kernel)
theorem dX12_feed_40 : decode cX12_feed 40 = .ok (.aload_n 0, 1) := dk_o42 (by decide +kernel)
theorem dX12_feed_41 : decode cX12_feed 41 = .ok (.iload 5, 2) := dk_o21 (by decide +kernel)
theorem dX12_feed_43 : decode cX12_feed 43 = .ok (.invokevirtual 251, 3) := dk_o182 (by decide +kernel)
theorem dX12_feed_46 : decode cX12_feed 46 = .ok (.aload_n 0, 1) := dk_o42 (by decide +kernel)
theorem dX12_feed_47 : decode cX12_feed 47 = .ok (.getfield 13, 3) := dk_o180 (by decide +kernel)
theorem dX12_feed_50 : decode cX12_feed 50 = .ok (.ireturn, 1) := dk_o172 (by decide +kernel)
theorem dX12_end_0 : decode cX12_end 0 = .ok (.iload_n 1, 1) := dk_o27 (by decide +kernel)
theorem dX12_end_1 : decode cX12_end 1 = .ok (.ifCond .lt 11, 3) := dk_o155 (by decide +kernel)
theorem dX12_end_4 : decode cX12_end 4 = .ok (.iload_n 1, 1) := dk_o27 (by decide +kernel)
theorem dX12_end_5 : decode cX12_end 5 = .ok (.aload_n 0, 1) := dk_o42 (by decide +kernel)
theorem dX12_end_6 : decode cX12_end 6 = .ok (.getfield 13, 3) := dk_o180 (by decide +kernel)
theorem dX12_end_9 : decode cX12_end 9 = .ok (.if_icmp .le 17, 3) := dk_o164 (by decide +kernel)
theorem dX12_end_12 : decode cX12_end 12 = .ok (.aload_n 0, 1) := dk_o42 (by decide +kernel)
theorem dX12_end_13 : decode cX12_end 13 = .ok (.iconst 0, 1) := dk_o3 (by decide +kernel)
theorem dX12_end_14 : decode cX12_end 14 = .ok (.invokevirtual 247, 3) := dk_o182 (by decide +kernel)
theorem dX12_end_17 : decode cX12_end 17 = .ok (.ifCond .lt 7, 3) := dk_o155 (by decide +kernel)
theorem dX12_end_24 : decode cX12_end 24 = .ok (.iconst 0, 1) := dk_o3 (by decide +kernel)
theorem dX12_end_25 : decode cX12_end 25 = .ok (.ireturn, 1) := dk_o172 (by decide +kernel)
theorem dX12_end_26 : decode cX12_end 26 = .ok (.aload_n 0, 1) := dk_o42 (by decide +kernel)
theorem dX12_end_27 : decode cX12_end 27 = .ok (.iload_n 1, 1) := dk_o27 (by decide +kernel)
theorem dX12_end_28 : decode cX12_end 28 = .ok (.putfield 13, 3) := dk_o181 (by decide +kernel)
theorem dX12_end_31 : decode cX12_end 31 = .ok (.iconst 1, 1) := dk_o4 (by decide +kernel)
theorem dX12_end_32 : decode cX12_end 32 = .ok (.ireturn, 1) := dk_o172 (by decide +kernel)
theorem dX12_has2_0 : decode cX12_has2 0 = .ok (.iload_n 0, 1) := dk_o26 (by decide +kernel)
theorem dX12_has2_1 : decode cX12_has2 1 = .ok (.iload_n 1, 1) := dk_o27 (by decide +kernel)
theorem dX12_has2_2 : decode cX12_has2 2 = .ok (.ishr, 1) := dk_o122 (by decide +kernel)
theorem dX12_has2_3 : decode cX12_has2 3 = .ok (.iconst 1, 1) := dk_o4 (by decide +kernel)
theorem dX12_has2_4 : decode cX12_has2 4 = .ok (.iand, 1) := dk_o126 (by decide +kernel)
theorem dX12_has2_5 : decode cX12_has2 5 = .ok (.iconst 1, 1) := dk_o4 (by decide +kernel)
theorem dX12_has2_6 : decode cX12_has2 6 = .ok (.if_icmp .ne 7, 3) := dk_o160 (by decide +kernel)
theorem dX12_has2_9 : decode cX12_has2 9 = .ok (.iconst 1, 1) := dk_o4 (by decide +kernel)
theorem dX12_has2_10 : decode cX12_has2 10 = .ok (.goto 4, 3) := dk_o167 (by decide +kernel)
theorem dX12_has2_13 : decode cX12_has2 13 = .ok (.iconst 0, 1) := dk_o3 (by decide +kernel)
theorem dX12_has2_14 : decode cX12_has2 14 = .ok (.ireturn, 1) := dk_o172 (by decide +kernel)
theorem dX12_fault_0 : decode cX12_fault 0 = .ok (.iload_n 1, 1) := dk_o27 (by decide +kernel)
theorem dX12_fault_1 : decode cX12_fault 1 = .ok (.ifCond .ne 10, 3) := dk_o154 (by decide +kernel)
theorem dX12_fault_4 : decode cX12_fault 4 = .ok (.aload_n 0, 1) := dk_o42 (by decide +kernel)
theorem dX12_fault_5 : decode cX12_fault 5 = .ok (.getfield 42, 3) := dk_o180 (by decide +kernel)
theorem dX12_fault_8 : decode cX12_fault 8 = .ok (.goto 16, 3) := dk_o167 (by decide +kernel)
theorem dX12_fault_11 : decode cX12_fault 11 = .ok (.iload_n 1, 1) := dk_o27 (by decide +kernel)
theorem dX12_fault_12 : decode cX12_fault 12 = .ok (.iconst 1, 1) := dk_o4 (by decide +kernel)
theorem dX12_fault_13 : decode cX12_fault 13 = .ok (.if_icmp .ne 10, 3) := dk_o160 (by decide +kernel)
theorem dX12_fault_16 : decode cX12_fault 16 = .ok (.aload_n 0, 1) := dk_o42 (by decide +kernel)
theorem dX12_fault_17 : decode cX12_fault 17 = .ok (.getfield 45, 3) := dk_o180 (by decide +kernel)
theorem dX12_fault_20 : decode cX12_fault 20 = .ok (.goto 4, 3) := dk_o167 (by decide +kernel)
theorem dX12_fault_23 : decode cX12_fault 23 = .ok (.iconst (-1), 1) := dk_o2 (by decide +kernel)
theorem dX12_fault_24 : decode cX12_fault 24 = .ok (.ireturn, 1) := dk_o172 (by decide +kernel)
theorem dX12_refuses_0 : decode cX12_refuses 0 = .ok (.aload_n 0, 1) := dk_o42 (by decide +kernel)
theorem dX12_refuses_1 : decode cX12_refuses 1 = .ok (.getfield 159, 3) := dk_o180 (by decide +kernel)
theorem dX12_refuses_4 : decode cX12_refuses 4 = .ok (.iload_n 1, 1) := dk_o27 (by decide +kernel)
theorem dX12_refuses_5 : decode cX12_refuses 5 = .ok (.dup2, 1) := dk_o92 (by decide +kernel)
theorem dX12_refuses_6 : decode cX12_refuses 6 = .ok (.iaload, 1) := dk_o46 (by decide +kernel)
theorem dX12_refuses_7 : decode cX12_refuses 7 = .ok (.iconst 1, 1) := dk_o4 (by decide +kernel)
theorem dX12_refuses_8 : decode cX12_refuses 8 = .ok (.iadd, 1) := dk_o96 (by decide +kernel)
theorem dX12_refuses_9 : decode cX12_refuses 9 = .ok (.iastore, 1) := dk_o79 (by decide +kernel)
theorem dX12_refuses_10 : decode cX12_refuses 10 = .ok (.iconst (-1), 1) := dk_o2 (by decide +kernel)
theorem dX12_refuses_11 : decode cX12_refuses 11 = .ok (.ireturn, 1) := dk_o172 (by decide +kernel)
theorem dX12_status_0 : decode cX12_status 0 = .ok (.iload_n 1, 1) := dk_o27 (by decide +kernel)
theorem dX12_status_1 : decode cX12_status 1 = .ok (.iconst 0, 1) := dk_o3 (by decide +kernel)
theorem dX12_status_2 : decode cX12_status 2 = .ok (.iconst 5, 1) := dk_o8 (by decide +kernel)
theorem dX12_status_3 : decode cX12_status 3 = .ok (.invokestatic 333, 3) := dk_o184 (by decide +kernel)
theorem dX12_status_6 : decode cX12_status 6 = .ok (.ifCond .eq 12, 3) := dk_o153 (by decide +kernel)
theorem dX12_status_9 : decode cX12_status 9 = .ok (.aload_n 0, 1) := dk_o42 (by decide +kernel)
theorem dX12_status_10 : decode cX12_status 10 = .ok (.getfield 159, 3) := dk_o180 (by decide +kernel)
theorem dX12_status_13 : decode cX12_status 13 = .ok (.iload_n 1, 1) := dk_o27 (by decide +kernel)
theorem dX12_status_14 : decode cX12_status 14 = .ok (.iaload, 1) := dk_o46 (by decide +kernel)
theorem dX12_status_15 : decode cX12_status 15 = .ok (.goto 4, 3) := dk_o167 (by decide +kernel)
theorem dX12_status_18 : decode cX12_status 18 = .ok (.iconst (-1), 1) := dk_o2 (by decide +kernel)
theorem dX12_status_19 : decode cX12_status 19 = .ok (.ireturn, 1) := dk_o172 (by decide +kernel)
theorem dX12_bits_0 : decode cX12_bits 0 = .ok (.iconst 0, 1) := dk_o3 (by decide +kernel)
theorem dX12_bits_1 : decode cX12_bits 1 = .ok (.istore_n 1, 1) := dk_o60 (by decide +kernel)
theorem dX12_bits_2 : decode cX12_bits 2 = .ok (.iload_n 0, 1) := dk_o26 (by decide +kernel)
theorem dX12_bits_3 : decode cX12_bits 3 = .ok (.istore_n 2, 1) := dk_o61 (by decide +kernel)
theorem dX12_bits_4 : decode cX12_bits 4 = .ok (.iload_n 2, 1) := dk_o28 (by decide +kernel)
theorem dX12_bits_5 : decode cX12_bits 5 = .ok (.ifCond .eq 15, 3) := dk_o153 (by decide +kernel)
theorem dX12_bits_8 : decode cX12_bits 8 = .ok (.iinc 1 1, 3) := dk_o132 (by decide +kernel)
theorem dX12_bits_11 : decode cX12_bits 11 = .ok (.iload_n 2, 1) := dk_o28 (by decide +kernel)
theorem dX12_bits_12 : decode cX12_bits 12 = .ok (.iload_n 2, 1) := dk_o28 (by decide +kernel)
theorem dX12_bits_13 : decode cX12_bits 13 = .ok (.iconst 1, 1) := dk_o4 (by decide +kernel)
theorem dX12_bits_14 : decode cX12_bits 14 = .ok (.isub, 1) := dk_o100 (by decide +kernel)
theorem dX12_bits_15 : decode cX12_bits 15 = .ok (.iand, 1) := dk_o126 (by decide +kernel)
theorem dX12_bits_16 : decode cX12_bits 16 = .ok (.istore_n 2, 1) := dk_o61 (by decide +kernel)
theorem dX12_bits_17 : decode cX12_bits 17 = .ok (.goto (-13), 3) := dk_o167 (by decide +kernel)
theorem dX12_bits_20 : decode cX12_bits 20 = .ok (.iload_n 1, 1) := dk_o27 (by decide +kernel)
theorem dX12_bits_21 : decode cX12_bits 21 = .ok (.ireturn, 1) := dk_o172 (by decide +kernel)
theorem dX12_partOf_0 : decode cX12_partOf 0 = .ok (.iload_n 1, 1) := dk_o27 (by decide +kernel)
theorem dX12_partOf_1 : decode cX12_partOf 1 = .ok (.ifCond .ne 10, 3) := dk_o154 (by decide +kernel)
theorem dX12_partOf_4 : decode cX12_partOf 4 = .ok (.iload_n 0, 1) := dk_o26 (by decide +kernel)
theorem dX12_partOf_5 : decode cX12_partOf 5 = .ok (.bipush 8, 2) := dk_o16 (by decide +kernel)
theorem dX12_partOf_7 : decode cX12_partOf 7 = .ok (.irem, 1) := dk_o112 (by decide +kernel)
theorem dX12_partOf_8 : decode cX12_partOf 8 = .ok (.goto 7, 3) := dk_o167 (by decide +kernel)
theorem dX12_partOf_11 : decode cX12_partOf 11 = .ok (.iload_n 0, 1) := dk_o26 (by decide +kernel)
theorem dX12_partOf_12 : decode cX12_partOf 12 = .ok (.bipush 8, 2) := dk_o16 (by decide +kernel)
theorem dX12_partOf_14 : decode cX12_partOf 14 = .ok (.idiv, 1) := dk_o108 (by decide +kernel)
theorem dX12_partOf_15 : decode cX12_partOf 15 = .ok (.ireturn, 1) := dk_o172 (by decide +kernel)
theorem wB_1072 : Cond.fieldLink RX12 13 "DarkMineModel" "taped" "I" ∈ dgB := List.mem_filter.mpr ⟨tbl_6 _ (List.mem_of_getElem? (i := 164) (by decide +kernel)), by decide +kernel⟩
theorem wB_1073 : Cond.fieldLink RX12 159 "DarkMineModel" "refused" "[I" ∈ dgB := List.mem_filter.mpr ⟨tbl_6 _ (List.mem_of_getElem? (i := 211) (by decide +kernel)), by decide +kernel⟩
theorem wB_1074 : Cond.code yX12_put cX12_put 3 none ∈ dgB := List.mem_filter.mpr ⟨tbl_7 _ (List.mem_of_getElem? (i := 168) rfl), rfl⟩
theorem wB_1075 : Cond.methodLink RX12 251 yX12_put ∈ dgB := List.mem_filter.mpr ⟨tbl_7 _ (List.mem_of_getElem? (i := 165) (by decide +kernel)), by decide +kernel⟩
theorem wB_1076 : Cond.instanceMethod yX12_put ∈ dgB := List.mem_filter.mpr ⟨tbl_7 _ (List.mem_of_getElem? (i := 167) (by decide +kernel)), by decide +kernel⟩
theorem wB_1077 : Cond.selects RX12 yX12_put yX12_put ∈ dgB := List.mem_filter.mpr ⟨List.mem_of_getElem? (i := 82) (by decide +kernel), by decide +kernel⟩
theorem wB_1078 : Cond.code yX12_refuses cX12_refuses 2 (some .int) ∈ dgB := List.mem_filter.mpr ⟨tbl_7 _ (List.mem_of_getElem? (i := 164) rfl), rfl⟩
theorem wB_1079 : Cond.methodLink RX12 247 yX12_refuses ∈ dgB := List.mem_filter.mpr ⟨tbl_7 _ (List.mem_of_getElem? (i := 161) (by decide +kernel)), by decide +kernel⟩
theorem wB_1080 : Cond.instanceMethod yX12_refuses ∈ dgB := List.mem_filter.mpr ⟨tbl_7 _ (List.mem_of_getElem? (i := 163) (by decide +kernel)), by decide +kernel⟩
theorem wB_1081 : Cond.selects RX12 yX12_refuses yX12_refuses ∈ dgB := List.mem_filter.mpr ⟨List.mem_of_getElem? (i := 81) (by decide +kernel), by decide +kernel⟩
theorem wB_1082 : Cond.fieldLink RX12 45 "DarkMineModel" "toldPlace" "I" ∈ dgB := List.mem_filter.mpr ⟨tbl_6 _ (List.mem_of_getElem? (i := 174) (by decide +kernel)), by decide +kernel⟩
theorem wB_1083 : Cond.fieldLink RX12 42 "DarkMineModel" "toldKind" "I" ∈ dgB := List.mem_filter.mpr ⟨tbl_6 _ (List.mem_of_getElem? (i := 173) (by decide +kernel)), by decide +kernel⟩
noncomputable def F_m_has2 (o : Nat) (S : dg_S) (a1 : Int32) (a2 : Int32) : Int32 := let x_1 : Int32 := a1 >>> (a2 &&& 31); let x_2 : Int32 := x_1 &&& (1 : Int32); (if x_2 = (1 : Int32) then (1 : Int32) else (0 : Int32))
theorem F_m_has2_p0 {o : Nat} {S : dg_S} {a1 : Int32} {a2 : Int32} {x_1 : Int32} {x_2 : Int32} (h0 : x_1 = a1 >>> (a2 &&& 31)) (h1 : x_2 = x_1 &&& (1 : Int32)) (h2 : ¬ (x_2 = (1 : Int32))) : F_m_has2 o S a1 a2 = (0 : Int32) := by
  replace h0 := Eq.symm h0
  subst h0
  replace h1 := Eq.symm h1
  subst h1
  exact (Eq.trans (if_neg h2) rfl)
theorem F_m_has2_p1 {o : Nat} {S : dg_S} {a1 : Int32} {a2 : Int32} {x_1 : Int32} {x_2 : Int32} (h0 : x_1 = a1 >>> (a2 &&& 31)) (h1 : x_2 = x_1 &&& (1 : Int32)) (h2 : x_2 = (1 : Int32)) : F_m_has2 o S a1 a2 = (1 : Int32) := by
  replace h0 := Eq.symm h0
  subst h0
  replace h1 := Eq.symm h1
  subst h1
  exact (Eq.trans (if_pos h2) rfl)
set_option maxHeartbeats 8000000 in
set_option maxRecDepth 100000 in
theorem c_m_has2 (l : Launch) (g : Nat → ClassId) (D : va_G) (o : Nat) (S : dg_S) (a1 : Int32) (a2 : Int32) (I : CM o S) (sz : Nat) : Met l yX12_has2 (bw yX12_has2 cX12_has2 2 (some .boolean)) ({ frames := 1, cells := 0, slots := 0, locals := 32 } : Room) (dk_Pc g D (dg_w g shM o rfM S) sz [.int a1, .int a2]) (va_Qi (fun (r : Int32) S' => S' = S ∧ (0 ≤ (r).toInt ∧ (r).toInt ≤ 1) ∧ (r = F_m_has2 o S a1 a2) ∧ True) (dg_B g D shM o rfM) (dg_A o shM.length sz)) 0 0 (dg_A o shM.length sz) := by
  refine dg_met (cc := cX12_has2) (maxL := 2) (ret := (some .boolean)) (dk_dq rfl) rfl (Nat.le_of_ble_eq_true rfl) ?_
  intro p e s m args below meth c A hAe harg hx hb hr hml hts hown hlocks hin hP K hS hA1 hA ST hsz ls hl
  rw [← hAe]
  have F : CallFix p m c cX12_has2 2 s args (bw yX12_has2 cX12_has2 2 (some .boolean)) RX12 := ⟨hx, hb, hml, hown, hts⟩
  have hl : lv_has ls 2 [(0, .int a1), (1, .int a2)] := hl
  have M_0 : dg_sm shM [] [] S S := dg_sm.rf
  refine lv_iload_n hx hb dX12_has2_0 rfl (lv_at hl 0 rfl) ?_
  refine lv_iload_n hx hb dX12_has2_1 rfl (lv_at hl 1 rfl) ?_
  refine lv_ishr hx hb dX12_has2_2 ?_
  refine lv_topi (fun x_1 ex_1 => ?_)
  refine lv_iconst (v := 1) hx hb dX12_has2_3 (by decide +kernel) ?_
  refine lv_iand hx hb dX12_has2_4 ?_
  refine lv_topi (fun x_2 ex_2 => ?_)
  refine lv_iconst (v := 1) hx hb dX12_has2_5 (by decide +kernel) ?_
  refine lv_icmp_ne (tgt := 13) hx hb dX12_has2_6 (dk_dq rfl) (fun c_3 => ?_) (fun c_3 => ?_)
  · have jc_3 := dk_neqc (k := 1) (by decide +kernel) c_3
    refine lv_iconst (v := 0) hx hb dX12_has2_13 (by decide +kernel) ?_
    have hz_4 : (0 : Int32).toInt = 0 := by decide +kernel
    refine W.widen (k := 0) (n := 0) (Nat.le_of_ble_eq_true rfl) (Nat.le_of_ble_eq_true rfl) ?_
    exact dg_iret hx hb hr hlocks (by decide +kernel) hP hS ⟨rfl, (by decide +kernel), (Eq.symm (F_m_has2_p0 ex_1 ex_2 c_3)), trivial⟩ dX12_has2_14
  · have jc_3 := dk_eqc (k := 1) (by decide +kernel) c_3
    refine lv_iconst (v := 1) hx hb dX12_has2_9 (by decide +kernel) ?_
    refine lv_goto (tgt := 14) hx hb dX12_has2_10 (dk_dq rfl) ?_
    have hz_5 : (1 : Int32).toInt = 1 := by decide +kernel
    refine W.widen (k := 0) (n := 0) (Nat.le_of_ble_eq_true rfl) (Nat.le_of_ble_eq_true rfl) ?_
    exact dg_iret hx hb hr hlocks (by decide +kernel) hP hS ⟨rfl, (by decide +kernel), (Eq.symm (F_m_has2_p1 ex_1 ex_2 c_3)), trivial⟩ dX12_has2_14
noncomputable def F_m_partOf (o : Nat) (S : dg_S) (a1 : Int32) (a2 : Int32) : Int32 := (if a2 = (0 : Int32) then let x_3 : Int32 := a1 - a1 / (8 : Int32) * (8 : Int32); x_3 else let x_2 : Int32 := a1 / (8 : Int32); x_2)
theorem F_m_partOf_p0 {o : Nat} {S : dg_S} {a1 : Int32} {a2 : Int32} {x_2 : Int32} (h0 : ¬ (a2 = (0 : Int32))) (h1 : x_2 = a1 / (8 : Int32)) : F_m_partOf o S a1 a2 = x_2 := by
  replace h1 := Eq.symm h1
  subst h1
  exact (Eq.trans (if_neg h0) rfl)
theorem F_m_partOf_p1 {o : Nat} {S : dg_S} {a1 : Int32} {a2 : Int32} {x_3 : Int32} (h0 : a2 = (0 : Int32)) (h1 : x_3 = a1 - a1 / (8 : Int32) * (8 : Int32)) : F_m_partOf o S a1 a2 = x_3 := by
  replace h1 := Eq.symm h1
  subst h1
  exact (Eq.trans (if_pos h0) rfl)
set_option maxHeartbeats 8000000 in
set_option maxRecDepth 100000 in
theorem c_m_partOf (l : Launch) (g : Nat → ClassId) (D : va_G) (o : Nat) (S : dg_S) (a1 : Int32) (a2 : Int32) (I : CM o S) (sz : Nat) : Met l yX12_partOf (bw yX12_partOf cX12_partOf 2 (some .int)) ({ frames := 1, cells := 0, slots := 0, locals := 32 } : Room) (dk_Pc g D (dg_w g shM o rfM S) sz [.int a1, .int a2]) (va_Qi (fun (r : Int32) S' => S' = S ∧ (r = F_m_partOf o S a1 a2) ∧ True) (dg_B g D shM o rfM) (dg_A o shM.length sz)) 0 0 (dg_A o shM.length sz) := by
  refine dg_met (cc := cX12_partOf) (maxL := 2) (ret := (some .int)) (dk_dq rfl) rfl (Nat.le_of_ble_eq_true rfl) ?_
  intro p e s m args below meth c A hAe harg hx hb hr hml hts hown hlocks hin hP K hS hA1 hA ST hsz ls hl
  rw [← hAe]
  have F : CallFix p m c cX12_partOf 2 s args (bw yX12_partOf cX12_partOf 2 (some .int)) RX12 := ⟨hx, hb, hml, hown, hts⟩
  have hl : lv_has ls 2 [(0, .int a1), (1, .int a2)] := hl
  have M_0 : dg_sm shM [] [] S S := dg_sm.rf
  refine lv_iload_n hx hb dX12_partOf_0 rfl (lv_at hl 1 rfl) ?_
  refine lv_if_ne (tgt := 11) hx hb dX12_partOf_1 (dk_dq rfl) (fun c_1 => ?_) (fun c_1 => ?_)
  · have jc_1 := dk_neqc (k := 0) (by decide +kernel) c_1
    refine lv_iload_n hx hb dX12_partOf_11 rfl (lv_at hl 0 rfl) ?_
    refine lv_bipush (v := 8) hx hb dX12_partOf_12 (by decide +kernel) ?_
    refine lv_idiv hx hb dX12_partOf_14 (by decide +kernel) ?_
    refine lv_topi (fun x_2 ex_2 => ?_)
    refine W.widen (k := 0) (n := 0) (Nat.le_of_ble_eq_true rfl) (Nat.le_of_ble_eq_true rfl) ?_
    exact dg_iret hx hb hr hlocks rfl hP hS ⟨rfl, (Eq.symm (F_m_partOf_p0 c_1 ex_2)), trivial⟩ dX12_partOf_15
  · have jc_1 := dk_eqc (k := 0) (by decide +kernel) c_1
    refine lv_iload_n hx hb dX12_partOf_4 rfl (lv_at hl 0 rfl) ?_
    refine lv_bipush (v := 8) hx hb dX12_partOf_5 (by decide +kernel) ?_
    refine lv_irem hx hb dX12_partOf_7 (by decide +kernel) ?_
    refine lv_topi (fun x_3 ex_3 => ?_)
    refine lv_goto (tgt := 15) hx hb dX12_partOf_8 (dk_dq rfl) ?_
    refine W.widen (k := 0) (n := 0) (Nat.le_of_ble_eq_true rfl) (Nat.le_of_ble_eq_true rfl) ?_
    exact dg_iret hx hb hr hlocks rfl hP hS ⟨rfl, (Eq.symm (F_m_partOf_p1 c_1 ex_3)), trivial⟩ dX12_partOf_15
noncomputable def F_m_bits_B1 : (Int32 × Int32) → (Int32 × Int32) ⊕ (Int32) := fun w9 => match w9 with | (x_28, x_29) => (if x_28 = (0 : Int32) then (Sum.inr (x_29)) else let x_32 : Int32 := x_29 + 1; let x_33 : Int32 := x_28 - (1 : Int32); let x_34 : Int32 := x_28 &&& x_33; (Sum.inl (x_34, x_32)))
noncomputable def F_m_bits (o : Nat) (S : dg_S) (a1 : Int32) : Int32 := (lp F_m_bits_B1 (0 : Int32) ((((((a1 : Int32)).toUInt32.toNat : Nat) : Int)).toNat + 1) (a1, (0 : Int32)))
theorem F_m_bits_p0 {x_28 : Int32} {x_29 : Int32} (h0 : x_28 = (0 : Int32)) : F_m_bits_B1 (x_28, x_29) = Sum.inr (x_29) := (Eq.trans (if_pos h0) rfl)
theorem F_m_bits_p1 {x_28 : Int32} {x_29 : Int32} {x_34 : Int32} {x_32 : Int32} {x_33 : Int32} (h0 : ¬ (x_28 = (0 : Int32))) (h1 : x_32 = x_29 + 1) (h2 : x_33 = x_28 - (1 : Int32)) (h3 : x_34 = x_28 &&& x_33) : F_m_bits_B1 (x_28, x_29) = Sum.inl (x_34, x_32) := by
  replace h1 := Eq.symm h1
  subst h1
  replace h2 := Eq.symm h2
  subst h2
  replace h3 := Eq.symm h3
  subst h3
  exact (Eq.trans (if_neg h0) rfl)
theorem F_m_bits_p2 {o : Nat} {S : dg_S} {a1 : Int32}  : F_m_bits o S a1 = lp F_m_bits_B1 (0 : Int32) ((((((a1 : Int32)).toUInt32.toNat : Nat) : Int)).toNat + 1) (a1, (0 : Int32)) := rfl
set_option maxHeartbeats 8000000 in
set_option maxRecDepth 100000 in
theorem c_m_bits (l : Launch) (g : Nat → ClassId) (D : va_G) (o : Nat) (S : dg_S) (a1 : Int32) (I : CM o S) (sz : Nat) : Met l yX12_bits (bw yX12_bits cX12_bits 3 (some .int)) ({ frames := 1, cells := 0, slots := 0, locals := 32 } : Room) (dk_Pc g D (dg_w g shM o rfM S) sz [.int a1]) (va_Qi (fun (r : Int32) S' => S' = S ∧ (r = F_m_bits o S a1) ∧ True) (dg_B g D shM o rfM) (dg_A o shM.length sz)) 0 0 (dg_A o shM.length sz) := by
  refine dg_met (cc := cX12_bits) (maxL := 3) (ret := (some .int)) (dk_dq rfl) rfl (Nat.le_of_ble_eq_true rfl) ?_
  intro p e s m args below meth c A hAe harg hx hb hr hml hts hown hlocks hin hP K hS hA1 hA ST hsz ls hl
  rw [← hAe]
  have F : CallFix p m c cX12_bits 3 s args (bw yX12_bits cX12_bits 3 (some .int)) RX12 := ⟨hx, hb, hml, hown, hts⟩
  have hl : lv_has ls 3 [(0, .int a1)] := hl
  have M_0 : dg_sm shM [] [] S S := dg_sm.rf
  refine lv_iconst (v := 0) hx hb dX12_bits_0 (by decide +kernel) ?_
  refine lv_istore_n (lv' := [(1, .int 0), (0, .int a1)]) hx hb dX12_bits_1 rfl hl (dk_dq rfl) rfl (fun ls hl => ?_)
  refine lv_iload_n hx hb dX12_bits_2 rfl (lv_at hl 1 rfl) ?_
  refine lv_istore_n (lv' := [(2, .int a1), (1, .int 0), (0, .int a1)]) hx hb dX12_bits_3 rfl hl (dk_dq rfl) rfl (fun ls hl => ?_)
  have L_30 : ∀ (n : Nat) (x_28 : Int32) (x_29 : Int32), (((((x_28).toUInt32.toNat : Nat) : Int)).toNat < n) → (F_m_bits o S a1 = lp F_m_bits_B1 (0 : Int32) n (x_28, x_29)) → ∀ (H : Heap) (locs : List Loc), va_P D vwCl (dg_w g shM o rfM S) H → va_S A s.heap H locs → ∀ ls : Array Slot, lv_has ls 3 [(2, .int x_28), (1, .int x_29), (0, .int a1)] → W p l e ({ frames := 1, cells := 0, slots := 0, locals := 32 } : Room) s m args below meth c H locs 0 0 (MQ below (va_Qi (fun (r : Int32) S' => S' = S ∧ (r = F_m_bits o S a1) ∧ True) (dg_B g D shM o rfM) A) args s 0 0 A) (F0 m 4 ls []) := by
    intro n
    induction n with
    | zero =>
      intro x_28 x_29 hmu hF_1 H locs hP hS ls hl
      omega
    | succ n ih =>
      intro x_28 x_29 hmu hF_1 H locs hP hS ls hl
      refine lv_iload_n hx hb dX12_bits_4 rfl (lv_at hl 0 rfl) ?_
      refine lv_if_eq (tgt := 20) hx hb dX12_bits_5 (dk_dq rfl) (fun c_31 => ?_) (fun c_31 => ?_)
      · have jc_31 := dk_eqc (k := 0) (by decide +kernel) c_31
        refine lv_iload_n hx hb dX12_bits_20 rfl (lv_at hl 1 rfl) ?_
        refine W.widen (k := 0) (n := 0) (Nat.le_of_ble_eq_true rfl) (Nat.le_of_ble_eq_true rfl) ?_
        exact dg_iret hx hb hr hlocks rfl hP hS ⟨rfl, (Eq.symm (lp_r hF_1 (F_m_bits_p0 c_31))), trivial⟩ dX12_bits_21
      · have jc_31 := dk_neqc (k := 0) (by decide +kernel) c_31
        obtain ⟨x_32, ex_32⟩ : ∃ z, z = x_29 + 1 := ⟨_, rfl⟩
        refine lv_iinc (v := x_32) (lv' := [(1, .int x_32), (2, .int x_28), (0, .int a1)]) hx hb dX12_bits_8 hl (k := 1) rfl (by rw [ex_32]; rfl) (dk_dq rfl) rfl (fun ls hl => ?_)
        refine lv_iload_n hx hb dX12_bits_11 rfl (lv_at hl 1 rfl) ?_
        refine lv_iload_n hx hb dX12_bits_12 rfl (lv_at hl 1 rfl) ?_
        refine lv_iconst (v := 1) hx hb dX12_bits_13 (by decide +kernel) ?_
        refine lv_isub hx hb dX12_bits_14 ?_
        refine lv_topi (fun x_33 ex_33 => ?_)
        refine lv_iand hx hb dX12_bits_15 ?_
        refine lv_topi (fun x_34 ex_34 => ?_)
        have hlb_x_34 : ((x_34).toUInt32.toNat) < ((x_28).toUInt32.toNat) := by have h9 := dk_lowbit (x := x_28) (fun q => by have h8 : (0 : Int32).toInt = 0 := (by decide +kernel); subst q; omega); rw [ex_34, ex_33]; exact h9
        refine lv_istore_n (lv' := [(2, .int x_34), (1, .int x_32), (0, .int a1)]) hx hb dX12_bits_16 rfl hl (dk_dq rfl) rfl (fun ls hl => ?_)
        refine lv_goto (tgt := 4) hx hb dX12_bits_17 (dk_dq rfl) ?_
        exact ih x_34 x_32 (by first | exact mu_lt hmu (by omega) (by omega) | omega) (lp_l hF_1 (F_m_bits_p1 c_31 ex_32 ex_33 ex_34)) _ _ hP hS _ (lv_sub hl [0, 1, 2] rfl)
  have hz_35 : (0 : Int32).toInt = 0 := by decide +kernel
  exact L_30 ((((((a1 : Int32)).toUInt32.toNat : Nat) : Int)).toNat + 1) a1 0 (by first | exact mu_lt hmu (by omega) (by omega) | omega) (F_m_bits_p2) _ _ hP hS _ (lv_sub hl [0, 1, 2] rfl)
noncomputable def F_m_put_B1 (a1 : Int32) : (Int32 × Int32 × dg_S) → (Int32 × Int32 × dg_S) ⊕ (dg_S) := fun w9 => match w9 with | (x_29, x_30, S_31) => (if x_29 < (0 : Int32) then (Sum.inr ((S_31))) else let x_34 : Int32 := a1 >>> (x_29 &&& 31); let x_35 : Int32 := x_34 &&& (255 : Int32); let S_37 : dg_S := dg_uf S_31 1 (upd (S_31.2.1 1) (x_30 : Int32).toNatClampNeg x_35); let x_38 : Int32 := x_30 + (1 : Int32); let S_39 : dg_S := dg_uF S_37 0 1 (.int x_38); let x_40 : Int32 := x_29 + (-8); (Sum.inl (x_40, x_38, S_39)))
noncomputable def F_m_put (o : Nat) (S : dg_S) (a1 : Int32) : dg_S := let t0 : Int32 := zI S 0 1; (lp (F_m_put_B1 a1) S ((((24 : Int32)).toInt - (-9)).toNat + 1) ((24 : Int32), t0, S))
theorem F_m_put_p0 {a1 : Int32} {x_29 : Int32} {x_30 : Int32} {S_31 : dg_S} (h0 : x_29 < (0 : Int32)) : (F_m_put_B1 a1) (x_29, x_30, S_31) = Sum.inr (S_31) := (Eq.trans (if_pos h0) rfl)
theorem F_m_put_p1 {a1 : Int32} {x_29 : Int32} {x_30 : Int32} {S_31 : dg_S} {x_40 : Int32} {x_38 : Int32} {S_39 : dg_S} {x_34 : Int32} {x_35 : Int32} {S_37 : dg_S} (h0 : ¬ (x_29 < (0 : Int32))) (h1 : x_34 = a1 >>> (x_29 &&& 31)) (h2 : x_35 = x_34 &&& (255 : Int32)) (h3 : S_37 = dg_uf S_31 1 (upd (S_31.2.1 1) (x_30 : Int32).toNatClampNeg x_35)) (h4 : x_38 = x_30 + (1 : Int32)) (h5 : S_39 = dg_uF S_37 0 1 (.int x_38)) (h6 : x_40 = x_29 + (-8)) : (F_m_put_B1 a1) (x_29, x_30, S_31) = Sum.inl (x_40, x_38, S_39) := by
  replace h1 := Eq.symm h1
  subst h1
  replace h2 := Eq.symm h2
  subst h2
  replace h3 := Eq.symm h3
  subst h3
  replace h4 := Eq.symm h4
  subst h4
  replace h5 := Eq.symm h5
  subst h5
  replace h6 := Eq.symm h6
  subst h6
  exact (Eq.trans (if_neg h0) rfl)
theorem F_m_put_p2 {o : Nat} {S : dg_S} {a1 : Int32} {t0 : Int32} (h0 : t0 = zI S 0 1) : F_m_put o S a1 = lp (F_m_put_B1 a1) S ((((24 : Int32)).toInt - (-9)).toNat + 1) ((24 : Int32), t0, S) := by
  replace h0 := Eq.symm h0
  subst h0
  exact rfl
set_option maxHeartbeats 8000000 in
set_option maxRecDepth 100000 in
theorem c_m_put (l : Launch) (g : Nat → ClassId) (D : va_G) (o : Nat) (S : dg_S) (a1 : Int32) (t0 : Int32) (f_t0 : S.1 0 1 = .int t0) (b_t0 : 0 ≤ (t0).toInt ∧ (t0).toInt ≤ 1596) (I : CM o S) (sz : Nat) : Met l yX12_put (bw yX12_put cX12_put 3 none) ({ frames := 1, cells := 0, slots := 0, locals := 32 } : Room) (dk_Pc g D (dg_w g shM o rfM S) sz [.ref (o + 0), .int a1]) (va_Qv (fun S' => CM o S' ∧ dg_sm shM [(0, 1)] [1] S S' ∧ (∃ y9 : Int32, S'.1 0 1 = .int y9 ∧ ((y9).toInt = (t0).toInt + 4)) ∧ (S'.2.1 1 = tp_k (S.2.1 1) (t0 : Int32).toNatClampNeg a1 4) ∧ (S' = F_m_put o S a1) ∧ True) (dg_B g D shM o rfM) (dg_A o shM.length sz)) 0 0 (dg_A o shM.length sz) := by
  refine dg_met (cc := cX12_put) (maxL := 3) (ret := none) (dk_dq rfl) rfl (Nat.le_of_ble_eq_true rfl) ?_
  intro p e s m args below meth c A hAe harg hx hb hr hml hts hown hlocks hin hP K hS hA1 hA ST hsz ls hl
  rw [← hAe]
  have F : CallFix p m c cX12_put 3 s args (bw yX12_put cX12_put 3 none) RX12 := ⟨hx, hb, hml, hown, hts⟩
  have hl : lv_has ls 3 [(0, .ref (o + 0)), (1, .int a1)] := hl
  have M_0 : dg_sm shM [(0, 1)] [1] S S := dg_sm.rf
  refine lv_bipush (v := 24) hx hb dX12_put_0 (by decide +kernel) ?_
  refine lv_istore_n (lv' := [(2, .int 24), (0, .ref (o + 0)), (1, .int a1)]) hx hb dX12_put_2 rfl hl (dk_dq rfl) rfl (fun ls hl => ?_)
  have L_32 : ∀ (n : Nat) (x_29 : Int32) (x_30 : Int32), ((-8) ≤ (x_29).toInt ∧ (x_29).toInt ≤ 24) → (0 ≤ (x_30).toInt ∧ (x_30).toInt ≤ 1600) → (((x_29).toInt - (-9)).toNat < n) → ∀ S_31 : dg_S, CM o S_31 → dg_sm shM [(0, 1)] [1] S S_31 → S_31.1 0 1 = .int x_30 → (8 * ((x_30).toInt - (t0).toInt) + (x_29).toInt = 24) → (m_hid (S_31.2.1 1 = tp_k (S.2.1 1) (t0 : Int32).toNatClampNeg a1 ((x_30 : Int32).toNatClampNeg - (t0 : Int32).toNatClampNeg))) → (F_m_put o S a1 = lp (F_m_put_B1 a1) S n (x_29, x_30, S_31)) → ∀ (H : Heap) (locs : List Loc), va_P D vwCl (dg_w g shM o rfM S_31) H → va_S A s.heap H locs → ∀ ls : Array Slot, lv_has ls 3 [(2, .int x_29), (0, .ref (o + 0)), (1, .int a1)] → W p l e ({ frames := 1, cells := 0, slots := 0, locals := 32 } : Room) s m args below meth c H locs 0 0 (MQ below (va_Qv (fun S' => CM o S' ∧ dg_sm shM [(0, 1)] [1] S S' ∧ (∃ y9 : Int32, S'.1 0 1 = .int y9 ∧ ((y9).toInt = (t0).toInt + 4)) ∧ (S'.2.1 1 = tp_k (S.2.1 1) (t0 : Int32).toNatClampNeg a1 4) ∧ (S' = F_m_put o S a1) ∧ True) (dg_B g D shM o rfM) A) args s 0 0 A) (F0 m 3 ls []) := by
    as_aux_lemma =>
      intro n
      induction n with
      | zero =>
        intro x_29 x_30 b_x_29 b_x_30 hmu S_31 I_31 M_31 ff_31_1_0 srel_31_0 srel_31_1 hF_1 H locs hP hS ls hl
        omega
      | succ n ih =>
        as_aux_lemma =>
          intro x_29 x_30 b_x_29 b_x_30 hmu S_31 I_31 M_31 ff_31_1_0 srel_31_0 srel_31_1 hF_1 H locs hP hS ls hl
          refine lv_iload_n hx hb dX12_put_3 rfl (lv_at hl 0 rfl) ?_
          refine lv_if_lt (tgt := 39) hx hb dX12_put_4 (dk_dq rfl) (fun c_33 => ?_) (fun c_33 => ?_)
          · have jc_33 := dk_ltc (k := 0) (by decide +kernel) c_33
            refine W.widen (k := 0) (n := 0) (Nat.le_of_ble_eq_true rfl) (Nat.le_of_ble_eq_true rfl) ?_
            exact dg_vret hx hb hr hlocks hP hS ⟨I_31, M_31, ⟨x_30, ff_31_1_0, (by omega)⟩, (tp_e srel_31_1.out (by omega) (by omega)), (Eq.symm (lp_r hF_1 (F_m_put_p0 c_33))), trivial⟩ dX12_put_39
          · as_aux_lemma =>
              have jc_33 := dk_nltc (k := 0) (by decide +kernel) c_33
              refine lv_aload_n hx hb dX12_put_7 rfl (lv_at hl 1 rfl) ?_
              refine dg_get (C := RX12) (T := TX12) (N := 77) hx hb hts (fun w h => bw_mem (wU_X12 w h)) hown K hP sM_0 rfl 0 (dk_dq rfl) (hts _ (bw_mem wB_290)) (fun _ h9 => h9) (v := .ref (o + 1)) (show S_31.1 0 0 = .ref (o + 1) from dg_I.rel (d := 1) I_31 sM_0 (by decide +kernel)) dX12_put_8 ?_
              refine lv_aload_n hx hb dX12_put_11 rfl (lv_at hl 1 rfl) ?_
              refine dg_get (C := RX12) (T := TX12) (N := 77) hx hb hts (fun w h => bw_mem (wU_X12 w h)) hown K hP sM_0 rfl 1 (dk_dq rfl) (hts _ (bw_mem wB_1072)) (fun _ h9 => h9) (v := .int x_30) ff_31_1_0 dX12_put_12 ?_
              refine lv_iload_n hx hb dX12_put_15 rfl (lv_at hl 2 rfl) ?_
              refine lv_iload_n hx hb dX12_put_16 rfl (lv_at hl 0 rfl) ?_
              refine lv_ishr hx hb dX12_put_17 ?_
              refine lv_topi (fun x_34 ex_34 => ?_)
              refine lv_sipush (v := 255) hx hb dX12_put_18 (by decide +kernel) ?_
              refine lv_iand hx hb dX12_put_21 ?_
              refine lv_topi (fun x_35 ex_35 => ?_)
              have jx_35 := dk_and255 x_34
              rw [← ex_35] at jx_35
              have hin_36 : vp_in x_30 1800 := (dk_inv2 (by omega))
              refine dg_iast hx hb K hP hS hA1 sM_1 hin_36 dX12_put_22 (fun S_37 e_37 H locs hP hS => ?_)
              have I_37 := dg_I.ufu (lo := 0) (hi := 255) I_31 e_37 sM_1 (by decide +kernel) (show 0 ≤ (x_35).toInt ∧ (x_35).toInt ≤ 255 from (by omega))
              have M_37 := dg_sm.uf M_31 e_37 sM_1 (dk_dq rfl)
              refine lv_aload_n hx hb dX12_put_23 rfl (lv_at hl 1 rfl) ?_
              refine lv_dup hx hb dX12_put_24 rfl ?_
              refine dg_get (C := RX12) (T := TX12) (N := 77) hx hb hts (fun w h => bw_mem (wU_X12 w h)) hown K hP sM_0 rfl 1 (dk_dq rfl) (hts _ (bw_mem wB_1072)) (fun _ h9 => h9) (v := .int x_30) ((dg_uf_F e_37 0 1).trans ff_31_1_0) dX12_put_25 ?_
              refine lv_iconst (v := 1) hx hb dX12_put_28 (by decide +kernel) ?_
              refine lv_iadd hx hb dX12_put_29 ?_
              refine lv_topi (fun x_38 ex_38 => ?_)
              have jx_38 : (x_38).toInt = (x_30).toInt + 1 := by rw [ex_38]; exact dk_addT2 rfl (by decide +kernel) (by omega)
              refine dg_put (ci := 12) (v := .int x_38) (ty := tyX12 1) (C := RX12) (T := TX12) (N := 77) hx hb hts (fun w h => bw_mem (wU_X12 w h)) tyX12 tyX12_ok nmX12 hown K hP hS hA1 sM_0 rfl 1 (dk_dq rfl) (hts _ (bw_mem wB_1072)) (fun _ h9 => h9) rfl (by decide +kernel) rfl rfl dX12_put_30 (fun S_39 e_39 H locs hP hS => ?_)
              have I_39 := dg_I.uFi (lo := 0) (hi := 1600) I_37 e_39 sM_0 (by decide +kernel) (show 0 ≤ (x_38).toInt ∧ (x_38).toInt ≤ 1600 from (by omega))
              have M_39 := dg_sm.uF M_37 e_39 sM_0 (dk_dq rfl)
              obtain ⟨x_40, ex_40⟩ : ∃ z, z = x_29 + (-8) := ⟨_, rfl⟩
              have jx_40 : (x_40).toInt = (x_29).toInt + (-8) := by rw [ex_40]; exact dk_addT2 rfl (by decide +kernel) (by omega)
              refine lv_iinc (v := x_40) (lv' := [(2, .int x_40), (0, .ref (o + 0)), (1, .int a1)]) hx hb dX12_put_33 hl (k := 0) rfl (by rw [ex_40]; rfl) (dk_dq rfl) rfl (fun ls hl => ?_)
              refine lv_goto (tgt := 3) hx hb dX12_put_36 (dk_dq rfl) ?_
              exact ih x_40 x_38 (by omega) (by omega) (by first | exact mu_lt hmu (by omega) (by omega) | omega) S_39 I_39 M_39 (dg_uF_at e_39) (by omega) (m_hid.mk (tp_st (sh := x_29) (srel_31_1.out) (((dg_uF_f e_39 1)).trans (dg_uf_at e_37)) (by rw [ex_35, ex_34]; rfl) (by omega) (by omega) (by omega) (by omega))) (lp_l hF_1 (F_m_put_p1 c_33 ex_34 ex_35 e_37 ex_38 e_39 ex_40)) _ _ hP hS _ (lv_sub hl [0, 1, 2] rfl)
  have hz_41 : (24 : Int32).toInt = 24 := by decide +kernel
  have hz_42 : (24 : Int32).toInt = 24 := by decide +kernel
  exact L_32 ((((24 : Int32)).toInt - (-9)).toNat + 1) 24 t0 (by decide +kernel) (by omega) (by first | exact mu_lt hmu (by omega) (by omega) | omega) S I M_0 f_t0 (by omega) (m_hid.mk (tp_z rfl)) (F_m_put_p2 (zI_eq f_t0)) _ _ hP hS _ (lv_sub hl [0, 1, 2] rfl)
noncomputable def F_m_refuses (o : Nat) (S : dg_S) (a1 : Int32) : dg_S × Int32 := let x_2 : Int32 := S.2.1 28 (a1 : Int32).toNatClampNeg; let x_3 : Int32 := x_2 + (1 : Int32); let S_5 : dg_S := dg_uf S 28 (upd (S.2.1 28) (a1 : Int32).toNatClampNeg x_3); (S_5, (-1 : Int32))
theorem F_m_refuses_p0 {o : Nat} {S : dg_S} {a1 : Int32} {S_5 : dg_S} {x_2 : Int32} {x_3 : Int32} (h0 : x_2 = S.2.1 28 (a1 : Int32).toNatClampNeg) (h1 : x_3 = x_2 + (1 : Int32)) (h2 : S_5 = dg_uf S 28 (upd (S.2.1 28) (a1 : Int32).toNatClampNeg x_3)) : F_m_refuses o S a1 = (S_5, (-1 : Int32)) := by
  replace h0 := Eq.symm h0
  subst h0
  replace h1 := Eq.symm h1
  subst h1
  replace h2 := Eq.symm h2
  subst h2
  exact rfl
set_option maxHeartbeats 8000000 in
set_option maxRecDepth 100000 in
theorem c_m_refuses (l : Launch) (g : Nat → ClassId) (D : va_G) (o : Nat) (S : dg_S) (a1 : Int32) (b_a1 : 0 ≤ (a1).toInt ∧ (a1).toInt ≤ 5) (I : CM o S) (sz : Nat) : Met l yX12_refuses (bw yX12_refuses cX12_refuses 2 (some .int)) ({ frames := 1, cells := 0, slots := 0, locals := 32 } : Room) (dk_Pc g D (dg_w g shM o rfM S) sz [.ref (o + 0), .int a1]) (va_Qi (fun (r : Int32) S' => CM o S' ∧ dg_sm shM [] [28] S S' ∧ ((-1) ≤ (r).toInt ∧ (r).toInt ≤ (-1)) ∧ (S' = (F_m_refuses o S a1).1 ∧ r = (F_m_refuses o S a1).2) ∧ True) (dg_B g D shM o rfM) (dg_A o shM.length sz)) 0 0 (dg_A o shM.length sz) := by
  refine dg_met (cc := cX12_refuses) (maxL := 2) (ret := (some .int)) (dk_dq rfl) rfl (Nat.le_of_ble_eq_true rfl) ?_
  intro p e s m args below meth c A hAe harg hx hb hr hml hts hown hlocks hin hP K hS hA1 hA ST hsz ls hl
  rw [← hAe]
  have F : CallFix p m c cX12_refuses 2 s args (bw yX12_refuses cX12_refuses 2 (some .int)) RX12 := ⟨hx, hb, hml, hown, hts⟩
  have hl : lv_has ls 2 [(0, .ref (o + 0)), (1, .int a1)] := hl
  have M_0 : dg_sm shM [] [28] S S := dg_sm.rf
  refine lv_aload_n hx hb dX12_refuses_0 rfl (lv_at hl 0 rfl) ?_
  refine dg_get (C := RX12) (T := TX12) (N := 77) hx hb hts (fun w h => bw_mem (wU_X12 w h)) hown K hP sM_0 rfl 48 (dk_dq rfl) (hts _ (bw_mem wB_1073)) (fun _ h9 => h9) (v := .ref (o + 28)) (show S.1 0 48 = .ref (o + 28) from dg_I.rel (d := 28) I sM_0 (by decide +kernel)) dX12_refuses_1 ?_
  refine lv_iload_n hx hb dX12_refuses_4 rfl (lv_at hl 1 rfl) ?_
  refine lv_dup2_11 hx hb dX12_refuses_5 rfl rfl ?_
  have hin_1 : vp_in a1 6 := (dk_inv2 (by omega))
  refine dg_iald hx hb K hP sM_28 hin_1 dX12_refuses_6 (fun x_2 ex_2 => ?_)
  refine lv_iconst (v := 1) hx hb dX12_refuses_7 (by decide +kernel) ?_
  refine lv_iadd hx hb dX12_refuses_8 ?_
  refine lv_topi (fun x_3 ex_3 => ?_)
  have hin_4 : vp_in a1 6 := (dk_inv2 (by omega))
  refine dg_iast hx hb K hP hS hA1 sM_28 hin_4 dX12_refuses_9 (fun S_5 e_5 H locs hP hS => ?_)
  have I_5 := dg_I.uf0 I e_5 sM_28 (by decide +kernel)
  have M_5 := dg_sm.uf M_0 e_5 sM_28 (dk_dq rfl)
  refine lv_iconst (v := (-1)) hx hb dX12_refuses_10 (by decide +kernel) ?_
  have hz_6 : (-1 : Int32).toInt = (-1) := by decide +kernel
  refine W.widen (k := 0) (n := 0) (Nat.le_of_ble_eq_true rfl) (Nat.le_of_ble_eq_true rfl) ?_
  exact dg_iret hx hb hr hlocks rfl hP hS ⟨I_5, M_5, (by decide +kernel), ⟨congrArg Prod.fst (Eq.symm (F_m_refuses_p0 (Eq.symm ex_2.symm) ex_3 e_5)), congrArg Prod.snd (Eq.symm (F_m_refuses_p0 (Eq.symm ex_2.symm) ex_3 e_5))⟩, trivial⟩ dX12_refuses_11
noncomputable def F_m_feed_J1 (o : Nat) (S_9 : dg_S) (a5 : Int32) : dg_S × Int32 := let S_11 : dg_S := F_m_put o S_9 a5; let y_12 : Int32 := zI S_11 0 1; (S_11, y_12)
noncomputable def F_m_feed (o : Nat) (S : dg_S) (a1 : Int32) (a2 : Int32) (a3 : Int32) (a4 : Int32) (a5 : Int32) : dg_S × Int32 := let t0 : Int32 := zI S 0 1; let x_1 : Int32 := t0 + (20 : Int32); (if x_1 ≤ (1600 : Int32) then let S_3 : dg_S := F_m_put o S a1; let y_4 : Int32 := zI S_3 0 1; let S_5 : dg_S := F_m_put o S_3 a2; let y_6 : Int32 := zI S_5 0 1; let S_7 : dg_S := F_m_put o S_5 a3; let y_8 : Int32 := zI S_7 0 1; let S_9 : dg_S := F_m_put o S_7 a4; let y_10 : Int32 := zI S_9 0 1; (F_m_feed_J1 o S_9 a5) else let S_15 : dg_S := (F_m_refuses o S (0 : Int32)).1; let x_14 : Int32 := (F_m_refuses o S (0 : Int32)).2; (S_15, x_14))
theorem F_m_feed_p0 {o : Nat} {S_9 : dg_S} {a5 : Int32} {S_11 : dg_S} {y_12 : Int32} (h0 : S_11 = F_m_put o S_9 a5) (h1 : y_12 = zI S_11 0 1) : F_m_feed_J1 o S_9 a5 = (S_11, y_12) := by
  replace h0 := Eq.symm h0
  subst h0
  replace h1 := Eq.symm h1
  subst h1
  exact rfl
theorem F_m_feed_p1 {o : Nat} {S : dg_S} {a1 : Int32} {a2 : Int32} {a3 : Int32} {a4 : Int32} {a5 : Int32} {S_9 : dg_S} {t0 : Int32} {x_1 : Int32} {S_3 : dg_S} {S_5 : dg_S} {S_7 : dg_S} (h0 : t0 = zI S 0 1) (h1 : x_1 = t0 + (20 : Int32)) (h2 : x_1 ≤ (1600 : Int32)) (h3 : S_3 = F_m_put o S a1) (h4 : S_5 = F_m_put o S_3 a2) (h5 : S_7 = F_m_put o S_5 a3) (h6 : S_9 = F_m_put o S_7 a4) : F_m_feed o S a1 a2 a3 a4 a5 = F_m_feed_J1 o S_9 a5 := by
  replace h0 := Eq.symm h0
  subst h0
  replace h1 := Eq.symm h1
  subst h1
  replace h3 := Eq.symm h3
  subst h3
  replace h4 := Eq.symm h4
  subst h4
  replace h5 := Eq.symm h5
  subst h5
  replace h6 := Eq.symm h6
  subst h6
  exact (Eq.trans (if_pos h2) rfl)
theorem F_m_feed_p2 {o : Nat} {S : dg_S} {a1 : Int32} {a2 : Int32} {a3 : Int32} {a4 : Int32} {a5 : Int32} {S_15 : dg_S} {x_14 : Int32} {t0 : Int32} {x_1 : Int32} (h0 : t0 = zI S 0 1) (h1 : x_1 = t0 + (20 : Int32)) (h2 : ¬ (x_1 ≤ (1600 : Int32))) (h3 : S_15 = (F_m_refuses o S (0 : Int32)).1) (h4 : x_14 = (F_m_refuses o S (0 : Int32)).2) : F_m_feed o S a1 a2 a3 a4 a5 = (S_15, x_14) := by
  replace h0 := Eq.symm h0
  subst h0
  replace h1 := Eq.symm h1
  subst h1
  replace h3 := Eq.symm h3
  subst h3
  replace h4 := Eq.symm h4
  subst h4
  exact (Eq.trans (if_neg h2) rfl)
set_option maxHeartbeats 8000000 in
set_option maxRecDepth 100000 in
theorem c_m_feed (l : Launch) (g : Nat → ClassId) (D : va_G) (o : Nat) (S : dg_S) (a1 : Int32) (a2 : Int32) (a3 : Int32) (a4 : Int32) (a5 : Int32) (t0 : Int32) (f_t0 : S.1 0 1 = .int t0) (b_t0 : 0 ≤ (t0).toInt ∧ (t0).toInt ≤ 1600) (I : CM o S) (sz : Nat) : Met l yX12_feed (bw yX12_feed cX12_feed 6 (some .int)) ({ frames := 2, cells := 0, slots := 0, locals := 54 } : Room) (dk_Pc g D (dg_w g shM o rfM S) sz [.ref (o + 0), .int a1, .int a2, .int a3, .int a4, .int a5]) (va_Qi (fun (r : Int32) S' => CM o S' ∧ dg_sm shM [(0, 1)] [1, 28] S S' ∧ ((-1) ≤ (r).toInt ∧ (r).toInt ≤ 1600) ∧ (((t0).toInt ≤ 1580 → (r).toInt = (t0).toInt + 20) ∧ (1580 < (t0).toInt → (r).toInt = -1)) ∧ (∃ y9 : Int32, S'.1 0 1 = .int y9 ∧ (((t0).toInt ≤ 1580 → (y9).toInt = (t0).toInt + 20) ∧ (1580 < (t0).toInt → (y9).toInt = (t0).toInt))) ∧ (m_hid (((t0).toInt ≤ 1580 → S'.2.1 1 = tp_5 (S.2.1 1) (t0 : Int32).toNatClampNeg a1 a2 a3 a4 a5) ∧ (1580 < (t0).toInt → S'.2.1 1 = S.2.1 1))) ∧ (S' = (F_m_feed o S a1 a2 a3 a4 a5).1 ∧ r = (F_m_feed o S a1 a2 a3 a4 a5).2) ∧ True) (dg_B g D shM o rfM) (dg_A o shM.length sz)) 0 0 (dg_A o shM.length sz) := by
  refine dg_met (cc := cX12_feed) (maxL := 6) (ret := (some .int)) (dk_dq rfl) rfl (Nat.le_of_ble_eq_true rfl) ?_
  intro p e s m args below meth c A hAe harg hx hb hr hml hts hown hlocks hin hP K hS hA1 hA ST hsz ls hl
  rw [← hAe]
  have F : CallFix p m c cX12_feed 6 s args (bw yX12_feed cX12_feed 6 (some .int)) RX12 := ⟨hx, hb, hml, hown, hts⟩
  have hl : lv_has ls 6 [(0, .ref (o + 0)), (1, .int a1), (2, .int a2), (3, .int a3), (4, .int a4), (5, .int a5)] := hl
  have M_0 : dg_sm shM [(0, 1)] [1, 28] S S := dg_sm.rf
  refine lv_aload_n hx hb dX12_feed_0 rfl (lv_at hl 0 rfl) ?_
  refine dg_get (C := RX12) (T := TX12) (N := 77) hx hb hts (fun w h => bw_mem (wU_X12 w h)) hown K hP sM_0 rfl 1 (dk_dq rfl) (hts _ (bw_mem wB_1072)) (fun _ h9 => h9) (v := .int t0) f_t0 dX12_feed_1 ?_
  refine lv_bipush (v := 20) hx hb dX12_feed_4 (by decide +kernel) ?_
  refine lv_iadd hx hb dX12_feed_6 ?_
  refine lv_topi (fun x_1 ex_1 => ?_)
  have jx_1 : (x_1).toInt = (t0).toInt + 20 := by rw [ex_1]; exact dk_addT2 rfl (by decide +kernel) (by omega)
  refine lv_sipush (v := 1600) hx hb dX12_feed_7 (by decide +kernel) ?_
  refine lv_icmp_le (tgt := 19) hx hb dX12_feed_10 (dk_dq rfl) (fun c_2 => ?_) (fun c_2 => ?_)
  · as_aux_lemma =>
      have jc_2 := dk_lec (k := 1600) (by decide +kernel) c_2
      refine lv_aload_n hx hb dX12_feed_19 rfl (lv_at hl 0 rfl) ?_
      refine lv_iload_n hx hb dX12_feed_20 rfl (lv_at hl 1 rfl) ?_
      refine dg_callv hS hA1 hA (va_runV (As := [.int a1]) (rest := []) F (c_m_put l g D o S a1 t0 f_t0 (by omega) I s.heap.size) (cwV 1 hts (bw_V wB_1075 wB_1076 wB_1077 wB_297 wB_1074) rfl rfl rfl (by decide +kernel) ⟨Nat.le_of_ble_eq_true rfl, Nat.le_of_ble_eq_true rfl⟩) (dg_preV sM_0 rfl K ST hP hS hA1 hA) rfl rfl hl.1 rfl (lv_room (Nat.le_of_ble_eq_true rfl)) dX12_feed_21 ⟨Nat.le_of_ble_eq_true rfl, Nat.le_of_ble_eq_true rfl⟩) (fun S_3 hw_3 H locs hP hS => ?_)
      obtain ⟨I_3, m_3, w_3_0, w_3_1, w_3_2, -⟩ := hw_3
      have M_3 := dg_sm.tr M_0 m_3 (dk_dq rfl) (dk_dq rfl)
      obtain ⟨y_4, f_y_4, w_3_0⟩ := w_3_0
      have w_3_0 : (y_4).toInt = (t0).toInt + 4 := w_3_0
      have b_y_4 : 0 ≤ (y_4).toInt ∧ (y_4).toInt ≤ 1600 := dg_I.intb (lo := 0) (hi := 1600) I_3 sM_0 (by decide +kernel) f_y_4
      replace w_3_1 : S_3.2.1 1 = tp_k (S.2.1 1) (t0 : Int32).toNatClampNeg a1 4 := w_3_1
      refine lv_aload_n hx hb dX12_feed_24 rfl (lv_at hl 0 rfl) ?_
      refine lv_iload_n hx hb dX12_feed_25 rfl (lv_at hl 2 rfl) ?_
      refine dg_callv hS hA1 hA (va_runV (As := [.int a2]) (rest := []) F (c_m_put l g D o S_3 a2 y_4 f_y_4 (by omega) I_3 H.size) (cwV 1 hts (bw_V wB_1075 wB_1076 wB_1077 wB_297 wB_1074) rfl rfl rfl (by decide +kernel) ⟨Nat.le_of_ble_eq_true rfl, Nat.le_of_ble_eq_true rfl⟩) (dg_preV sM_0 rfl K ST hP hS hA1 hA) rfl rfl hl.1 rfl (lv_room (Nat.le_of_ble_eq_true rfl)) dX12_feed_26 ⟨Nat.le_of_ble_eq_true rfl, Nat.le_of_ble_eq_true rfl⟩) (fun S_5 hw_5 H locs hP hS => ?_)
      obtain ⟨I_5, m_5, w_5_0, w_5_1, w_5_2, -⟩ := hw_5
      have M_5 := dg_sm.tr M_3 m_5 (dk_dq rfl) (dk_dq rfl)
      obtain ⟨y_6, f_y_6, w_5_0⟩ := w_5_0
      have w_5_0 : (y_6).toInt = (y_4).toInt + 4 := w_5_0
      have b_y_6 : 0 ≤ (y_6).toInt ∧ (y_6).toInt ≤ 1600 := dg_I.intb (lo := 0) (hi := 1600) I_5 sM_0 (by decide +kernel) f_y_6
      replace w_5_1 : S_5.2.1 1 = tp_k (S_3.2.1 1) (y_4 : Int32).toNatClampNeg a2 4 := w_5_1
      refine lv_aload_n hx hb dX12_feed_29 rfl (lv_at hl 0 rfl) ?_
      refine lv_iload_n hx hb dX12_feed_30 rfl (lv_at hl 3 rfl) ?_
      refine dg_callv hS hA1 hA (va_runV (As := [.int a3]) (rest := []) F (c_m_put l g D o S_5 a3 y_6 f_y_6 (by omega) I_5 H.size) (cwV 1 hts (bw_V wB_1075 wB_1076 wB_1077 wB_297 wB_1074) rfl rfl rfl (by decide +kernel) ⟨Nat.le_of_ble_eq_true rfl, Nat.le_of_ble_eq_true rfl⟩) (dg_preV sM_0 rfl K ST hP hS hA1 hA) rfl rfl hl.1 rfl (lv_room (Nat.le_of_ble_eq_true rfl)) dX12_feed_31 ⟨Nat.le_of_ble_eq_true rfl, Nat.le_of_ble_eq_true rfl⟩) (fun S_7 hw_7 H locs hP hS => ?_)
      obtain ⟨I_7, m_7, w_7_0, w_7_1, w_7_2, -⟩ := hw_7
      have M_7 := dg_sm.tr M_5 m_7 (dk_dq rfl) (dk_dq rfl)
      obtain ⟨y_8, f_y_8, w_7_0⟩ := w_7_0
      have w_7_0 : (y_8).toInt = (y_6).toInt + 4 := w_7_0
      have b_y_8 : 0 ≤ (y_8).toInt ∧ (y_8).toInt ≤ 1600 := dg_I.intb (lo := 0) (hi := 1600) I_7 sM_0 (by decide +kernel) f_y_8
      replace w_7_1 : S_7.2.1 1 = tp_k (S_5.2.1 1) (y_6 : Int32).toNatClampNeg a3 4 := w_7_1
      refine lv_aload_n hx hb dX12_feed_34 rfl (lv_at hl 0 rfl) ?_
      refine lv_iload hx hb dX12_feed_35 (lv_at hl 4 rfl) ?_
      refine dg_callv hS hA1 hA (va_runV (As := [.int a4]) (rest := []) F (c_m_put l g D o S_7 a4 y_8 f_y_8 (by omega) I_7 H.size) (cwV 1 hts (bw_V wB_1075 wB_1076 wB_1077 wB_297 wB_1074) rfl rfl rfl (by decide +kernel) ⟨Nat.le_of_ble_eq_true rfl, Nat.le_of_ble_eq_true rfl⟩) (dg_preV sM_0 rfl K ST hP hS hA1 hA) rfl rfl hl.1 rfl (lv_room (Nat.le_of_ble_eq_true rfl)) dX12_feed_37 ⟨Nat.le_of_ble_eq_true rfl, Nat.le_of_ble_eq_true rfl⟩) (fun S_9 hw_9 H locs hP hS => ?_)
      obtain ⟨I_9, m_9, w_9_0, w_9_1, w_9_2, -⟩ := hw_9
      have M_9 := dg_sm.tr M_7 m_9 (dk_dq rfl) (dk_dq rfl)
      obtain ⟨y_10, f_y_10, w_9_0⟩ := w_9_0
      have w_9_0 : (y_10).toInt = (y_8).toInt + 4 := w_9_0
      have b_y_10 : 0 ≤ (y_10).toInt ∧ (y_10).toInt ≤ 1600 := dg_I.intb (lo := 0) (hi := 1600) I_9 sM_0 (by decide +kernel) f_y_10
      replace w_9_1 : S_9.2.1 1 = tp_k (S_7.2.1 1) (y_8 : Int32).toNatClampNeg a4 4 := w_9_1
      have hF_1 : F_m_feed o S a1 a2 a3 a4 a5 = F_m_feed_J1 o S_9 a5 := (F_m_feed_p1 (zI_eq f_t0) ex_1 c_2 w_3_2 w_5_2 w_7_2 w_9_2)
      refine lv_aload_n hx hb dX12_feed_40 rfl (lv_at hl 0 rfl) ?_
      refine lv_iload hx hb dX12_feed_41 (lv_at hl 5 rfl) ?_
      refine dg_callv hS hA1 hA (va_runV (As := [.int a5]) (rest := []) F (c_m_put l g D o S_9 a5 y_10 f_y_10 (by omega) I_9 H.size) (cwV 1 hts (bw_V wB_1075 wB_1076 wB_1077 wB_297 wB_1074) rfl rfl rfl (by decide +kernel) ⟨Nat.le_of_ble_eq_true rfl, Nat.le_of_ble_eq_true rfl⟩) (dg_preV sM_0 rfl K ST hP hS hA1 hA) rfl rfl hl.1 rfl (lv_room (Nat.le_of_ble_eq_true rfl)) dX12_feed_43 ⟨Nat.le_of_ble_eq_true rfl, Nat.le_of_ble_eq_true rfl⟩) (fun S_11 hw_11 H locs hP hS => ?_)
      obtain ⟨I_11, m_11, w_11_0, w_11_1, w_11_2, -⟩ := hw_11
      have M_11 := dg_sm.tr M_9 m_11 (dk_dq rfl) (dk_dq rfl)
      obtain ⟨y_12, f_y_12, w_11_0⟩ := w_11_0
      have w_11_0 : (y_12).toInt = (y_10).toInt + 4 := w_11_0
      have b_y_12 : 0 ≤ (y_12).toInt ∧ (y_12).toInt ≤ 1600 := dg_I.intb (lo := 0) (hi := 1600) I_11 sM_0 (by decide +kernel) f_y_12
      replace w_11_1 : S_11.2.1 1 = tp_k (S_9.2.1 1) (y_10 : Int32).toNatClampNeg a5 4 := w_11_1
      refine lv_aload_n hx hb dX12_feed_46 rfl (lv_at hl 0 rfl) ?_
      refine dg_get (C := RX12) (T := TX12) (N := 77) hx hb hts (fun w h => bw_mem (wU_X12 w h)) hown K hP sM_0 rfl 1 (dk_dq rfl) (hts _ (bw_mem wB_1072)) (fun _ h9 => h9) (v := .int y_12) f_y_12 dX12_feed_47 ?_
      refine W.widen (k := 0) (n := 0) (Nat.le_of_ble_eq_true rfl) (Nat.le_of_ble_eq_true rfl) ?_
      exact dg_iret hx hb hr hlocks rfl hP hS ⟨I_11, M_11, (by omega), (by omega), ⟨y_12, f_y_12, (by omega)⟩, (m_hid.mk ⟨fun q9 => by rw [w_11_1, w_9_1, w_7_1, w_5_1, w_3_1, show (y_4 : Int32).toNatClampNeg = (t0 : Int32).toNatClampNeg + 4 from by have h8 := dk_clN y_4; have h9 := dk_clN t0; omega, show (y_6 : Int32).toNatClampNeg = (t0 : Int32).toNatClampNeg + 8 from by have h8 := dk_clN y_6; have h9 := dk_clN t0; omega, show (y_8 : Int32).toNatClampNeg = (t0 : Int32).toNatClampNeg + 12 from by have h8 := dk_clN y_8; have h9 := dk_clN t0; omega, show (y_10 : Int32).toNatClampNeg = (t0 : Int32).toNatClampNeg + 16 from by have h8 := dk_clN y_10; have h9 := dk_clN t0; omega]; rfl, fun q9 => by exfalso; omega⟩), ⟨congrArg Prod.fst (Eq.symm (Eq.trans hF_1 (F_m_feed_p0 w_11_2 (zI_eq f_y_12)))), congrArg Prod.snd (Eq.symm (Eq.trans hF_1 (F_m_feed_p0 w_11_2 (zI_eq f_y_12))))⟩, trivial⟩ dX12_feed_50
  · have jc_2 := dk_nlec (k := 1600) (by decide +kernel) c_2
    refine lv_aload_n hx hb dX12_feed_13 rfl (lv_at hl 0 rfl) ?_
    refine lv_iconst (v := 0) hx hb dX12_feed_14 (by decide +kernel) ?_
    have hz_13 : (0 : Int32).toInt = 0 := by decide +kernel
    refine dg_calli hS hA1 hA (va_runV (As := [.int 0]) (rest := []) F (c_m_refuses l g D o S 0 (by decide +kernel) I s.heap.size) (cwV 1 hts (bw_V wB_1079 wB_1080 wB_1081 wB_297 wB_1078) rfl rfl rfl (by decide +kernel) ⟨Nat.le_of_ble_eq_true rfl, Nat.le_of_ble_eq_true rfl⟩) (dg_preV sM_0 rfl K ST hP hS hA1 hA) rfl rfl hl.1 rfl (lv_room (Nat.le_of_ble_eq_true rfl)) dX12_feed_15 ⟨Nat.le_of_ble_eq_true rfl, Nat.le_of_ble_eq_true rfl⟩) (fun x_14 S_15 hw_15 H locs hP hS => ?_)
    obtain ⟨I_15, m_15, w_15_0, w_15_1, -⟩ := hw_15
    have M_15 := dg_sm.tr M_0 m_15 (dk_dq rfl) (dk_dq rfl)
    have w_15_0 : (-1) ≤ (x_14).toInt ∧ (x_14).toInt ≤ (-1) := w_15_0
    refine W.widen (k := 0) (n := 0) (Nat.le_of_ble_eq_true rfl) (Nat.le_of_ble_eq_true rfl) ?_
    exact dg_iret hx hb hr hlocks rfl hP hS ⟨I_15, M_15, (by omega), (by omega), ⟨t0, ((m_15.1 0 1 _ sM_0 (dk_dq rfl)).trans f_t0), (by omega)⟩, (m_hid.mk ⟨fun q9 => by exfalso; omega, fun _ => (m_15.2 1 _ sM_1 (dk_dq rfl)).1⟩), ⟨congrArg Prod.fst (Eq.symm (F_m_feed_p2 (zI_eq f_t0) ex_1 c_2 w_15_1.1 w_15_1.2)), congrArg Prod.snd (Eq.symm (F_m_feed_p2 (zI_eq f_t0) ex_1 c_2 w_15_1.1 w_15_1.2))⟩, trivial⟩ dX12_feed_18
noncomputable def F_m_end (o : Nat) (S : dg_S) (a1 : Int32) : dg_S × Int32 := let t0 : Int32 := zI S 0 1; (if a1 < (0 : Int32) then let S_4 : dg_S := (F_m_refuses o S (0 : Int32)).1; let x_3 : Int32 := (F_m_refuses o S (0 : Int32)).2; (S_4, (0 : Int32)) else (if a1 ≤ t0 then let S_10 : dg_S := dg_uF S 0 1 (.int a1); (S_10, (1 : Int32)) else let S_17 : dg_S := (F_m_refuses o S (0 : Int32)).1; let x_16 : Int32 := (F_m_refuses o S (0 : Int32)).2; (S_17, (0 : Int32))))
theorem F_m_end_p0 {o : Nat} {S : dg_S} {a1 : Int32} {S_4 : dg_S} (h0 : a1 < (0 : Int32)) (h1 : S_4 = (F_m_refuses o S (0 : Int32)).1) : F_m_end o S a1 = (S_4, (0 : Int32)) := by
  replace h1 := Eq.symm h1
  subst h1
  exact (Eq.trans (if_pos h0) rfl)
theorem F_m_end_p1 {o : Nat} {S : dg_S} {a1 : Int32} {S_10 : dg_S} {t0 : Int32} (h0 : t0 = zI S 0 1) (h1 : ¬ (a1 < (0 : Int32))) (h2 : a1 ≤ t0) (h3 : S_10 = dg_uF S 0 1 (.int a1)) : F_m_end o S a1 = (S_10, (1 : Int32)) := by
  replace h0 := Eq.symm h0
  subst h0
  replace h3 := Eq.symm h3
  subst h3
  exact (Eq.trans (if_neg h1) (Eq.trans (if_pos h2) rfl))
theorem F_m_end_p2 {o : Nat} {S : dg_S} {a1 : Int32} {S_17 : dg_S} {t0 : Int32} (h0 : t0 = zI S 0 1) (h1 : ¬ (a1 < (0 : Int32))) (h2 : ¬ (a1 ≤ t0)) (h3 : S_17 = (F_m_refuses o S (0 : Int32)).1) : F_m_end o S a1 = (S_17, (0 : Int32)) := by
  replace h0 := Eq.symm h0
  subst h0
  replace h3 := Eq.symm h3
  subst h3
  exact (Eq.trans (if_neg h1) (Eq.trans (if_neg h2) rfl))
set_option maxHeartbeats 8000000 in
set_option maxRecDepth 100000 in
theorem c_m_end (l : Launch) (g : Nat → ClassId) (D : va_G) (o : Nat) (S : dg_S) (a1 : Int32) (t0 : Int32) (f_t0 : S.1 0 1 = .int t0) (b_t0 : 0 ≤ (t0).toInt ∧ (t0).toInt ≤ 1600) (I : CM o S) (sz : Nat) : Met l yX12_end (bw yX12_end cX12_end 2 (some .boolean)) ({ frames := 2, cells := 0, slots := 0, locals := 53 } : Room) (dk_Pc g D (dg_w g shM o rfM S) sz [.ref (o + 0), .int a1]) (va_Qi (fun (r : Int32) S' => CM o S' ∧ dg_sm shM [(0, 1)] [28] S S' ∧ (0 ≤ (r).toInt ∧ (r).toInt ≤ 1) ∧ ((r).toInt = 1 ↔ (0 ≤ (a1).toInt ∧ (a1).toInt ≤ (t0).toInt)) ∧ (∃ y9 : Int32, S'.1 0 1 = .int y9 ∧ (((r).toInt = 1 → (y9).toInt = (a1).toInt) ∧ ((r).toInt ≠ 1 → (y9).toInt = (t0).toInt))) ∧ (S' = (F_m_end o S a1).1 ∧ r = (F_m_end o S a1).2) ∧ True) (dg_B g D shM o rfM) (dg_A o shM.length sz)) 0 0 (dg_A o shM.length sz) := by
  refine dg_met (cc := cX12_end) (maxL := 2) (ret := (some .boolean)) (dk_dq rfl) rfl (Nat.le_of_ble_eq_true rfl) ?_
  intro p e s m args below meth c A hAe harg hx hb hr hml hts hown hlocks hin hP K hS hA1 hA ST hsz ls hl
  rw [← hAe]
  have F : CallFix p m c cX12_end 2 s args (bw yX12_end cX12_end 2 (some .boolean)) RX12 := ⟨hx, hb, hml, hown, hts⟩
  have hl : lv_has ls 2 [(0, .ref (o + 0)), (1, .int a1)] := hl
  have M_0 : dg_sm shM [(0, 1)] [28] S S := dg_sm.rf
  refine lv_iload_n hx hb dX12_end_0 rfl (lv_at hl 1 rfl) ?_
  refine lv_if_lt (tgt := 12) hx hb dX12_end_1 (dk_dq rfl) (fun c_1 => ?_) (fun c_1 => ?_)
  · have jc_1 := dk_ltc (k := 0) (by decide +kernel) c_1
    refine lv_aload_n hx hb dX12_end_12 rfl (lv_at hl 0 rfl) ?_
    refine lv_iconst (v := 0) hx hb dX12_end_13 (by decide +kernel) ?_
    have hz_2 : (0 : Int32).toInt = 0 := by decide +kernel
    refine dg_calli hS hA1 hA (va_runV (As := [.int 0]) (rest := []) F (c_m_refuses l g D o S 0 (by decide +kernel) I s.heap.size) (cwV 1 hts (bw_V wB_1079 wB_1080 wB_1081 wB_297 wB_1078) rfl rfl rfl (by decide +kernel) ⟨Nat.le_of_ble_eq_true rfl, Nat.le_of_ble_eq_true rfl⟩) (dg_preV sM_0 rfl K ST hP hS hA1 hA) rfl rfl hl.1 rfl (lv_room (Nat.le_of_ble_eq_true rfl)) dX12_end_14 ⟨Nat.le_of_ble_eq_true rfl, Nat.le_of_ble_eq_true rfl⟩) (fun x_3 S_4 hw_4 H locs hP hS => ?_)
    obtain ⟨I_4, m_4, w_4_0, w_4_1, -⟩ := hw_4
    have M_4 := dg_sm.tr M_0 m_4 (dk_dq rfl) (dk_dq rfl)
    have w_4_0 : (-1) ≤ (x_3).toInt ∧ (x_3).toInt ≤ (-1) := w_4_0
    refine lv_if_lt (tgt := 24) hx hb dX12_end_17 (dk_dq rfl) (fun _ => ?_) (fun c => absurd (dk_ltp (k := 0) (by decide +kernel) (by omega)) c)
    refine lv_iconst (v := 0) hx hb dX12_end_24 (by decide +kernel) ?_
    have hz_5 : (0 : Int32).toInt = 0 := by decide +kernel
    have hz_6 : (0 : Int32).toInt = 0 := by decide +kernel
    have hz_7 : (0 : Int32).toInt = 0 := by decide +kernel
    refine W.widen (k := 0) (n := 0) (Nat.le_of_ble_eq_true rfl) (Nat.le_of_ble_eq_true rfl) ?_
    exact dg_iret hx hb hr hlocks (by decide +kernel) hP hS ⟨I_4, M_4, (by decide +kernel), (by omega), ⟨t0, ((m_4.1 0 1 _ sM_0 (dk_dq rfl)).trans f_t0), (by omega)⟩, ⟨congrArg Prod.fst (Eq.symm (F_m_end_p0 c_1 w_4_1.1)), congrArg Prod.snd (Eq.symm (F_m_end_p0 c_1 w_4_1.1))⟩, trivial⟩ dX12_end_25
  · as_aux_lemma =>
      have jc_1 := dk_nltc (k := 0) (by decide +kernel) c_1
      refine lv_iload_n hx hb dX12_end_4 rfl (lv_at hl 1 rfl) ?_
      refine lv_aload_n hx hb dX12_end_5 rfl (lv_at hl 0 rfl) ?_
      refine dg_get (C := RX12) (T := TX12) (N := 77) hx hb hts (fun w h => bw_mem (wU_X12 w h)) hown K hP sM_0 rfl 1 (dk_dq rfl) (hts _ (bw_mem wB_1072)) (fun _ h9 => h9) (v := .int t0) f_t0 dX12_end_6 ?_
      refine lv_icmp_le (tgt := 26) hx hb dX12_end_9 (dk_dq rfl) (fun c_8 => ?_) (fun c_8 => ?_)
      · have hf_8 := dk_full a1
        have jc_8 := dk_lec (k := (t0).toInt) rfl c_8
        refine lv_aload_n hx hb dX12_end_26 rfl (lv_at hl 0 rfl) ?_
        refine lv_iload_n hx hb dX12_end_27 rfl (lv_at hl 1 rfl) ?_
        refine dg_put (ci := 12) (v := .int a1) (ty := tyX12 1) (C := RX12) (T := TX12) (N := 77) hx hb hts (fun w h => bw_mem (wU_X12 w h)) tyX12 tyX12_ok nmX12 hown K hP hS hA1 sM_0 rfl 1 (dk_dq rfl) (hts _ (bw_mem wB_1072)) (fun _ h9 => h9) rfl (by decide +kernel) rfl rfl dX12_end_28 (fun S_10 e_10 H locs hP hS => ?_)
        have I_10 := dg_I.uFi (lo := 0) (hi := 1600) I e_10 sM_0 (by decide +kernel) (show 0 ≤ (a1).toInt ∧ (a1).toInt ≤ 1600 from (by omega))
        have M_10 := dg_sm.uF M_0 e_10 sM_0 (dk_dq rfl)
        refine lv_iconst (v := 1) hx hb dX12_end_31 (by decide +kernel) ?_
        have hz_11 : (1 : Int32).toInt = 1 := by decide +kernel
        have hz_12 : (1 : Int32).toInt = 1 := by decide +kernel
        have hz_13 : (1 : Int32).toInt = 1 := by decide +kernel
        refine W.widen (k := 0) (n := 0) (Nat.le_of_ble_eq_true rfl) (Nat.le_of_ble_eq_true rfl) ?_
        exact dg_iret hx hb hr hlocks (by decide +kernel) hP hS ⟨I_10, M_10, (by decide +kernel), (by omega), ⟨a1, (dg_uF_at e_10), (by omega)⟩, ⟨congrArg Prod.fst (Eq.symm (F_m_end_p1 (zI_eq f_t0) c_1 c_8 e_10)), congrArg Prod.snd (Eq.symm (F_m_end_p1 (zI_eq f_t0) c_1 c_8 e_10))⟩, trivial⟩ dX12_end_32
      · as_aux_lemma =>
          have hf_13 := dk_full a1
          have jc_8 := dk_nlec (k := (t0).toInt) rfl c_8
          refine lv_aload_n hx hb dX12_end_12 rfl (lv_at hl 0 rfl) ?_
          refine lv_iconst (v := 0) hx hb dX12_end_13 (by decide +kernel) ?_
          have hz_15 : (0 : Int32).toInt = 0 := by decide +kernel
          refine dg_calli hS hA1 hA (va_runV (As := [.int 0]) (rest := []) F (c_m_refuses l g D o S 0 (by decide +kernel) I s.heap.size) (cwV 1 hts (bw_V wB_1079 wB_1080 wB_1081 wB_297 wB_1078) rfl rfl rfl (by decide +kernel) ⟨Nat.le_of_ble_eq_true rfl, Nat.le_of_ble_eq_true rfl⟩) (dg_preV sM_0 rfl K ST hP hS hA1 hA) rfl rfl hl.1 rfl (lv_room (Nat.le_of_ble_eq_true rfl)) dX12_end_14 ⟨Nat.le_of_ble_eq_true rfl, Nat.le_of_ble_eq_true rfl⟩) (fun x_16 S_17 hw_17 H locs hP hS => ?_)
          obtain ⟨I_17, m_17, w_17_0, w_17_1, -⟩ := hw_17
          have M_17 := dg_sm.tr M_0 m_17 (dk_dq rfl) (dk_dq rfl)
          have w_17_0 : (-1) ≤ (x_16).toInt ∧ (x_16).toInt ≤ (-1) := w_17_0
          refine lv_if_lt (tgt := 24) hx hb dX12_end_17 (dk_dq rfl) (fun _ => ?_) (fun c => absurd (dk_ltp (k := 0) (by decide +kernel) (by omega)) c)
          refine lv_iconst (v := 0) hx hb dX12_end_24 (by decide +kernel) ?_
          have hz_18 : (0 : Int32).toInt = 0 := by decide +kernel
          have hz_19 : (0 : Int32).toInt = 0 := by decide +kernel
          have hz_20 : (0 : Int32).toInt = 0 := by decide +kernel
          refine W.widen (k := 0) (n := 0) (Nat.le_of_ble_eq_true rfl) (Nat.le_of_ble_eq_true rfl) ?_
          exact dg_iret hx hb hr hlocks (by decide +kernel) hP hS ⟨I_17, M_17, (by decide +kernel), (by omega), ⟨t0, ((m_17.1 0 1 _ sM_0 (dk_dq rfl)).trans f_t0), (by omega)⟩, ⟨congrArg Prod.fst (Eq.symm (F_m_end_p2 (zI_eq f_t0) c_1 c_8 w_17_1.1)), congrArg Prod.snd (Eq.symm (F_m_end_p2 (zI_eq f_t0) c_1 c_8 w_17_1.1))⟩, trivial⟩ dX12_end_25
noncomputable def F_m_fault (o : Nat) (S : dg_S) (a1 : Int32) : Int32 := (if a1 = (0 : Int32) then let x_4 : Int32 := zI S 0 10; x_4 else (if a1 = (1 : Int32) then let x_3 : Int32 := zI S 0 11; x_3 else (-1 : Int32)))
theorem F_m_fault_p0 {o : Nat} {S : dg_S} {a1 : Int32} (h0 : ¬ (a1 = (0 : Int32))) (h1 : ¬ (a1 = (1 : Int32))) : F_m_fault o S a1 = (-1 : Int32) := (Eq.trans (if_neg h0) (Eq.trans (if_neg h1) rfl))
theorem F_m_fault_p1 {o : Nat} {S : dg_S} {a1 : Int32} {x_3 : Int32} (h0 : ¬ (a1 = (0 : Int32))) (h1 : a1 = (1 : Int32)) (h2 : x_3 = zI S 0 11) : F_m_fault o S a1 = x_3 := by
  replace h2 := Eq.symm h2
  subst h2
  exact (Eq.trans (if_neg h0) (Eq.trans (if_pos h1) rfl))
theorem F_m_fault_p2 {o : Nat} {S : dg_S} {a1 : Int32} {x_4 : Int32} (h0 : a1 = (0 : Int32)) (h1 : x_4 = zI S 0 10) : F_m_fault o S a1 = x_4 := by
  replace h1 := Eq.symm h1
  subst h1
  exact (Eq.trans (if_pos h0) rfl)
set_option maxHeartbeats 8000000 in
set_option maxRecDepth 100000 in
theorem c_m_fault (l : Launch) (g : Nat → ClassId) (D : va_G) (o : Nat) (S : dg_S) (a1 : Int32) (I : CM o S) (sz : Nat) : Met l yX12_fault (bw yX12_fault cX12_fault 2 (some .int)) ({ frames := 1, cells := 0, slots := 0, locals := 32 } : Room) (dk_Pc g D (dg_w g shM o rfM S) sz [.ref (o + 0), .int a1]) (va_Qi (fun (r : Int32) S' => S' = S ∧ (r = F_m_fault o S a1) ∧ True) (dg_B g D shM o rfM) (dg_A o shM.length sz)) 0 0 (dg_A o shM.length sz) := by
  refine dg_met (cc := cX12_fault) (maxL := 2) (ret := (some .int)) (dk_dq rfl) rfl (Nat.le_of_ble_eq_true rfl) ?_
  intro p e s m args below meth c A hAe harg hx hb hr hml hts hown hlocks hin hP K hS hA1 hA ST hsz ls hl
  rw [← hAe]
  have F : CallFix p m c cX12_fault 2 s args (bw yX12_fault cX12_fault 2 (some .int)) RX12 := ⟨hx, hb, hml, hown, hts⟩
  have hl : lv_has ls 2 [(0, .ref (o + 0)), (1, .int a1)] := hl
  have M_0 : dg_sm shM [] [] S S := dg_sm.rf
  refine lv_iload_n hx hb dX12_fault_0 rfl (lv_at hl 1 rfl) ?_
  refine lv_if_ne (tgt := 11) hx hb dX12_fault_1 (dk_dq rfl) (fun c_1 => ?_) (fun c_1 => ?_)
  · have jc_1 := dk_neqc (k := 0) (by decide +kernel) c_1
    refine lv_iload_n hx hb dX12_fault_11 rfl (lv_at hl 1 rfl) ?_
    refine lv_iconst (v := 1) hx hb dX12_fault_12 (by decide +kernel) ?_
    refine lv_icmp_ne (tgt := 23) hx hb dX12_fault_13 (dk_dq rfl) (fun c_2 => ?_) (fun c_2 => ?_)
    · have jc_2 := dk_neqc (k := 1) (by decide +kernel) c_2
      refine lv_iconst (v := (-1)) hx hb dX12_fault_23 (by decide +kernel) ?_
      refine W.widen (k := 0) (n := 0) (Nat.le_of_ble_eq_true rfl) (Nat.le_of_ble_eq_true rfl) ?_
      exact dg_iret hx hb hr hlocks rfl hP hS ⟨rfl, (Eq.symm (F_m_fault_p0 c_1 c_2)), trivial⟩ dX12_fault_24
    · have jc_2 := dk_eqc (k := 1) (by decide +kernel) c_2
      refine lv_aload_n hx hb dX12_fault_16 rfl (lv_at hl 0 rfl) ?_
      obtain ⟨x_3, f_x_3, b_x_3⟩ := dg_I.int (i := 0) (k := 11) (lo := (-2147483648)) (hi := 2147483647) I sM_0 (by decide +kernel)
      refine dg_get (C := RX12) (T := TX12) (N := 77) hx hb hts (fun w h => bw_mem (wU_X12 w h)) hown K hP sM_0 rfl 11 (dk_dq rfl) (hts _ (bw_mem wB_1082)) (fun _ h9 => h9) (v := .int x_3) f_x_3 dX12_fault_17 ?_
      refine lv_goto (tgt := 24) hx hb dX12_fault_20 (dk_dq rfl) ?_
      refine W.widen (k := 0) (n := 0) (Nat.le_of_ble_eq_true rfl) (Nat.le_of_ble_eq_true rfl) ?_
      exact dg_iret hx hb hr hlocks rfl hP hS ⟨rfl, (Eq.symm (F_m_fault_p1 c_1 c_2 (zI_eq f_x_3))), trivial⟩ dX12_fault_24
  · have jc_1 := dk_eqc (k := 0) (by decide +kernel) c_1
    refine lv_aload_n hx hb dX12_fault_4 rfl (lv_at hl 0 rfl) ?_
    obtain ⟨x_4, f_x_4, b_x_4⟩ := dg_I.int (i := 0) (k := 10) (lo := (-2147483648)) (hi := 2147483647) I sM_0 (by decide +kernel)
    refine dg_get (C := RX12) (T := TX12) (N := 77) hx hb hts (fun w h => bw_mem (wU_X12 w h)) hown K hP sM_0 rfl 10 (dk_dq rfl) (hts _ (bw_mem wB_1083)) (fun _ h9 => h9) (v := .int x_4) f_x_4 dX12_fault_5 ?_
    refine lv_goto (tgt := 24) hx hb dX12_fault_8 (dk_dq rfl) ?_
    refine W.widen (k := 0) (n := 0) (Nat.le_of_ble_eq_true rfl) (Nat.le_of_ble_eq_true rfl) ?_
    exact dg_iret hx hb hr hlocks rfl hP hS ⟨rfl, (Eq.symm (F_m_fault_p2 c_1 (zI_eq f_x_4))), trivial⟩ dX12_fault_24
noncomputable def F_m_status (o : Nat) (S : dg_S) (a1 : Int32) : Int32 := let x_1 : Int32 := F_m_is o S a1 (0 : Int32) (5 : Int32); (if x_1 = (0 : Int32) then (-1 : Int32) else let x_7 : Int32 := S.2.1 28 (a1 : Int32).toNatClampNeg; x_7)
theorem F_m_status_p0 {o : Nat} {S : dg_S} {a1 : Int32} {x_1 : Int32} (h0 : x_1 = F_m_is o S a1 (0 : Int32) (5 : Int32)) (h1 : x_1 = (0 : Int32)) : F_m_status o S a1 = (-1 : Int32) := by
  replace h0 := Eq.symm h0
  subst h0
  exact (Eq.trans (if_pos h1) rfl)
theorem F_m_status_p1 {o : Nat} {S : dg_S} {a1 : Int32} {x_7 : Int32} {x_1 : Int32} (h0 : x_1 = F_m_is o S a1 (0 : Int32) (5 : Int32)) (h1 : ¬ (x_1 = (0 : Int32))) (h2 : x_7 = S.2.1 28 (a1 : Int32).toNatClampNeg) : F_m_status o S a1 = x_7 := by
  replace h0 := Eq.symm h0
  subst h0
  replace h2 := Eq.symm h2
  subst h2
  exact (Eq.trans (if_neg h1) rfl)
set_option maxHeartbeats 8000000 in
set_option maxRecDepth 100000 in
theorem c_m_status (l : Launch) (g : Nat → ClassId) (D : va_G) (o : Nat) (S : dg_S) (a1 : Int32) (I : CM o S) (sz : Nat) : Met l yX12_status (bw yX12_status cX12_status 2 (some .int)) ({ frames := 2, cells := 0, slots := 0, locals := 54 } : Room) (dk_Pc g D (dg_w g shM o rfM S) sz [.ref (o + 0), .int a1]) (va_Qi (fun (r : Int32) S' => S' = S ∧ (r = F_m_status o S a1) ∧ True) (dg_B g D shM o rfM) (dg_A o shM.length sz)) 0 0 (dg_A o shM.length sz) := by
  refine dg_met (cc := cX12_status) (maxL := 2) (ret := (some .int)) (dk_dq rfl) rfl (Nat.le_of_ble_eq_true rfl) ?_
  intro p e s m args below meth c A hAe harg hx hb hr hml hts hown hlocks hin hP K hS hA1 hA ST hsz ls hl
  rw [← hAe]
  have F : CallFix p m c cX12_status 2 s args (bw yX12_status cX12_status 2 (some .int)) RX12 := ⟨hx, hb, hml, hown, hts⟩
  have hl : lv_has ls 2 [(0, .ref (o + 0)), (1, .int a1)] := hl
  have M_0 : dg_sm shM [] [] S S := dg_sm.rf
  refine lv_iload_n hx hb dX12_status_0 rfl (lv_at hl 1 rfl) ?_
  refine lv_iconst (v := 0) hx hb dX12_status_1 (by decide +kernel) ?_
  refine lv_iconst (v := 5) hx hb dX12_status_2 (by decide +kernel) ?_
  refine dg_calli hS hA1 hA (va_runS (As := [.int a1, .int 0, .int 5]) (rest := []) F (c_m_isR l g D o S a1 0 5 I s.heap.size) (va_cwS 3 hts (bw_S wB_362 wB_363 wB_297 wB_361) rfl rfl rfl (by decide +kernel) ⟨Nat.le_of_ble_eq_true rfl, Nat.le_of_ble_eq_true rfl⟩) (dg_preS K ST hP hS hA1 hA) rfl rfl hl.1 rfl (lv_room (Nat.le_of_ble_eq_true rfl)) dX12_status_3 ⟨Nat.le_of_ble_eq_true rfl, Nat.le_of_ble_eq_true rfl⟩) (fun x_1 S_2 hw_2 H locs hP hS => ?_)
  rw [hw_2.1] at hP
  obtain ⟨hq_2, w_2_0, w_2_1, w_2_2, -⟩ := hw_2
  have hz_3 : (0 : Int32).toInt = 0 := by decide +kernel
  have hz_4 : (5 : Int32).toInt = 5 := by decide +kernel
  have w_2_0 : 0 ≤ (x_1).toInt ∧ (x_1).toInt ≤ 1 := w_2_0
  have w_2_1 : (x_1).toInt = 1 ↔ (((0 : Int32)).toInt ≤ (a1).toInt ∧ (a1).toInt ≤ ((5 : Int32)).toInt) := w_2_1
  refine lv_if_eq (tgt := 18) hx hb dX12_status_6 (dk_dq rfl) (fun c_5 => ?_) (fun c_5 => ?_)
  · have jc_5 := dk_eqc (k := 0) (by decide +kernel) c_5
    refine lv_iconst (v := (-1)) hx hb dX12_status_18 (by decide +kernel) ?_
    refine W.widen (k := 0) (n := 0) (Nat.le_of_ble_eq_true rfl) (Nat.le_of_ble_eq_true rfl) ?_
    exact dg_iret hx hb hr hlocks rfl hP hS ⟨rfl, (Eq.symm (F_m_status_p0 w_2_2 c_5)), trivial⟩ dX12_status_19
  · have jc_5 := dk_neqc (k := 0) (by decide +kernel) c_5
    refine lv_aload_n hx hb dX12_status_9 rfl (lv_at hl 0 rfl) ?_
    refine dg_get (C := RX12) (T := TX12) (N := 77) hx hb hts (fun w h => bw_mem (wU_X12 w h)) hown K hP sM_0 rfl 48 (dk_dq rfl) (hts _ (bw_mem wB_1073)) (fun _ h9 => h9) (v := .ref (o + 28)) (show S.1 0 48 = .ref (o + 28) from dg_I.rel (d := 28) I sM_0 (by decide +kernel)) dX12_status_10 ?_
    refine lv_iload_n hx hb dX12_status_13 rfl (lv_at hl 1 rfl) ?_
    have hin_6 : vp_in a1 6 := (dk_inv2 (by omega))
    refine dg_iald hx hb K hP sM_28 hin_6 dX12_status_14 (fun x_7 ex_7 => ?_)
    refine lv_goto (tgt := 19) hx hb dX12_status_15 (dk_dq rfl) ?_
    refine W.widen (k := 0) (n := 0) (Nat.le_of_ble_eq_true rfl) (Nat.le_of_ble_eq_true rfl) ?_
    exact dg_iret hx hb hr hlocks rfl hP hS ⟨rfl, (Eq.symm (F_m_status_p1 w_2_2 c_5 (Eq.symm ex_7.symm))), trivial⟩ dX12_status_19
