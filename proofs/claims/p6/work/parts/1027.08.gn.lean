/-! 08.gn.lean.txt -/
theorem dX2_hasRule_0 : decode cX2_hasRule 0 = .ok (.aload_n 0, 1) := by decide +kernel
theorem dX2_hasRule_1 : decode cX2_hasRule 1 = .ok (.getfield 46, 3) := by decide +kernel
theorem dX2_hasRule_4 : decode cX2_hasRule 4 = .ok (.iload_n 1, 1) := by decide +kernel
theorem dX2_hasRule_5 : decode cX2_hasRule 5 = .ok (.iaload, 1) := by decide +kernel
theorem dX2_hasRule_6 : decode cX2_hasRule 6 = .ok (.aload_n 0, 1) := by decide +kernel
theorem dX2_hasRule_7 : decode cX2_hasRule 7 = .ok (.getfield 43, 3) := by decide +kernel
theorem dX2_hasRule_10 : decode cX2_hasRule 10 = .ok (.iload_n 1, 1) := by decide +kernel
theorem dX2_hasRule_11 : decode cX2_hasRule 11 = .ok (.iaload, 1) := by decide +kernel
theorem dX2_hasRule_12 : decode cX2_hasRule 12 = .ok (.if_icmp .le 7, 3) := by decide +kernel
theorem dX2_hasRule_15 : decode cX2_hasRule 15 = .ok (.iconst 1, 1) := by decide +kernel
theorem dX2_hasRule_16 : decode cX2_hasRule 16 = .ok (.goto 4, 3) := by decide +kernel
theorem dX2_hasRule_19 : decode cX2_hasRule 19 = .ok (.iconst 0, 1) := by decide +kernel
theorem dX2_hasRule_20 : decode cX2_hasRule 20 = .ok (.ireturn, 1) := by decide +kernel
theorem dX2_hasName_0 : decode cX2_hasName 0 = .ok (.iconst 0, 1) := by decide +kernel
theorem dX2_hasName_1 : decode cX2_hasName 1 = .ok (.istore_n 2, 1) := by decide +kernel
theorem dX2_hasName_2 : decode cX2_hasName 2 = .ok (.iload_n 2, 1) := by decide +kernel
theorem dX2_hasName_3 : decode cX2_hasName 3 = .ok (.aload_n 0, 1) := by decide +kernel
theorem dX2_hasName_4 : decode cX2_hasName 4 = .ok (.getfield 73, 3) := by decide +kernel
theorem dX2_hasName_7 : decode cX2_hasName 7 = .ok (.if_icmp .ge 21, 3) := by decide +kernel
theorem dX2_hasName_10 : decode cX2_hasName 10 = .ok (.aload_n 0, 1) := by decide +kernel
theorem dX2_hasName_11 : decode cX2_hasName 11 = .ok (.getfield 28, 3) := by decide +kernel
theorem dX2_hasName_14 : decode cX2_hasName 14 = .ok (.iload_n 2, 1) := by decide +kernel
theorem dX2_hasName_15 : decode cX2_hasName 15 = .ok (.iaload, 1) := by decide +kernel
theorem dX2_hasName_16 : decode cX2_hasName 16 = .ok (.iload_n 1, 1) := by decide +kernel
theorem dX2_hasName_17 : decode cX2_hasName 17 = .ok (.if_icmp .ne 5, 3) := by decide +kernel
theorem dX2_hasName_20 : decode cX2_hasName 20 = .ok (.iconst 1, 1) := by decide +kernel
theorem dX2_hasName_21 : decode cX2_hasName 21 = .ok (.ireturn, 1) := by decide +kernel
theorem dX2_hasName_22 : decode cX2_hasName 22 = .ok (.iinc 2 1, 3) := by decide +kernel
theorem dX2_hasName_25 : decode cX2_hasName 25 = .ok (.goto (-23), 3) := by decide +kernel
theorem dX2_hasName_28 : decode cX2_hasName 28 = .ok (.aload_n 0, 1) := by decide +kernel
theorem dX2_hasName_29 : decode cX2_hasName 29 = .ok (.iload_n 1, 1) := by decide +kernel
theorem dX2_hasName_30 : decode cX2_hasName 30 = .ok (.invokevirtual 76, 3) := by decide +kernel
theorem dX2_hasName_33 : decode cX2_hasName 33 = .ok (.iconst (-1), 1) := by decide +kernel
theorem dX2_hasName_34 : decode cX2_hasName 34 = .ok (.if_icmp .eq 7, 3) := by decide +kernel
theorem dX2_hasName_37 : decode cX2_hasName 37 = .ok (.iconst 1, 1) := by decide +kernel
theorem dX2_hasName_38 : decode cX2_hasName 38 = .ok (.goto 4, 3) := by decide +kernel
theorem dX2_hasName_41 : decode cX2_hasName 41 = .ok (.iconst 0, 1) := by decide +kernel
theorem dX2_hasName_42 : decode cX2_hasName 42 = .ok (.ireturn, 1) := by decide +kernel
theorem dX2_minerNamed_0 : decode cX2_minerNamed 0 = .ok (.iconst 0, 1) := by decide +kernel
theorem dX2_minerNamed_1 : decode cX2_minerNamed 1 = .ok (.istore_n 2, 1) := by decide +kernel
theorem dX2_minerNamed_2 : decode cX2_minerNamed 2 = .ok (.iload_n 2, 1) := by decide +kernel
theorem dX2_minerNamed_3 : decode cX2_minerNamed 3 = .ok (.aload_n 0, 1) := by decide +kernel
theorem dX2_minerNamed_4 : decode cX2_minerNamed 4 = .ok (.getfield 67, 3) := by decide +kernel
theorem dX2_minerNamed_7 : decode cX2_minerNamed 7 = .ok (.if_icmp .ge 21, 3) := by decide +kernel
theorem dX2_minerNamed_10 : decode cX2_minerNamed 10 = .ok (.aload_n 0, 1) := by decide +kernel
theorem dX2_minerNamed_11 : decode cX2_minerNamed 11 = .ok (.getfield 19, 3) := by decide +kernel
theorem dX2_minerNamed_14 : decode cX2_minerNamed 14 = .ok (.iload_n 2, 1) := by decide +kernel
theorem dX2_minerNamed_15 : decode cX2_minerNamed 15 = .ok (.iaload, 1) := by decide +kernel
theorem dX2_minerNamed_16 : decode cX2_minerNamed 16 = .ok (.iload_n 1, 1) := by decide +kernel
theorem dX2_minerNamed_17 : decode cX2_minerNamed 17 = .ok (.if_icmp .ne 5, 3) := by decide +kernel
theorem dX2_minerNamed_20 : decode cX2_minerNamed 20 = .ok (.iload_n 2, 1) := by decide +kernel
theorem dX2_minerNamed_21 : decode cX2_minerNamed 21 = .ok (.ireturn, 1) := by decide +kernel
theorem dX2_minerNamed_22 : decode cX2_minerNamed 22 = .ok (.iinc 2 1, 3) := by decide +kernel
theorem dX2_minerNamed_25 : decode cX2_minerNamed 25 = .ok (.goto (-23), 3) := by decide +kernel
theorem dX2_minerNamed_28 : decode cX2_minerNamed 28 = .ok (.iconst (-1), 1) := by decide +kernel
theorem dX2_minerNamed_29 : decode cX2_minerNamed 29 = .ok (.ireturn, 1) := by decide +kernel
theorem dX2_placeOf_0 : decode cX2_placeOf 0 = .ok (.iload_n 1, 1) := by decide +kernel
theorem dX2_placeOf_1 : decode cX2_placeOf 1 = .ok (.ifCond .lt 23, 3) := by decide +kernel
theorem dX2_placeOf_4 : decode cX2_placeOf 4 = .ok (.iload_n 1, 1) := by decide +kernel
theorem dX2_placeOf_5 : decode cX2_placeOf 5 = .ok (.aload_n 0, 1) := by decide +kernel
theorem dX2_placeOf_6 : decode cX2_placeOf 6 = .ok (.getfield 49, 3) := by decide +kernel
theorem dX2_placeOf_9 : decode cX2_placeOf 9 = .ok (.if_icmp .ge 15, 3) := by decide +kernel
theorem dX2_placeOf_12 : decode cX2_placeOf 12 = .ok (.iload_n 2, 1) := by decide +kernel
theorem dX2_placeOf_13 : decode cX2_placeOf 13 = .ok (.ifCond .lt 11, 3) := by decide +kernel
theorem dX2_placeOf_16 : decode cX2_placeOf 16 = .ok (.iload_n 2, 1) := by decide +kernel
theorem dX2_placeOf_17 : decode cX2_placeOf 17 = .ok (.aload_n 0, 1) := by decide +kernel
theorem dX2_placeOf_18 : decode cX2_placeOf 18 = .ok (.getfield 52, 3) := by decide +kernel
theorem dX2_placeOf_21 : decode cX2_placeOf 21 = .ok (.if_icmp .lt 5, 3) := by decide +kernel
theorem dX2_placeOf_24 : decode cX2_placeOf 24 = .ok (.iconst (-1), 1) := by decide +kernel
theorem dX2_placeOf_25 : decode cX2_placeOf 25 = .ok (.ireturn, 1) := by decide +kernel
theorem dX2_placeOf_26 : decode cX2_placeOf 26 = .ok (.bipush 8, 2) := by decide +kernel
theorem dX2_placeOf_28 : decode cX2_placeOf 28 = .ok (.iload_n 2, 1) := by decide +kernel
theorem dX2_placeOf_29 : decode cX2_placeOf 29 = .ok (.imul, 1) := by decide +kernel
theorem dX2_placeOf_30 : decode cX2_placeOf 30 = .ok (.iload_n 1, 1) := by decide +kernel
theorem dX2_placeOf_31 : decode cX2_placeOf 31 = .ok (.iadd, 1) := by decide +kernel
theorem dX2_placeOf_32 : decode cX2_placeOf 32 = .ok (.bipush 8, 2) := by decide +kernel
theorem dX2_placeOf_34 : decode cX2_placeOf 34 = .ok (.iadd, 1) := by decide +kernel
theorem dX2_placeOf_35 : decode cX2_placeOf 35 = .ok (.ireturn, 1) := by decide +kernel
theorem wB_0 : Cond.fieldLink RX2 49 "DarkMine$Ground" "columns" "I" ∈ dgB := List.mem_filter.mpr ⟨tbl_1 _ (List.mem_of_getElem? (i := 175) (by decide +kernel)), by decide +kernel⟩
theorem wB_1 : Cond.fieldLink RX2 52 "DarkMine$Ground" "rows" "I" ∈ dgB := List.mem_filter.mpr ⟨tbl_1 _ (List.mem_of_getElem? (i := 181) (by decide +kernel)), by decide +kernel⟩
theorem wB_2 : Cond.fieldLink RX2 67 "DarkMine$Ground" "miners" "I" ∈ dgB := List.mem_filter.mpr ⟨tbl_1 _ (List.mem_of_getElem? (i := 205) (by decide +kernel)), by decide +kernel⟩
theorem wB_3 : Cond.fieldLink RX2 19 "DarkMine$Ground" "minerNames" "[I" ∈ dgB := List.mem_filter.mpr ⟨tbl_1 _ (List.mem_of_getElem? (i := 209) (by decide +kernel)), by decide +kernel⟩
theorem wB_4 : Cond.fieldLink RX2 73 "DarkMine$Ground" "orders" "I" ∈ dgB := List.mem_filter.mpr ⟨tbl_1 _ (List.mem_of_getElem? (i := 224) (by decide +kernel)), by decide +kernel⟩
theorem wB_5 : Cond.code yX2_minerNamed cX2_minerNamed 3 (some .int) ∈ dgB := List.mem_filter.mpr ⟨tbl_4 _ (List.mem_of_getElem? (i := 21) rfl), rfl⟩
theorem wB_6 : Cond.methodLink RX2 76 yX2_minerNamed ∈ dgB := List.mem_filter.mpr ⟨tbl_4 _ (List.mem_of_getElem? (i := 18) (by decide +kernel)), by decide +kernel⟩
theorem wB_7 : Cond.instanceMethod yX2_minerNamed ∈ dgB := List.mem_filter.mpr ⟨tbl_4 _ (List.mem_of_getElem? (i := 19) (by decide +kernel)), by decide +kernel⟩
theorem wB_8 : Cond.selects RX2 yX2_minerNamed yX2_minerNamed ∈ dgB := List.mem_filter.mpr ⟨tbl_4 _ (List.mem_of_getElem? (i := 20) (by decide +kernel)), by decide +kernel⟩
theorem wB_9 : Cond.initialized RX2 ∈ dgB := List.mem_filter.mpr ⟨tbl_1 _ (List.mem_of_getElem? (i := 6) (by decide +kernel)), by decide +kernel⟩
theorem wB_10 : Cond.fieldLink RX2 28 "DarkMine$Ground" "orderNames" "[I" ∈ dgB := List.mem_filter.mpr ⟨tbl_1 _ (List.mem_of_getElem? (i := 228) (by decide +kernel)), by decide +kernel⟩
theorem wB_11 : Cond.fieldLink RX2 46 "DarkMine$Ground" "ruleEnd" "[I" ∈ dgB := List.mem_filter.mpr ⟨tbl_2 _ (List.mem_of_getElem? (i := 6) (by decide +kernel)), by decide +kernel⟩
theorem wB_12 : Cond.fieldLink RX2 43 "DarkMine$Ground" "ruleFrom" "[I" ∈ dgB := List.mem_filter.mpr ⟨tbl_2 _ (List.mem_of_getElem? (i := 3) (by decide +kernel)), by decide +kernel⟩
set_option maxHeartbeats 8000000 in
set_option maxRecDepth 100000 in
theorem c_g_placeOfF (l : Launch) (g : Nat → ClassId) (D : va_G) (o : Nat) (S : dg_S) (gr : Nat) (hk_gr : rX gr) (a1 : Int32) (a2 : Int32) (cx : Int32) (f_cx : S.1 gr 0 = .int cx) (b_cx : 0 ≤ (cx).toInt ∧ (cx).toInt ≤ 7) (ry : Int32) (f_ry : S.1 gr 1 = .int ry) (b_ry : 0 ≤ (ry).toInt ∧ (ry).toInt ≤ 7) (I : CX o S) (sz : Nat) : Met l yX2_placeOf (bw yX2_placeOf cX2_placeOf 3 (some .int)) ({ frames := 1, cells := 0, slots := 0, locals := 32 } : Room) (dk_Pc g D (dg_w g shX o rfX S) sz [.ref (o + gr), .int a1, .int a2]) (va_Qi (fun (r : Int32) S' => S' = S ∧ (((-1) ≤ (r).toInt ∧ (r).toInt ≤ 62) ∧ ((r).toInt ≤ (-1) ∨ 8 ≤ (r).toInt)) ∧ ((r).toInt ≠ -1 ↔ (0 ≤ (a1).toInt ∧ (a1).toInt < (cx).toInt ∧ 0 ≤ (a2).toInt ∧ (a2).toInt < (ry).toInt)) ∧ ((r).toInt ≠ -1 → (r).toInt = 8 * (a2).toInt + (a1).toInt + 8) ∧ True) (dg_B g D shX o rfX) (dg_A o shX.length sz)) 0 0 (dg_A o shX.length sz) := by
  refine dg_met (cc := cX2_placeOf) (maxL := 3) (ret := (some .int)) (by decide) rfl (Nat.le_of_ble_eq_true rfl) ?_
  intro p e s m args below meth c A hAe harg hx hb hr hml hts hown hlocks hin hP K hS hA1 hA ST hsz ls hl
  rw [← hAe]
  have F : CallFix p m c cX2_placeOf 3 s args (bw yX2_placeOf cX2_placeOf 3 (some .int)) RX2 := ⟨hx, hb, hml, hown, hts⟩
  have hl : lv_has ls 3 [(0, .ref (o + gr)), (1, .int a1), (2, .int a2)] := hl
  have M_0 : dg_sm shX [] [] S S := dg_sm.rf
  refine lv_iload_n hx hb dX2_placeOf_0 rfl (lv_at hl 1 rfl) ?_
  refine lv_if_lt (tgt := 24) hx hb dX2_placeOf_1 (by decide) (fun c_1 => ?_) (fun c_1 => ?_)
  · have jc_1 := dk_ltc (k := 0) (by decide +kernel) c_1
    refine lv_iconst (v := (-1)) hx hb dX2_placeOf_24 (by decide +kernel) ?_
    have hz_2 : (-1 : Int32).toInt = (-1) := by decide +kernel
    have hz_3 : (-1 : Int32).toInt = (-1) := by decide +kernel
    have hz_4 : (-1 : Int32).toInt = (-1) := by decide +kernel
    refine W.widen (k := 0) (n := 0) (Nat.le_of_ble_eq_true rfl) (Nat.le_of_ble_eq_true rfl) ?_
    exact dg_iret hx hb hr hlocks rfl hP hS ⟨rfl, (by decide +kernel), (by omega), (by omega), trivial⟩ dX2_placeOf_25
  · as_aux_lemma =>
      have jc_1 := dk_nltc (k := 0) (by decide +kernel) c_1
      refine lv_iload_n hx hb dX2_placeOf_4 rfl (lv_at hl 1 rfl) ?_
      refine lv_aload_n hx hb dX2_placeOf_5 rfl (lv_at hl 0 rfl) ?_
      refine dg_get (C := RX2) (T := TX2) (N := 19) hx hb hts (fun w h => bw_mem (wU_X2 w h)) hown K hP (rX_0 gr hk_gr) rfl 0 (by decide) (hts _ (bw_mem wB_0)) (fun _ h9 => h9) (v := .int cx) f_cx dX2_placeOf_6 ?_
      refine lv_icmp_ge (tgt := 24) hx hb dX2_placeOf_9 (by decide) (fun c_5 => ?_) (fun c_5 => ?_)
      · have hf_5 := dk_full a1
        have jc_5 := dk_gec (k := (cx).toInt) rfl c_5
        refine lv_iconst (v := (-1)) hx hb dX2_placeOf_24 (by decide +kernel) ?_
        have hz_7 : (-1 : Int32).toInt = (-1) := by decide +kernel
        have hz_8 : (-1 : Int32).toInt = (-1) := by decide +kernel
        have hz_9 : (-1 : Int32).toInt = (-1) := by decide +kernel
        refine W.widen (k := 0) (n := 0) (Nat.le_of_ble_eq_true rfl) (Nat.le_of_ble_eq_true rfl) ?_
        exact dg_iret hx hb hr hlocks rfl hP hS ⟨rfl, (by decide +kernel), (by omega), (by omega), trivial⟩ dX2_placeOf_25
      · as_aux_lemma =>
          have hf_9 := dk_full a1
          have jc_5 := dk_ngec (k := (cx).toInt) rfl c_5
          refine lv_iload_n hx hb dX2_placeOf_12 rfl (lv_at hl 2 rfl) ?_
          refine lv_if_lt (tgt := 24) hx hb dX2_placeOf_13 (by decide) (fun c_11 => ?_) (fun c_11 => ?_)
          · have jc_11 := dk_ltc (k := 0) (by decide +kernel) c_11
            refine lv_iconst (v := (-1)) hx hb dX2_placeOf_24 (by decide +kernel) ?_
            have hz_12 : (-1 : Int32).toInt = (-1) := by decide +kernel
            have hz_13 : (-1 : Int32).toInt = (-1) := by decide +kernel
            have hz_14 : (-1 : Int32).toInt = (-1) := by decide +kernel
            refine W.widen (k := 0) (n := 0) (Nat.le_of_ble_eq_true rfl) (Nat.le_of_ble_eq_true rfl) ?_
            exact dg_iret hx hb hr hlocks rfl hP hS ⟨rfl, (by decide +kernel), (by omega), (by omega), trivial⟩ dX2_placeOf_25
          · as_aux_lemma =>
              have jc_11 := dk_nltc (k := 0) (by decide +kernel) c_11
              refine lv_iload_n hx hb dX2_placeOf_16 rfl (lv_at hl 2 rfl) ?_
              refine lv_aload_n hx hb dX2_placeOf_17 rfl (lv_at hl 0 rfl) ?_
              refine dg_get (C := RX2) (T := TX2) (N := 19) hx hb hts (fun w h => bw_mem (wU_X2 w h)) hown K hP (rX_0 gr hk_gr) rfl 1 (by decide) (hts _ (bw_mem wB_1)) (fun _ h9 => h9) (v := .int ry) f_ry dX2_placeOf_18 ?_
              refine lv_icmp_lt (tgt := 26) hx hb dX2_placeOf_21 (by decide) (fun c_15 => ?_) (fun c_15 => ?_)
              · as_aux_lemma =>
                  have hf_15 := dk_full a2
                  have jc_15 := dk_ltc (k := (ry).toInt) rfl c_15
                  refine lv_bipush (v := 8) hx hb dX2_placeOf_26 (by decide +kernel) ?_
                  refine lv_iload_n hx hb dX2_placeOf_28 rfl (lv_at hl 2 rfl) ?_
                  refine lv_imul hx hb dX2_placeOf_29 ?_
                  refine lv_topi (fun x_17 ex_17 => ?_)
                  have jx_17 : (x_17).toInt = 8 * (a2).toInt := by rw [ex_17]; exact dk_mulT (by decide +kernel) rfl (by omega) (by omega)
                  refine lv_iload_n hx hb dX2_placeOf_30 rfl (lv_at hl 1 rfl) ?_
                  refine lv_iadd hx hb dX2_placeOf_31 ?_
                  refine lv_topi (fun x_18 ex_18 => ?_)
                  have jx_18 : (x_18).toInt = (x_17).toInt + (a1).toInt := by rw [ex_18]; exact dk_addT rfl rfl (by omega) (by omega)
                  refine lv_bipush (v := 8) hx hb dX2_placeOf_32 (by decide +kernel) ?_
                  refine lv_iadd hx hb dX2_placeOf_34 ?_
                  refine lv_topi (fun x_19 ex_19 => ?_)
                  have jx_19 : (x_19).toInt = (x_18).toInt + 8 := by rw [ex_19]; exact dk_addT rfl (by decide +kernel) (by omega) (by omega)
                  refine W.widen (k := 0) (n := 0) (Nat.le_of_ble_eq_true rfl) (Nat.le_of_ble_eq_true rfl) ?_
                  exact dg_iret hx hb hr hlocks rfl hP hS ⟨rfl, (by omega), (by omega), (by omega), trivial⟩ dX2_placeOf_35
              · have hf_19 := dk_full a2
                have jc_15 := dk_nltc (k := (ry).toInt) rfl c_15
                refine lv_iconst (v := (-1)) hx hb dX2_placeOf_24 (by decide +kernel) ?_
                have hz_21 : (-1 : Int32).toInt = (-1) := by decide +kernel
                have hz_22 : (-1 : Int32).toInt = (-1) := by decide +kernel
                have hz_23 : (-1 : Int32).toInt = (-1) := by decide +kernel
                refine W.widen (k := 0) (n := 0) (Nat.le_of_ble_eq_true rfl) (Nat.le_of_ble_eq_true rfl) ?_
                exact dg_iret hx hb hr hlocks rfl hP hS ⟨rfl, (by decide +kernel), (by omega), (by omega), trivial⟩ dX2_placeOf_25
set_option maxHeartbeats 8000000 in
set_option maxRecDepth 100000 in
theorem c_g_minerNamed (l : Launch) (g : Nat → ClassId) (D : va_G) (o : Nat) (S : dg_S) (gr : Nat) (hk_gr : rX gr) (a1 : Int32) (fm : Nat → Int32) (mi : Int32) (f_mi : S.1 gr 6 = .int mi) (b_mi : 0 ≤ (mi).toInt ∧ (mi).toInt ≤ 6) (hfm : S.2.1 (gr + 2) = fm) (I : CX o S) (sz : Nat) : Met l yX2_minerNamed (bw yX2_minerNamed cX2_minerNamed 3 (some .int)) ({ frames := 1, cells := 0, slots := 0, locals := 32 } : Room) (dk_Pc g D (dg_w g shX o rfX S) sz [.ref (o + gr), .int a1]) (va_Qi (fun (r : Int32) S' => S' = S ∧ ((-1) ≤ (r).toInt ∧ (r).toInt ≤ 5) ∧ ((r).toInt ≠ -1 → (r).toInt = z_ix (y_nm fm (mi : Int32).toNatClampNeg) (a1).toInt) ∧ ((r).toInt ≠ -1 ↔ (y_nm fm (mi : Int32).toNatClampNeg).contains (a1).toInt = true) ∧ True) (dg_B g D shX o rfX) (dg_A o shX.length sz)) 0 0 (dg_A o shX.length sz) := by
  refine dg_met (cc := cX2_minerNamed) (maxL := 3) (ret := (some .int)) (by decide) rfl (Nat.le_of_ble_eq_true rfl) ?_
  intro p e s m args below meth c A hAe harg hx hb hr hml hts hown hlocks hin hP K hS hA1 hA ST hsz ls hl
  rw [← hAe]
  have F : CallFix p m c cX2_minerNamed 3 s args (bw yX2_minerNamed cX2_minerNamed 3 (some .int)) RX2 := ⟨hx, hb, hml, hown, hts⟩
  have hl : lv_has ls 3 [(0, .ref (o + gr)), (1, .int a1)] := hl
  have M_0 : dg_sm shX [] [] S S := dg_sm.rf
  refine lv_iconst (v := 0) hx hb dX2_minerNamed_0 (by decide +kernel) ?_
  refine lv_istore_n (lv' := [(2, .int 0), (0, .ref (o + gr)), (1, .int a1)]) hx hb dX2_minerNamed_1 rfl hl (by decide) rfl (fun ls hl => ?_)
  have L_70 : ∀ (n : Nat) (x_69 : Int32), (0 ≤ (x_69).toInt ∧ (x_69).toInt ≤ 6) → (∀ j9 : Nat, j9 < (x_69 : Int32).toNatClampNeg → (fm j9).toInt ≠ (a1).toInt) → ((7 - (x_69).toInt).toNat < n) → ∀ (H : Heap) (locs : List Loc), va_P D vwCl (dg_w g shX o rfX S) H → va_S A s.heap H locs → ∀ ls : Array Slot, lv_has ls 3 [(2, .int x_69), (0, .ref (o + gr)), (1, .int a1)] → W p l e ({ frames := 1, cells := 0, slots := 0, locals := 32 } : Room) s m args below meth c H locs 0 0 (MQ below (va_Qi (fun (r : Int32) S' => S' = S ∧ ((-1) ≤ (r).toInt ∧ (r).toInt ≤ 5) ∧ ((r).toInt ≠ -1 → (r).toInt = z_ix (y_nm fm (mi : Int32).toNatClampNeg) (a1).toInt) ∧ ((r).toInt ≠ -1 ↔ (y_nm fm (mi : Int32).toNatClampNeg).contains (a1).toInt = true) ∧ True) (dg_B g D shX o rfX) A) args s 0 0 A) (F0 m 2 ls []) := by
    as_aux_lemma =>
      intro n
      induction n with
      | zero =>
        intro x_69 b_x_69 rel_0 hmu H locs hP hS ls hl
        omega
      | succ n ih =>
        as_aux_lemma =>
          intro x_69 b_x_69 rel_0 hmu H locs hP hS ls hl
          refine lv_iload_n hx hb dX2_minerNamed_2 rfl (lv_at hl 0 rfl) ?_
          refine lv_aload_n hx hb dX2_minerNamed_3 rfl (lv_at hl 1 rfl) ?_
          refine dg_get (C := RX2) (T := TX2) (N := 19) hx hb hts (fun w h => bw_mem (wU_X2 w h)) hown K hP (rX_0 gr hk_gr) rfl 6 (by decide) (hts _ (bw_mem wB_2)) (fun _ h9 => h9) (v := .int mi) f_mi dX2_minerNamed_4 ?_
          refine lv_icmp_ge (tgt := 28) hx hb dX2_minerNamed_7 (by decide) (fun c_71 => ?_) (fun c_71 => ?_)
          · have jc_71 := dk_gec (k := (mi).toInt) rfl c_71
            refine lv_iconst (v := (-1)) hx hb dX2_minerNamed_28 (by decide +kernel) ?_
            have hz_72 : (-1 : Int32).toInt = (-1) := by decide +kernel
            have hz_73 : (-1 : Int32).toInt = (-1) := by decide +kernel
            have hz_74 : (-1 : Int32).toInt = (-1) := by decide +kernel
            refine W.widen (k := 0) (n := 0) (Nat.le_of_ble_eq_true rfl) (Nat.le_of_ble_eq_true rfl) ?_
            exact dg_iret hx hb hr hlocks rfl hP hS ⟨rfl, (by decide +kernel), (fun q9 => absurd (by omega) q9), ⟨fun q9 => absurd (by omega) q9, fun q9 => absurd q9 (by rw [y_hasnt (m := mi) rel_0 (by omega)]; decide)⟩, trivial⟩ dX2_minerNamed_29
          · as_aux_lemma =>
              have jc_71 := dk_ngec (k := (mi).toInt) rfl c_71
              refine lv_aload_n hx hb dX2_minerNamed_10 rfl (lv_at hl 1 rfl) ?_
              refine dg_get (C := RX2) (T := TX2) (N := 19) hx hb hts (fun w h => bw_mem (wU_X2 w h)) hown K hP (rX_0 gr hk_gr) rfl 7 (by decide) (hts _ (bw_mem wB_3)) (fun _ h9 => h9) (v := .ref (o + (gr + 2))) (show S.1 gr 7 = .ref (o + (gr + 2)) from dg_I.rel (d := 2) I (rX_0 gr hk_gr) (by decide +kernel)) dX2_minerNamed_11 ?_
              refine lv_iload_n hx hb dX2_minerNamed_14 rfl (lv_at hl 0 rfl) ?_
              have hin_75 : vp_in x_69 6 := (dk_inv (by omega) (by omega))
              refine dg_iald hx hb K hP (rX_2 gr hk_gr) hin_75 dX2_minerNamed_15 (fun x_76 ex_76 => ?_)
              have kx_76 : (fm (x_69 : Int32).toNatClampNeg).toInt = (x_76).toInt := by rw [ex_76, hfm]
              refine lv_iload_n hx hb dX2_minerNamed_16 rfl (lv_at hl 2 rfl) ?_
              refine lv_icmp_ne (tgt := 22) hx hb dX2_minerNamed_17 (by decide) (fun c_77 => ?_) (fun c_77 => ?_)
              · have hf_77 := dk_full x_76
                have hf_78 := dk_full a1
                have jc_77 := dk_neqc (k := (a1).toInt) rfl c_77
                obtain ⟨x_80, ex_80⟩ : ∃ z, z = x_69 + 1 := ⟨_, rfl⟩
                have jx_80 : (x_80).toInt = (x_69).toInt + 1 := by rw [ex_80]; exact dk_addT rfl (by decide +kernel) (by omega) (by omega)
                refine lv_iinc (v := x_80) (lv' := [(2, .int x_80), (0, .ref (o + gr)), (1, .int a1)]) hx hb dX2_minerNamed_22 hl (k := 0) rfl (by rw [ex_80]; rfl) (by decide) rfl (fun ls hl => ?_)
                refine lv_goto (tgt := 2) hx hb dX2_minerNamed_25 (by decide) ?_
                exact ih x_80 (by omega) (y_stp rel_0 (by omega) jx_80 (by omega)) (by omega) _ _ hP hS _ (lv_sub hl [0, 1, 2] rfl)
              · have hf_80 := dk_full x_76
                have hf_81 := dk_full a1
                have jc_77 := dk_eqc (k := (a1).toInt) rfl c_77
                refine lv_iload_n hx hb dX2_minerNamed_20 rfl (lv_at hl 0 rfl) ?_
                refine W.widen (k := 0) (n := 0) (Nat.le_of_ble_eq_true rfl) (Nat.le_of_ble_eq_true rfl) ?_
                exact dg_iret hx hb hr hlocks rfl hP hS ⟨rfl, (by omega), (fun _ => by have h8 := dk_clN x_69; have h7 := dk_clN mi; have h9 := z_ix_nm (f := fm) (m := (mi : Int32).toNatClampNeg) (i := (x_69 : Int32).toNatClampNeg) (v := (a1).toInt) (by omega) (by omega) rel_0; omega), ⟨fun _ => y_has (k := x_69) (by omega) (by omega) (by omega), fun _ => by omega⟩, trivial⟩ dX2_minerNamed_21
  have hz_83 : (0 : Int32).toInt = 0 := by decide +kernel
  have hz_84 : (0 : Int32).toInt = 0 := by decide +kernel
  have hz_85 : (0 : Int32).toInt = 0 := by decide +kernel
  exact L_70 ((7 - ((0 : Int32)).toInt).toNat + 1) 0 (by decide +kernel) y_lt0 (by omega) _ _ hP hS _ (lv_sub hl [0, 1, 2] rfl)
set_option maxHeartbeats 8000000 in
set_option maxRecDepth 100000 in
theorem c_g_hasName (l : Launch) (g : Nat → ClassId) (D : va_G) (o : Nat) (S : dg_S) (gr : Nat) (hk_gr : rX gr) (a1 : Int32) (fm : Nat → Int32) (fo : Nat → Int32) (mi : Int32) (f_mi : S.1 gr 6 = .int mi) (b_mi : 0 ≤ (mi).toInt ∧ (mi).toInt ≤ 6) (od : Int32) (f_od : S.1 gr 11 = .int od) (b_od : 0 ≤ (od).toInt ∧ (od).toInt ≤ 5) (hfm : S.2.1 (gr + 2) = fm) (hfo : S.2.1 (gr + 5) = fo) (I : CX o S) (sz : Nat) : Met l yX2_hasName (bw yX2_hasName cX2_hasName 3 (some .boolean)) ({ frames := 2, cells := 0, slots := 0, locals := 54 } : Room) (dk_Pc g D (dg_w g shX o rfX S) sz [.ref (o + gr), .int a1]) (va_Qi (fun (r : Int32) S' => S' = S ∧ (0 ≤ (r).toInt ∧ (r).toInt ≤ 1) ∧ ((r).toInt = 1 ↔ ((y_nm fm (mi : Int32).toNatClampNeg).contains (a1).toInt || (y_nm fo (od : Int32).toNatClampNeg).contains (a1).toInt) = true) ∧ True) (dg_B g D shX o rfX) (dg_A o shX.length sz)) 0 0 (dg_A o shX.length sz) := by
  refine dg_met (cc := cX2_hasName) (maxL := 3) (ret := (some .boolean)) (by decide) rfl (Nat.le_of_ble_eq_true rfl) ?_
  intro p e s m args below meth c A hAe harg hx hb hr hml hts hown hlocks hin hP K hS hA1 hA ST hsz ls hl
  rw [← hAe]
  have F : CallFix p m c cX2_hasName 3 s args (bw yX2_hasName cX2_hasName 3 (some .boolean)) RX2 := ⟨hx, hb, hml, hown, hts⟩
  have hl : lv_has ls 3 [(0, .ref (o + gr)), (1, .int a1)] := hl
  have M_0 : dg_sm shX [] [] S S := dg_sm.rf
  refine lv_iconst (v := 0) hx hb dX2_hasName_0 (by decide +kernel) ?_
  refine lv_istore_n (lv' := [(2, .int 0), (0, .ref (o + gr)), (1, .int a1)]) hx hb dX2_hasName_1 rfl hl (by decide) rfl (fun ls hl => ?_)
  have L_97 : ∀ (n : Nat) (x_96 : Int32), (0 ≤ (x_96).toInt ∧ (x_96).toInt ≤ 5) → (∀ j9 : Nat, j9 < (x_96 : Int32).toNatClampNeg → (fo j9).toInt ≠ (a1).toInt) → ((6 - (x_96).toInt).toNat < n) → ∀ (H : Heap) (locs : List Loc), va_P D vwCl (dg_w g shX o rfX S) H → va_S A s.heap H locs → ∀ ls : Array Slot, lv_has ls 3 [(2, .int x_96), (0, .ref (o + gr)), (1, .int a1)] → W p l e ({ frames := 2, cells := 0, slots := 0, locals := 54 } : Room) s m args below meth c H locs 0 0 (MQ below (va_Qi (fun (r : Int32) S' => S' = S ∧ (0 ≤ (r).toInt ∧ (r).toInt ≤ 1) ∧ ((r).toInt = 1 ↔ ((y_nm fm (mi : Int32).toNatClampNeg).contains (a1).toInt || (y_nm fo (od : Int32).toNatClampNeg).contains (a1).toInt) = true) ∧ True) (dg_B g D shX o rfX) A) args s 0 0 A) (F0 m 2 ls []) := by
    as_aux_lemma =>
      intro n
      induction n with
      | zero =>
        intro x_96 b_x_96 rel_0 hmu H locs hP hS ls hl
        omega
      | succ n ih =>
        as_aux_lemma =>
          intro x_96 b_x_96 rel_0 hmu H locs hP hS ls hl
          refine lv_iload_n hx hb dX2_hasName_2 rfl (lv_at hl 0 rfl) ?_
          refine lv_aload_n hx hb dX2_hasName_3 rfl (lv_at hl 1 rfl) ?_
          refine dg_get (C := RX2) (T := TX2) (N := 19) hx hb hts (fun w h => bw_mem (wU_X2 w h)) hown K hP (rX_0 gr hk_gr) rfl 11 (by decide) (hts _ (bw_mem wB_4)) (fun _ h9 => h9) (v := .int od) f_od dX2_hasName_4 ?_
          refine lv_icmp_ge (tgt := 28) hx hb dX2_hasName_7 (by decide) (fun c_98 => ?_) (fun c_98 => ?_)
          · as_aux_lemma =>
              have jc_98 := dk_gec (k := (od).toInt) rfl c_98
              refine lv_aload_n hx hb dX2_hasName_28 rfl (lv_at hl 1 rfl) ?_
              refine lv_iload_n hx hb dX2_hasName_29 rfl (lv_at hl 2 rfl) ?_
              refine dg_calli hS hA1 hA (va_runV (As := [.int a1]) (rest := []) F (c_g_minerNamed l g D o S gr hk_gr a1 fm mi f_mi (by omega) hfm I H.size) (cwV 1 hts (bw_V wB_6 wB_7 wB_8 wB_9 wB_5) rfl rfl rfl (by decide +kernel) ⟨Nat.le_of_ble_eq_true rfl, Nat.le_of_ble_eq_true rfl⟩) (dg_preV (rX_0 gr hk_gr) rfl K ST hP hS hA1 hA) rfl rfl hl.1 rfl (lv_room (Nat.le_of_ble_eq_true rfl)) dX2_hasName_30 ⟨Nat.le_of_ble_eq_true rfl, Nat.le_of_ble_eq_true rfl⟩) (fun x_99 S_100 hw_100 H locs hP hS => ?_)
              rw [hw_100.1] at hP
              obtain ⟨hq_100, w_100_0, w_100_1, w_100_2, -⟩ := hw_100
              have w_100_0 : (-1) ≤ (x_99).toInt ∧ (x_99).toInt ≤ 5 := w_100_0
              have w_100_1 : (x_99).toInt ≠ -1 → (x_99).toInt = z_ix (y_nm fm (mi : Int32).toNatClampNeg) (a1).toInt := w_100_1
              have w_100_2 : (x_99).toInt ≠ -1 ↔ (y_nm fm (mi : Int32).toNatClampNeg).contains (a1).toInt = true := w_100_2
              refine lv_iconst (v := (-1)) hx hb dX2_hasName_33 (by decide +kernel) ?_
              refine lv_icmp_eq (tgt := 41) hx hb dX2_hasName_34 (by decide) (fun c_101 => ?_) (fun c_101 => ?_)
              · have jc_101 := dk_eqc (k := (-1)) (by decide +kernel) c_101
                refine lv_iconst (v := 0) hx hb dX2_hasName_41 (by decide +kernel) ?_
                have hz_102 : (0 : Int32).toInt = 0 := by decide +kernel
                have hz_103 : (0 : Int32).toInt = 0 := by decide +kernel
                refine W.widen (k := 0) (n := 0) (Nat.le_of_ble_eq_true rfl) (Nat.le_of_ble_eq_true rfl) ?_
                exact dg_iret hx hb hr hlocks (by decide +kernel) hP hS ⟨rfl, (by decide +kernel), ⟨fun q9 => absurd q9 (by omega), fun q9 => absurd q9 (by rw [g_iff_f w_100_2 (by omega), y_hasnt (m := od) rel_0 (by omega)]; decide)⟩, trivial⟩ dX2_hasName_42
              · have jc_101 := dk_neqc (k := (-1)) (by decide +kernel) c_101
                refine lv_iconst (v := 1) hx hb dX2_hasName_37 (by decide +kernel) ?_
                refine lv_goto (tgt := 42) hx hb dX2_hasName_38 (by decide) ?_
                have hz_104 : (1 : Int32).toInt = 1 := by decide +kernel
                have hz_105 : (1 : Int32).toInt = 1 := by decide +kernel
                refine W.widen (k := 0) (n := 0) (Nat.le_of_ble_eq_true rfl) (Nat.le_of_ble_eq_true rfl) ?_
                exact dg_iret hx hb hr hlocks (by decide +kernel) hP hS ⟨rfl, (by decide +kernel), ⟨fun _ => by rw [w_100_2.mp (by omega)]; simp, fun _ => by omega⟩, trivial⟩ dX2_hasName_42
          · as_aux_lemma =>
              have jc_98 := dk_ngec (k := (od).toInt) rfl c_98
              refine lv_aload_n hx hb dX2_hasName_10 rfl (lv_at hl 1 rfl) ?_
              refine dg_get (C := RX2) (T := TX2) (N := 19) hx hb hts (fun w h => bw_mem (wU_X2 w h)) hown K hP (rX_0 gr hk_gr) rfl 12 (by decide) (hts _ (bw_mem wB_10)) (fun _ h9 => h9) (v := .ref (o + (gr + 5))) (show S.1 gr 12 = .ref (o + (gr + 5)) from dg_I.rel (d := 5) I (rX_0 gr hk_gr) (by decide +kernel)) dX2_hasName_11 ?_
              refine lv_iload_n hx hb dX2_hasName_14 rfl (lv_at hl 0 rfl) ?_
              have hin_106 : vp_in x_96 5 := (dk_inv (by omega) (by omega))
              refine dg_iald hx hb K hP (rX_5 gr hk_gr) hin_106 dX2_hasName_15 (fun x_107 ex_107 => ?_)
              have kx_107 : (fo (x_96 : Int32).toNatClampNeg).toInt = (x_107).toInt := by rw [ex_107, hfo]
              refine lv_iload_n hx hb dX2_hasName_16 rfl (lv_at hl 2 rfl) ?_
              refine lv_icmp_ne (tgt := 22) hx hb dX2_hasName_17 (by decide) (fun c_108 => ?_) (fun c_108 => ?_)
              · have hf_108 := dk_full x_107
                have hf_109 := dk_full a1
                have jc_108 := dk_neqc (k := (a1).toInt) rfl c_108
                obtain ⟨x_111, ex_111⟩ : ∃ z, z = x_96 + 1 := ⟨_, rfl⟩
                have jx_111 : (x_111).toInt = (x_96).toInt + 1 := by rw [ex_111]; exact dk_addT rfl (by decide +kernel) (by omega) (by omega)
                refine lv_iinc (v := x_111) (lv' := [(2, .int x_111), (0, .ref (o + gr)), (1, .int a1)]) hx hb dX2_hasName_22 hl (k := 0) rfl (by rw [ex_111]; rfl) (by decide) rfl (fun ls hl => ?_)
                refine lv_goto (tgt := 2) hx hb dX2_hasName_25 (by decide) ?_
                exact ih x_111 (by omega) (y_stp rel_0 (by omega) jx_111 (by omega)) (by omega) _ _ hP hS _ (lv_sub hl [0, 1, 2] rfl)
              · have hf_111 := dk_full x_107
                have hf_112 := dk_full a1
                have jc_108 := dk_eqc (k := (a1).toInt) rfl c_108
                refine lv_iconst (v := 1) hx hb dX2_hasName_20 (by decide +kernel) ?_
                have hz_114 : (1 : Int32).toInt = 1 := by decide +kernel
                have hz_115 : (1 : Int32).toInt = 1 := by decide +kernel
                refine W.widen (k := 0) (n := 0) (Nat.le_of_ble_eq_true rfl) (Nat.le_of_ble_eq_true rfl) ?_
                exact dg_iret hx hb hr hlocks (by decide +kernel) hP hS ⟨rfl, (by decide +kernel), ⟨fun _ => by rw [y_has (f := fo) (k := x_96) (m := od) (v := (a1).toInt) (by omega) (by omega) (by omega)]; simp, fun _ => by omega⟩, trivial⟩ dX2_hasName_21
  have hz_116 : (0 : Int32).toInt = 0 := by decide +kernel
  have hz_117 : (0 : Int32).toInt = 0 := by decide +kernel
  have hz_118 : (0 : Int32).toInt = 0 := by decide +kernel
  exact L_97 ((6 - ((0 : Int32)).toInt).toNat + 1) 0 (by decide +kernel) y_lt0 (by omega) _ _ hP hS _ (lv_sub hl [0, 1, 2] rfl)
set_option maxHeartbeats 8000000 in
set_option maxRecDepth 100000 in
theorem c_g_hasRule (l : Launch) (g : Nat → ClassId) (D : va_G) (o : Nat) (S : dg_S) (gr : Nat) (hk_gr : rX gr) (a1 : Int32) (b_a1 : 0 ≤ (a1).toInt ∧ (a1).toInt ≤ 2) (fr : Nat → Int32) (fe : Nat → Int32) (hfr : S.2.1 (gr + 10) = fr) (hfe : S.2.1 (gr + 11) = fe) (I : CX o S) (sz : Nat) : Met l yX2_hasRule (bw yX2_hasRule cX2_hasRule 2 (some .boolean)) ({ frames := 1, cells := 0, slots := 0, locals := 32 } : Room) (dk_Pc g D (dg_w g shX o rfX S) sz [.ref (o + gr), .int a1]) (va_Qi (fun (r : Int32) S' => S' = S ∧ (0 ≤ (r).toInt ∧ (r).toInt ≤ 1) ∧ ((r).toInt = 1 ↔ (fr (a1 : Int32).toNatClampNeg).toInt < (fe (a1 : Int32).toNatClampNeg).toInt) ∧ True) (dg_B g D shX o rfX) (dg_A o shX.length sz)) 0 0 (dg_A o shX.length sz) := by
  refine dg_met (cc := cX2_hasRule) (maxL := 2) (ret := (some .boolean)) (by decide) rfl (Nat.le_of_ble_eq_true rfl) ?_
  intro p e s m args below meth c A hAe harg hx hb hr hml hts hown hlocks hin hP K hS hA1 hA ST hsz ls hl
  rw [← hAe]
  have F : CallFix p m c cX2_hasRule 2 s args (bw yX2_hasRule cX2_hasRule 2 (some .boolean)) RX2 := ⟨hx, hb, hml, hown, hts⟩
  have hl : lv_has ls 2 [(0, .ref (o + gr)), (1, .int a1)] := hl
  have M_0 : dg_sm shX [] [] S S := dg_sm.rf
  refine lv_aload_n hx hb dX2_hasRule_0 rfl (lv_at hl 0 rfl) ?_
  refine dg_get (C := RX2) (T := TX2) (N := 19) hx hb hts (fun w h => bw_mem (wU_X2 w h)) hown K hP (rX_0 gr hk_gr) rfl 18 (by decide) (hts _ (bw_mem wB_11)) (fun _ h9 => h9) (v := .ref (o + (gr + 11))) (show S.1 gr 18 = .ref (o + (gr + 11)) from dg_I.rel (d := 11) I (rX_0 gr hk_gr) (by decide +kernel)) dX2_hasRule_1 ?_
  refine lv_iload_n hx hb dX2_hasRule_4 rfl (lv_at hl 1 rfl) ?_
  have hin_1 : vp_in a1 3 := (dk_inv (by omega) (by omega))
  refine dg_iald hx hb K hP (rX_11 gr hk_gr) hin_1 dX2_hasRule_5 (fun x_2 ex_2 => ?_)
  have b_x_2 := dk_all_at (dg_I.row (lo := 0) (hi := 1600) I (rX_11 gr hk_gr) (by decide +kernel)) hin_1 ex_2
  have kx_2 : (fe (a1 : Int32).toNatClampNeg).toInt = (x_2).toInt := by rw [ex_2, hfe]
  refine lv_aload_n hx hb dX2_hasRule_6 rfl (lv_at hl 0 rfl) ?_
  refine dg_get (C := RX2) (T := TX2) (N := 19) hx hb hts (fun w h => bw_mem (wU_X2 w h)) hown K hP (rX_0 gr hk_gr) rfl 17 (by decide) (hts _ (bw_mem wB_12)) (fun _ h9 => h9) (v := .ref (o + (gr + 10))) (show S.1 gr 17 = .ref (o + (gr + 10)) from dg_I.rel (d := 10) I (rX_0 gr hk_gr) (by decide +kernel)) dX2_hasRule_7 ?_
  refine lv_iload_n hx hb dX2_hasRule_10 rfl (lv_at hl 1 rfl) ?_
  have hin_3 : vp_in a1 3 := (dk_inv (by omega) (by omega))
  refine dg_iald hx hb K hP (rX_10 gr hk_gr) hin_3 dX2_hasRule_11 (fun x_4 ex_4 => ?_)
  have b_x_4 := dk_all_at (dg_I.row (lo := 0) (hi := 1600) I (rX_10 gr hk_gr) (by decide +kernel)) hin_3 ex_4
  have kx_4 : (fr (a1 : Int32).toNatClampNeg).toInt = (x_4).toInt := by rw [ex_4, hfr]
  refine lv_icmp_le (tgt := 19) hx hb dX2_hasRule_12 (by decide) (fun c_5 => ?_) (fun c_5 => ?_)
  · have jc_5 := dk_lec (k := (x_4).toInt) rfl c_5
    refine lv_iconst (v := 0) hx hb dX2_hasRule_19 (by decide +kernel) ?_
    have hz_6 : (0 : Int32).toInt = 0 := by decide +kernel
    have hz_7 : (0 : Int32).toInt = 0 := by decide +kernel
    refine W.widen (k := 0) (n := 0) (Nat.le_of_ble_eq_true rfl) (Nat.le_of_ble_eq_true rfl) ?_
    exact dg_iret hx hb hr hlocks (by decide +kernel) hP hS ⟨rfl, (by decide +kernel), ⟨fun _ => by omega, fun _ => by omega⟩, trivial⟩ dX2_hasRule_20
  · have jc_5 := dk_nlec (k := (x_4).toInt) rfl c_5
    refine lv_iconst (v := 1) hx hb dX2_hasRule_15 (by decide +kernel) ?_
    refine lv_goto (tgt := 20) hx hb dX2_hasRule_16 (by decide) ?_
    have hz_8 : (1 : Int32).toInt = 1 := by decide +kernel
    have hz_9 : (1 : Int32).toInt = 1 := by decide +kernel
    refine W.widen (k := 0) (n := 0) (Nat.le_of_ble_eq_true rfl) (Nat.le_of_ble_eq_true rfl) ?_
    exact dg_iret hx hb hr hlocks (by decide +kernel) hP hS ⟨rfl, (by decide +kernel), ⟨fun _ => by omega, fun _ => by omega⟩, trivial⟩ dX2_hasRule_20
set_option maxHeartbeats 8000000 in
set_option maxRecDepth 100000 in
theorem c_g_placeOf (l : Launch) (g : Nat → ClassId) (D : va_G) (o : Nat) (S : dg_S) (gr : Nat) (hk_gr : rX gr) (a1 : Int32) (a2 : Int32) (cx : Int32) (f_cx : S.1 gr 0 = .int cx) (b_cx : 0 ≤ (cx).toInt ∧ (cx).toInt ≤ 7) (ry : Int32) (f_ry : S.1 gr 1 = .int ry) (b_ry : 0 ≤ (ry).toInt ∧ (ry).toInt ≤ 7) (I : CX o S) (sz : Nat) : Met l yX2_placeOf (bw yX2_placeOf cX2_placeOf 3 (some .int)) ({ frames := 1, cells := 0, slots := 0, locals := 32 } : Room) (dk_Pc g D (dg_w g shX o rfX S) sz [.ref (o + gr), .int a1, .int a2]) (va_Qi (fun (r : Int32) S' => S' = S ∧ (((-1) ≤ (r).toInt ∧ (r).toInt ≤ 62) ∧ ((r).toInt ≤ (-1) ∨ 8 ≤ (r).toInt)) ∧ ((0 ≤ (a1).toInt ∧ (a1).toInt < (cx).toInt ∧ 0 ≤ (a2).toInt ∧ (a2).toInt < (ry).toInt) → 8 ≤ (r).toInt) ∧ True) (dg_B g D shX o rfX) (dg_A o shX.length sz)) 0 0 (dg_A o shX.length sz) := by
  refine dg_met (cc := cX2_placeOf) (maxL := 3) (ret := (some .int)) (by decide) rfl (Nat.le_of_ble_eq_true rfl) ?_
  intro p e s m args below meth c A hAe harg hx hb hr hml hts hown hlocks hin hP K hS hA1 hA ST hsz ls hl
  rw [← hAe]
  have F : CallFix p m c cX2_placeOf 3 s args (bw yX2_placeOf cX2_placeOf 3 (some .int)) RX2 := ⟨hx, hb, hml, hown, hts⟩
  have hl : lv_has ls 3 [(0, .ref (o + gr)), (1, .int a1), (2, .int a2)] := hl
  have M_0 : dg_sm shX [] [] S S := dg_sm.rf
  refine lv_iload_n hx hb dX2_placeOf_0 rfl (lv_at hl 1 rfl) ?_
  refine lv_if_lt (tgt := 24) hx hb dX2_placeOf_1 (by decide) (fun c_1 => ?_) (fun c_1 => ?_)
  · have jc_1 := dk_ltc (k := 0) (by decide +kernel) c_1
    refine lv_iconst (v := (-1)) hx hb dX2_placeOf_24 (by decide +kernel) ?_
    have hz_2 : (-1 : Int32).toInt = (-1) := by decide +kernel
    have hz_3 : (-1 : Int32).toInt = (-1) := by decide +kernel
    refine W.widen (k := 0) (n := 0) (Nat.le_of_ble_eq_true rfl) (Nat.le_of_ble_eq_true rfl) ?_
    exact dg_iret hx hb hr hlocks rfl hP hS ⟨rfl, (by decide +kernel), (by omega), trivial⟩ dX2_placeOf_25
  · as_aux_lemma =>
      have jc_1 := dk_nltc (k := 0) (by decide +kernel) c_1
      refine lv_iload_n hx hb dX2_placeOf_4 rfl (lv_at hl 1 rfl) ?_
      refine lv_aload_n hx hb dX2_placeOf_5 rfl (lv_at hl 0 rfl) ?_
      refine dg_get (C := RX2) (T := TX2) (N := 19) hx hb hts (fun w h => bw_mem (wU_X2 w h)) hown K hP (rX_0 gr hk_gr) rfl 0 (by decide) (hts _ (bw_mem wB_0)) (fun _ h9 => h9) (v := .int cx) f_cx dX2_placeOf_6 ?_
      refine lv_icmp_ge (tgt := 24) hx hb dX2_placeOf_9 (by decide) (fun c_4 => ?_) (fun c_4 => ?_)
      · have hf_4 := dk_full a1
        have jc_4 := dk_gec (k := (cx).toInt) rfl c_4
        refine lv_iconst (v := (-1)) hx hb dX2_placeOf_24 (by decide +kernel) ?_
        have hz_6 : (-1 : Int32).toInt = (-1) := by decide +kernel
        have hz_7 : (-1 : Int32).toInt = (-1) := by decide +kernel
        refine W.widen (k := 0) (n := 0) (Nat.le_of_ble_eq_true rfl) (Nat.le_of_ble_eq_true rfl) ?_
        exact dg_iret hx hb hr hlocks rfl hP hS ⟨rfl, (by decide +kernel), (by omega), trivial⟩ dX2_placeOf_25
      · as_aux_lemma =>
          have hf_7 := dk_full a1
          have jc_4 := dk_ngec (k := (cx).toInt) rfl c_4
          refine lv_iload_n hx hb dX2_placeOf_12 rfl (lv_at hl 2 rfl) ?_
          refine lv_if_lt (tgt := 24) hx hb dX2_placeOf_13 (by decide) (fun c_9 => ?_) (fun c_9 => ?_)
          · have jc_9 := dk_ltc (k := 0) (by decide +kernel) c_9
            refine lv_iconst (v := (-1)) hx hb dX2_placeOf_24 (by decide +kernel) ?_
            have hz_10 : (-1 : Int32).toInt = (-1) := by decide +kernel
            have hz_11 : (-1 : Int32).toInt = (-1) := by decide +kernel
            refine W.widen (k := 0) (n := 0) (Nat.le_of_ble_eq_true rfl) (Nat.le_of_ble_eq_true rfl) ?_
            exact dg_iret hx hb hr hlocks rfl hP hS ⟨rfl, (by decide +kernel), (by omega), trivial⟩ dX2_placeOf_25
          · as_aux_lemma =>
              have jc_9 := dk_nltc (k := 0) (by decide +kernel) c_9
              refine lv_iload_n hx hb dX2_placeOf_16 rfl (lv_at hl 2 rfl) ?_
              refine lv_aload_n hx hb dX2_placeOf_17 rfl (lv_at hl 0 rfl) ?_
              refine dg_get (C := RX2) (T := TX2) (N := 19) hx hb hts (fun w h => bw_mem (wU_X2 w h)) hown K hP (rX_0 gr hk_gr) rfl 1 (by decide) (hts _ (bw_mem wB_1)) (fun _ h9 => h9) (v := .int ry) f_ry dX2_placeOf_18 ?_
              refine lv_icmp_lt (tgt := 26) hx hb dX2_placeOf_21 (by decide) (fun c_12 => ?_) (fun c_12 => ?_)
              · as_aux_lemma =>
                  have hf_12 := dk_full a2
                  have jc_12 := dk_ltc (k := (ry).toInt) rfl c_12
                  refine lv_bipush (v := 8) hx hb dX2_placeOf_26 (by decide +kernel) ?_
                  refine lv_iload_n hx hb dX2_placeOf_28 rfl (lv_at hl 2 rfl) ?_
                  refine lv_imul hx hb dX2_placeOf_29 ?_
                  refine lv_topi (fun x_14 ex_14 => ?_)
                  have jx_14 : (x_14).toInt = 8 * (a2).toInt := by rw [ex_14]; exact dk_mulT (by decide +kernel) rfl (by omega) (by omega)
                  refine lv_iload_n hx hb dX2_placeOf_30 rfl (lv_at hl 1 rfl) ?_
                  refine lv_iadd hx hb dX2_placeOf_31 ?_
                  refine lv_topi (fun x_15 ex_15 => ?_)
                  have jx_15 : (x_15).toInt = (x_14).toInt + (a1).toInt := by rw [ex_15]; exact dk_addT rfl rfl (by omega) (by omega)
                  refine lv_bipush (v := 8) hx hb dX2_placeOf_32 (by decide +kernel) ?_
                  refine lv_iadd hx hb dX2_placeOf_34 ?_
                  refine lv_topi (fun x_16 ex_16 => ?_)
                  have jx_16 : (x_16).toInt = (x_15).toInt + 8 := by rw [ex_16]; exact dk_addT rfl (by decide +kernel) (by omega) (by omega)
                  refine W.widen (k := 0) (n := 0) (Nat.le_of_ble_eq_true rfl) (Nat.le_of_ble_eq_true rfl) ?_
                  exact dg_iret hx hb hr hlocks rfl hP hS ⟨rfl, (by omega), (by omega), trivial⟩ dX2_placeOf_35
              · have hf_16 := dk_full a2
                have jc_12 := dk_nltc (k := (ry).toInt) rfl c_12
                refine lv_iconst (v := (-1)) hx hb dX2_placeOf_24 (by decide +kernel) ?_
                have hz_18 : (-1 : Int32).toInt = (-1) := by decide +kernel
                have hz_19 : (-1 : Int32).toInt = (-1) := by decide +kernel
                refine W.widen (k := 0) (n := 0) (Nat.le_of_ble_eq_true rfl) (Nat.le_of_ble_eq_true rfl) ?_
                exact dg_iret hx hb hr hlocks rfl hP hS ⟨rfl, (by decide +kernel), (by omega), trivial⟩ dX2_placeOf_25
      