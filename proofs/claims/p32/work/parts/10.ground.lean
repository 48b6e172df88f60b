/-! 10.ground.lean.txt -/
theorem dX2_hasSeam_0 : decode cX2_hasSeam 0 = .ok (.aload_n 0, 1) := by decide +kernel
theorem dX2_hasSeam_1 : decode cX2_hasSeam 1 = .ok (.getfield 49, 3) := by decide +kernel
theorem dX2_hasSeam_4 : decode cX2_hasSeam 4 = .ok (.ifCond .le 7, 3) := by decide +kernel
theorem dX2_hasSeam_7 : decode cX2_hasSeam 7 = .ok (.iconst 1, 1) := by decide +kernel
theorem dX2_hasSeam_8 : decode cX2_hasSeam 8 = .ok (.goto 4, 3) := by decide +kernel
theorem dX2_hasSeam_11 : decode cX2_hasSeam 11 = .ok (.iconst 0, 1) := by decide +kernel
theorem dX2_hasSeam_12 : decode cX2_hasSeam 12 = .ok (.ireturn, 1) := by decide +kernel
theorem dX2_hasMiner_0 : decode cX2_hasMiner 0 = .ok (.iload_n 1, 1) := by decide +kernel
theorem dX2_hasMiner_1 : decode cX2_hasMiner 1 = .ok (.ifCond .lt 15, 3) := by decide +kernel
theorem dX2_hasMiner_4 : decode cX2_hasMiner 4 = .ok (.iload_n 1, 1) := by decide +kernel
theorem dX2_hasMiner_5 : decode cX2_hasMiner 5 = .ok (.aload_n 0, 1) := by decide +kernel
theorem dX2_hasMiner_6 : decode cX2_hasMiner 6 = .ok (.getfield 67, 3) := by decide +kernel
theorem dX2_hasMiner_9 : decode cX2_hasMiner 9 = .ok (.if_icmp .ge 7, 3) := by decide +kernel
theorem dX2_hasMiner_12 : decode cX2_hasMiner 12 = .ok (.iconst 1, 1) := by decide +kernel
theorem dX2_hasMiner_13 : decode cX2_hasMiner 13 = .ok (.goto 4, 3) := by decide +kernel
theorem dX2_hasMiner_16 : decode cX2_hasMiner 16 = .ok (.iconst 0, 1) := by decide +kernel
theorem dX2_hasMiner_17 : decode cX2_hasMiner 17 = .ok (.ireturn, 1) := by decide +kernel
theorem dX2_hasPlanRow_0 : decode cX2_hasPlanRow 0 = .ok (.iload_n 1, 1) := by decide +kernel
theorem dX2_hasPlanRow_1 : decode cX2_hasPlanRow 1 = .ok (.ifCond .lt 15, 3) := by decide +kernel
theorem dX2_hasPlanRow_4 : decode cX2_hasPlanRow 4 = .ok (.iload_n 1, 1) := by decide +kernel
theorem dX2_hasPlanRow_5 : decode cX2_hasPlanRow 5 = .ok (.aload_n 0, 1) := by decide +kernel
theorem dX2_hasPlanRow_6 : decode cX2_hasPlanRow 6 = .ok (.getfield 70, 3) := by decide +kernel
theorem dX2_hasPlanRow_9 : decode cX2_hasPlanRow 9 = .ok (.if_icmp .ge 7, 3) := by decide +kernel
theorem dX2_hasPlanRow_12 : decode cX2_hasPlanRow 12 = .ok (.iconst 1, 1) := by decide +kernel
theorem dX2_hasPlanRow_13 : decode cX2_hasPlanRow 13 = .ok (.goto 4, 3) := by decide +kernel
theorem dX2_hasPlanRow_16 : decode cX2_hasPlanRow 16 = .ok (.iconst 0, 1) := by decide +kernel
theorem dX2_hasPlanRow_17 : decode cX2_hasPlanRow 17 = .ok (.ireturn, 1) := by decide +kernel
theorem dX2_hasOrder_0 : decode cX2_hasOrder 0 = .ok (.iload_n 1, 1) := by decide +kernel
theorem dX2_hasOrder_1 : decode cX2_hasOrder 1 = .ok (.ifCond .lt 15, 3) := by decide +kernel
theorem dX2_hasOrder_4 : decode cX2_hasOrder 4 = .ok (.iload_n 1, 1) := by decide +kernel
theorem dX2_hasOrder_5 : decode cX2_hasOrder 5 = .ok (.aload_n 0, 1) := by decide +kernel
theorem dX2_hasOrder_6 : decode cX2_hasOrder 6 = .ok (.getfield 73, 3) := by decide +kernel
theorem dX2_hasOrder_9 : decode cX2_hasOrder 9 = .ok (.if_icmp .ge 7, 3) := by decide +kernel
theorem dX2_hasOrder_12 : decode cX2_hasOrder 12 = .ok (.iconst 1, 1) := by decide +kernel
theorem dX2_hasOrder_13 : decode cX2_hasOrder 13 = .ok (.goto 4, 3) := by decide +kernel
theorem dX2_hasOrder_16 : decode cX2_hasOrder 16 = .ok (.iconst 0, 1) := by decide +kernel
theorem dX2_hasOrder_17 : decode cX2_hasOrder 17 = .ok (.ireturn, 1) := by decide +kernel
theorem dX2_endOfPlaces_0 : decode cX2_endOfPlaces 0 = .ok (.bipush 8, 2) := by decide +kernel
theorem dX2_endOfPlaces_2 : decode cX2_endOfPlaces 2 = .ok (.aload_n 0, 1) := by decide +kernel
theorem dX2_endOfPlaces_3 : decode cX2_endOfPlaces 3 = .ok (.getfield 52, 3) := by decide +kernel
theorem dX2_endOfPlaces_6 : decode cX2_endOfPlaces 6 = .ok (.imul, 1) := by decide +kernel
theorem dX2_endOfPlaces_7 : decode cX2_endOfPlaces 7 = .ok (.bipush 8, 2) := by decide +kernel
theorem dX2_endOfPlaces_9 : decode cX2_endOfPlaces 9 = .ok (.iadd, 1) := by decide +kernel
theorem dX2_endOfPlaces_10 : decode cX2_endOfPlaces 10 = .ok (.ireturn, 1) := by decide +kernel
set_option maxHeartbeats 8000000 in
set_option maxRecDepth 100000 in
theorem c_g_placeOfF (l : Launch) (g : Nat → ClassId) (D : va_G) (o : Nat) (S : dg_S) (gr : Nat) (hk_gr : rX gr) (a1 : Int32) (a2 : Int32) (cx : Int32) (f_cx : S.1 gr 0 = .int cx) (b_cx : 0 ≤ (cx).toInt ∧ (cx).toInt ≤ 7) (ry : Int32) (f_ry : S.1 gr 1 = .int ry) (b_ry : 0 ≤ (ry).toInt ∧ (ry).toInt ≤ 7) (I : CX o S) (sz : Nat) : Met l yX2_placeOf (bw yX2_placeOf cX2_placeOf 3 (some .int)) ({ frames := 1, cells := 0, slots := 0, locals := 32 } : Room) (dk_Pc g D (dg_w g shX o rfX S) sz [.ref (o + gr), .int a1, .int a2]) (va_Qi (fun (r : Int32) S' => S' = S ∧ (((-1) ≤ (r).toInt ∧ (r).toInt ≤ 62) ∧ ((r).toInt ≤ (-1) ∨ 8 ≤ (r).toInt)) ∧ ((r).toInt ≠ -1 ↔ (0 ≤ (a1).toInt ∧ (a1).toInt < (cx).toInt ∧ 0 ≤ (a2).toInt ∧ (a2).toInt < (ry).toInt)) ∧ ((r).toInt ≠ -1 → (r).toInt = 8 * (a2).toInt + (a1).toInt + 8) ∧ True) (dg_B g D shX o rfX) (dg_A o shX.length sz)) 0 0 (dg_A o shX.length sz) := by
  refine dg_met (cc := cX2_placeOf) (maxL := 3) (ret := (some .int)) (by decide) rfl (Nat.le_of_ble_eq_true rfl) ?_
  intro p e s m args below meth c A hAe harg hx hb hr hml hts hown hlocks hin hP K hS hA1 hA ST hsz ls hl
  rw [← hAe]
  have F : CallFix p m c cX2_placeOf 3 s args (bw yX2_placeOf cX2_placeOf 3 (some .int)) RX2 := ⟨hx, hb, hml, hown, hts⟩
  have hl : lv_has ls 3 [(0, .ref (o + gr)), (1, .int a1), (2, .int a2)] := hl
  have M_0 : dg_sm shX [] [] S S := dg_sm.rf
  refine lv_iload_n hx hb dX2_placeOf_0 rfl (lv_at hl 1 rfl) ?_
  refine lv_if_lt (tgt := 24) hx hb dX2_placeOf_1 (by decide) (fun c_1 => ?_) (fun c_1 => ?_)
  · have jc_1 := dk_ltc (k := 0) (by decide +kernel) c_1
    refine lv_iconst (v := (-1)) hx hb dX2_placeOf_24 (by decide +kernel) ?_
    have hz_2 : (-1 : Int32).toInt = (-1) := by decide +kernel
    have hz_3 : (-1 : Int32).toInt = (-1) := by decide +kernel
    have hz_4 : (-1 : Int32).toInt = (-1) := by decide +kernel
    refine W.widen (k := 0) (n := 0) (Nat.le_of_ble_eq_true rfl) (Nat.le_of_ble_eq_true rfl) ?_
    exact dg_iret hx hb hr hlocks rfl hP hS ⟨rfl, (by decide +kernel), (by omega), (by omega), trivial⟩ dX2_placeOf_25
  · have jc_1 := dk_nltc (k := 0) (by decide +kernel) c_1
    refine lv_iload_n hx hb dX2_placeOf_4 rfl (lv_at hl 1 rfl) ?_
    refine lv_aload_n hx hb dX2_placeOf_5 rfl (lv_at hl 0 rfl) ?_
    refine dg_get (C := RX2) (T := TX2) (N := 19) hx hb hts (fun w h => bw_mem (wU_X2 w h)) hown K hP (rX_0 gr hk_gr) rfl 0 (by decide) (hts _ (bw_mem wB_11)) (fun _ h9 => h9) (v := .int cx) f_cx dX2_placeOf_6 ?_
    refine lv_icmp_ge (tgt := 24) hx hb dX2_placeOf_9 (by decide) (fun c_5 => ?_) (fun c_5 => ?_)
    · have hf_5 := dk_full a1
      have jc_5 := dk_gec (k := (cx).toInt) rfl c_5
      refine lv_iconst (v := (-1)) hx hb dX2_placeOf_24 (by decide +kernel) ?_
      have hz_7 : (-1 : Int32).toInt = (-1) := by decide +kernel
      have hz_8 : (-1 : Int32).toInt = (-1) := by decide +kernel
      have hz_9 : (-1 : Int32).toInt = (-1) := by decide +kernel
      refine W.widen (k := 0) (n := 0) (Nat.le_of_ble_eq_true rfl) (Nat.le_of_ble_eq_true rfl) ?_
      exact dg_iret hx hb hr hlocks rfl hP hS ⟨rfl, (by decide +kernel), (by omega), (by omega), trivial⟩ dX2_placeOf_25
    · have hf_9 := dk_full a1
      have jc_5 := dk_ngec (k := (cx).toInt) rfl c_5
      refine lv_iload_n hx hb dX2_placeOf_12 rfl (lv_at hl 2 rfl) ?_
      refine lv_if_lt (tgt := 24) hx hb dX2_placeOf_13 (by decide) (fun c_11 => ?_) (fun c_11 => ?_)
      · have jc_11 := dk_ltc (k := 0) (by decide +kernel) c_11
        refine lv_iconst (v := (-1)) hx hb dX2_placeOf_24 (by decide +kernel) ?_
        have hz_12 : (-1 : Int32).toInt = (-1) := by decide +kernel
        have hz_13 : (-1 : Int32).toInt = (-1) := by decide +kernel
        have hz_14 : (-1 : Int32).toInt = (-1) := by decide +kernel
        refine W.widen (k := 0) (n := 0) (Nat.le_of_ble_eq_true rfl) (Nat.le_of_ble_eq_true rfl) ?_
        exact dg_iret hx hb hr hlocks rfl hP hS ⟨rfl, (by decide +kernel), (by omega), (by omega), trivial⟩ dX2_placeOf_25
      · have jc_11 := dk_nltc (k := 0) (by decide +kernel) c_11
        refine lv_iload_n hx hb dX2_placeOf_16 rfl (lv_at hl 2 rfl) ?_
        refine lv_aload_n hx hb dX2_placeOf_17 rfl (lv_at hl 0 rfl) ?_
        refine dg_get (C := RX2) (T := TX2) (N := 19) hx hb hts (fun w h => bw_mem (wU_X2 w h)) hown K hP (rX_0 gr hk_gr) rfl 1 (by decide) (hts _ (bw_mem wB_12)) (fun _ h9 => h9) (v := .int ry) f_ry dX2_placeOf_18 ?_
        refine lv_icmp_lt (tgt := 26) hx hb dX2_placeOf_21 (by decide) (fun c_15 => ?_) (fun c_15 => ?_)
        · have hf_15 := dk_full a2
          have jc_15 := dk_ltc (k := (ry).toInt) rfl c_15
          refine lv_bipush (v := 8) hx hb dX2_placeOf_26 (by decide +kernel) ?_
          refine lv_iload_n hx hb dX2_placeOf_28 rfl (lv_at hl 2 rfl) ?_
          refine lv_imul hx hb dX2_placeOf_29 ?_
          refine lv_topi (fun x_17 ex_17 => ?_)
          have jx_17 : (x_17).toInt = 8 * (a2).toInt := by rw [ex_17]; exact dk_mulT (by decide +kernel) rfl (by omega) (by omega)
          refine lv_iload_n hx hb dX2_placeOf_30 rfl (lv_at hl 1 rfl) ?_
          refine lv_iadd hx hb dX2_placeOf_31 ?_
          refine lv_topi (fun x_18 ex_18 => ?_)
          have jx_18 : (x_18).toInt = (x_17).toInt + (a1).toInt := by rw [ex_18]; exact dk_addT rfl rfl (by omega) (by omega)
          refine lv_bipush (v := 8) hx hb dX2_placeOf_32 (by decide +kernel) ?_
          refine lv_iadd hx hb dX2_placeOf_34 ?_
          refine lv_topi (fun x_19 ex_19 => ?_)
          have jx_19 : (x_19).toInt = (x_18).toInt + 8 := by rw [ex_19]; exact dk_addT rfl (by decide +kernel) (by omega) (by omega)
          refine W.widen (k := 0) (n := 0) (Nat.le_of_ble_eq_true rfl) (Nat.le_of_ble_eq_true rfl) ?_
          exact dg_iret hx hb hr hlocks rfl hP hS ⟨rfl, (by omega), (by omega), (by omega), trivial⟩ dX2_placeOf_35
        · have hf_19 := dk_full a2
          have jc_15 := dk_nltc (k := (ry).toInt) rfl c_15
          refine lv_iconst (v := (-1)) hx hb dX2_placeOf_24 (by decide +kernel) ?_
          have hz_21 : (-1 : Int32).toInt = (-1) := by decide +kernel
          have hz_22 : (-1 : Int32).toInt = (-1) := by decide +kernel
          have hz_23 : (-1 : Int32).toInt = (-1) := by decide +kernel
          refine W.widen (k := 0) (n := 0) (Nat.le_of_ble_eq_true rfl) (Nat.le_of_ble_eq_true rfl) ?_
          exact dg_iret hx hb hr hlocks rfl hP hS ⟨rfl, (by decide +kernel), (by omega), (by omega), trivial⟩ dX2_placeOf_25
set_option maxHeartbeats 8000000 in
set_option maxRecDepth 100000 in
theorem c_g_hasSeam (l : Launch) (g : Nat → ClassId) (D : va_G) (o : Nat) (S : dg_S) (gr : Nat) (hk_gr : rX gr) (cx : Int32) (f_cx : S.1 gr 0 = .int cx) (b_cx : 0 ≤ (cx).toInt ∧ (cx).toInt ≤ 7) (I : CX o S) (sz : Nat) : Met l yX2_hasSeam (bw yX2_hasSeam cX2_hasSeam 1 (some .boolean)) ({ frames := 1, cells := 0, slots := 0, locals := 32 } : Room) (dk_Pc g D (dg_w g shX o rfX S) sz [.ref (o + gr)]) (va_Qi (fun (r : Int32) S' => S' = S ∧ (0 ≤ (r).toInt ∧ (r).toInt ≤ 1) ∧ ((r).toInt = 1 ↔ 0 < (cx).toInt) ∧ True) (dg_B g D shX o rfX) (dg_A o shX.length sz)) 0 0 (dg_A o shX.length sz) := by
  refine dg_met (cc := cX2_hasSeam) (maxL := 1) (ret := (some .boolean)) (by decide) rfl (Nat.le_of_ble_eq_true rfl) ?_
  intro p e s m args below meth c A hAe harg hx hb hr hml hts hown hlocks hin hP K hS hA1 hA ST hsz ls hl
  rw [← hAe]
  have F : CallFix p m c cX2_hasSeam 1 s args (bw yX2_hasSeam cX2_hasSeam 1 (some .boolean)) RX2 := ⟨hx, hb, hml, hown, hts⟩
  have hl : lv_has ls 1 [(0, .ref (o + gr))] := hl
  have M_0 : dg_sm shX [] [] S S := dg_sm.rf
  refine lv_aload_n hx hb dX2_hasSeam_0 rfl (lv_at hl 0 rfl) ?_
  refine dg_get (C := RX2) (T := TX2) (N := 19) hx hb hts (fun w h => bw_mem (wU_X2 w h)) hown K hP (rX_0 gr hk_gr) rfl 0 (by decide) (hts _ (bw_mem wB_11)) (fun _ h9 => h9) (v := .int cx) f_cx dX2_hasSeam_1 ?_
  refine lv_if_le (tgt := 11) hx hb dX2_hasSeam_4 (by decide) (fun c_1 => ?_) (fun c_1 => ?_)
  · have jc_1 := dk_lec (k := 0) (by decide +kernel) c_1
    refine lv_iconst (v := 0) hx hb dX2_hasSeam_11 (by decide +kernel) ?_
    have hz_2 : (0 : Int32).toInt = 0 := by decide +kernel
    have hz_3 : (0 : Int32).toInt = 0 := by decide +kernel
    refine W.widen (k := 0) (n := 0) (Nat.le_of_ble_eq_true rfl) (Nat.le_of_ble_eq_true rfl) ?_
    exact dg_iret hx hb hr hlocks (by decide +kernel) hP hS ⟨rfl, (by decide +kernel), (by omega), trivial⟩ dX2_hasSeam_12
  · have jc_1 := dk_nlec (k := 0) (by decide +kernel) c_1
    refine lv_iconst (v := 1) hx hb dX2_hasSeam_7 (by decide +kernel) ?_
    refine lv_goto (tgt := 12) hx hb dX2_hasSeam_8 (by decide) ?_
    have hz_4 : (1 : Int32).toInt = 1 := by decide +kernel
    have hz_5 : (1 : Int32).toInt = 1 := by decide +kernel
    refine W.widen (k := 0) (n := 0) (Nat.le_of_ble_eq_true rfl) (Nat.le_of_ble_eq_true rfl) ?_
    exact dg_iret hx hb hr hlocks (by decide +kernel) hP hS ⟨rfl, (by decide +kernel), (by omega), trivial⟩ dX2_hasSeam_12
set_option maxHeartbeats 8000000 in
set_option maxRecDepth 100000 in
theorem c_g_hasMiner (l : Launch) (g : Nat → ClassId) (D : va_G) (o : Nat) (S : dg_S) (gr : Nat) (hk_gr : rX gr) (a1 : Int32) (cx : Int32) (f_cx : S.1 gr 6 = .int cx) (b_cx : 0 ≤ (cx).toInt ∧ (cx).toInt ≤ 6) (I : CX o S) (sz : Nat) : Met l yX2_hasMiner (bw yX2_hasMiner cX2_hasMiner 2 (some .boolean)) ({ frames := 1, cells := 0, slots := 0, locals := 32 } : Room) (dk_Pc g D (dg_w g shX o rfX S) sz [.ref (o + gr), .int a1]) (va_Qi (fun (r : Int32) S' => S' = S ∧ (0 ≤ (r).toInt ∧ (r).toInt ≤ 1) ∧ ((r).toInt = 1 ↔ (0 ≤ (a1).toInt ∧ (a1).toInt < (cx).toInt)) ∧ True) (dg_B g D shX o rfX) (dg_A o shX.length sz)) 0 0 (dg_A o shX.length sz) := by
  refine dg_met (cc := cX2_hasMiner) (maxL := 2) (ret := (some .boolean)) (by decide) rfl (Nat.le_of_ble_eq_true rfl) ?_
  intro p e s m args below meth c A hAe harg hx hb hr hml hts hown hlocks hin hP K hS hA1 hA ST hsz ls hl
  rw [← hAe]
  have F : CallFix p m c cX2_hasMiner 2 s args (bw yX2_hasMiner cX2_hasMiner 2 (some .boolean)) RX2 := ⟨hx, hb, hml, hown, hts⟩
  have hl : lv_has ls 2 [(0, .ref (o + gr)), (1, .int a1)] := hl
  have M_0 : dg_sm shX [] [] S S := dg_sm.rf
  refine lv_iload_n hx hb dX2_hasMiner_0 rfl (lv_at hl 1 rfl) ?_
  refine lv_if_lt (tgt := 16) hx hb dX2_hasMiner_1 (by decide) (fun c_1 => ?_) (fun c_1 => ?_)
  · have jc_1 := dk_ltc (k := 0) (by decide +kernel) c_1
    refine lv_iconst (v := 0) hx hb dX2_hasMiner_16 (by decide +kernel) ?_
    have hz_2 : (0 : Int32).toInt = 0 := by decide +kernel
    have hz_3 : (0 : Int32).toInt = 0 := by decide +kernel
    refine W.widen (k := 0) (n := 0) (Nat.le_of_ble_eq_true rfl) (Nat.le_of_ble_eq_true rfl) ?_
    exact dg_iret hx hb hr hlocks (by decide +kernel) hP hS ⟨rfl, (by decide +kernel), (by omega), trivial⟩ dX2_hasMiner_17
  · have jc_1 := dk_nltc (k := 0) (by decide +kernel) c_1
    refine lv_iload_n hx hb dX2_hasMiner_4 rfl (lv_at hl 1 rfl) ?_
    refine lv_aload_n hx hb dX2_hasMiner_5 rfl (lv_at hl 0 rfl) ?_
    refine dg_get (C := RX2) (T := TX2) (N := 19) hx hb hts (fun w h => bw_mem (wU_X2 w h)) hown K hP (rX_0 gr hk_gr) rfl 6 (by decide) (hts _ (bw_mem wB_0)) (fun _ h9 => h9) (v := .int cx) f_cx dX2_hasMiner_6 ?_
    refine lv_icmp_ge (tgt := 16) hx hb dX2_hasMiner_9 (by decide) (fun c_4 => ?_) (fun c_4 => ?_)
    · have hf_4 := dk_full a1
      have jc_4 := dk_gec (k := (cx).toInt) rfl c_4
      refine lv_iconst (v := 0) hx hb dX2_hasMiner_16 (by decide +kernel) ?_
      have hz_6 : (0 : Int32).toInt = 0 := by decide +kernel
      have hz_7 : (0 : Int32).toInt = 0 := by decide +kernel
      refine W.widen (k := 0) (n := 0) (Nat.le_of_ble_eq_true rfl) (Nat.le_of_ble_eq_true rfl) ?_
      exact dg_iret hx hb hr hlocks (by decide +kernel) hP hS ⟨rfl, (by decide +kernel), (by omega), trivial⟩ dX2_hasMiner_17
    · have hf_7 := dk_full a1
      have jc_4 := dk_ngec (k := (cx).toInt) rfl c_4
      refine lv_iconst (v := 1) hx hb dX2_hasMiner_12 (by decide +kernel) ?_
      refine lv_goto (tgt := 17) hx hb dX2_hasMiner_13 (by decide) ?_
      have hz_9 : (1 : Int32).toInt = 1 := by decide +kernel
      have hz_10 : (1 : Int32).toInt = 1 := by decide +kernel
      refine W.widen (k := 0) (n := 0) (Nat.le_of_ble_eq_true rfl) (Nat.le_of_ble_eq_true rfl) ?_
      exact dg_iret hx hb hr hlocks (by decide +kernel) hP hS ⟨rfl, (by decide +kernel), (by omega), trivial⟩ dX2_hasMiner_17
set_option maxHeartbeats 8000000 in
set_option maxRecDepth 100000 in
theorem c_g_hasPlanRow (l : Launch) (g : Nat → ClassId) (D : va_G) (o : Nat) (S : dg_S) (gr : Nat) (hk_gr : rX gr) (a1 : Int32) (cx : Int32) (f_cx : S.1 gr 8 = .int cx) (b_cx : 0 ≤ (cx).toInt ∧ (cx).toInt ≤ 16) (I : CX o S) (sz : Nat) : Met l yX2_hasPlanRow (bw yX2_hasPlanRow cX2_hasPlanRow 2 (some .boolean)) ({ frames := 1, cells := 0, slots := 0, locals := 32 } : Room) (dk_Pc g D (dg_w g shX o rfX S) sz [.ref (o + gr), .int a1]) (va_Qi (fun (r : Int32) S' => S' = S ∧ (0 ≤ (r).toInt ∧ (r).toInt ≤ 1) ∧ ((r).toInt = 1 ↔ (0 ≤ (a1).toInt ∧ (a1).toInt < (cx).toInt)) ∧ True) (dg_B g D shX o rfX) (dg_A o shX.length sz)) 0 0 (dg_A o shX.length sz) := by
  refine dg_met (cc := cX2_hasPlanRow) (maxL := 2) (ret := (some .boolean)) (by decide) rfl (Nat.le_of_ble_eq_true rfl) ?_
  intro p e s m args below meth c A hAe harg hx hb hr hml hts hown hlocks hin hP K hS hA1 hA ST hsz ls hl
  rw [← hAe]
  have F : CallFix p m c cX2_hasPlanRow 2 s args (bw yX2_hasPlanRow cX2_hasPlanRow 2 (some .boolean)) RX2 := ⟨hx, hb, hml, hown, hts⟩
  have hl : lv_has ls 2 [(0, .ref (o + gr)), (1, .int a1)] := hl
  have M_0 : dg_sm shX [] [] S S := dg_sm.rf
  refine lv_iload_n hx hb dX2_hasPlanRow_0 rfl (lv_at hl 1 rfl) ?_
  refine lv_if_lt (tgt := 16) hx hb dX2_hasPlanRow_1 (by decide) (fun c_1 => ?_) (fun c_1 => ?_)
  · have jc_1 := dk_ltc (k := 0) (by decide +kernel) c_1
    refine lv_iconst (v := 0) hx hb dX2_hasPlanRow_16 (by decide +kernel) ?_
    have hz_2 : (0 : Int32).toInt = 0 := by decide +kernel
    have hz_3 : (0 : Int32).toInt = 0 := by decide +kernel
    refine W.widen (k := 0) (n := 0) (Nat.le_of_ble_eq_true rfl) (Nat.le_of_ble_eq_true rfl) ?_
    exact dg_iret hx hb hr hlocks (by decide +kernel) hP hS ⟨rfl, (by decide +kernel), (by omega), trivial⟩ dX2_hasPlanRow_17
  · have jc_1 := dk_nltc (k := 0) (by decide +kernel) c_1
    refine lv_iload_n hx hb dX2_hasPlanRow_4 rfl (lv_at hl 1 rfl) ?_
    refine lv_aload_n hx hb dX2_hasPlanRow_5 rfl (lv_at hl 0 rfl) ?_
    refine dg_get (C := RX2) (T := TX2) (N := 19) hx hb hts (fun w h => bw_mem (wU_X2 w h)) hown K hP (rX_0 gr hk_gr) rfl 8 (by decide) (hts _ (bw_mem wB_265)) (fun _ h9 => h9) (v := .int cx) f_cx dX2_hasPlanRow_6 ?_
    refine lv_icmp_ge (tgt := 16) hx hb dX2_hasPlanRow_9 (by decide) (fun c_4 => ?_) (fun c_4 => ?_)
    · have hf_4 := dk_full a1
      have jc_4 := dk_gec (k := (cx).toInt) rfl c_4
      refine lv_iconst (v := 0) hx hb dX2_hasPlanRow_16 (by decide +kernel) ?_
      have hz_6 : (0 : Int32).toInt = 0 := by decide +kernel
      have hz_7 : (0 : Int32).toInt = 0 := by decide +kernel
      refine W.widen (k := 0) (n := 0) (Nat.le_of_ble_eq_true rfl) (Nat.le_of_ble_eq_true rfl) ?_
      exact dg_iret hx hb hr hlocks (by decide +kernel) hP hS ⟨rfl, (by decide +kernel), (by omega), trivial⟩ dX2_hasPlanRow_17
    · have hf_7 := dk_full a1
      have jc_4 := dk_ngec (k := (cx).toInt) rfl c_4
      refine lv_iconst (v := 1) hx hb dX2_hasPlanRow_12 (by decide +kernel) ?_
      refine lv_goto (tgt := 17) hx hb dX2_hasPlanRow_13 (by decide) ?_
      have hz_9 : (1 : Int32).toInt = 1 := by decide +kernel
      have hz_10 : (1 : Int32).toInt = 1 := by decide +kernel
      refine W.widen (k := 0) (n := 0) (Nat.le_of_ble_eq_true rfl) (Nat.le_of_ble_eq_true rfl) ?_
      exact dg_iret hx hb hr hlocks (by decide +kernel) hP hS ⟨rfl, (by decide +kernel), (by omega), trivial⟩ dX2_hasPlanRow_17
set_option maxHeartbeats 8000000 in
set_option maxRecDepth 100000 in
theorem c_g_hasOrder (l : Launch) (g : Nat → ClassId) (D : va_G) (o : Nat) (S : dg_S) (gr : Nat) (hk_gr : rX gr) (a1 : Int32) (cx : Int32) (f_cx : S.1 gr 11 = .int cx) (b_cx : 0 ≤ (cx).toInt ∧ (cx).toInt ≤ 5) (I : CX o S) (sz : Nat) : Met l yX2_hasOrder (bw yX2_hasOrder cX2_hasOrder 2 (some .boolean)) ({ frames := 1, cells := 0, slots := 0, locals := 32 } : Room) (dk_Pc g D (dg_w g shX o rfX S) sz [.ref (o + gr), .int a1]) (va_Qi (fun (r : Int32) S' => S' = S ∧ (0 ≤ (r).toInt ∧ (r).toInt ≤ 1) ∧ ((r).toInt = 1 ↔ (0 ≤ (a1).toInt ∧ (a1).toInt < (cx).toInt)) ∧ True) (dg_B g D shX o rfX) (dg_A o shX.length sz)) 0 0 (dg_A o shX.length sz) := by
  refine dg_met (cc := cX2_hasOrder) (maxL := 2) (ret := (some .boolean)) (by decide) rfl (Nat.le_of_ble_eq_true rfl) ?_
  intro p e s m args below meth c A hAe harg hx hb hr hml hts hown hlocks hin hP K hS hA1 hA ST hsz ls hl
  rw [← hAe]
  have F : CallFix p m c cX2_hasOrder 2 s args (bw yX2_hasOrder cX2_hasOrder 2 (some .boolean)) RX2 := ⟨hx, hb, hml, hown, hts⟩
  have hl : lv_has ls 2 [(0, .ref (o + gr)), (1, .int a1)] := hl
  have M_0 : dg_sm shX [] [] S S := dg_sm.rf
  refine lv_iload_n hx hb dX2_hasOrder_0 rfl (lv_at hl 1 rfl) ?_
  refine lv_if_lt (tgt := 16) hx hb dX2_hasOrder_1 (by decide) (fun c_1 => ?_) (fun c_1 => ?_)
  · have jc_1 := dk_ltc (k := 0) (by decide +kernel) c_1
    refine lv_iconst (v := 0) hx hb dX2_hasOrder_16 (by decide +kernel) ?_
    have hz_2 : (0 : Int32).toInt = 0 := by decide +kernel
    have hz_3 : (0 : Int32).toInt = 0 := by decide +kernel
    refine W.widen (k := 0) (n := 0) (Nat.le_of_ble_eq_true rfl) (Nat.le_of_ble_eq_true rfl) ?_
    exact dg_iret hx hb hr hlocks (by decide +kernel) hP hS ⟨rfl, (by decide +kernel), (by omega), trivial⟩ dX2_hasOrder_17
  · have jc_1 := dk_nltc (k := 0) (by decide +kernel) c_1
    refine lv_iload_n hx hb dX2_hasOrder_4 rfl (lv_at hl 1 rfl) ?_
    refine lv_aload_n hx hb dX2_hasOrder_5 rfl (lv_at hl 0 rfl) ?_
    refine dg_get (C := RX2) (T := TX2) (N := 19) hx hb hts (fun w h => bw_mem (wU_X2 w h)) hown K hP (rX_0 gr hk_gr) rfl 11 (by decide) (hts _ (bw_mem wB_2)) (fun _ h9 => h9) (v := .int cx) f_cx dX2_hasOrder_6 ?_
    refine lv_icmp_ge (tgt := 16) hx hb dX2_hasOrder_9 (by decide) (fun c_4 => ?_) (fun c_4 => ?_)
    · have hf_4 := dk_full a1
      have jc_4 := dk_gec (k := (cx).toInt) rfl c_4
      refine lv_iconst (v := 0) hx hb dX2_hasOrder_16 (by decide +kernel) ?_
      have hz_6 : (0 : Int32).toInt = 0 := by decide +kernel
      have hz_7 : (0 : Int32).toInt = 0 := by decide +kernel
      refine W.widen (k := 0) (n := 0) (Nat.le_of_ble_eq_true rfl) (Nat.le_of_ble_eq_true rfl) ?_
      exact dg_iret hx hb hr hlocks (by decide +kernel) hP hS ⟨rfl, (by decide +kernel), (by omega), trivial⟩ dX2_hasOrder_17
    · have hf_7 := dk_full a1
      have jc_4 := dk_ngec (k := (cx).toInt) rfl c_4
      refine lv_iconst (v := 1) hx hb dX2_hasOrder_12 (by decide +kernel) ?_
      refine lv_goto (tgt := 17) hx hb dX2_hasOrder_13 (by decide) ?_
      have hz_9 : (1 : Int32).toInt = 1 := by decide +kernel
      have hz_10 : (1 : Int32).toInt = 1 := by decide +kernel
      refine W.widen (k := 0) (n := 0) (Nat.le_of_ble_eq_true rfl) (Nat.le_of_ble_eq_true rfl) ?_
      exact dg_iret hx hb hr hlocks (by decide +kernel) hP hS ⟨rfl, (by decide +kernel), (by omega), trivial⟩ dX2_hasOrder_17
set_option maxHeartbeats 8000000 in
set_option maxRecDepth 100000 in
theorem c_g_endOfPlaces (l : Launch) (g : Nat → ClassId) (D : va_G) (o : Nat) (S : dg_S) (gr : Nat) (hk_gr : rX gr) (I : CX o S) (sz : Nat) : Met l yX2_endOfPlaces (bw yX2_endOfPlaces cX2_endOfPlaces 1 (some .int)) ({ frames := 1, cells := 0, slots := 0, locals := 32 } : Room) (dk_Pc g D (dg_w g shX o rfX S) sz [.ref (o + gr)]) (va_Qi (fun (r : Int32) S' => S' = S ∧ (8 ≤ (r).toInt ∧ (r).toInt ≤ 64) ∧ True) (dg_B g D shX o rfX) (dg_A o shX.length sz)) 0 0 (dg_A o shX.length sz) := by
  refine dg_met (cc := cX2_endOfPlaces) (maxL := 1) (ret := (some .int)) (by decide) rfl (Nat.le_of_ble_eq_true rfl) ?_
  intro p e s m args below meth c A hAe harg hx hb hr hml hts hown hlocks hin hP K hS hA1 hA ST hsz ls hl
  rw [← hAe]
  have F : CallFix p m c cX2_endOfPlaces 1 s args (bw yX2_endOfPlaces cX2_endOfPlaces 1 (some .int)) RX2 := ⟨hx, hb, hml, hown, hts⟩
  have hl : lv_has ls 1 [(0, .ref (o + gr))] := hl
  have M_0 : dg_sm shX [] [] S S := dg_sm.rf
  refine lv_bipush (v := 8) hx hb dX2_endOfPlaces_0 (by decide +kernel) ?_
  refine lv_aload_n hx hb dX2_endOfPlaces_2 rfl (lv_at hl 0 rfl) ?_
  obtain ⟨x_1, f_x_1, b_x_1⟩ := dg_I.int (i := gr) (k := 1) (lo := 0) (hi := 7) I (rX_0 gr hk_gr) (by decide +kernel)
  refine dg_get (C := RX2) (T := TX2) (N := 19) hx hb hts (fun w h => bw_mem (wU_X2 w h)) hown K hP (rX_0 gr hk_gr) rfl 1 (by decide) (hts _ (bw_mem wB_12)) (fun _ h9 => h9) (v := .int x_1) f_x_1 dX2_endOfPlaces_3 ?_
  refine lv_imul hx hb dX2_endOfPlaces_6 ?_
  refine lv_topi (fun x_2 ex_2 => ?_)
  have jx_2 : (x_2).toInt = 8 * (x_1).toInt := by rw [ex_2]; exact dk_mulT (by decide +kernel) rfl (by omega) (by omega)
  refine lv_bipush (v := 8) hx hb dX2_endOfPlaces_7 (by decide +kernel) ?_
  refine lv_iadd hx hb dX2_endOfPlaces_9 ?_
  refine lv_topi (fun x_3 ex_3 => ?_)
  have jx_3 : (x_3).toInt = (x_2).toInt + 8 := by rw [ex_3]; exact dk_addT rfl (by decide +kernel) (by omega) (by omega)
  refine W.widen (k := 0) (n := 0) (Nat.le_of_ble_eq_true rfl) (Nat.le_of_ble_eq_true rfl) ?_
  exact dg_iret hx hb hr hlocks rfl hP hS ⟨rfl, (by omega), trivial⟩ dX2_endOfPlaces_10
set_option maxHeartbeats 8000000 in
set_option maxRecDepth 100000 in
theorem c_g0_hasRule (l : Launch) (g : Nat → ClassId) (D : va_G) (o : Nat) (S : dg_S) (gr : Nat) (hk_gr : rX gr) (a1 : Int32) (b_a1 : 0 ≤ (a1).toInt ∧ (a1).toInt ≤ 2) (I : CX o S) (sz : Nat) : Met l yX2_hasRule (bw yX2_hasRule cX2_hasRule 2 (some .boolean)) ({ frames := 1, cells := 0, slots := 0, locals := 32 } : Room) (dk_Pc g D (dg_w g shX o rfX S) sz [.ref (o + gr), .int a1]) (va_Qi (fun (r : Int32) S' => S' = S ∧ (0 ≤ (r).toInt ∧ (r).toInt ≤ 1) ∧ True) (dg_B g D shX o rfX) (dg_A o shX.length sz)) 0 0 (dg_A o shX.length sz) := by
  refine dg_met (cc := cX2_hasRule) (maxL := 2) (ret := (some .boolean)) (by decide) rfl (Nat.le_of_ble_eq_true rfl) ?_
  intro p e s m args below meth c A hAe harg hx hb hr hml hts hown hlocks hin hP K hS hA1 hA ST hsz ls hl
  rw [← hAe]
  have F : CallFix p m c cX2_hasRule 2 s args (bw yX2_hasRule cX2_hasRule 2 (some .boolean)) RX2 := ⟨hx, hb, hml, hown, hts⟩
  have hl : lv_has ls 2 [(0, .ref (o + gr)), (1, .int a1)] := hl
  have M_0 : dg_sm shX [] [] S S := dg_sm.rf
  refine lv_aload_n hx hb dX2_hasRule_0 rfl (lv_at hl 0 rfl) ?_
  refine dg_get (C := RX2) (T := TX2) (N := 19) hx hb hts (fun w h => bw_mem (wU_X2 w h)) hown K hP (rX_0 gr hk_gr) rfl 18 (by decide) (hts _ (bw_mem wB_9)) (fun _ h9 => h9) (v := .ref (o + (gr + 11))) (show S.1 gr 18 = .ref (o + (gr + 11)) from dg_I.rel (d := 11) I (rX_0 gr hk_gr) (by decide +kernel)) dX2_hasRule_1 ?_
  refine lv_iload_n hx hb dX2_hasRule_4 rfl (lv_at hl 1 rfl) ?_
  have hin_1 : vp_in a1 3 := (dk_inv (by omega) (by omega))
  refine dg_iald hx hb K hP (rX_11 gr hk_gr) hin_1 dX2_hasRule_5 (fun x_2 ex_2 => ?_)
  have b_x_2 := dk_all_at (dg_I.row (lo := 0) (hi := 1600) I (rX_11 gr hk_gr) (by decide +kernel)) hin_1 ex_2
  refine lv_aload_n hx hb dX2_hasRule_6 rfl (lv_at hl 0 rfl) ?_
  refine dg_get (C := RX2) (T := TX2) (N := 19) hx hb hts (fun w h => bw_mem (wU_X2 w h)) hown K hP (rX_0 gr hk_gr) rfl 17 (by decide) (hts _ (bw_mem wB_10)) (fun _ h9 => h9) (v := .ref (o + (gr + 10))) (show S.1 gr 17 = .ref (o + (gr + 10)) from dg_I.rel (d := 10) I (rX_0 gr hk_gr) (by decide +kernel)) dX2_hasRule_7 ?_
  refine lv_iload_n hx hb dX2_hasRule_10 rfl (lv_at hl 1 rfl) ?_
  have hin_3 : vp_in a1 3 := (dk_inv (by omega) (by omega))
  refine dg_iald hx hb K hP (rX_10 gr hk_gr) hin_3 dX2_hasRule_11 (fun x_4 ex_4 => ?_)
  have b_x_4 := dk_all_at (dg_I.row (lo := 0) (hi := 1600) I (rX_10 gr hk_gr) (by decide +kernel)) hin_3 ex_4
  refine lv_icmp_le (tgt := 19) hx hb dX2_hasRule_12 (by decide) (fun c_5 => ?_) (fun c_5 => ?_)
  · have jc_5 := dk_lec (k := (x_4).toInt) rfl c_5
    refine lv_iconst (v := 0) hx hb dX2_hasRule_19 (by decide +kernel) ?_
    have hz_6 : (0 : Int32).toInt = 0 := by decide +kernel
    refine W.widen (k := 0) (n := 0) (Nat.le_of_ble_eq_true rfl) (Nat.le_of_ble_eq_true rfl) ?_
    exact dg_iret hx hb hr hlocks (by decide +kernel) hP hS ⟨rfl, (by decide +kernel), trivial⟩ dX2_hasRule_20
  · have jc_5 := dk_nlec (k := (x_4).toInt) rfl c_5
    refine lv_iconst (v := 1) hx hb dX2_hasRule_15 (by decide +kernel) ?_
    refine lv_goto (tgt := 20) hx hb dX2_hasRule_16 (by decide) ?_
    have hz_7 : (1 : Int32).toInt = 1 := by decide +kernel
    refine W.widen (k := 0) (n := 0) (Nat.le_of_ble_eq_true rfl) (Nat.le_of_ble_eq_true rfl) ?_
    exact dg_iret hx hb hr hlocks (by decide +kernel) hP hS ⟨rfl, (by decide +kernel), trivial⟩ dX2_hasRule_20
