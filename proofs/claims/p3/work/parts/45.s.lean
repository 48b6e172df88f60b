/-! 45.s.lean.txt -/
theorem dX12_reads_0 : decode cX12_reads 0 = .ok (.aload_n 0, 1) := by decide +kernel
theorem dX12_reads_1 : decode cX12_reads 1 = .ok (.getfield 36, 3) := by decide +kernel
theorem dX12_reads_4 : decode cX12_reads 4 = .ok (.ifCond .le 4, 3) := by decide +kernel
theorem dX12_reads_7 : decode cX12_reads 7 = .ok (.return_, 1) := by decide +kernel
theorem dX12_reads_8 : decode cX12_reads 8 = .ok (.aload_n 0, 1) := by decide +kernel
theorem dX12_reads_9 : decode cX12_reads 9 = .ok (.iconst 0, 1) := by decide +kernel
theorem dX12_reads_10 : decode cX12_reads 10 = .ok (.putfield 140, 3) := by decide +kernel
theorem dX12_reads_13 : decode cX12_reads 13 = .ok (.aload_n 0, 1) := by decide +kernel
theorem dX12_reads_14 : decode cX12_reads 14 = .ok (.iconst 0, 1) := by decide +kernel
theorem dX12_reads_15 : decode cX12_reads 15 = .ok (.putfield 143, 3) := by decide +kernel
theorem dX12_reads_18 : decode cX12_reads 18 = .ok (.aload_n 0, 1) := by decide +kernel
theorem dX12_reads_19 : decode cX12_reads 19 = .ok (.iconst 0, 1) := by decide +kernel
theorem dX12_reads_20 : decode cX12_reads 20 = .ok (.putfield 149, 3) := by decide +kernel
theorem dX12_reads_23 : decode cX12_reads 23 = .ok (.aload_n 0, 1) := by decide +kernel
theorem dX12_reads_24 : decode cX12_reads 24 = .ok (.iconst 0, 1) := by decide +kernel
theorem dX12_reads_25 : decode cX12_reads 25 = .ok (.putfield 152, 3) := by decide +kernel
theorem dX12_reads_28 : decode cX12_reads 28 = .ok (.aload_n 0, 1) := by decide +kernel
theorem dX12_reads_29 : decode cX12_reads 29 = .ok (.iload_n 1, 1) := by decide +kernel
theorem dX12_reads_30 : decode cX12_reads 30 = .ok (.ifCond .eq 7, 3) := by decide +kernel
theorem dX12_reads_33 : decode cX12_reads 33 = .ok (.iconst 1, 1) := by decide +kernel
theorem dX12_reads_34 : decode cX12_reads 34 = .ok (.goto 4, 3) := by decide +kernel
theorem dX12_reads_37 : decode cX12_reads 37 = .ok (.iconst 0, 1) := by decide +kernel
theorem dX12_reads_38 : decode cX12_reads 38 = .ok (.invokevirtual 343, 3) := by decide +kernel
theorem dX12_reads_41 : decode cX12_reads 41 = .ok (.iconst 1, 1) := by decide +kernel
theorem dX12_reads_42 : decode cX12_reads 42 = .ok (.istore_n 2, 1) := by decide +kernel
theorem dX12_reads_43 : decode cX12_reads 43 = .ok (.iload_n 2, 1) := by decide +kernel
theorem dX12_reads_44 : decode cX12_reads 44 = .ok (.ifCond .eq 46, 3) := by decide +kernel
theorem dX12_reads_47 : decode cX12_reads 47 = .ok (.aload_n 0, 1) := by decide +kernel
theorem dX12_reads_48 : decode cX12_reads 48 = .ok (.getfield 152, 3) := by decide +kernel
theorem dX12_reads_51 : decode cX12_reads 51 = .ok (.ifCond .ne 14, 3) := by decide +kernel
theorem dX12_reads_54 : decode cX12_reads 54 = .ok (.aload_n 0, 1) := by decide +kernel
theorem dX12_reads_55 : decode cX12_reads 55 = .ok (.aload_n 0, 1) := by decide +kernel
theorem dX12_reads_56 : decode cX12_reads 56 = .ok (.invokevirtual 362, 3) := by decide +kernel
theorem dX12_reads_59 : decode cX12_reads 59 = .ok (.putfield 152, 3) := by decide +kernel
theorem dX12_reads_62 : decode cX12_reads 62 = .ok (.goto 8, 3) := by decide +kernel
theorem dX12_reads_65 : decode cX12_reads 65 = .ok (.aload_n 0, 1) := by decide +kernel
theorem dX12_reads_66 : decode cX12_reads 66 = .ok (.invokevirtual 365, 3) := by decide +kernel
theorem dX12_reads_69 : decode cX12_reads 69 = .ok (.istore_n 2, 1) := by decide +kernel
theorem dX12_reads_70 : decode cX12_reads 70 = .ok (.iload_n 2, 1) := by decide +kernel
theorem dX12_reads_71 : decode cX12_reads 71 = .ok (.ifCond .eq 14, 3) := by decide +kernel
theorem dX12_reads_74 : decode cX12_reads 74 = .ok (.aload_n 0, 1) := by decide +kernel
theorem dX12_reads_75 : decode cX12_reads 75 = .ok (.getfield 36, 3) := by decide +kernel
theorem dX12_reads_78 : decode cX12_reads 78 = .ok (.ifCond .ne 7, 3) := by decide +kernel
theorem dX12_reads_81 : decode cX12_reads 81 = .ok (.iconst 1, 1) := by decide +kernel
theorem dX12_reads_82 : decode cX12_reads 82 = .ok (.goto 4, 3) := by decide +kernel
theorem dX12_reads_85 : decode cX12_reads 85 = .ok (.iconst 0, 1) := by decide +kernel
theorem dX12_reads_86 : decode cX12_reads 86 = .ok (.istore_n 2, 1) := by decide +kernel
theorem dX12_reads_87 : decode cX12_reads 87 = .ok (.goto (-44), 3) := by decide +kernel
theorem dX12_reads_90 : decode cX12_reads 90 = .ok (.return_, 1) := by decide +kernel
theorem wB_1238 : Cond.code yX12_operand cX12_operand 4 (some .boolean) ∈ dgB := List.mem_filter.mpr ⟨tbl_8 _ (List.mem_of_getElem? (i := 76) rfl), rfl⟩
theorem wB_1239 : Cond.methodLink RX12 362 yX12_operand ∈ dgB := List.mem_filter.mpr ⟨tbl_8 _ (List.mem_of_getElem? (i := 73) (by decide +kernel)), by decide +kernel⟩
theorem wB_1240 : Cond.instanceMethod yX12_operand ∈ dgB := List.mem_filter.mpr ⟨tbl_8 _ (List.mem_of_getElem? (i := 75) (by decide +kernel)), by decide +kernel⟩
theorem wB_1241 : Cond.selects RX12 yX12_operand yX12_operand ∈ dgB := List.mem_filter.mpr ⟨List.mem_of_getElem? (i := 108) (by decide +kernel), by decide +kernel⟩
theorem wB_1242 : Cond.code yX12_goesOn cX12_goesOn 5 (some .boolean) ∈ dgB := List.mem_filter.mpr ⟨tbl_8 _ (List.mem_of_getElem? (i := 95) rfl), rfl⟩
theorem wB_1243 : Cond.methodLink RX12 365 yX12_goesOn ∈ dgB := List.mem_filter.mpr ⟨tbl_8 _ (List.mem_of_getElem? (i := 92) (by decide +kernel)), by decide +kernel⟩
theorem wB_1244 : Cond.instanceMethod yX12_goesOn ∈ dgB := List.mem_filter.mpr ⟨tbl_8 _ (List.mem_of_getElem? (i := 94) (by decide +kernel)), by decide +kernel⟩
theorem wB_1245 : Cond.selects RX12 yX12_goesOn yX12_goesOn ∈ dgB := List.mem_filter.mpr ⟨List.mem_of_getElem? (i := 112) (by decide +kernel), by decide +kernel⟩
set_option maxHeartbeats 8000000 in
set_option maxRecDepth 100000 in
theorem c_m_reads (l : Launch) (g : Nat → ClassId) (D : va_G) (o : Nat) (S : dg_S) (a1 : Int32) (b_a1 : 0 ≤ (a1).toInt ∧ (a1).toInt ≤ 1) (sg : Int32) (f_sg : S.1 0 3 = .int sg) (b_sg : 0 ≤ (sg).toInt ∧ (sg).toInt ≤ 3) (sa : Int32) (f_sa : S.1 0 4 = .int sa) (b_sa : 0 ≤ (sa).toInt ∧ (sa).toInt ≤ 1600) (se : Int32) (f_se : S.1 0 5 = .int se) (b_se : 0 ≤ (se).toInt ∧ (se).toInt ≤ 1600) (sl : Int32) (f_sl : S.1 0 2 = .int sl) (b_sl : 0 ≤ (sl).toInt ∧ (sl).toInt ≤ 1600) (fk : Int32) (f_fk : S.1 0 8 = .int fk) (b_fk : 0 ≤ (fk).toInt ∧ (fk).toInt ≤ 6) (cd : Int32) (f_cd : S.1 0 34 = .int cd) (b_cd : 0 ≤ (cd).toInt ∧ (cd).toInt ≤ 1600) (hlx : (sa).toInt ≤ (se).toInt ∧ (se).toInt ≤ (sl).toInt ∧ ((sg).toInt ≠ 0 → (sa).toInt + 1 ≤ (se).toInt)) (hro : (cd).toInt + 1 ≤ (sa).toInt) (hq : QSM S 0) (ZW : ZWM S) (ZK : ZKM S) (I : CM o S) (sz : Nat) : Met l yX12_reads (bw yX12_reads cX12_reads 3 none) ({ frames := 5, cells := 0, slots := 0, locals := 121 } : Room) (dk_Pc g D (dg_w g shM o rfM S) sz [.ref (o + 0), .int a1]) (va_Qv (fun S' => CM o S' ∧ dg_sm shM [(0, 3), (0, 4), (0, 5), (0, 6), (0, 7), (0, 8), (0, 9), (0, 12), (0, 34), (0, 42), (0, 43), (0, 45), (0, 46)] [18, 19, 22, 23, 24, 25, 26, 27] S S' ∧ (∃ y9_3 y9_4 y9_5 y9_8 y9_34 : Int32, S'.1 0 3 = .int y9_3 ∧ S'.1 0 4 = .int y9_4 ∧ S'.1 0 5 = .int y9_5 ∧ S'.1 0 8 = .int y9_8 ∧ S'.1 0 34 = .int y9_34 ∧ (((y9_4).toInt ≤ (y9_5).toInt ∧ (y9_5).toInt ≤ (sl).toInt ∧ ((y9_3).toInt ≠ 0 → (y9_4).toInt + 1 ≤ (y9_5).toInt)) ∧ (sa).toInt ≤ (y9_4).toInt ∧ ((fk).toInt ≠ 0 → (y9_8).toInt ≠ 0) ∧ ((y9_8).toInt = 0 → (y9_34).toInt ≤ (y9_4).toInt))) ∧ (∀ k9 : Int32, S'.1 0 8 = .int k9 → k9.toInt = 0 → QEM S') ∧ ZWM S' ∧ True) (dg_B g D shM o rfM) (dg_A o shM.length sz)) 0 0 (dg_A o shM.length sz) := by
  refine dg_met (cc := cX12_reads) (maxL := 3) (ret := none) (by decide) rfl (Nat.le_of_ble_eq_true rfl) ?_
  intro p e s m args below meth c A hAe harg hx hb hr hml hts hown hlocks hin hP K hS hA1 hA ST hsz ls hl
  rw [← hAe]
  have F : CallFix p m c cX12_reads 3 s args (bw yX12_reads cX12_reads 3 none) RX12 := ⟨hx, hb, hml, hown, hts⟩
  have hl : lv_has ls 3 [(0, .ref (o + 0)), (1, .int a1)] := hl
  have M_0 : dg_sm shM [(0, 3), (0, 4), (0, 5), (0, 6), (0, 7), (0, 8), (0, 9), (0, 12), (0, 34), (0, 42), (0, 43), (0, 45), (0, 46)] [18, 19, 22, 23, 24, 25, 26, 27] S S := dg_sm.rf
  obtain ⟨Q9, hQ9⟩ : ∃ Q : State → Prop, Q = MQ below (va_Qv (fun S' => CM o S' ∧ dg_sm shM [(0, 3), (0, 4), (0, 5), (0, 6), (0, 7), (0, 8), (0, 9), (0, 12), (0, 34), (0, 42), (0, 43), (0, 45), (0, 46)] [18, 19, 22, 23, 24, 25, 26, 27] S S' ∧ (∃ y9_3 y9_4 y9_5 y9_8 y9_34 : Int32, S'.1 0 3 = .int y9_3 ∧ S'.1 0 4 = .int y9_4 ∧ S'.1 0 5 = .int y9_5 ∧ S'.1 0 8 = .int y9_8 ∧ S'.1 0 34 = .int y9_34 ∧ (((y9_4).toInt ≤ (y9_5).toInt ∧ (y9_5).toInt ≤ (sl).toInt ∧ ((y9_3).toInt ≠ 0 → (y9_4).toInt + 1 ≤ (y9_5).toInt)) ∧ (sa).toInt ≤ (y9_4).toInt ∧ ((fk).toInt ≠ 0 → (y9_8).toInt ≠ 0) ∧ ((y9_8).toInt = 0 → (y9_34).toInt ≤ (y9_4).toInt))) ∧ (∀ k9 : Int32, S'.1 0 8 = .int k9 → k9.toInt = 0 → QEM S') ∧ ZWM S' ∧ True) (dg_B g D shM o rfM) A) args s 0 0 A := ⟨_, rfl⟩
  rw [← hQ9]
  obtain ⟨hlx_0, hlx_1, hlx_2⟩ := hlx
  refine lv_aload_n hx hb dX12_reads_0 rfl (lv_at hl 0 rfl) ?_
  refine dg_get (C := RX12) (T := TX12) (N := 77) hx hb hts (fun w h => bw_mem (wU_X12 w h)) hown K hP sM_0 rfl 8 (by decide) (hts _ (bw_mem wB_1133)) (fun _ h9 => h9) (v := .int fk) f_fk dX12_reads_1 ?_
  refine lv_if_le (tgt := 8) hx hb dX12_reads_4 (by decide) (fun c_1 => ?_) (fun c_1 => ?_)
  · have jc_1 := dk_lec (k := 0) (by decide +kernel) c_1
    refine lv_aload_n hx hb dX12_reads_8 rfl (lv_at hl 0 rfl) ?_
    refine lv_iconst (v := 0) hx hb dX12_reads_9 (by decide +kernel) ?_
    have hz_2 : (0 : Int32).toInt = 0 := by decide +kernel
    refine dg_put (ci := 12) (v := .int 0) (ty := tyX12 42) (C := RX12) (T := TX12) (N := 77) hx hb hts (fun w h => bw_mem (wU_X12 w h)) tyX12 tyX12_ok nmX12 hown K hP hS hA1 sM_0 rfl 42 (by decide) (hts _ (bw_mem wB_1203)) (fun _ h9 => h9) rfl (by decide +kernel) rfl rfl dX12_reads_10 (fun S_3 e_3 H locs hP hS => ?_)
    have I_3 := dg_I.uFi (lo := 0) (hi := 20) I e_3 sM_0 (by decide +kernel) (show 0 ≤ ((0 : Int32)).toInt ∧ ((0 : Int32)).toInt ≤ 20 from (by decide +kernel))
    have M_3 := dg_sm.uF M_0 e_3 sM_0 (by decide)
    refine lv_aload_n hx hb dX12_reads_13 rfl (lv_at hl 0 rfl) ?_
    refine lv_iconst (v := 0) hx hb dX12_reads_14 (by decide +kernel) ?_
    have hz_4 : (0 : Int32).toInt = 0 := by decide +kernel
    refine dg_put (ci := 12) (v := .int 0) (ty := tyX12 43) (C := RX12) (T := TX12) (N := 77) hx hb hts (fun w h => bw_mem (wU_X12 w h)) tyX12 tyX12_ok nmX12 hown K hP hS hA1 sM_0 rfl 43 (by decide) (hts _ (bw_mem wB_1212)) (fun _ h9 => h9) rfl (by decide +kernel) rfl rfl dX12_reads_15 (fun S_5 e_5 H locs hP hS => ?_)
    have I_5 := dg_I.uFi (lo := (-2147483648)) (hi := 2147483647) I_3 e_5 sM_0 (by decide +kernel) (show (-2147483648) ≤ ((0 : Int32)).toInt ∧ ((0 : Int32)).toInt ≤ 2147483647 from (by decide +kernel))
    have M_5 := dg_sm.uF M_3 e_5 sM_0 (by decide)
    refine lv_aload_n hx hb dX12_reads_18 rfl (lv_at hl 0 rfl) ?_
    refine lv_iconst (v := 0) hx hb dX12_reads_19 (by decide +kernel) ?_
    have hz_6 : (0 : Int32).toInt = 0 := by decide +kernel
    refine dg_put (ci := 12) (v := .int 0) (ty := tyX12 45) (C := RX12) (T := TX12) (N := 77) hx hb hts (fun w h => bw_mem (wU_X12 w h)) tyX12 tyX12_ok nmX12 hown K hP hS hA1 sM_0 rfl 45 (by decide) (hts _ (bw_mem wB_1201)) (fun _ h9 => h9) rfl (by decide +kernel) rfl rfl dX12_reads_20 (fun S_7 e_7 H locs hP hS => ?_)
    have I_7 := dg_I.uFi (lo := 0) (hi := 500) I_5 e_7 sM_0 (by decide +kernel) (show 0 ≤ ((0 : Int32)).toInt ∧ ((0 : Int32)).toInt ≤ 500 from (by decide +kernel))
    have M_7 := dg_sm.uF M_5 e_7 sM_0 (by decide)
    refine lv_aload_n hx hb dX12_reads_23 rfl (lv_at hl 0 rfl) ?_
    refine lv_iconst (v := 0) hx hb dX12_reads_24 (by decide +kernel) ?_
    have hz_8 : (0 : Int32).toInt = 0 := by decide +kernel
    refine dg_put (ci := 12) (v := .int 0) (ty := tyX12 46) (C := RX12) (T := TX12) (N := 77) hx hb hts (fun w h => bw_mem (wU_X12 w h)) tyX12 tyX12_ok nmX12 hown K hP hS hA1 sM_0 rfl 46 (by decide) (hts _ (bw_mem wB_1237)) (fun _ h9 => h9) rfl (by decide +kernel) (by decide +kernel) (by decide +kernel) dX12_reads_25 (fun S_9 e_9 H locs hP hS => ?_)
    have I_9 := dg_I.uFi (lo := 0) (hi := 1) I_7 e_9 sM_0 (by decide +kernel) (show 0 ≤ ((0 : Int32)).toInt ∧ ((0 : Int32)).toInt ≤ 1 from (by decide +kernel))
    have M_9 := dg_sm.uF M_7 e_9 sM_0 (by decide)
    refine lv_aload_n hx hb dX12_reads_28 rfl (lv_at hl 0 rfl) ?_
    refine lv_iload_n hx hb dX12_reads_29 rfl (lv_at hl 1 rfl) ?_
    refine lv_if_eq (tgt := 37) hx hb dX12_reads_30 (by decide) (fun c_10 => ?_) (fun c_10 => ?_)
    · have jc_10 := dk_eqc (k := 0) (by decide +kernel) c_10
      refine lv_iconst (v := 0) hx hb dX12_reads_37 (by decide +kernel) ?_
      have hz_11 : (0 : Int32).toInt = 0 := by decide +kernel
      have hz_12 : (0 : Int32).toInt = 0 := by decide +kernel
      have hz_13 : (0 : Int32).toInt = 0 := by decide +kernel
      refine dg_callv hS hA1 hA (va_runV (As := [.int 0]) (rest := []) F (c_m_pushes l g D o S_9 0 (by decide +kernel) 0 (((dg_uF_ne e_9 (fun z => absurd z.2 (by decide))).trans ((dg_uF_ne e_7 (fun z => absurd z.2 (by decide))).trans (dg_uF_ne e_5 (fun z => absurd z.2 (by decide))))).trans (dg_uF_at e_3)) (by decide +kernel) 0 ((dg_uF_ne e_9 (fun z => absurd z.2 (by decide))).trans (dg_uF_at e_7)) (by decide +kernel) I_9 H.size) (cwV 1 hts (bw_V wB_1217 wB_1218 wB_1219 wB_881 wB_1216) rfl rfl rfl (by decide +kernel) ⟨Nat.le_of_ble_eq_true rfl, Nat.le_of_ble_eq_true rfl⟩) (dg_preV sM_0 rfl K ST hP hS hA1 hA) rfl rfl hl.1 rfl (lv_room (Nat.le_of_ble_eq_true rfl)) dX12_reads_38 ⟨Nat.le_of_ble_eq_true rfl, Nat.le_of_ble_eq_true rfl⟩) (fun S_14 hw_14 H locs hP hS => ?_)
      obtain ⟨I_14, m_14, w_14_0, w_14_1, -⟩ := hw_14
      have M_14 := dg_sm.tr M_9 m_14 (by decide) (by decide)
      have hz_15 : (0 : Int32).toInt = 0 := by decide +kernel
      have hz_16 : (0 : Int32).toInt = 0 := by decide +kernel
      have hz_17 : (0 : Int32).toInt = 0 := by decide +kernel
      obtain ⟨y_18, f_y_18, w_14_0⟩ := w_14_0
      have w_14_0 : (y_18).toInt = ((0 : Int32)).toInt + 1 := w_14_0
      have b_y_18 : 0 ≤ (y_18).toInt ∧ (y_18).toInt ≤ 20 := dg_I.intb (lo := 0) (hi := 20) I_14 sM_0 (by decide +kernel) f_y_18
      have w_14_1 : PUM S_9 S_14 (0 : Int32) := w_14_1
      have P0_14 : P0M S_14 := P0M.first (QSM.keep (QSM.keep (QSM.keep (QSM.keep hq (dg_sm.uF (WF := [(0, 42)]) (WA := []) dg_sm.rf e_3 sM_0 (by decide)) (by decide) (by decide) (by decide) (by decide) (by decide) (by decide)) (dg_sm.uF (WF := [(0, 43)]) (WA := []) dg_sm.rf e_5 sM_0 (by decide)) (by decide) (by decide) (by decide) (by decide) (by decide) (by decide)) (dg_sm.uF (WF := [(0, 45)]) (WA := []) dg_sm.rf e_7 sM_0 (by decide)) (by decide) (by decide) (by decide) (by decide) (by decide) (by decide)) (dg_sm.uF (WF := [(0, 46)]) (WA := []) dg_sm.rf e_9 sM_0 (by decide)) (by decide) (by decide) (by decide) (by decide) (by decide) (by decide)) (dp := 0) (on := 0) (om := 0) (((dg_uF_ne e_9 (fun z => absurd z.2 (by decide))).trans ((dg_uF_ne e_7 (fun z => absurd z.2 (by decide))).trans (dg_uF_ne e_5 (fun z => absurd z.2 (by decide))))).trans (dg_uF_at e_3)) (((dg_uF_ne e_9 (fun z => absurd z.2 (by decide))).trans (dg_uF_ne e_7 (fun z => absurd z.2 (by decide)))).trans (dg_uF_at e_5)) ((dg_uF_ne e_9 (fun z => absurd z.2 (by decide))).trans (dg_uF_at e_7)) (by decide +kernel) (by decide +kernel) (by decide +kernel) w_14_1 m_14 (by decide +kernel)
      have hpo0 : POM S_14 := POM.mk0 P0_14 ((m_14.1 0 46 _ sM_0 (by decide)).trans (dg_uF_at e_9)) (by decide +kernel)
      refine lv_iconst (v := 1) hx hb dX12_reads_41 (by decide +kernel) ?_
      refine lv_istore_n (lv' := [(2, .int 1), (0, .ref (o + 0)), (1, .int a1)]) hx hb dX12_reads_42 rfl hl (by decide) rfl (fun ls hl => ?_)
      have L_83 : ∀ (n : Nat) (x_73 : Int32) (x_74 : Int32) (x_75 : Int32) (x_76 : Int32) (x_77 : Int32) (x_78 : Int32) (x_79 : Int32) (x_80 : Int32) (x_81 : Int32), (0 ≤ (x_73).toInt ∧ (x_73).toInt ≤ 1) → (0 ≤ (x_74).toInt ∧ (x_74).toInt ≤ 3) → (0 ≤ (x_75).toInt ∧ (x_75).toInt ≤ 1600) → (0 ≤ (x_76).toInt ∧ (x_76).toInt ≤ 1600) → (0 ≤ (x_77).toInt ∧ (x_77).toInt ≤ 6) → (0 ≤ (x_78).toInt ∧ (x_78).toInt ≤ 1600) → (0 ≤ (x_79).toInt ∧ (x_79).toInt ≤ 20) → (0 ≤ (x_80).toInt ∧ (x_80).toInt ≤ 500) → (0 ≤ (x_81).toInt ∧ (x_81).toInt ≤ 1) → (((x_73).toInt + 1600 - (x_75).toInt).toNat < n) → ∀ S_82 : dg_S, CM o S_82 → dg_sm shM [(0, 3), (0, 4), (0, 5), (0, 6), (0, 7), (0, 8), (0, 9), (0, 12), (0, 34), (0, 42), (0, 43), (0, 45), (0, 46)] [18, 19, 22, 23, 24, 25, 26, 27] S S_82 → S_82.1 0 3 = .int x_74 → S_82.1 0 4 = .int x_75 → S_82.1 0 5 = .int x_76 → S_82.1 0 8 = .int x_77 → S_82.1 0 34 = .int x_78 → S_82.1 0 42 = .int x_79 → S_82.1 0 45 = .int x_80 → S_82.1 0 46 = .int x_81 → ZWM S_82 → (((x_75).toInt ≤ (x_76).toInt ∧ (x_76).toInt ≤ (sl).toInt ∧ ((x_74).toInt ≠ 0 → (x_75).toInt + 1 ≤ (x_76).toInt)) ∧ (sa).toInt ≤ (x_75).toInt) → ((x_73 : Int32).toInt = 1 → (x_77).toInt = 0) → ((x_77).toInt = 0 → (x_78).toInt + (x_80).toInt + (x_79).toInt ≤ (x_75).toInt) → ((x_73 : Int32).toInt = 1 → POM S_82) → ((x_73 : Int32).toInt = 0 → (x_77).toInt = 0 → QEM S_82) → ∀ (H : Heap) (locs : List Loc), va_P D vwCl (dg_w g shM o rfM S_82) H → va_S A s.heap H locs → ∀ ls : Array Slot, lv_has ls 3 [(2, .int x_73), (0, .ref (o + 0)), (1, .int a1)] → W p l e ({ frames := 5, cells := 0, slots := 0, locals := 121 } : Room) s m args below meth c H locs 0 0 Q9 (F0 m 43 ls []) := by
        intro n
        induction n with
        | zero =>
          intro x_73 x_74 x_75 x_76 x_77 x_78 x_79 x_80 x_81 b_x_73 b_x_74 b_x_75 b_x_76 b_x_77 b_x_78 b_x_79 b_x_80 b_x_81 hmu S_82 I_82 M_82 ff_82_3_0 ff_82_4_0 ff_82_5_0 ff_82_8_0 ff_82_34_0 ff_82_42_0 ff_82_45_0 ff_82_46_0 ZW_82 srel_82_0 srel_82_1 srel_82_2 srel_82_3 srel_82_4 H locs hP hS ls hl
          omega
        | succ n ih =>
          intro x_73 x_74 x_75 x_76 x_77 x_78 x_79 x_80 x_81 b_x_73 b_x_74 b_x_75 b_x_76 b_x_77 b_x_78 b_x_79 b_x_80 b_x_81 hmu S_82 I_82 M_82 ff_82_3_0 ff_82_4_0 ff_82_5_0 ff_82_8_0 ff_82_34_0 ff_82_42_0 ff_82_45_0 ff_82_46_0 ZW_82 srel_82_0 srel_82_1 srel_82_2 srel_82_3 srel_82_4 H locs hP hS ls hl
          obtain ⟨⟨srel_82_0_0, srel_82_0_1, srel_82_0_2⟩, srel_82_0_3⟩ := srel_82_0
          refine lv_iload_n hx hb dX12_reads_43 rfl (lv_at hl 0 rfl) ?_
          refine lv_if_eq (tgt := 90) hx hb dX12_reads_44 (by decide) (fun c_84 => ?_) (fun c_84 => ?_)
          · have jc_84 := dk_eqc (k := 0) (by decide +kernel) c_84
            clear srel_82_1
            refine W.widen (k := 0) (n := 0) (Nat.le_of_ble_eq_true rfl) (Nat.le_of_ble_eq_true rfl) ?_
            rw [hQ9]
            exact dg_vret hx hb hr hlocks hP hS ⟨I_82, M_82, ⟨x_74, x_75, x_76, x_77, x_78, ff_82_3_0, ff_82_4_0, ff_82_5_0, ff_82_8_0, ff_82_34_0, (by omega)⟩, (fun k9 hk9 hk0 => by have q9 := (ff_82_8_0).symm.trans hk9; cases q9; exact srel_82_4 (by omega) hk0), ZW_82, trivial⟩ dX12_reads_90
          · have jc_84 := dk_neqc (k := 0) (by decide +kernel) c_84
            have jbc_84 : 1 ≤ (x_73).toInt := by omega
            clear jc_84
            have srel_82_1r := srel_82_1 (by omega)
            clear srel_82_1
            have srel_82_2r := srel_82_2 (by omega)
            clear srel_82_2
            refine lv_aload_n hx hb dX12_reads_47 rfl (lv_at hl 1 rfl) ?_
            refine dg_get (C := RX12) (T := TX12) (N := 77) hx hb hts (fun w h => bw_mem (wU_X12 w h)) hown K hP sM_0 rfl 46 (by decide) (hts _ (bw_mem wB_1237)) (fun _ h9 => h9) (v := .int x_81) ff_82_46_0 dX12_reads_48 ?_
            refine lv_if_ne (tgt := 65) hx hb dX12_reads_51 (by decide) (fun c_85 => ?_) (fun c_85 => ?_)
            · have jc_85 := dk_neqc (k := 0) (by decide +kernel) c_85
              have jbc_85 : 1 ≤ (x_81).toInt := by omega
              clear jc_85
              have P1_82 : P1M S_82 := POM.p1 (srel_82_3 (by omega)) ff_82_46_0 (by omega)
              refine lv_aload_n hx hb dX12_reads_65 rfl (lv_at hl 1 rfl) ?_
              obtain ⟨x_86, f_x_86, b_x_86⟩ := dg_I.int (i := 0) (k := 6) (lo := 0) (hi := 9999) I_82 sM_0 (by decide +kernel)
              obtain ⟨x_87, f_x_87, b_x_87⟩ := dg_I.int (i := 0) (k := 43) (lo := (-2147483648)) (hi := 2147483647) I_82 sM_0 (by decide +kernel)
              refine dg_calli hS hA1 hA (va_runV (As := []) (rest := []) F (c_m_goesOn l g D o S_82 x_74 ff_82_3_0 (by omega) x_75 ff_82_4_0 (by omega) x_76 ff_82_5_0 (by omega) sl ((M_82.1 0 2 _ sM_0 (by decide)).trans f_sl) (by omega) x_77 ff_82_8_0 (by omega) x_86 f_x_86 (by omega) x_78 ff_82_34_0 (by omega) x_79 ff_82_42_0 (by omega) x_87 f_x_87 x_80 ff_82_45_0 (by omega) x_81 ff_82_46_0 (by omega) (by omega) (by omega) ZW_82 (ZKM.keep ZK M_82 (by decide) (by decide)) P1_82 I_82 H.size) (cwV 0 hts (bw_V wB_1243 wB_1244 wB_1245 wB_881 wB_1242) rfl rfl rfl (by decide +kernel) ⟨Nat.le_of_ble_eq_true rfl, Nat.le_of_ble_eq_true rfl⟩) (dg_preV sM_0 rfl K ST hP hS hA1 hA) rfl rfl hl.1 rfl (lv_room (Nat.le_of_ble_eq_true rfl)) dX12_reads_66 ⟨Nat.le_of_ble_eq_true rfl, Nat.le_of_ble_eq_true rfl⟩) (fun x_88 S_89 hw_89 H locs hP hS => ?_)
              obtain ⟨I_89, m_89, w_89_0, w_89_1, w_89_2, w_89_3, -⟩ := hw_89
              have M_89 := dg_sm.tr M_82 m_89 (by decide) (by decide)
              have w_89_0 : 0 ≤ (x_88).toInt ∧ (x_88).toInt ≤ 1 := w_89_0
              obtain ⟨y_90, y_91, y_92, y_93, y_94, y_95, y_96, y_97, f_y_90, f_y_91, f_y_92, f_y_93, f_y_94, f_y_95, f_y_96, f_y_97, w_89_1⟩ := w_89_1
              have w_89_1 : ((y_91).toInt ≤ (y_92).toInt ∧ (y_92).toInt ≤ (sl).toInt ∧ ((y_90).toInt ≠ 0 → (y_91).toInt + 1 ≤ (y_92).toInt)) ∧ (x_75).toInt ≤ (y_91).toInt ∧ ((x_77).toInt ≠ 0 → (y_93).toInt ≠ 0) ∧ (((y_93).toInt = 0 → (x_88).toInt = 1 → (x_75).toInt + 1 ≤ (y_91).toInt) ∧ ((y_93).toInt = 0 → (y_94).toInt + (y_96).toInt + (y_95).toInt ≤ (y_91).toInt)) := w_89_1
              obtain ⟨⟨w_89_1_0, w_89_1_1, w_89_1_2⟩, w_89_1_3, w_89_1_4, ⟨w_89_1_5, w_89_1_6⟩⟩ := w_89_1
              clear w_89_1_4
              have b_y_90 : 0 ≤ (y_90).toInt ∧ (y_90).toInt ≤ 3 := dg_I.intb (lo := 0) (hi := 3) I_89 sM_0 (by decide +kernel) f_y_90
              have b_y_91 : 0 ≤ (y_91).toInt ∧ (y_91).toInt ≤ 1600 := dg_I.intb (lo := 0) (hi := 1600) I_89 sM_0 (by decide +kernel) f_y_91
              have b_y_92 : 0 ≤ (y_92).toInt ∧ (y_92).toInt ≤ 1600 := dg_I.intb (lo := 0) (hi := 1600) I_89 sM_0 (by decide +kernel) f_y_92
              have b_y_93 : 0 ≤ (y_93).toInt ∧ (y_93).toInt ≤ 6 := dg_I.intb (lo := 0) (hi := 6) I_89 sM_0 (by decide +kernel) f_y_93
              have b_y_94 : 0 ≤ (y_94).toInt ∧ (y_94).toInt ≤ 1600 := dg_I.intb (lo := 0) (hi := 1600) I_89 sM_0 (by decide +kernel) f_y_94
              have b_y_95 : 0 ≤ (y_95).toInt ∧ (y_95).toInt ≤ 20 := dg_I.intb (lo := 0) (hi := 20) I_89 sM_0 (by decide +kernel) f_y_95
              have b_y_96 : 0 ≤ (y_96).toInt ∧ (y_96).toInt ≤ 500 := dg_I.intb (lo := 0) (hi := 500) I_89 sM_0 (by decide +kernel) f_y_96
              have b_y_97 : 0 ≤ (y_97).toInt ∧ (y_97).toInt ≤ 1 := dg_I.intb (lo := 0) (hi := 1) I_89 sM_0 (by decide +kernel) f_y_97
              have w_89_2 : ∀ k9 : Int32, S_89.1 0 8 = .int k9 → k9.toInt = 0 → POM S_89 := w_89_2
              refine lv_istore_n (lv' := [(2, .int x_88), (0, .ref (o + 0)), (1, .int a1)]) hx hb dX12_reads_69 rfl hl (by decide) rfl (fun ls hl => ?_)
              refine lv_iload_n hx hb dX12_reads_70 rfl (lv_at hl 0 rfl) ?_
              refine lv_if_eq (tgt := 85) hx hb dX12_reads_71 (by decide) (fun c_98 => ?_) (fun c_98 => ?_)
              · have jc_98 := dk_eqc (k := 0) (by decide +kernel) c_98
                refine lv_iconst (v := 0) hx hb dX12_reads_85 (by decide +kernel) ?_
                refine lv_istore_n (lv' := [(2, .int 0), (0, .ref (o + 0)), (1, .int a1)]) hx hb dX12_reads_86 rfl hl (by decide) rfl (fun ls hl => ?_)
                refine lv_goto (tgt := 43) hx hb dX12_reads_87 (by decide) ?_
                have hz_99 : (0 : Int32).toInt = 0 := by decide +kernel
                have hz_100 : (0 : Int32).toInt = 0 := by decide +kernel
                have hz_101 : (0 : Int32).toInt = 0 := by decide +kernel
                obtain ⟨x_102, f_x_102, b_x_102⟩ := dg_I.int (i := 0) (k := 43) (lo := (-2147483648)) (hi := 2147483647) I_89 sM_0 (by decide +kernel)
                exact ih 0 y_90 y_91 y_92 y_93 y_94 y_95 y_96 y_97 (by decide +kernel) (by omega) (by omega) (by omega) (by omega) (by omega) (by omega) (by omega) (by omega) (by omega) S_89 I_89 M_89 f_y_90 f_y_91 f_y_92 f_y_93 f_y_94 f_y_95 f_y_96 f_y_97 w_89_3 (by omega) (by omega) (by omega) (fun h9 => absurd h9 (by decide +kernel)) (fun _ h8 => POM.qe (w_89_2 _ f_y_93 h8) f_y_97 f_y_95 f_x_102 f_y_96) _ _ hP hS _ (lv_sub hl [0, 1, 2] rfl)
              · have jc_98 := dk_neqc (k := 0) (by decide +kernel) c_98
                have jbc_98 : 1 ≤ (x_88).toInt := by omega
                clear jc_98
                refine lv_aload_n hx hb dX12_reads_74 rfl (lv_at hl 1 rfl) ?_
                refine dg_get (C := RX12) (T := TX12) (N := 77) hx hb hts (fun w h => bw_mem (wU_X12 w h)) hown K hP sM_0 rfl 8 (by decide) (hts _ (bw_mem wB_1133)) (fun _ h9 => h9) (v := .int y_93) f_y_93 dX12_reads_75 ?_
                refine lv_if_ne (tgt := 85) hx hb dX12_reads_78 (by decide) (fun c_103 => ?_) (fun c_103 => ?_)
                · have jc_103 := dk_neqc (k := 0) (by decide +kernel) c_103
                  have jbc_103 : 1 ≤ (y_93).toInt := by omega
                  clear jc_103
                  clear w_89_1_5
                  clear w_89_1_6
                  refine lv_iconst (v := 0) hx hb dX12_reads_85 (by decide +kernel) ?_
                  refine lv_istore_n (lv' := [(2, .int 0), (0, .ref (o + 0)), (1, .int a1)]) hx hb dX12_reads_86 rfl hl (by decide) rfl (fun ls hl => ?_)
                  refine lv_goto (tgt := 43) hx hb dX12_reads_87 (by decide) ?_
                  have hz_104 : (0 : Int32).toInt = 0 := by decide +kernel
                  have hz_105 : (0 : Int32).toInt = 0 := by decide +kernel
                  have hz_106 : (0 : Int32).toInt = 0 := by decide +kernel
                  exact ih 0 y_90 y_91 y_92 y_93 y_94 y_95 y_96 y_97 (by decide +kernel) (by omega) (by omega) (by omega) (by omega) (by omega) (by omega) (by omega) (by omega) (by omega) S_89 I_89 M_89 f_y_90 f_y_91 f_y_92 f_y_93 f_y_94 f_y_95 f_y_96 f_y_97 w_89_3 (by omega) (by omega) (by omega) (fun h9 => absurd h9 (by decide +kernel)) (fun _ h8 => absurd h8 (by omega)) _ _ hP hS _ (lv_sub hl [0, 1, 2] rfl)
                · have jc_103 := dk_eqc (k := 0) (by decide +kernel) c_103
                  have w_89_1_5r := w_89_1_5 (by omega)
                  clear w_89_1_5
                  have w_89_1_6r := w_89_1_6 (by omega)
                  clear w_89_1_6
                  have w_89_1_5rr := w_89_1_5r (by omega)
                  clear w_89_1_5r
                  refine lv_iconst (v := 1) hx hb dX12_reads_81 (by decide +kernel) ?_
                  refine lv_goto (tgt := 86) hx hb dX12_reads_82 (by decide) ?_
                  refine lv_istore_n (lv' := [(2, .int 1), (0, .ref (o + 0)), (1, .int a1)]) hx hb dX12_reads_86 rfl hl (by decide) rfl (fun ls hl => ?_)
                  refine lv_goto (tgt := 43) hx hb dX12_reads_87 (by decide) ?_
                  have hz_107 : (1 : Int32).toInt = 1 := by decide +kernel
                  have hz_108 : (1 : Int32).toInt = 1 := by decide +kernel
                  have hz_109 : (1 : Int32).toInt = 1 := by decide +kernel
                  exact ih 1 y_90 y_91 y_92 y_93 y_94 y_95 y_96 y_97 (by decide +kernel) (by omega) (by omega) (by omega) (by omega) (by omega) (by omega) (by omega) (by omega) (by omega) S_89 I_89 M_89 f_y_90 f_y_91 f_y_92 f_y_93 f_y_94 f_y_95 f_y_96 f_y_97 w_89_3 (by omega) (by omega) (by omega) (fun _ => w_89_2 _ f_y_93 (by omega)) (fun h9 => absurd h9 (by decide +kernel)) _ _ hP hS _ (lv_sub hl [0, 1, 2] rfl)
            · have jc_85 := dk_eqc (k := 0) (by decide +kernel) c_85
              have P0_82 : P0M S_82 := POM.p0 (srel_82_3 (by omega)) ff_82_46_0 (by omega)
              refine lv_aload_n hx hb dX12_reads_54 rfl (lv_at hl 1 rfl) ?_
              refine lv_aload_n hx hb dX12_reads_55 rfl (lv_at hl 1 rfl) ?_
              obtain ⟨x_110, f_x_110, b_x_110⟩ := dg_I.int (i := 0) (k := 6) (lo := 0) (hi := 9999) I_82 sM_0 (by decide +kernel)
              obtain ⟨x_111, f_x_111, b_x_111⟩ := dg_I.int (i := 0) (k := 43) (lo := (-2147483648)) (hi := 2147483647) I_82 sM_0 (by decide +kernel)
              refine dg_calli hS hA1 hA (va_runV (As := []) (rest := [.ref (o + 0)]) F (c_m_operand l g D o S_82 x_74 ff_82_3_0 (by omega) x_75 ff_82_4_0 (by omega) x_76 ff_82_5_0 (by omega) sl ((M_82.1 0 2 _ sM_0 (by decide)).trans f_sl) (by omega) x_110 f_x_110 (by omega) x_78 ff_82_34_0 (by omega) x_79 ff_82_42_0 (by omega) x_111 f_x_111 x_80 ff_82_45_0 (by omega) x_77 ff_82_8_0 (by omega) (by omega) (by omega) ZW_82 (ZKM.keep ZK M_82 (by decide) (by decide)) P0_82 I_82 H.size) (cwV 0 hts (bw_V wB_1239 wB_1240 wB_1241 wB_881 wB_1238) rfl rfl rfl (by decide +kernel) ⟨Nat.le_of_ble_eq_true rfl, Nat.le_of_ble_eq_true rfl⟩) (dg_preV sM_0 rfl K ST hP hS hA1 hA) rfl rfl hl.1 rfl (lv_room (Nat.le_of_ble_eq_true rfl)) dX12_reads_56 ⟨Nat.le_of_ble_eq_true rfl, Nat.le_of_ble_eq_true rfl⟩) (fun x_112 S_113 hw_113 H locs hP hS => ?_)
              obtain ⟨I_113, m_113, w_113_0, w_113_1, w_113_2, w_113_3, -⟩ := hw_113
              have M_113 := dg_sm.tr M_82 m_113 (by decide) (by decide)
              have w_113_0 : 0 ≤ (x_112).toInt ∧ (x_112).toInt ≤ 1 := w_113_0
              obtain ⟨y_114, y_115, y_116, y_117, y_118, y_119, y_120, f_y_114, f_y_115, f_y_116, f_y_117, f_y_118, f_y_119, f_y_120, w_113_1⟩ := w_113_1
              have w_113_1 : ((y_115).toInt ≤ (y_116).toInt ∧ (y_116).toInt ≤ (sl).toInt ∧ ((y_114).toInt ≠ 0 → (y_115).toInt + 1 ≤ (y_116).toInt)) ∧ (x_75).toInt ≤ (y_115).toInt ∧ ((x_77).toInt ≠ 0 → (y_117).toInt ≠ 0) ∧ (((y_117).toInt = 0 → (x_75).toInt + 1 ≤ (y_115).toInt) ∧ ((y_117).toInt = 0 → (y_118).toInt + (y_120).toInt + (y_119).toInt ≤ (y_115).toInt)) := w_113_1
              obtain ⟨⟨w_113_1_0, w_113_1_1, w_113_1_2⟩, w_113_1_3, w_113_1_4, ⟨w_113_1_5, w_113_1_6⟩⟩ := w_113_1
              clear w_113_1_4
              have b_y_114 : 0 ≤ (y_114).toInt ∧ (y_114).toInt ≤ 3 := dg_I.intb (lo := 0) (hi := 3) I_113 sM_0 (by decide +kernel) f_y_114
              have b_y_115 : 0 ≤ (y_115).toInt ∧ (y_115).toInt ≤ 1600 := dg_I.intb (lo := 0) (hi := 1600) I_113 sM_0 (by decide +kernel) f_y_115
              have b_y_116 : 0 ≤ (y_116).toInt ∧ (y_116).toInt ≤ 1600 := dg_I.intb (lo := 0) (hi := 1600) I_113 sM_0 (by decide +kernel) f_y_116
              have b_y_117 : 0 ≤ (y_117).toInt ∧ (y_117).toInt ≤ 6 := dg_I.intb (lo := 0) (hi := 6) I_113 sM_0 (by decide +kernel) f_y_117
              have b_y_118 : 0 ≤ (y_118).toInt ∧ (y_118).toInt ≤ 1600 := dg_I.intb (lo := 0) (hi := 1600) I_113 sM_0 (by decide +kernel) f_y_118
              have b_y_119 : 0 ≤ (y_119).toInt ∧ (y_119).toInt ≤ 20 := dg_I.intb (lo := 0) (hi := 20) I_113 sM_0 (by decide +kernel) f_y_119
              have b_y_120 : 0 ≤ (y_120).toInt ∧ (y_120).toInt ≤ 500 := dg_I.intb (lo := 0) (hi := 500) I_113 sM_0 (by decide +kernel) f_y_120
              have w_113_2 : ∀ k9 : Int32, S_113.1 0 8 = .int k9 → k9.toInt = 0 → ((x_112).toInt = 1 → P1M S_113) ∧ ((x_112).toInt = 0 → P0M S_113) := w_113_2
              refine dg_put (ci := 12) (v := .int x_112) (ty := tyX12 46) (C := RX12) (T := TX12) (N := 77) hx hb hts (fun w h => bw_mem (wU_X12 w h)) tyX12 tyX12_ok nmX12 hown K hP hS hA1 sM_0 rfl 46 (by decide) (hts _ (bw_mem wB_1237)) (fun _ h9 => h9) rfl (by decide +kernel) (dk_znar (by omega) (by omega)) (dk_zfit (by omega) (by omega)) dX12_reads_59 (fun S_121 e_121 H locs hP hS => ?_)
              have I_121 := dg_I.uFi (lo := 0) (hi := 1) I_113 e_121 sM_0 (by decide +kernel) (show 0 ≤ (x_112).toInt ∧ (x_112).toInt ≤ 1 from (by omega))
              have M_121 := dg_sm.uF M_113 e_121 sM_0 (by decide)
              refine lv_goto (tgt := 70) hx hb dX12_reads_62 (by decide) ?_
              refine lv_iload_n hx hb dX12_reads_70 rfl (lv_at hl 0 rfl) ?_
              refine lv_if_eq (tgt := 85) hx hb dX12_reads_71 (by decide) (fun c => absurd c (fun z => absurd (dk_eqc (k := 0) (by decide +kernel) z) (by omega))) (fun _ => ?_)
              refine lv_aload_n hx hb dX12_reads_74 rfl (lv_at hl 1 rfl) ?_
              refine dg_get (C := RX12) (T := TX12) (N := 77) hx hb hts (fun w h => bw_mem (wU_X12 w h)) hown K hP sM_0 rfl 8 (by decide) (hts _ (bw_mem wB_1133)) (fun _ h9 => h9) (v := .int y_117) ((dg_uF_ne e_121 (fun z => absurd z.2 (by decide))).trans f_y_117) dX12_reads_75 ?_
              refine lv_if_ne (tgt := 85) hx hb dX12_reads_78 (by decide) (fun c_122 => ?_) (fun c_122 => ?_)
              · have jc_122 := dk_neqc (k := 0) (by decide +kernel) c_122
                have jbc_122 : 1 ≤ (y_117).toInt := by omega
                clear jc_122
                clear w_113_1_5
                clear w_113_1_6
                refine lv_iconst (v := 0) hx hb dX12_reads_85 (by decide +kernel) ?_
                refine lv_istore_n (lv' := [(2, .int 0), (0, .ref (o + 0)), (1, .int a1)]) hx hb dX12_reads_86 rfl hl (by decide) rfl (fun ls hl => ?_)
                refine lv_goto (tgt := 43) hx hb dX12_reads_87 (by decide) ?_
                have hz_123 : (0 : Int32).toInt = 0 := by decide +kernel
                have hz_124 : (0 : Int32).toInt = 0 := by decide +kernel
                have hz_125 : (0 : Int32).toInt = 0 := by decide +kernel
                exact ih 0 y_114 y_115 y_116 y_117 y_118 y_119 y_120 x_112 (by decide +kernel) (by omega) (by omega) (by omega) (by omega) (by omega) (by omega) (by omega) (by omega) (by omega) S_121 I_121 M_121 ((dg_uF_ne e_121 (fun z => absurd z.2 (by decide))).trans f_y_114) ((dg_uF_ne e_121 (fun z => absurd z.2 (by decide))).trans f_y_115) ((dg_uF_ne e_121 (fun z => absurd z.2 (by decide))).trans f_y_116) ((dg_uF_ne e_121 (fun z => absurd z.2 (by decide))).trans f_y_117) ((dg_uF_ne e_121 (fun z => absurd z.2 (by decide))).trans f_y_118) ((dg_uF_ne e_121 (fun z => absurd z.2 (by decide))).trans f_y_119) ((dg_uF_ne e_121 (fun z => absurd z.2 (by decide))).trans f_y_120) (dg_uF_at e_121) (ZWM.keep w_113_3 (dg_sm.uF (WF := [(0, 46)]) (WA := []) dg_sm.rf e_121 sM_0 (by decide)) (by decide) (by decide) (by decide) (by decide)) (by omega) (by omega) (by omega) (fun h9 => absurd h9 (by decide +kernel)) (fun _ h8 => absurd h8 (by omega)) _ _ hP hS _ (lv_sub hl [0, 1, 2] rfl)
              · have jc_122 := dk_eqc (k := 0) (by decide +kernel) c_122
                have w_113_1_5r := w_113_1_5 (by omega)
                clear w_113_1_5
                have w_113_1_6r := w_113_1_6 (by omega)
                clear w_113_1_6
                refine lv_iconst (v := 1) hx hb dX12_reads_81 (by decide +kernel) ?_
                refine lv_goto (tgt := 86) hx hb dX12_reads_82 (by decide) ?_
                refine lv_istore_n (lv' := [(2, .int 1), (0, .ref (o + 0)), (1, .int a1)]) hx hb dX12_reads_86 rfl hl (by decide) rfl (fun ls hl => ?_)
                refine lv_goto (tgt := 43) hx hb dX12_reads_87 (by decide) ?_
                have hz_126 : (1 : Int32).toInt = 1 := by decide +kernel
                have hz_127 : (1 : Int32).toInt = 1 := by decide +kernel
                have hz_128 : (1 : Int32).toInt = 1 := by decide +kernel
                exact ih 1 y_114 y_115 y_116 y_117 y_118 y_119 y_120 x_112 (by decide +kernel) (by omega) (by omega) (by omega) (by omega) (by omega) (by omega) (by omega) (by omega) (by omega) S_121 I_121 M_121 ((dg_uF_ne e_121 (fun z => absurd z.2 (by decide))).trans f_y_114) ((dg_uF_ne e_121 (fun z => absurd z.2 (by decide))).trans f_y_115) ((dg_uF_ne e_121 (fun z => absurd z.2 (by decide))).trans f_y_116) ((dg_uF_ne e_121 (fun z => absurd z.2 (by decide))).trans f_y_117) ((dg_uF_ne e_121 (fun z => absurd z.2 (by decide))).trans f_y_118) ((dg_uF_ne e_121 (fun z => absurd z.2 (by decide))).trans f_y_119) ((dg_uF_ne e_121 (fun z => absurd z.2 (by decide))).trans f_y_120) (dg_uF_at e_121) (ZWM.keep w_113_3 (dg_sm.uF (WF := [(0, 46)]) (WA := []) dg_sm.rf e_121 sM_0 (by decide)) (by decide) (by decide) (by decide) (by decide)) (by omega) (by omega) (by omega) (fun _ => POM.of e_121 (w_113_2 _ f_y_117 (by omega)).1 (w_113_2 _ f_y_117 (by omega)).2 (by omega)) (fun h9 => absurd h9 (by decide +kernel)) _ _ hP hS _ (lv_sub hl [0, 1, 2] rfl)
      have hz_129 : (1 : Int32).toInt = 1 := by decide +kernel
      have hz_130 : (0 : Int32).toInt = 0 := by decide +kernel
      have hz_131 : (0 : Int32).toInt = 0 := by decide +kernel
      have hz_132 : (1 : Int32).toInt = 1 := by decide +kernel
      have hz_133 : (0 : Int32).toInt = 0 := by decide +kernel
      have hz_134 : (0 : Int32).toInt = 0 := by decide +kernel
      have hz_135 : (0 : Int32).toInt = 0 := by decide +kernel
      have hz_136 : (0 : Int32).toInt = 0 := by decide +kernel
      have hz_137 : (1 : Int32).toInt = 1 := by decide +kernel
      exact L_83 ((((1 : Int32)).toInt + 1600 - ((sa : Int32)).toInt).toNat + 1) 1 sg sa se fk cd y_18 0 0 (by decide +kernel) (by omega) (by omega) (by omega) (by omega) (by omega) (by omega) (by decide +kernel) (by decide +kernel) (by omega) S_14 I_14 M_14 (((m_14.1 0 3 _ sM_0 (by decide)).trans ((dg_uF_ne e_9 (fun z => absurd z.2 (by decide))).trans ((dg_uF_ne e_7 (fun z => absurd z.2 (by decide))).trans ((dg_uF_ne e_5 (fun z => absurd z.2 (by decide))).trans (dg_uF_ne e_3 (fun z => absurd z.2 (by decide))))))).trans f_sg) (((m_14.1 0 4 _ sM_0 (by decide)).trans ((dg_uF_ne e_9 (fun z => absurd z.2 (by decide))).trans ((dg_uF_ne e_7 (fun z => absurd z.2 (by decide))).trans ((dg_uF_ne e_5 (fun z => absurd z.2 (by decide))).trans (dg_uF_ne e_3 (fun z => absurd z.2 (by decide))))))).trans f_sa) (((m_14.1 0 5 _ sM_0 (by decide)).trans ((dg_uF_ne e_9 (fun z => absurd z.2 (by decide))).trans ((dg_uF_ne e_7 (fun z => absurd z.2 (by decide))).trans ((dg_uF_ne e_5 (fun z => absurd z.2 (by decide))).trans (dg_uF_ne e_3 (fun z => absurd z.2 (by decide))))))).trans f_se) (((m_14.1 0 8 _ sM_0 (by decide)).trans ((dg_uF_ne e_9 (fun z => absurd z.2 (by decide))).trans ((dg_uF_ne e_7 (fun z => absurd z.2 (by decide))).trans ((dg_uF_ne e_5 (fun z => absurd z.2 (by decide))).trans (dg_uF_ne e_3 (fun z => absurd z.2 (by decide))))))).trans f_fk) (((m_14.1 0 34 _ sM_0 (by decide)).trans ((dg_uF_ne e_9 (fun z => absurd z.2 (by decide))).trans ((dg_uF_ne e_7 (fun z => absurd z.2 (by decide))).trans ((dg_uF_ne e_5 (fun z => absurd z.2 (by decide))).trans (dg_uF_ne e_3 (fun z => absurd z.2 (by decide))))))).trans f_cd) f_y_18 (((m_14.1 0 45 _ sM_0 (by decide)).trans (dg_uF_ne e_9 (fun z => absurd z.2 (by decide)))).trans (dg_uF_at e_7)) ((m_14.1 0 46 _ sM_0 (by decide)).trans (dg_uF_at e_9)) (ZWM.keep (ZWM.keep (ZWM.keep (ZWM.keep (ZWM.keep ZW (dg_sm.uF (WF := [(0, 42)]) (WA := []) dg_sm.rf e_3 sM_0 (by decide)) (by decide) (by decide) (by decide) (by decide)) (dg_sm.uF (WF := [(0, 43)]) (WA := []) dg_sm.rf e_5 sM_0 (by decide)) (by decide) (by decide) (by decide) (by decide)) (dg_sm.uF (WF := [(0, 45)]) (WA := []) dg_sm.rf e_7 sM_0 (by decide)) (by decide) (by decide) (by decide) (by decide)) (dg_sm.uF (WF := [(0, 46)]) (WA := []) dg_sm.rf e_9 sM_0 (by decide)) (by decide) (by decide) (by decide) (by decide)) m_14 (by decide) (by decide) (by decide) (by decide)) (by omega) (by omega) (by omega) (fun _ => hpo0) (fun h9 => absurd h9 (by decide +kernel)) _ _ hP hS _ (lv_sub hl [0, 1, 2] rfl)
    · have jc_10 := dk_neqc (k := 0) (by decide +kernel) c_10
      have jbc_10 : 1 ≤ (a1).toInt := by omega
      clear jc_10
      refine lv_iconst (v := 1) hx hb dX12_reads_33 (by decide +kernel) ?_
      refine lv_goto (tgt := 38) hx hb dX12_reads_34 (by decide) ?_
      have hz_138 : (1 : Int32).toInt = 1 := by decide +kernel
      have hz_139 : (0 : Int32).toInt = 0 := by decide +kernel
      have hz_140 : (0 : Int32).toInt = 0 := by decide +kernel
      refine dg_callv hS hA1 hA (va_runV (As := [.int 1]) (rest := []) F (c_m_pushes l g D o S_9 1 (by decide +kernel) 0 (((dg_uF_ne e_9 (fun z => absurd z.2 (by decide))).trans ((dg_uF_ne e_7 (fun z => absurd z.2 (by decide))).trans (dg_uF_ne e_5 (fun z => absurd z.2 (by decide))))).trans (dg_uF_at e_3)) (by decide +kernel) 0 ((dg_uF_ne e_9 (fun z => absurd z.2 (by decide))).trans (dg_uF_at e_7)) (by decide +kernel) I_9 H.size) (cwV 1 hts (bw_V wB_1217 wB_1218 wB_1219 wB_881 wB_1216) rfl rfl rfl (by decide +kernel) ⟨Nat.le_of_ble_eq_true rfl, Nat.le_of_ble_eq_true rfl⟩) (dg_preV sM_0 rfl K ST hP hS hA1 hA) rfl rfl hl.1 rfl (lv_room (Nat.le_of_ble_eq_true rfl)) dX12_reads_38 ⟨Nat.le_of_ble_eq_true rfl, Nat.le_of_ble_eq_true rfl⟩) (fun S_141 hw_141 H locs hP hS => ?_)
      obtain ⟨I_141, m_141, w_141_0, w_141_1, -⟩ := hw_141
      have M_141 := dg_sm.tr M_9 m_141 (by decide) (by decide)
      have hz_142 : (1 : Int32).toInt = 1 := by decide +kernel
      have hz_143 : (0 : Int32).toInt = 0 := by decide +kernel
      have hz_144 : (0 : Int32).toInt = 0 := by decide +kernel
      obtain ⟨y_145, f_y_145, w_141_0⟩ := w_141_0
      have w_141_0 : (y_145).toInt = ((0 : Int32)).toInt + 1 := w_141_0
      have b_y_145 : 0 ≤ (y_145).toInt ∧ (y_145).toInt ≤ 20 := dg_I.intb (lo := 0) (hi := 20) I_141 sM_0 (by decide +kernel) f_y_145
      have w_141_1 : PUM S_9 S_141 (1 : Int32) := w_141_1
      have P0_141 : P0M S_141 := P0M.first (QSM.keep (QSM.keep (QSM.keep (QSM.keep hq (dg_sm.uF (WF := [(0, 42)]) (WA := []) dg_sm.rf e_3 sM_0 (by decide)) (by decide) (by decide) (by decide) (by decide) (by decide) (by decide)) (dg_sm.uF (WF := [(0, 43)]) (WA := []) dg_sm.rf e_5 sM_0 (by decide)) (by decide) (by decide) (by decide) (by decide) (by decide) (by decide)) (dg_sm.uF (WF := [(0, 45)]) (WA := []) dg_sm.rf e_7 sM_0 (by decide)) (by decide) (by decide) (by decide) (by decide) (by decide) (by decide)) (dg_sm.uF (WF := [(0, 46)]) (WA := []) dg_sm.rf e_9 sM_0 (by decide)) (by decide) (by decide) (by decide) (by decide) (by decide) (by decide)) (dp := 0) (on := 0) (om := 0) (((dg_uF_ne e_9 (fun z => absurd z.2 (by decide))).trans ((dg_uF_ne e_7 (fun z => absurd z.2 (by decide))).trans (dg_uF_ne e_5 (fun z => absurd z.2 (by decide))))).trans (dg_uF_at e_3)) (((dg_uF_ne e_9 (fun z => absurd z.2 (by decide))).trans (dg_uF_ne e_7 (fun z => absurd z.2 (by decide)))).trans (dg_uF_at e_5)) ((dg_uF_ne e_9 (fun z => absurd z.2 (by decide))).trans (dg_uF_at e_7)) (by decide +kernel) (by decide +kernel) (by decide +kernel) w_141_1 m_141 (by decide +kernel)
      have hpo0 : POM S_141 := POM.mk0 P0_141 ((m_141.1 0 46 _ sM_0 (by decide)).trans (dg_uF_at e_9)) (by decide +kernel)
      refine lv_iconst (v := 1) hx hb dX12_reads_41 (by decide +kernel) ?_
      refine lv_istore_n (lv' := [(2, .int 1), (0, .ref (o + 0)), (1, .int a1)]) hx hb dX12_reads_42 rfl hl (by decide) rfl (fun ls hl => ?_)
      have L_210 : ∀ (n : Nat) (x_200 : Int32) (x_201 : Int32) (x_202 : Int32) (x_203 : Int32) (x_204 : Int32) (x_205 : Int32) (x_206 : Int32) (x_207 : Int32) (x_208 : Int32), (0 ≤ (x_200).toInt ∧ (x_200).toInt ≤ 1) → (0 ≤ (x_201).toInt ∧ (x_201).toInt ≤ 3) → (0 ≤ (x_202).toInt ∧ (x_202).toInt ≤ 1600) → (0 ≤ (x_203).toInt ∧ (x_203).toInt ≤ 1600) → (0 ≤ (x_204).toInt ∧ (x_204).toInt ≤ 6) → (0 ≤ (x_205).toInt ∧ (x_205).toInt ≤ 1600) → (0 ≤ (x_206).toInt ∧ (x_206).toInt ≤ 20) → (0 ≤ (x_207).toInt ∧ (x_207).toInt ≤ 500) → (0 ≤ (x_208).toInt ∧ (x_208).toInt ≤ 1) → (((x_200).toInt + 1600 - (x_202).toInt).toNat < n) → ∀ S_209 : dg_S, CM o S_209 → dg_sm shM [(0, 3), (0, 4), (0, 5), (0, 6), (0, 7), (0, 8), (0, 9), (0, 12), (0, 34), (0, 42), (0, 43), (0, 45), (0, 46)] [18, 19, 22, 23, 24, 25, 26, 27] S S_209 → S_209.1 0 3 = .int x_201 → S_209.1 0 4 = .int x_202 → S_209.1 0 5 = .int x_203 → S_209.1 0 8 = .int x_204 → S_209.1 0 34 = .int x_205 → S_209.1 0 42 = .int x_206 → S_209.1 0 45 = .int x_207 → S_209.1 0 46 = .int x_208 → ZWM S_209 → (((x_202).toInt ≤ (x_203).toInt ∧ (x_203).toInt ≤ (sl).toInt ∧ ((x_201).toInt ≠ 0 → (x_202).toInt + 1 ≤ (x_203).toInt)) ∧ (sa).toInt ≤ (x_202).toInt) → ((x_200 : Int32).toInt = 1 → (x_204).toInt = 0) → ((x_204).toInt = 0 → (x_205).toInt + (x_207).toInt + (x_206).toInt ≤ (x_202).toInt) → ((x_200 : Int32).toInt = 1 → POM S_209) → ((x_200 : Int32).toInt = 0 → (x_204).toInt = 0 → QEM S_209) → ∀ (H : Heap) (locs : List Loc), va_P D vwCl (dg_w g shM o rfM S_209) H → va_S A s.heap H locs → ∀ ls : Array Slot, lv_has ls 3 [(2, .int x_200), (0, .ref (o + 0)), (1, .int a1)] → W p l e ({ frames := 5, cells := 0, slots := 0, locals := 121 } : Room) s m args below meth c H locs 0 0 Q9 (F0 m 43 ls []) := by
        intro n
        induction n with
        | zero =>
          intro x_200 x_201 x_202 x_203 x_204 x_205 x_206 x_207 x_208 b_x_200 b_x_201 b_x_202 b_x_203 b_x_204 b_x_205 b_x_206 b_x_207 b_x_208 hmu S_209 I_209 M_209 ff_209_3_0 ff_209_4_0 ff_209_5_0 ff_209_8_0 ff_209_34_0 ff_209_42_0 ff_209_45_0 ff_209_46_0 ZW_209 srel_209_0 srel_209_1 srel_209_2 srel_209_3 srel_209_4 H locs hP hS ls hl
          omega
        | succ n ih =>
          intro x_200 x_201 x_202 x_203 x_204 x_205 x_206 x_207 x_208 b_x_200 b_x_201 b_x_202 b_x_203 b_x_204 b_x_205 b_x_206 b_x_207 b_x_208 hmu S_209 I_209 M_209 ff_209_3_0 ff_209_4_0 ff_209_5_0 ff_209_8_0 ff_209_34_0 ff_209_42_0 ff_209_45_0 ff_209_46_0 ZW_209 srel_209_0 srel_209_1 srel_209_2 srel_209_3 srel_209_4 H locs hP hS ls hl
          obtain ⟨⟨srel_209_0_0, srel_209_0_1, srel_209_0_2⟩, srel_209_0_3⟩ := srel_209_0
          refine lv_iload_n hx hb dX12_reads_43 rfl (lv_at hl 0 rfl) ?_
          refine lv_if_eq (tgt := 90) hx hb dX12_reads_44 (by decide) (fun c_211 => ?_) (fun c_211 => ?_)
          · have jc_211 := dk_eqc (k := 0) (by decide +kernel) c_211
            clear srel_209_1
            refine W.widen (k := 0) (n := 0) (Nat.le_of_ble_eq_true rfl) (Nat.le_of_ble_eq_true rfl) ?_
            rw [hQ9]
            exact dg_vret hx hb hr hlocks hP hS ⟨I_209, M_209, ⟨x_201, x_202, x_203, x_204, x_205, ff_209_3_0, ff_209_4_0, ff_209_5_0, ff_209_8_0, ff_209_34_0, (by omega)⟩, (fun k9 hk9 hk0 => by have q9 := (ff_209_8_0).symm.trans hk9; cases q9; exact srel_209_4 (by omega) hk0), ZW_209, trivial⟩ dX12_reads_90
          · have jc_211 := dk_neqc (k := 0) (by decide +kernel) c_211
            have jbc_211 : 1 ≤ (x_200).toInt := by omega
            clear jc_211
            have srel_209_1r := srel_209_1 (by omega)
            clear srel_209_1
            have srel_209_2r := srel_209_2 (by omega)
            clear srel_209_2
            refine lv_aload_n hx hb dX12_reads_47 rfl (lv_at hl 1 rfl) ?_
            refine dg_get (C := RX12) (T := TX12) (N := 77) hx hb hts (fun w h => bw_mem (wU_X12 w h)) hown K hP sM_0 rfl 46 (by decide) (hts _ (bw_mem wB_1237)) (fun _ h9 => h9) (v := .int x_208) ff_209_46_0 dX12_reads_48 ?_
            refine lv_if_ne (tgt := 65) hx hb dX12_reads_51 (by decide) (fun c_212 => ?_) (fun c_212 => ?_)
            · have jc_212 := dk_neqc (k := 0) (by decide +kernel) c_212
              have jbc_212 : 1 ≤ (x_208).toInt := by omega
              clear jc_212
              have P1_209 : P1M S_209 := POM.p1 (srel_209_3 (by omega)) ff_209_46_0 (by omega)
              refine lv_aload_n hx hb dX12_reads_65 rfl (lv_at hl 1 rfl) ?_
              obtain ⟨x_213, f_x_213, b_x_213⟩ := dg_I.int (i := 0) (k := 6) (lo := 0) (hi := 9999) I_209 sM_0 (by decide +kernel)
              obtain ⟨x_214, f_x_214, b_x_214⟩ := dg_I.int (i := 0) (k := 43) (lo := (-2147483648)) (hi := 2147483647) I_209 sM_0 (by decide +kernel)
              refine dg_calli hS hA1 hA (va_runV (As := []) (rest := []) F (c_m_goesOn l g D o S_209 x_201 ff_209_3_0 (by omega) x_202 ff_209_4_0 (by omega) x_203 ff_209_5_0 (by omega) sl ((M_209.1 0 2 _ sM_0 (by decide)).trans f_sl) (by omega) x_204 ff_209_8_0 (by omega) x_213 f_x_213 (by omega) x_205 ff_209_34_0 (by omega) x_206 ff_209_42_0 (by omega) x_214 f_x_214 x_207 ff_209_45_0 (by omega) x_208 ff_209_46_0 (by omega) (by omega) (by omega) ZW_209 (ZKM.keep ZK M_209 (by decide) (by decide)) P1_209 I_209 H.size) (cwV 0 hts (bw_V wB_1243 wB_1244 wB_1245 wB_881 wB_1242) rfl rfl rfl (by decide +kernel) ⟨Nat.le_of_ble_eq_true rfl, Nat.le_of_ble_eq_true rfl⟩) (dg_preV sM_0 rfl K ST hP hS hA1 hA) rfl rfl hl.1 rfl (lv_room (Nat.le_of_ble_eq_true rfl)) dX12_reads_66 ⟨Nat.le_of_ble_eq_true rfl, Nat.le_of_ble_eq_true rfl⟩) (fun x_215 S_216 hw_216 H locs hP hS => ?_)
              obtain ⟨I_216, m_216, w_216_0, w_216_1, w_216_2, w_216_3, -⟩ := hw_216
              have M_216 := dg_sm.tr M_209 m_216 (by decide) (by decide)
              have w_216_0 : 0 ≤ (x_215).toInt ∧ (x_215).toInt ≤ 1 := w_216_0
              obtain ⟨y_217, y_218, y_219, y_220, y_221, y_222, y_223, y_224, f_y_217, f_y_218, f_y_219, f_y_220, f_y_221, f_y_222, f_y_223, f_y_224, w_216_1⟩ := w_216_1
              have w_216_1 : ((y_218).toInt ≤ (y_219).toInt ∧ (y_219).toInt ≤ (sl).toInt ∧ ((y_217).toInt ≠ 0 → (y_218).toInt + 1 ≤ (y_219).toInt)) ∧ (x_202).toInt ≤ (y_218).toInt ∧ ((x_204).toInt ≠ 0 → (y_220).toInt ≠ 0) ∧ (((y_220).toInt = 0 → (x_215).toInt = 1 → (x_202).toInt + 1 ≤ (y_218).toInt) ∧ ((y_220).toInt = 0 → (y_221).toInt + (y_223).toInt + (y_222).toInt ≤ (y_218).toInt)) := w_216_1
              obtain ⟨⟨w_216_1_0, w_216_1_1, w_216_1_2⟩, w_216_1_3, w_216_1_4, ⟨w_216_1_5, w_216_1_6⟩⟩ := w_216_1
              clear w_216_1_4
              have b_y_217 : 0 ≤ (y_217).toInt ∧ (y_217).toInt ≤ 3 := dg_I.intb (lo := 0) (hi := 3) I_216 sM_0 (by decide +kernel) f_y_217
              have b_y_218 : 0 ≤ (y_218).toInt ∧ (y_218).toInt ≤ 1600 := dg_I.intb (lo := 0) (hi := 1600) I_216 sM_0 (by decide +kernel) f_y_218
              have b_y_219 : 0 ≤ (y_219).toInt ∧ (y_219).toInt ≤ 1600 := dg_I.intb (lo := 0) (hi := 1600) I_216 sM_0 (by decide +kernel) f_y_219
              have b_y_220 : 0 ≤ (y_220).toInt ∧ (y_220).toInt ≤ 6 := dg_I.intb (lo := 0) (hi := 6) I_216 sM_0 (by decide +kernel) f_y_220
              have b_y_221 : 0 ≤ (y_221).toInt ∧ (y_221).toInt ≤ 1600 := dg_I.intb (lo := 0) (hi := 1600) I_216 sM_0 (by decide +kernel) f_y_221
              have b_y_222 : 0 ≤ (y_222).toInt ∧ (y_222).toInt ≤ 20 := dg_I.intb (lo := 0) (hi := 20) I_216 sM_0 (by decide +kernel) f_y_222
              have b_y_223 : 0 ≤ (y_223).toInt ∧ (y_223).toInt ≤ 500 := dg_I.intb (lo := 0) (hi := 500) I_216 sM_0 (by decide +kernel) f_y_223
              have b_y_224 : 0 ≤ (y_224).toInt ∧ (y_224).toInt ≤ 1 := dg_I.intb (lo := 0) (hi := 1) I_216 sM_0 (by decide +kernel) f_y_224
              have w_216_2 : ∀ k9 : Int32, S_216.1 0 8 = .int k9 → k9.toInt = 0 → POM S_216 := w_216_2
              refine lv_istore_n (lv' := [(2, .int x_215), (0, .ref (o + 0)), (1, .int a1)]) hx hb dX12_reads_69 rfl hl (by decide) rfl (fun ls hl => ?_)
              refine lv_iload_n hx hb dX12_reads_70 rfl (lv_at hl 0 rfl) ?_
              refine lv_if_eq (tgt := 85) hx hb dX12_reads_71 (by decide) (fun c_225 => ?_) (fun c_225 => ?_)
              · have jc_225 := dk_eqc (k := 0) (by decide +kernel) c_225
                refine lv_iconst (v := 0) hx hb dX12_reads_85 (by decide +kernel) ?_
                refine lv_istore_n (lv' := [(2, .int 0), (0, .ref (o + 0)), (1, .int a1)]) hx hb dX12_reads_86 rfl hl (by decide) rfl (fun ls hl => ?_)
                refine lv_goto (tgt := 43) hx hb dX12_reads_87 (by decide) ?_
                have hz_226 : (0 : Int32).toInt = 0 := by decide +kernel
                have hz_227 : (0 : Int32).toInt = 0 := by decide +kernel
                have hz_228 : (0 : Int32).toInt = 0 := by decide +kernel
                obtain ⟨x_229, f_x_229, b_x_229⟩ := dg_I.int (i := 0) (k := 43) (lo := (-2147483648)) (hi := 2147483647) I_216 sM_0 (by decide +kernel)
                exact ih 0 y_217 y_218 y_219 y_220 y_221 y_222 y_223 y_224 (by decide +kernel) (by omega) (by omega) (by omega) (by omega) (by omega) (by omega) (by omega) (by omega) (by omega) S_216 I_216 M_216 f_y_217 f_y_218 f_y_219 f_y_220 f_y_221 f_y_222 f_y_223 f_y_224 w_216_3 (by omega) (by omega) (by omega) (fun h9 => absurd h9 (by decide +kernel)) (fun _ h8 => POM.qe (w_216_2 _ f_y_220 h8) f_y_224 f_y_222 f_x_229 f_y_223) _ _ hP hS _ (lv_sub hl [0, 1, 2] rfl)
              · have jc_225 := dk_neqc (k := 0) (by decide +kernel) c_225
                have jbc_225 : 1 ≤ (x_215).toInt := by omega
                clear jc_225
                refine lv_aload_n hx hb dX12_reads_74 rfl (lv_at hl 1 rfl) ?_
                refine dg_get (C := RX12) (T := TX12) (N := 77) hx hb hts (fun w h => bw_mem (wU_X12 w h)) hown K hP sM_0 rfl 8 (by decide) (hts _ (bw_mem wB_1133)) (fun _ h9 => h9) (v := .int y_220) f_y_220 dX12_reads_75 ?_
                refine lv_if_ne (tgt := 85) hx hb dX12_reads_78 (by decide) (fun c_230 => ?_) (fun c_230 => ?_)
                · have jc_230 := dk_neqc (k := 0) (by decide +kernel) c_230
                  have jbc_230 : 1 ≤ (y_220).toInt := by omega
                  clear jc_230
                  clear w_216_1_5
                  clear w_216_1_6
                  refine lv_iconst (v := 0) hx hb dX12_reads_85 (by decide +kernel) ?_
                  refine lv_istore_n (lv' := [(2, .int 0), (0, .ref (o + 0)), (1, .int a1)]) hx hb dX12_reads_86 rfl hl (by decide) rfl (fun ls hl => ?_)
                  refine lv_goto (tgt := 43) hx hb dX12_reads_87 (by decide) ?_
                  have hz_231 : (0 : Int32).toInt = 0 := by decide +kernel
                  have hz_232 : (0 : Int32).toInt = 0 := by decide +kernel
                  have hz_233 : (0 : Int32).toInt = 0 := by decide +kernel
                  exact ih 0 y_217 y_218 y_219 y_220 y_221 y_222 y_223 y_224 (by decide +kernel) (by omega) (by omega) (by omega) (by omega) (by omega) (by omega) (by omega) (by omega) (by omega) S_216 I_216 M_216 f_y_217 f_y_218 f_y_219 f_y_220 f_y_221 f_y_222 f_y_223 f_y_224 w_216_3 (by omega) (by omega) (by omega) (fun h9 => absurd h9 (by decide +kernel)) (fun _ h8 => absurd h8 (by omega)) _ _ hP hS _ (lv_sub hl [0, 1, 2] rfl)
                · have jc_230 := dk_eqc (k := 0) (by decide +kernel) c_230
                  have w_216_1_5r := w_216_1_5 (by omega)
                  clear w_216_1_5
                  have w_216_1_6r := w_216_1_6 (by omega)
                  clear w_216_1_6
                  have w_216_1_5rr := w_216_1_5r (by omega)
                  clear w_216_1_5r
                  refine lv_iconst (v := 1) hx hb dX12_reads_81 (by decide +kernel) ?_
                  refine lv_goto (tgt := 86) hx hb dX12_reads_82 (by decide) ?_
                  refine lv_istore_n (lv' := [(2, .int 1), (0, .ref (o + 0)), (1, .int a1)]) hx hb dX12_reads_86 rfl hl (by decide) rfl (fun ls hl => ?_)
                  refine lv_goto (tgt := 43) hx hb dX12_reads_87 (by decide) ?_
                  have hz_234 : (1 : Int32).toInt = 1 := by decide +kernel
                  have hz_235 : (1 : Int32).toInt = 1 := by decide +kernel
                  have hz_236 : (1 : Int32).toInt = 1 := by decide +kernel
                  exact ih 1 y_217 y_218 y_219 y_220 y_221 y_222 y_223 y_224 (by decide +kernel) (by omega) (by omega) (by omega) (by omega) (by omega) (by omega) (by omega) (by omega) (by omega) S_216 I_216 M_216 f_y_217 f_y_218 f_y_219 f_y_220 f_y_221 f_y_222 f_y_223 f_y_224 w_216_3 (by omega) (by omega) (by omega) (fun _ => w_216_2 _ f_y_220 (by omega)) (fun h9 => absurd h9 (by decide +kernel)) _ _ hP hS _ (lv_sub hl [0, 1, 2] rfl)
            · have jc_212 := dk_eqc (k := 0) (by decide +kernel) c_212
              have P0_209 : P0M S_209 := POM.p0 (srel_209_3 (by omega)) ff_209_46_0 (by omega)
              refine lv_aload_n hx hb dX12_reads_54 rfl (lv_at hl 1 rfl) ?_
              refine lv_aload_n hx hb dX12_reads_55 rfl (lv_at hl 1 rfl) ?_
              obtain ⟨x_237, f_x_237, b_x_237⟩ := dg_I.int (i := 0) (k := 6) (lo := 0) (hi := 9999) I_209 sM_0 (by decide +kernel)
              obtain ⟨x_238, f_x_238, b_x_238⟩ := dg_I.int (i := 0) (k := 43) (lo := (-2147483648)) (hi := 2147483647) I_209 sM_0 (by decide +kernel)
              refine dg_calli hS hA1 hA (va_runV (As := []) (rest := [.ref (o + 0)]) F (c_m_operand l g D o S_209 x_201 ff_209_3_0 (by omega) x_202 ff_209_4_0 (by omega) x_203 ff_209_5_0 (by omega) sl ((M_209.1 0 2 _ sM_0 (by decide)).trans f_sl) (by omega) x_237 f_x_237 (by omega) x_205 ff_209_34_0 (by omega) x_206 ff_209_42_0 (by omega) x_238 f_x_238 x_207 ff_209_45_0 (by omega) x_204 ff_209_8_0 (by omega) (by omega) (by omega) ZW_209 (ZKM.keep ZK M_209 (by decide) (by decide)) P0_209 I_209 H.size) (cwV 0 hts (bw_V wB_1239 wB_1240 wB_1241 wB_881 wB_1238) rfl rfl rfl (by decide +kernel) ⟨Nat.le_of_ble_eq_true rfl, Nat.le_of_ble_eq_true rfl⟩) (dg_preV sM_0 rfl K ST hP hS hA1 hA) rfl rfl hl.1 rfl (lv_room (Nat.le_of_ble_eq_true rfl)) dX12_reads_56 ⟨Nat.le_of_ble_eq_true rfl, Nat.le_of_ble_eq_true rfl⟩) (fun x_239 S_240 hw_240 H locs hP hS => ?_)
              obtain ⟨I_240, m_240, w_240_0, w_240_1, w_240_2, w_240_3, -⟩ := hw_240
              have M_240 := dg_sm.tr M_209 m_240 (by decide) (by decide)
              have w_240_0 : 0 ≤ (x_239).toInt ∧ (x_239).toInt ≤ 1 := w_240_0
              obtain ⟨y_241, y_242, y_243, y_244, y_245, y_246, y_247, f_y_241, f_y_242, f_y_243, f_y_244, f_y_245, f_y_246, f_y_247, w_240_1⟩ := w_240_1
              have w_240_1 : ((y_242).toInt ≤ (y_243).toInt ∧ (y_243).toInt ≤ (sl).toInt ∧ ((y_241).toInt ≠ 0 → (y_242).toInt + 1 ≤ (y_243).toInt)) ∧ (x_202).toInt ≤ (y_242).toInt ∧ ((x_204).toInt ≠ 0 → (y_244).toInt ≠ 0) ∧ (((y_244).toInt = 0 → (x_202).toInt + 1 ≤ (y_242).toInt) ∧ ((y_244).toInt = 0 → (y_245).toInt + (y_247).toInt + (y_246).toInt ≤ (y_242).toInt)) := w_240_1
              obtain ⟨⟨w_240_1_0, w_240_1_1, w_240_1_2⟩, w_240_1_3, w_240_1_4, ⟨w_240_1_5, w_240_1_6⟩⟩ := w_240_1
              clear w_240_1_4
              have b_y_241 : 0 ≤ (y_241).toInt ∧ (y_241).toInt ≤ 3 := dg_I.intb (lo := 0) (hi := 3) I_240 sM_0 (by decide +kernel) f_y_241
              have b_y_242 : 0 ≤ (y_242).toInt ∧ (y_242).toInt ≤ 1600 := dg_I.intb (lo := 0) (hi := 1600) I_240 sM_0 (by decide +kernel) f_y_242
              have b_y_243 : 0 ≤ (y_243).toInt ∧ (y_243).toInt ≤ 1600 := dg_I.intb (lo := 0) (hi := 1600) I_240 sM_0 (by decide +kernel) f_y_243
              have b_y_244 : 0 ≤ (y_244).toInt ∧ (y_244).toInt ≤ 6 := dg_I.intb (lo := 0) (hi := 6) I_240 sM_0 (by decide +kernel) f_y_244
              have b_y_245 : 0 ≤ (y_245).toInt ∧ (y_245).toInt ≤ 1600 := dg_I.intb (lo := 0) (hi := 1600) I_240 sM_0 (by decide +kernel) f_y_245
              have b_y_246 : 0 ≤ (y_246).toInt ∧ (y_246).toInt ≤ 20 := dg_I.intb (lo := 0) (hi := 20) I_240 sM_0 (by decide +kernel) f_y_246
              have b_y_247 : 0 ≤ (y_247).toInt ∧ (y_247).toInt ≤ 500 := dg_I.intb (lo := 0) (hi := 500) I_240 sM_0 (by decide +kernel) f_y_247
              have w_240_2 : ∀ k9 : Int32, S_240.1 0 8 = .int k9 → k9.toInt = 0 → ((x_239).toInt = 1 → P1M S_240) ∧ ((x_239).toInt = 0 → P0M S_240) := w_240_2
              refine dg_put (ci := 12) (v := .int x_239) (ty := tyX12 46) (C := RX12) (T := TX12) (N := 77) hx hb hts (fun w h => bw_mem (wU_X12 w h)) tyX12 tyX12_ok nmX12 hown K hP hS hA1 sM_0 rfl 46 (by decide) (hts _ (bw_mem wB_1237)) (fun _ h9 => h9) rfl (by decide +kernel) (dk_znar (by omega) (by omega)) (dk_zfit (by omega) (by omega)) dX12_reads_59 (fun S_248 e_248 H locs hP hS => ?_)
              have I_248 := dg_I.uFi (lo := 0) (hi := 1) I_240 e_248 sM_0 (by decide +kernel) (show 0 ≤ (x_239).toInt ∧ (x_239).toInt ≤ 1 from (by omega))
              have M_248 := dg_sm.uF M_240 e_248 sM_0 (by decide)
              refine lv_goto (tgt := 70) hx hb dX12_reads_62 (by decide) ?_
              refine lv_iload_n hx hb dX12_reads_70 rfl (lv_at hl 0 rfl) ?_
              refine lv_if_eq (tgt := 85) hx hb dX12_reads_71 (by decide) (fun c => absurd c (fun z => absurd (dk_eqc (k := 0) (by decide +kernel) z) (by omega))) (fun _ => ?_)
              refine lv_aload_n hx hb dX12_reads_74 rfl (lv_at hl 1 rfl) ?_
              refine dg_get (C := RX12) (T := TX12) (N := 77) hx hb hts (fun w h => bw_mem (wU_X12 w h)) hown K hP sM_0 rfl 8 (by decide) (hts _ (bw_mem wB_1133)) (fun _ h9 => h9) (v := .int y_244) ((dg_uF_ne e_248 (fun z => absurd z.2 (by decide))).trans f_y_244) dX12_reads_75 ?_
              refine lv_if_ne (tgt := 85) hx hb dX12_reads_78 (by decide) (fun c_249 => ?_) (fun c_249 => ?_)
              · have jc_249 := dk_neqc (k := 0) (by decide +kernel) c_249
                have jbc_249 : 1 ≤ (y_244).toInt := by omega
                clear jc_249
                clear w_240_1_5
                clear w_240_1_6
                refine lv_iconst (v := 0) hx hb dX12_reads_85 (by decide +kernel) ?_
                refine lv_istore_n (lv' := [(2, .int 0), (0, .ref (o + 0)), (1, .int a1)]) hx hb dX12_reads_86 rfl hl (by decide) rfl (fun ls hl => ?_)
                refine lv_goto (tgt := 43) hx hb dX12_reads_87 (by decide) ?_
                have hz_250 : (0 : Int32).toInt = 0 := by decide +kernel
                have hz_251 : (0 : Int32).toInt = 0 := by decide +kernel
                have hz_252 : (0 : Int32).toInt = 0 := by decide +kernel
                exact ih 0 y_241 y_242 y_243 y_244 y_245 y_246 y_247 x_239 (by decide +kernel) (by omega) (by omega) (by omega) (by omega) (by omega) (by omega) (by omega) (by omega) (by omega) S_248 I_248 M_248 ((dg_uF_ne e_248 (fun z => absurd z.2 (by decide))).trans f_y_241) ((dg_uF_ne e_248 (fun z => absurd z.2 (by decide))).trans f_y_242) ((dg_uF_ne e_248 (fun z => absurd z.2 (by decide))).trans f_y_243) ((dg_uF_ne e_248 (fun z => absurd z.2 (by decide))).trans f_y_244) ((dg_uF_ne e_248 (fun z => absurd z.2 (by decide))).trans f_y_245) ((dg_uF_ne e_248 (fun z => absurd z.2 (by decide))).trans f_y_246) ((dg_uF_ne e_248 (fun z => absurd z.2 (by decide))).trans f_y_247) (dg_uF_at e_248) (ZWM.keep w_240_3 (dg_sm.uF (WF := [(0, 46)]) (WA := []) dg_sm.rf e_248 sM_0 (by decide)) (by decide) (by decide) (by decide) (by decide)) (by omega) (by omega) (by omega) (fun h9 => absurd h9 (by decide +kernel)) (fun _ h8 => absurd h8 (by omega)) _ _ hP hS _ (lv_sub hl [0, 1, 2] rfl)
              · have jc_249 := dk_eqc (k := 0) (by decide +kernel) c_249
                have w_240_1_5r := w_240_1_5 (by omega)
                clear w_240_1_5
                have w_240_1_6r := w_240_1_6 (by omega)
                clear w_240_1_6
                refine lv_iconst (v := 1) hx hb dX12_reads_81 (by decide +kernel) ?_
                refine lv_goto (tgt := 86) hx hb dX12_reads_82 (by decide) ?_
                refine lv_istore_n (lv' := [(2, .int 1), (0, .ref (o + 0)), (1, .int a1)]) hx hb dX12_reads_86 rfl hl (by decide) rfl (fun ls hl => ?_)
                refine lv_goto (tgt := 43) hx hb dX12_reads_87 (by decide) ?_
                have hz_253 : (1 : Int32).toInt = 1 := by decide +kernel
                have hz_254 : (1 : Int32).toInt = 1 := by decide +kernel
                have hz_255 : (1 : Int32).toInt = 1 := by decide +kernel
                exact ih 1 y_241 y_242 y_243 y_244 y_245 y_246 y_247 x_239 (by decide +kernel) (by omega) (by omega) (by omega) (by omega) (by omega) (by omega) (by omega) (by omega) (by omega) S_248 I_248 M_248 ((dg_uF_ne e_248 (fun z => absurd z.2 (by decide))).trans f_y_241) ((dg_uF_ne e_248 (fun z => absurd z.2 (by decide))).trans f_y_242) ((dg_uF_ne e_248 (fun z => absurd z.2 (by decide))).trans f_y_243) ((dg_uF_ne e_248 (fun z => absurd z.2 (by decide))).trans f_y_244) ((dg_uF_ne e_248 (fun z => absurd z.2 (by decide))).trans f_y_245) ((dg_uF_ne e_248 (fun z => absurd z.2 (by decide))).trans f_y_246) ((dg_uF_ne e_248 (fun z => absurd z.2 (by decide))).trans f_y_247) (dg_uF_at e_248) (ZWM.keep w_240_3 (dg_sm.uF (WF := [(0, 46)]) (WA := []) dg_sm.rf e_248 sM_0 (by decide)) (by decide) (by decide) (by decide) (by decide)) (by omega) (by omega) (by omega) (fun _ => POM.of e_248 (w_240_2 _ f_y_244 (by omega)).1 (w_240_2 _ f_y_244 (by omega)).2 (by omega)) (fun h9 => absurd h9 (by decide +kernel)) _ _ hP hS _ (lv_sub hl [0, 1, 2] rfl)
      have hz_256 : (1 : Int32).toInt = 1 := by decide +kernel
      have hz_257 : (0 : Int32).toInt = 0 := by decide +kernel
      have hz_258 : (0 : Int32).toInt = 0 := by decide +kernel
      have hz_259 : (1 : Int32).toInt = 1 := by decide +kernel
      have hz_260 : (0 : Int32).toInt = 0 := by decide +kernel
      have hz_261 : (0 : Int32).toInt = 0 := by decide +kernel
      have hz_262 : (0 : Int32).toInt = 0 := by decide +kernel
      have hz_263 : (0 : Int32).toInt = 0 := by decide +kernel
      have hz_264 : (1 : Int32).toInt = 1 := by decide +kernel
      exact L_210 ((((1 : Int32)).toInt + 1600 - ((sa : Int32)).toInt).toNat + 1) 1 sg sa se fk cd y_145 0 0 (by decide +kernel) (by omega) (by omega) (by omega) (by omega) (by omega) (by omega) (by decide +kernel) (by decide +kernel) (by omega) S_141 I_141 M_141 (((m_141.1 0 3 _ sM_0 (by decide)).trans ((dg_uF_ne e_9 (fun z => absurd z.2 (by decide))).trans ((dg_uF_ne e_7 (fun z => absurd z.2 (by decide))).trans ((dg_uF_ne e_5 (fun z => absurd z.2 (by decide))).trans (dg_uF_ne e_3 (fun z => absurd z.2 (by decide))))))).trans f_sg) (((m_141.1 0 4 _ sM_0 (by decide)).trans ((dg_uF_ne e_9 (fun z => absurd z.2 (by decide))).trans ((dg_uF_ne e_7 (fun z => absurd z.2 (by decide))).trans ((dg_uF_ne e_5 (fun z => absurd z.2 (by decide))).trans (dg_uF_ne e_3 (fun z => absurd z.2 (by decide))))))).trans f_sa) (((m_141.1 0 5 _ sM_0 (by decide)).trans ((dg_uF_ne e_9 (fun z => absurd z.2 (by decide))).trans ((dg_uF_ne e_7 (fun z => absurd z.2 (by decide))).trans ((dg_uF_ne e_5 (fun z => absurd z.2 (by decide))).trans (dg_uF_ne e_3 (fun z => absurd z.2 (by decide))))))).trans f_se) (((m_141.1 0 8 _ sM_0 (by decide)).trans ((dg_uF_ne e_9 (fun z => absurd z.2 (by decide))).trans ((dg_uF_ne e_7 (fun z => absurd z.2 (by decide))).trans ((dg_uF_ne e_5 (fun z => absurd z.2 (by decide))).trans (dg_uF_ne e_3 (fun z => absurd z.2 (by decide))))))).trans f_fk) (((m_141.1 0 34 _ sM_0 (by decide)).trans ((dg_uF_ne e_9 (fun z => absurd z.2 (by decide))).trans ((dg_uF_ne e_7 (fun z => absurd z.2 (by decide))).trans ((dg_uF_ne e_5 (fun z => absurd z.2 (by decide))).trans (dg_uF_ne e_3 (fun z => absurd z.2 (by decide))))))).trans f_cd) f_y_145 (((m_141.1 0 45 _ sM_0 (by decide)).trans (dg_uF_ne e_9 (fun z => absurd z.2 (by decide)))).trans (dg_uF_at e_7)) ((m_141.1 0 46 _ sM_0 (by decide)).trans (dg_uF_at e_9)) (ZWM.keep (ZWM.keep (ZWM.keep (ZWM.keep (ZWM.keep ZW (dg_sm.uF (WF := [(0, 42)]) (WA := []) dg_sm.rf e_3 sM_0 (by decide)) (by decide) (by decide) (by decide) (by decide)) (dg_sm.uF (WF := [(0, 43)]) (WA := []) dg_sm.rf e_5 sM_0 (by decide)) (by decide) (by decide) (by decide) (by decide)) (dg_sm.uF (WF := [(0, 45)]) (WA := []) dg_sm.rf e_7 sM_0 (by decide)) (by decide) (by decide) (by decide) (by decide)) (dg_sm.uF (WF := [(0, 46)]) (WA := []) dg_sm.rf e_9 sM_0 (by decide)) (by decide) (by decide) (by decide) (by decide)) m_141 (by decide) (by decide) (by decide) (by decide)) (by omega) (by omega) (by omega) (fun _ => hpo0) (fun h9 => absurd h9 (by decide +kernel)) _ _ hP hS _ (lv_sub hl [0, 1, 2] rfl)
  · have jc_1 := dk_nlec (k := 0) (by decide +kernel) c_1
    refine W.widen (k := 0) (n := 0) (Nat.le_of_ble_eq_true rfl) (Nat.le_of_ble_eq_true rfl) ?_
    rw [hQ9]
    exact dg_vret hx hb hr hlocks hP hS ⟨I, M_0, ⟨sg, sa, se, fk, cd, f_sg, f_sa, f_se, f_fk, f_cd, (by omega)⟩, (fun k9 hk9 hk0 => by have q9 := (f_fk).symm.trans hk9; cases q9; omega), ZW, trivial⟩ dX12_reads_7
