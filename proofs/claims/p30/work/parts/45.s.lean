/-! 45.s.lean.txt -/
theorem dX12_reads_0 : decode cX12_reads 0 = .ok (.aload_n 0, 1) := by decide +kernel
theorem dX12_reads_1 : decode cX12_reads 1 = .ok (.getfield 36, 3) := by decide +kernel
theorem dX12_reads_4 : decode cX12_reads 4 = .ok (.ifCond .le 4, 3) := by decide +kernel
theorem dX12_reads_7 : decode cX12_reads 7 = .ok (.return_, 1) := by decide +kernel
theorem dX12_reads_8 : decode cX12_reads 8 = .ok (.aload_n 0, 1) := by decide +kernel
theorem dX12_reads_9 : decode cX12_reads 9 = .ok (.iconst 0, 1) := by decide +kernel
theorem dX12_reads_10 : decode cX12_reads 10 = .ok (.putfield 140, 3) := by decide +kernel
theorem dX12_reads_13 : decode cX12_reads 13 = .ok (.aload_n 0, 1) := by decide +kernel
theorem dX12_reads_14 : decode cX12_reads 14 = .ok (.iconst 0, 1) := by decide +kernel
theorem dX12_reads_15 : decode cX12_reads 15 = .ok (.putfield 143, 3) := by decide +kernel
theorem dX12_reads_18 : decode cX12_reads 18 = .ok (.aload_n 0, 1) := by decide +kernel
theorem dX12_reads_19 : decode cX12_reads 19 = .ok (.iconst 0, 1) := by decide +kernel
theorem dX12_reads_20 : decode cX12_reads 20 = .ok (.putfield 149, 3) := by decide +kernel
theorem dX12_reads_23 : decode cX12_reads 23 = .ok (.aload_n 0, 1) := by decide +kernel
theorem dX12_reads_24 : decode cX12_reads 24 = .ok (.iconst 0, 1) := by decide +kernel
theorem dX12_reads_25 : decode cX12_reads 25 = .ok (.putfield 152, 3) := by decide +kernel
theorem dX12_reads_28 : decode cX12_reads 28 = .ok (.aload_n 0, 1) := by decide +kernel
theorem dX12_reads_29 : decode cX12_reads 29 = .ok (.iload_n 1, 1) := by decide +kernel
theorem dX12_reads_30 : decode cX12_reads 30 = .ok (.ifCond .eq 7, 3) := by decide +kernel
theorem dX12_reads_33 : decode cX12_reads 33 = .ok (.iconst 1, 1) := by decide +kernel
theorem dX12_reads_34 : decode cX12_reads 34 = .ok (.goto 4, 3) := by decide +kernel
theorem dX12_reads_37 : decode cX12_reads 37 = .ok (.iconst 0, 1) := by decide +kernel
theorem dX12_reads_38 : decode cX12_reads 38 = .ok (.invokevirtual 343, 3) := by decide +kernel
theorem dX12_reads_41 : decode cX12_reads 41 = .ok (.iconst 1, 1) := by decide +kernel
theorem dX12_reads_42 : decode cX12_reads 42 = .ok (.istore_n 2, 1) := by decide +kernel
theorem dX12_reads_43 : decode cX12_reads 43 = .ok (.iload_n 2, 1) := by decide +kernel
theorem dX12_reads_44 : decode cX12_reads 44 = .ok (.ifCond .eq 46, 3) := by decide +kernel
theorem dX12_reads_47 : decode cX12_reads 47 = .ok (.aload_n 0, 1) := by decide +kernel
theorem dX12_reads_48 : decode cX12_reads 48 = .ok (.getfield 152, 3) := by decide +kernel
theorem dX12_reads_51 : decode cX12_reads 51 = .ok (.ifCond .ne 14, 3) := by decide +kernel
theorem dX12_reads_54 : decode cX12_reads 54 = .ok (.aload_n 0, 1) := by decide +kernel
theorem dX12_reads_55 : decode cX12_reads 55 = .ok (.aload_n 0, 1) := by decide +kernel
theorem dX12_reads_56 : decode cX12_reads 56 = .ok (.invokevirtual 362, 3) := by decide +kernel
theorem dX12_reads_59 : decode cX12_reads 59 = .ok (.putfield 152, 3) := by decide +kernel
theorem dX12_reads_62 : decode cX12_reads 62 = .ok (.goto 8, 3) := by decide +kernel
theorem dX12_reads_65 : decode cX12_reads 65 = .ok (.aload_n 0, 1) := by decide +kernel
theorem dX12_reads_66 : decode cX12_reads 66 = .ok (.invokevirtual 365, 3) := by decide +kernel
theorem dX12_reads_69 : decode cX12_reads 69 = .ok (.istore_n 2, 1) := by decide +kernel
theorem dX12_reads_70 : decode cX12_reads 70 = .ok (.iload_n 2, 1) := by decide +kernel
theorem dX12_reads_71 : decode cX12_reads 71 = .ok (.ifCond .eq 14, 3) := by decide +kernel
theorem dX12_reads_74 : decode cX12_reads 74 = .ok (.aload_n 0, 1) := by decide +kernel
theorem dX12_reads_75 : decode cX12_reads 75 = .ok (.getfield 36, 3) := by decide +kernel
theorem dX12_reads_78 : decode cX12_reads 78 = .ok (.ifCond .ne 7, 3) := by decide +kernel
theorem dX12_reads_81 : decode cX12_reads 81 = .ok (.iconst 1, 1) := by decide +kernel
theorem dX12_reads_82 : decode cX12_reads 82 = .ok (.goto 4, 3) := by decide +kernel
theorem dX12_reads_85 : decode cX12_reads 85 = .ok (.iconst 0, 1) := by decide +kernel
theorem dX12_reads_86 : decode cX12_reads 86 = .ok (.istore_n 2, 1) := by decide +kernel
theorem dX12_reads_87 : decode cX12_reads 87 = .ok (.goto (-44), 3) := by decide +kernel
theorem dX12_reads_90 : decode cX12_reads 90 = .ok (.return_, 1) := by decide +kernel
theorem wB_1238 : Cond.code yX12_operand cX12_operand 4 (some .boolean) ∈ dgB := List.mem_filter.mpr ⟨tbl_8 _ (List.mem_of_getElem? (i := 76) rfl), rfl⟩
theorem wB_1239 : Cond.methodLink RX12 362 yX12_operand ∈ dgB := List.mem_filter.mpr ⟨tbl_8 _ (List.mem_of_getElem? (i := 73) (by decide +kernel)), by decide +kernel⟩
theorem wB_1240 : Cond.instanceMethod yX12_operand ∈ dgB := List.mem_filter.mpr ⟨tbl_8 _ (List.mem_of_getElem? (i := 75) (by decide +kernel)), by decide +kernel⟩
theorem wB_1241 : Cond.selects RX12 yX12_operand yX12_operand ∈ dgB := List.mem_filter.mpr ⟨List.mem_of_getElem? (i := 108) (by decide +kernel), by decide +kernel⟩
theorem wB_1242 : Cond.code yX12_goesOn cX12_goesOn 5 (some .boolean) ∈ dgB := List.mem_filter.mpr ⟨tbl_8 _ (List.mem_of_getElem? (i := 95) rfl), rfl⟩
theorem wB_1243 : Cond.methodLink RX12 365 yX12_goesOn ∈ dgB := List.mem_filter.mpr ⟨tbl_8 _ (List.mem_of_getElem? (i := 92) (by decide +kernel)), by decide +kernel⟩
theorem wB_1244 : Cond.instanceMethod yX12_goesOn ∈ dgB := List.mem_filter.mpr ⟨tbl_8 _ (List.mem_of_getElem? (i := 94) (by decide +kernel)), by decide +kernel⟩
theorem wB_1245 : Cond.selects RX12 yX12_goesOn yX12_goesOn ∈ dgB := List.mem_filter.mpr ⟨List.mem_of_getElem? (i := 112) (by decide +kernel), by decide +kernel⟩
set_option maxHeartbeats 8000000 in
set_option maxRecDepth 100000 in
theorem c_m_reads (l : Launch) (g : Nat → ClassId) (D : va_G) (o : Nat) (S : dg_S) (a1 : Int32) (b_a1 : 0 ≤ (a1).toInt ∧ (a1).toInt ≤ 1) (sg : Int32) (f_sg : S.1 0 3 = .int sg) (b_sg : 0 ≤ (sg).toInt ∧ (sg).toInt ≤ 3) (sa : Int32) (f_sa : S.1 0 4 = .int sa) (b_sa : 0 ≤ (sa).toInt ∧ (sa).toInt ≤ 1600) (se : Int32) (f_se : S.1 0 5 = .int se) (b_se : 0 ≤ (se).toInt ∧ (se).toInt ≤ 1600) (sl : Int32) (f_sl : S.1 0 2 = .int sl) (b_sl : 0 ≤ (sl).toInt ∧ (sl).toInt ≤ 1600) (fk : Int32) (f_fk : S.1 0 8 = .int fk) (b_fk : 0 ≤ (fk).toInt ∧ (fk).toInt ≤ 6) (cd : Int32) (f_cd : S.1 0 34 = .int cd) (b_cd : 0 ≤ (cd).toInt ∧ (cd).toInt ≤ 1600) (hlx : (sa).toInt ≤ (se).toInt ∧ (se).toInt ≤ (sl).toInt ∧ ((sg).toInt ≠ 0 → (sa).toInt + 1 ≤ (se).toInt)) (hro : (cd).toInt + 1 ≤ (sa).toInt) (hq : QSM S 0) (ZW : ZWM S) (ZK : ZKM S) (I : CM o S) (sz : Nat) : Met l yX12_reads (bw yX12_reads cX12_reads 3 none) ({ frames := 5, cells := 0, slots := 0, locals := 121 } : Room) (dk_Pc g D (dg_w g shM o rfM S) sz [.ref (o + 0), .int a1]) (va_Qv (fun S' => CM o S' ∧ dg_sm shM [(0, 3), (0, 4), (0, 5), (0, 6), (0, 7), (0, 8), (0, 9), (0, 12), (0, 34), (0, 42), (0, 43), (0, 45), (0, 46)] [18, 19, 22, 23, 24, 25, 26, 27] S S' ∧ (∃ y9_3 y9_4 y9_5 y9_8 y9_34 : Int32, S'.1 0 3 = .int y9_3 ∧ S'.1 0 4 = .int y9_4 ∧ S'.1 0 5 = .int y9_5 ∧ S'.1 0 8 = .int y9_8 ∧ S'.1 0 34 = .int y9_34 ∧ (((y9_4).toInt ≤ (y9_5).toInt ∧ (y9_5).toInt ≤ (sl).toInt ∧ ((y9_3).toInt ≠ 0 → (y9_4).toInt + 1 ≤ (y9_5).toInt)) ∧ (sa).toInt ≤ (y9_4).toInt ∧ ((fk).toInt ≠ 0 → (y9_8).toInt ≠ 0) ∧ ((y9_8).toInt = 0 → (y9_34).toInt ≤ (y9_4).toInt))) ∧ (∀ k9 : Int32, S'.1 0 8 = .int k9 → k9.toInt = 0 → QEM S') ∧ ZWM S' ∧ True) (dg_B g D shM o rfM) (dg_A o shM.length sz)) 0 0 (dg_A o shM.length sz) := by
  refine dg_met (cc := cX12_reads) (maxL := 3) (ret := none) (by decide) rfl (Nat.le_of_ble_eq_true rfl) ?_
  intro p e s m args below meth c A hAe harg hx hb hr hml hts hown hlocks hin hP K hS hA1 hA ST hsz ls hl
  rw [← hAe]
  have F : CallFix p m c cX12_reads 3 s args (bw yX12_reads cX12_reads 3 none) RX12 := ⟨hx, hb, hml, hown, hts⟩
  have hl : lv_has ls 3 [(0, .ref (o + 0)), (1, .int a1)] := hl
  have M_0 : dg_sm shM [(0, 3), (0, 4), (0, 5), (0, 6), (0, 7), (0, 8), (0, 9), (0, 12), (0, 34), (0, 42), (0, 43), (0, 45), (0, 46)] [18, 19, 22, 23, 24, 25, 26, 27] S S := dg_sm.rf
  obtain ⟨hlx_0, hlx_1, hlx_2⟩ := hlx
  refine lv_aload_n hx hb dX12_reads_0 rfl (lv_at hl 0 rfl) ?_
  refine dg_get (C := RX12) (T := TX12) (N := 77) hx hb hts (fun w h => bw_mem (wU_X12 w h)) hown K hP sM_0 rfl 8 (by decide) (hts _ (bw_mem wB_1133)) (fun _ h9 => h9) (v := .int fk) f_fk dX12_reads_1 ?_
  refine lv_if_le (tgt := 8) hx hb dX12_reads_4 (by decide) (fun c_1 => ?_) (fun c_1 => ?_)
  · have jc_1 := dk_lec (k := 0) (by decide +kernel) c_1
    refine lv_aload_n hx hb dX12_reads_8 rfl (lv_at hl 0 rfl) ?_
    refine lv_iconst (v := 0) hx hb dX12_reads_9 (by decide +kernel) ?_
    have hz_2 : (0 : Int32).toInt = 0 := by decide +kernel
    refine dg_put (ci := 12) (v := .int 0) (ty := tyX12 42) (C := RX12) (T := TX12) (N := 77) hx hb hts (fun w h => bw_mem (wU_X12 w h)) tyX12 tyX12_ok nmX12 hown K hP hS hA1 sM_0 rfl 42 (by decide) (hts _ (bw_mem wB_1203)) (fun _ h9 => h9) rfl (by decide +kernel) rfl rfl dX12_reads_10 (fun S_3 e_3 H locs hP hS => ?_)
    have I_3 := dg_I.uFi (lo := 0) (hi := 20) I e_3 sM_0 (by decide +kernel) (show 0 ≤ ((0 : Int32)).toInt ∧ ((0 : Int32)).toInt ≤ 20 from (by decide +kernel))
    have M_3 := dg_sm.uF M_0 e_3 sM_0 (by decide)
    refine lv_aload_n hx hb dX12_reads_13 rfl (lv_at hl 0 rfl) ?_
    refine lv_iconst (v := 0) hx hb dX12_reads_14 (by decide +kernel) ?_
    have hz_4 : (0 : Int32).toInt = 0 := by decide +kernel
    refine dg_put (ci := 12) (v := .int 0) (ty := tyX12 43) (C := RX12) (T := TX12) (N := 77) hx hb hts (fun w h => bw_mem (wU_X12 w h)) tyX12 tyX12_ok nmX12 hown K hP hS hA1 sM_0 rfl 43 (by decide) (hts _ (bw_mem wB_1212)) (fun _ h9 => h9) rfl (by decide +kernel) rfl rfl dX12_reads_15 (fun S_5 e_5 H locs hP hS => ?_)
    have I_5 := dg_I.uFi (lo := (-2147483648)) (hi := 2147483647) I_3 e_5 sM_0 (by decide +kernel) (show (-2147483648) ≤ ((0 : Int32)).toInt ∧ ((0 : Int32)).toInt ≤ 2147483647 from (by decide +kernel))
    have M_5 := dg_sm.uF M_3 e_5 sM_0 (by decide)
    refine lv_aload_n hx hb dX12_reads_18 rfl (lv_at hl 0 rfl) ?_
    refine lv_iconst (v := 0) hx hb dX12_reads_19 (by decide +kernel) ?_
    have hz_6 : (0 : Int32).toInt = 0 := by decide +kernel
    refine dg_put (ci := 12) (v := .int 0) (ty := tyX12 45) (C := RX12) (T := TX12) (N := 77) hx hb hts (fun w h => bw_mem (wU_X12 w h)) tyX12 tyX12_ok nmX12 hown K hP hS hA1 sM_0 rfl 45 (by decide) (hts _ (bw_mem wB_1201)) (fun _ h9 => h9) rfl (by decide +kernel) rfl rfl dX12_reads_20 (fun S_7 e_7 H locs hP hS => ?_)
    have I_7 := dg_I.uFi (lo := 0) (hi := 500) I_5 e_7 sM_0 (by decide +kernel) (show 0 ≤ ((0 : Int32)).toInt ∧ ((0 : Int32)).toInt ≤ 500 from (by decide +kernel))
    have M_7 := dg_sm.uF M_5 e_7 sM_0 (by decide)
    refine lv_aload_n hx hb dX12_reads_23 rfl (lv_at hl 0 rfl) ?_
    refine lv_iconst (v := 0) hx hb dX12_reads_24 (by decide +kernel) ?_
    have hz_8 : (0 : Int32).toInt = 0 := by decide +kernel
    refine dg_put (ci := 12) (v := .int 0) (ty := tyX12 46) (C := RX12) (T := TX12) (N := 77) hx hb hts (fun w h => bw_mem (wU_X12 w h)) tyX12 tyX12_ok nmX12 hown K hP hS hA1 sM_0 rfl 46 (by decide) (hts _ (bw_mem wB_1237)) (fun _ h9 => h9) rfl (by decide +kernel) (by decide +kernel) (by decide +kernel) dX12_reads_25 (fun S_9 e_9 H locs hP hS => ?_)
    have I_9 := dg_I.uFi (lo := 0) (hi := 1) I_7 e_9 sM_0 (by decide +kernel) (show 0 ≤ ((0 : Int32)).toInt ∧ ((0 : Int32)).toInt ≤ 1 from (by decide +kernel))
    have M_9 := dg_sm.uF M_7 e_9 sM_0 (by decide)
    refine lv_aload_n hx hb dX12_reads_28 rfl (lv_at hl 0 rfl) ?_
    refine lv_iload_n hx hb dX12_reads_29 rfl (lv_at hl 1 rfl) ?_
    refine lv_if_eq (tgt := 37) hx hb dX12_reads_30 (by decide) (fun c_10 => ?_) (fun c_10 => ?_)
    · have jc_10 := dk_eqc (k := 0) (by decide +kernel) c_10
      refine lv_iconst (v := 0) hx hb dX12_reads_37 (by decide +kernel) ?_
      have hz_11 : (0 : Int32).toInt = 0 := by decide +kernel
      have hz_12 : (0 : Int32).toInt = 0 := by decide +kernel
      have hz_13 : (0 : Int32).toInt = 0 := by decide +kernel
      refine dg_callv hS hA1 hA (va_runV (As := [.int 0]) (rest := []) F (c_m_pushes l g D o S_9 0 (by decide +kernel) 0 (((dg_uF_ne e_9 (fun z => absurd z.2 (by decide))).trans ((dg_uF_ne e_7 (fun z => absurd z.2 (by decide))).trans (dg_uF_ne e_5 (fun z => absurd z.2 (by decide))))).trans (dg_uF_at e_3)) (by decide +kernel) 0 ((dg_uF_ne e_9 (fun z => absurd z.2 (by decide))).trans (dg_uF_at e_7)) (by decide +kernel) I_9 H.size) (cwV 1 hts (bw_V wB_1217 wB_1218 wB_1219 wB_881 wB_1216) rfl rfl rfl (by decide +kernel) ⟨Nat.le_of_ble_eq_true rfl, Nat.le_of_ble_eq_true rfl⟩) (dg_preV sM_0 rfl K ST hP hS hA1 hA) rfl rfl hl.1 rfl (lv_room (Nat.le_of_ble_eq_true rfl)) dX12_reads_38 ⟨Nat.le_of_ble_eq_true rfl, Nat.le_of_ble_eq_true rfl⟩) (fun S_14 hw_14 H locs hP hS => ?_)
      obtain ⟨I_14, m_14, w_14_0, w_14_1, -⟩ := hw_14
      have M_14 := dg_sm.tr M_9 m_14 (by decide) (by decide)
      have hz_15 : (0 : Int32).toInt = 0 := by decide +kernel
      have hz_16 : (0 : Int32).toInt = 0 := by decide +kernel
      have hz_17 : (0 : Int32).toInt = 0 := by decide +kernel
      obtain ⟨y_18, f_y_18, w_14_0⟩ := w_14_0
      have w_14_0 : (y_18).toInt = ((0 : Int32)).toInt + 1 := w_14_0
      have b_y_18 : 0 ≤ (y_18).toInt ∧ (y_18).toInt ≤ 20 := dg_I.intb (lo := 0) (hi := 20) I_14 sM_0 (by decide +kernel) f_y_18
      have w_14_1 : PUM S_9 S_14 (0 : Int32) := w_14_1
      obtain ⟨x_19, f_x_19, b_x_19⟩ := dg_I.int (i := 0) (k := 42) (lo := 0) (hi := 20) I_9 sM_0 (by decide +kernel)
      have P0_14 : P0M S_14 := P0M.first (QSM.keep (QSM.keep (QSM.keep (QSM.keep hq (dg_sm.uF (WF := [(0, 42)]) (WA := []) dg_sm.rf e_3 sM_0 (by decide)) (by decide) (by decide) (by decide) (by decide) (by decide) (by decide)) (dg_sm.uF (WF := [(0, 43)]) (WA := []) dg_sm.rf e_5 sM_0 (by decide)) (by decide) (by decide) (by decide) (by decide) (by decide) (by decide)) (dg_sm.uF (WF := [(0, 45)]) (WA := []) dg_sm.rf e_7 sM_0 (by decide)) (by decide) (by decide) (by decide) (by decide) (by decide) (by decide)) (dg_sm.uF (WF := [(0, 46)]) (WA := []) dg_sm.rf e_9 sM_0 (by decide)) (by decide) (by decide) (by decide) (by decide) (by decide) (by decide)) (dp := x_19) (on := 0) (om := 0) f_x_19 (((dg_uF_ne e_9 (fun z => absurd z.2 (by decide))).trans (dg_uF_ne e_7 (fun z => absurd z.2 (by decide)))).trans (dg_uF_at e_5)) ((dg_uF_ne e_9 (fun z => absurd z.2 (by decide))).trans (dg_uF_at e_7)) (by decide +kernel) (by decide +kernel) (by decide +kernel) w_14_1 m_14 (by decide +kernel)
      have hpo0 : POM S_14 := POM.mk0 P0_14 ((m_14.1 0 46 _ sM_0 (by decide)).trans (dg_uF_at e_9)) (by decide +kernel)
      refine lv_iconst (v := 1) hx hb dX12_reads_41 (by decide +kernel) ?_
      refine lv_istore_n (lv' := [(2, .int 1), (0, .ref (o + 0)), (1, .int a1)]) hx hb dX12_reads_42 rfl hl (by decide) rfl (fun ls hl => ?_)
      have L_85 : ∀ (n : Nat) (x_75 : Int32) (x_76 : Int32) (x_77 : Int32) (x_78 : Int32) (x_79 : Int32) (x_80 : Int32) (x_81 : Int32) (x_82 : Int32) (x_83 : Int32), (0 ≤ (x_75).toInt ∧ (x_75).toInt ≤ 1) → (0 ≤ (x_76).toInt ∧ (x_76).toInt ≤ 3) → (0 ≤ (x_77).toInt ∧ (x_77).toInt ≤ 1600) → (0 ≤ (x_78).toInt ∧ (x_78).toInt ≤ 1600) → (0 ≤ (x_79).toInt ∧ (x_79).toInt ≤ 6) → (0 ≤ (x_80).toInt ∧ (x_80).toInt ≤ 1600) → (0 ≤ (x_81).toInt ∧ (x_81).toInt ≤ 20) → (0 ≤ (x_82).toInt ∧ (x_82).toInt ≤ 500) → (0 ≤ (x_83).toInt ∧ (x_83).toInt ≤ 1) → (((x_75).toInt + 1600 - (x_77).toInt).toNat < n) → ∀ S_84 : dg_S, CM o S_84 → dg_sm shM [(0, 3), (0, 4), (0, 5), (0, 6), (0, 7), (0, 8), (0, 9), (0, 12), (0, 34), (0, 42), (0, 43), (0, 45), (0, 46)] [18, 19, 22, 23, 24, 25, 26, 27] S S_84 → S_84.1 0 3 = .int x_76 → S_84.1 0 4 = .int x_77 → S_84.1 0 5 = .int x_78 → S_84.1 0 8 = .int x_79 → S_84.1 0 34 = .int x_80 → S_84.1 0 42 = .int x_81 → S_84.1 0 45 = .int x_82 → S_84.1 0 46 = .int x_83 → ZWM S_84 → (((x_77).toInt ≤ (x_78).toInt ∧ (x_78).toInt ≤ (sl).toInt ∧ ((x_76).toInt ≠ 0 → (x_77).toInt + 1 ≤ (x_78).toInt)) ∧ (sa).toInt ≤ (x_77).toInt) → ((x_75 : Int32).toInt = 1 → (x_79).toInt = 0) → ((x_79).toInt = 0 → (x_80).toInt + (x_82).toInt + (x_81).toInt ≤ (x_77).toInt) → ((x_75 : Int32).toInt = 1 → POM S_84) → ((x_75 : Int32).toInt = 0 → (x_79).toInt = 0 → QEM S_84) → ∀ (H : Heap) (locs : List Loc), va_P D vwCl (dg_w g shM o rfM S_84) H → va_S A s.heap H locs → ∀ ls : Array Slot, lv_has ls 3 [(2, .int x_75), (0, .ref (o + 0)), (1, .int a1)] → W p l e ({ frames := 5, cells := 0, slots := 0, locals := 121 } : Room) s m args below meth c H locs 0 0 (MQ below (va_Qv (fun S' => CM o S' ∧ dg_sm shM [(0, 3), (0, 4), (0, 5), (0, 6), (0, 7), (0, 8), (0, 9), (0, 12), (0, 34), (0, 42), (0, 43), (0, 45), (0, 46)] [18, 19, 22, 23, 24, 25, 26, 27] S S' ∧ (∃ y9_3 y9_4 y9_5 y9_8 y9_34 : Int32, S'.1 0 3 = .int y9_3 ∧ S'.1 0 4 = .int y9_4 ∧ S'.1 0 5 = .int y9_5 ∧ S'.1 0 8 = .int y9_8 ∧ S'.1 0 34 = .int y9_34 ∧ (((y9_4).toInt ≤ (y9_5).toInt ∧ (y9_5).toInt ≤ (sl).toInt ∧ ((y9_3).toInt ≠ 0 → (y9_4).toInt + 1 ≤ (y9_5).toInt)) ∧ (sa).toInt ≤ (y9_4).toInt ∧ ((fk).toInt ≠ 0 → (y9_8).toInt ≠ 0) ∧ ((y9_8).toInt = 0 → (y9_34).toInt ≤ (y9_4).toInt))) ∧ (∀ k9 : Int32, S'.1 0 8 = .int k9 → k9.toInt = 0 → QEM S') ∧ ZWM S' ∧ True) (dg_B g D shM o rfM) A) args s 0 0 A) (F0 m 43 ls []) := by
        intro n
        induction n with
        | zero =>
          intro x_75 x_76 x_77 x_78 x_79 x_80 x_81 x_82 x_83 b_x_75 b_x_76 b_x_77 b_x_78 b_x_79 b_x_80 b_x_81 b_x_82 b_x_83 hmu S_84 I_84 M_84 ff_84_3_0 ff_84_4_0 ff_84_5_0 ff_84_8_0 ff_84_34_0 ff_84_42_0 ff_84_45_0 ff_84_46_0 ZW_84 srel_84_0 srel_84_1 srel_84_2 srel_84_3 srel_84_4 H locs hP hS ls hl
          omega
        | succ n ih =>
          intro x_75 x_76 x_77 x_78 x_79 x_80 x_81 x_82 x_83 b_x_75 b_x_76 b_x_77 b_x_78 b_x_79 b_x_80 b_x_81 b_x_82 b_x_83 hmu S_84 I_84 M_84 ff_84_3_0 ff_84_4_0 ff_84_5_0 ff_84_8_0 ff_84_34_0 ff_84_42_0 ff_84_45_0 ff_84_46_0 ZW_84 srel_84_0 srel_84_1 srel_84_2 srel_84_3 srel_84_4 H locs hP hS ls hl
          refine lv_iload_n hx hb dX12_reads_43 rfl (lv_at hl 0 rfl) ?_
          refine lv_if_eq (tgt := 90) hx hb dX12_reads_44 (by decide) (fun c_86 => ?_) (fun c_86 => ?_)
          · have jc_86 := dk_eqc (k := 0) (by decide +kernel) c_86
            refine W.widen (k := 0) (n := 0) (Nat.le_of_ble_eq_true rfl) (Nat.le_of_ble_eq_true rfl) ?_
            exact dg_vret hx hb hr hlocks hP hS ⟨I_84, M_84, ⟨x_76, x_77, x_78, x_79, x_80, ff_84_3_0, ff_84_4_0, ff_84_5_0, ff_84_8_0, ff_84_34_0, (by omega)⟩, (fun k9 hk9 hk0 => by have q9 := (ff_84_8_0).symm.trans hk9; cases q9; exact srel_84_4 (by omega) hk0), ZW_84, trivial⟩ dX12_reads_90
          · have jc_86 := dk_neqc (k := 0) (by decide +kernel) c_86
            refine lv_aload_n hx hb dX12_reads_47 rfl (lv_at hl 1 rfl) ?_
            refine dg_get (C := RX12) (T := TX12) (N := 77) hx hb hts (fun w h => bw_mem (wU_X12 w h)) hown K hP sM_0 rfl 46 (by decide) (hts _ (bw_mem wB_1237)) (fun _ h9 => h9) (v := .int x_83) ff_84_46_0 dX12_reads_48 ?_
            refine lv_if_ne (tgt := 65) hx hb dX12_reads_51 (by decide) (fun c_87 => ?_) (fun c_87 => ?_)
            · have jc_87 := dk_neqc (k := 0) (by decide +kernel) c_87
              have P1_84 : P1M S_84 := POM.p1 (srel_84_3 (by omega)) ff_84_46_0 (by omega)
              refine lv_aload_n hx hb dX12_reads_65 rfl (lv_at hl 1 rfl) ?_
              obtain ⟨x_88, f_x_88, b_x_88⟩ := dg_I.int (i := 0) (k := 6) (lo := 0) (hi := 9999) I_84 sM_0 (by decide +kernel)
              obtain ⟨x_89, f_x_89, b_x_89⟩ := dg_I.int (i := 0) (k := 43) (lo := (-2147483648)) (hi := 2147483647) I_84 sM_0 (by decide +kernel)
              refine dg_calli hS hA1 hA (va_runV (As := []) (rest := []) F (c_m_goesOn l g D o S_84 x_76 ff_84_3_0 (by omega) x_77 ff_84_4_0 (by omega) x_78 ff_84_5_0 (by omega) sl ((M_84.1 0 2 _ sM_0 (by decide)).trans f_sl) (by omega) x_79 ff_84_8_0 (by omega) x_88 f_x_88 (by omega) x_80 ff_84_34_0 (by omega) x_81 ff_84_42_0 (by omega) x_89 f_x_89 x_82 ff_84_45_0 (by omega) x_83 ff_84_46_0 (by omega) (by omega) (by omega) ZW_84 (ZKM.keep ZK M_84 (by decide) (by decide)) P1_84 I_84 H.size) (cwV 0 hts (bw_V wB_1243 wB_1244 wB_1245 wB_881 wB_1242) rfl rfl rfl (by decide +kernel) ⟨Nat.le_of_ble_eq_true rfl, Nat.le_of_ble_eq_true rfl⟩) (dg_preV sM_0 rfl K ST hP hS hA1 hA) rfl rfl hl.1 rfl (lv_room (Nat.le_of_ble_eq_true rfl)) dX12_reads_66 ⟨Nat.le_of_ble_eq_true rfl, Nat.le_of_ble_eq_true rfl⟩) (fun x_90 S_91 hw_91 H locs hP hS => ?_)
              obtain ⟨I_91, m_91, w_91_0, w_91_1, w_91_2, w_91_3, -⟩ := hw_91
              have M_91 := dg_sm.tr M_84 m_91 (by decide) (by decide)
              have w_91_0 : 0 ≤ (x_90).toInt ∧ (x_90).toInt ≤ 1 := w_91_0
              obtain ⟨y_92, y_93, y_94, y_95, y_96, y_97, y_98, y_99, f_y_92, f_y_93, f_y_94, f_y_95, f_y_96, f_y_97, f_y_98, f_y_99, w_91_1⟩ := w_91_1
              have w_91_1 : ((y_93).toInt ≤ (y_94).toInt ∧ (y_94).toInt ≤ (sl).toInt ∧ ((y_92).toInt ≠ 0 → (y_93).toInt + 1 ≤ (y_94).toInt)) ∧ (x_77).toInt ≤ (y_93).toInt ∧ ((x_79).toInt ≠ 0 → (y_95).toInt ≠ 0) ∧ (((y_95).toInt = 0 → (x_90).toInt = 1 → (x_77).toInt + 1 ≤ (y_93).toInt) ∧ ((y_95).toInt = 0 → (y_96).toInt + (y_98).toInt + (y_97).toInt ≤ (y_93).toInt)) := w_91_1
              obtain ⟨⟨w_91_1_0, w_91_1_1, w_91_1_2⟩, w_91_1_3, w_91_1_4, ⟨w_91_1_5, w_91_1_6⟩⟩ := w_91_1
              have b_y_92 : 0 ≤ (y_92).toInt ∧ (y_92).toInt ≤ 3 := dg_I.intb (lo := 0) (hi := 3) I_91 sM_0 (by decide +kernel) f_y_92
              have b_y_93 : 0 ≤ (y_93).toInt ∧ (y_93).toInt ≤ 1600 := dg_I.intb (lo := 0) (hi := 1600) I_91 sM_0 (by decide +kernel) f_y_93
              have b_y_94 : 0 ≤ (y_94).toInt ∧ (y_94).toInt ≤ 1600 := dg_I.intb (lo := 0) (hi := 1600) I_91 sM_0 (by decide +kernel) f_y_94
              have b_y_95 : 0 ≤ (y_95).toInt ∧ (y_95).toInt ≤ 6 := dg_I.intb (lo := 0) (hi := 6) I_91 sM_0 (by decide +kernel) f_y_95
              have b_y_96 : 0 ≤ (y_96).toInt ∧ (y_96).toInt ≤ 1600 := dg_I.intb (lo := 0) (hi := 1600) I_91 sM_0 (by decide +kernel) f_y_96
              have b_y_97 : 0 ≤ (y_97).toInt ∧ (y_97).toInt ≤ 20 := dg_I.intb (lo := 0) (hi := 20) I_91 sM_0 (by decide +kernel) f_y_97
              have b_y_98 : 0 ≤ (y_98).toInt ∧ (y_98).toInt ≤ 500 := dg_I.intb (lo := 0) (hi := 500) I_91 sM_0 (by decide +kernel) f_y_98
              have b_y_99 : 0 ≤ (y_99).toInt ∧ (y_99).toInt ≤ 1 := dg_I.intb (lo := 0) (hi := 1) I_91 sM_0 (by decide +kernel) f_y_99
              have w_91_2 : ∀ k9 : Int32, S_91.1 0 8 = .int k9 → k9.toInt = 0 → POM S_91 := w_91_2
              refine lv_istore_n (lv' := [(2, .int x_90), (0, .ref (o + 0)), (1, .int a1)]) hx hb dX12_reads_69 rfl hl (by decide) rfl (fun ls hl => ?_)
              refine lv_iload_n hx hb dX12_reads_70 rfl (lv_at hl 0 rfl) ?_
              refine lv_if_eq (tgt := 85) hx hb dX12_reads_71 (by decide) (fun c_100 => ?_) (fun c_100 => ?_)
              · have jc_100 := dk_eqc (k := 0) (by decide +kernel) c_100
                refine lv_iconst (v := 0) hx hb dX12_reads_85 (by decide +kernel) ?_
                refine lv_istore_n (lv' := [(2, .int 0), (0, .ref (o + 0)), (1, .int a1)]) hx hb dX12_reads_86 rfl hl (by decide) rfl (fun ls hl => ?_)
                refine lv_goto (tgt := 43) hx hb dX12_reads_87 (by decide) ?_
                have hz_101 : (0 : Int32).toInt = 0 := by decide +kernel
                have hz_102 : (0 : Int32).toInt = 0 := by decide +kernel
                have hz_103 : (0 : Int32).toInt = 0 := by decide +kernel
                obtain ⟨x_104, f_x_104, b_x_104⟩ := dg_I.int (i := 0) (k := 43) (lo := (-2147483648)) (hi := 2147483647) I_91 sM_0 (by decide +kernel)
                exact ih 0 y_92 y_93 y_94 y_95 y_96 y_97 y_98 y_99 (by decide +kernel) (by omega) (by omega) (by omega) (by omega) (by omega) (by omega) (by omega) (by omega) (by omega) S_91 I_91 M_91 f_y_92 f_y_93 f_y_94 f_y_95 f_y_96 f_y_97 f_y_98 f_y_99 w_91_3 (by omega) (by omega) (by omega) (fun h9 => absurd h9 (by decide +kernel)) (fun _ h8 => POM.qe (w_91_2 _ f_y_95 h8) f_y_99 f_y_97 f_x_104 f_y_98) _ _ hP hS _ (lv_sub hl [0, 1, 2] rfl)
              · have jc_100 := dk_neqc (k := 0) (by decide +kernel) c_100
                refine lv_aload_n hx hb dX12_reads_74 rfl (lv_at hl 1 rfl) ?_
                refine dg_get (C := RX12) (T := TX12) (N := 77) hx hb hts (fun w h => bw_mem (wU_X12 w h)) hown K hP sM_0 rfl 8 (by decide) (hts _ (bw_mem wB_1133)) (fun _ h9 => h9) (v := .int y_95) f_y_95 dX12_reads_75 ?_
                refine lv_if_ne (tgt := 85) hx hb dX12_reads_78 (by decide) (fun c_105 => ?_) (fun c_105 => ?_)
                · have jc_105 := dk_neqc (k := 0) (by decide +kernel) c_105
                  clear w_91_1_5
                  clear w_91_1_6
                  refine lv_iconst (v := 0) hx hb dX12_reads_85 (by decide +kernel) ?_
                  refine lv_istore_n (lv' := [(2, .int 0), (0, .ref (o + 0)), (1, .int a1)]) hx hb dX12_reads_86 rfl hl (by decide) rfl (fun ls hl => ?_)
                  refine lv_goto (tgt := 43) hx hb dX12_reads_87 (by decide) ?_
                  have hz_106 : (0 : Int32).toInt = 0 := by decide +kernel
                  have hz_107 : (0 : Int32).toInt = 0 := by decide +kernel
                  have hz_108 : (0 : Int32).toInt = 0 := by decide +kernel
                  exact ih 0 y_92 y_93 y_94 y_95 y_96 y_97 y_98 y_99 (by decide +kernel) (by omega) (by omega) (by omega) (by omega) (by omega) (by omega) (by omega) (by omega) (by omega) S_91 I_91 M_91 f_y_92 f_y_93 f_y_94 f_y_95 f_y_96 f_y_97 f_y_98 f_y_99 w_91_3 (by omega) (by omega) (by omega) (fun h9 => absurd h9 (by decide +kernel)) (fun _ h8 => absurd h8 (by omega)) _ _ hP hS _ (lv_sub hl [0, 1, 2] rfl)
                · have jc_105 := dk_eqc (k := 0) (by decide +kernel) c_105
                  have w_91_1_5r := w_91_1_5 (by omega)
                  clear w_91_1_5
                  have w_91_1_6r := w_91_1_6 (by omega)
                  clear w_91_1_6
                  have w_91_1_5rr := w_91_1_5r (by omega)
                  clear w_91_1_5r
                  refine lv_iconst (v := 1) hx hb dX12_reads_81 (by decide +kernel) ?_
                  refine lv_goto (tgt := 86) hx hb dX12_reads_82 (by decide) ?_
                  refine lv_istore_n (lv' := [(2, .int 1), (0, .ref (o + 0)), (1, .int a1)]) hx hb dX12_reads_86 rfl hl (by decide) rfl (fun ls hl => ?_)
                  refine lv_goto (tgt := 43) hx hb dX12_reads_87 (by decide) ?_
                  have hz_109 : (1 : Int32).toInt = 1 := by decide +kernel
                  have hz_110 : (1 : Int32).toInt = 1 := by decide +kernel
                  have hz_111 : (1 : Int32).toInt = 1 := by decide +kernel
                  exact ih 1 y_92 y_93 y_94 y_95 y_96 y_97 y_98 y_99 (by decide +kernel) (by omega) (by omega) (by omega) (by omega) (by omega) (by omega) (by omega) (by omega) (by omega) S_91 I_91 M_91 f_y_92 f_y_93 f_y_94 f_y_95 f_y_96 f_y_97 f_y_98 f_y_99 w_91_3 (by omega) (by omega) (by omega) (fun _ => w_91_2 _ f_y_95 (by omega)) (fun h9 => absurd h9 (by decide +kernel)) _ _ hP hS _ (lv_sub hl [0, 1, 2] rfl)
            · have jc_87 := dk_eqc (k := 0) (by decide +kernel) c_87
              have P0_84 : P0M S_84 := POM.p0 (srel_84_3 (by omega)) ff_84_46_0 (by omega)
              refine lv_aload_n hx hb dX12_reads_54 rfl (lv_at hl 1 rfl) ?_
              refine lv_aload_n hx hb dX12_reads_55 rfl (lv_at hl 1 rfl) ?_
              obtain ⟨x_112, f_x_112, b_x_112⟩ := dg_I.int (i := 0) (k := 6) (lo := 0) (hi := 9999) I_84 sM_0 (by decide +kernel)
              obtain ⟨x_113, f_x_113, b_x_113⟩ := dg_I.int (i := 0) (k := 43) (lo := (-2147483648)) (hi := 2147483647) I_84 sM_0 (by decide +kernel)
              refine dg_calli hS hA1 hA (va_runV (As := []) (rest := [.ref (o + 0)]) F (c_m_operand l g D o S_84 x_76 ff_84_3_0 (by omega) x_77 ff_84_4_0 (by omega) x_78 ff_84_5_0 (by omega) sl ((M_84.1 0 2 _ sM_0 (by decide)).trans f_sl) (by omega) x_112 f_x_112 (by omega) x_80 ff_84_34_0 (by omega) x_81 ff_84_42_0 (by omega) x_113 f_x_113 x_82 ff_84_45_0 (by omega) x_79 ff_84_8_0 (by omega) (by omega) (by omega) ZW_84 (ZKM.keep ZK M_84 (by decide) (by decide)) P0_84 I_84 H.size) (cwV 0 hts (bw_V wB_1239 wB_1240 wB_1241 wB_881 wB_1238) rfl rfl rfl (by decide +kernel) ⟨Nat.le_of_ble_eq_true rfl, Nat.le_of_ble_eq_true rfl⟩) (dg_preV sM_0 rfl K ST hP hS hA1 hA) rfl rfl hl.1 rfl (lv_room (Nat.le_of_ble_eq_true rfl)) dX12_reads_56 ⟨Nat.le_of_ble_eq_true rfl, Nat.le_of_ble_eq_true rfl⟩) (fun x_114 S_115 hw_115 H locs hP hS => ?_)
              obtain ⟨I_115, m_115, w_115_0, w_115_1, w_115_2, w_115_3, -⟩ := hw_115
              have M_115 := dg_sm.tr M_84 m_115 (by decide) (by decide)
              have w_115_0 : 0 ≤ (x_114).toInt ∧ (x_114).toInt ≤ 1 := w_115_0
              obtain ⟨y_116, y_117, y_118, y_119, y_120, y_121, y_122, f_y_116, f_y_117, f_y_118, f_y_119, f_y_120, f_y_121, f_y_122, w_115_1⟩ := w_115_1
              have w_115_1 : ((y_117).toInt ≤ (y_118).toInt ∧ (y_118).toInt ≤ (sl).toInt ∧ ((y_116).toInt ≠ 0 → (y_117).toInt + 1 ≤ (y_118).toInt)) ∧ (x_77).toInt ≤ (y_117).toInt ∧ ((x_79).toInt ≠ 0 → (y_119).toInt ≠ 0) ∧ (((y_119).toInt = 0 → (x_77).toInt + 1 ≤ (y_117).toInt) ∧ ((y_119).toInt = 0 → (y_120).toInt + (y_122).toInt + (y_121).toInt ≤ (y_117).toInt)) := w_115_1
              obtain ⟨⟨w_115_1_0, w_115_1_1, w_115_1_2⟩, w_115_1_3, w_115_1_4, ⟨w_115_1_5, w_115_1_6⟩⟩ := w_115_1
              have b_y_116 : 0 ≤ (y_116).toInt ∧ (y_116).toInt ≤ 3 := dg_I.intb (lo := 0) (hi := 3) I_115 sM_0 (by decide +kernel) f_y_116
              have b_y_117 : 0 ≤ (y_117).toInt ∧ (y_117).toInt ≤ 1600 := dg_I.intb (lo := 0) (hi := 1600) I_115 sM_0 (by decide +kernel) f_y_117
              have b_y_118 : 0 ≤ (y_118).toInt ∧ (y_118).toInt ≤ 1600 := dg_I.intb (lo := 0) (hi := 1600) I_115 sM_0 (by decide +kernel) f_y_118
              have b_y_119 : 0 ≤ (y_119).toInt ∧ (y_119).toInt ≤ 6 := dg_I.intb (lo := 0) (hi := 6) I_115 sM_0 (by decide +kernel) f_y_119
              have b_y_120 : 0 ≤ (y_120).toInt ∧ (y_120).toInt ≤ 1600 := dg_I.intb (lo := 0) (hi := 1600) I_115 sM_0 (by decide +kernel) f_y_120
              have b_y_121 : 0 ≤ (y_121).toInt ∧ (y_121).toInt ≤ 20 := dg_I.intb (lo := 0) (hi := 20) I_115 sM_0 (by decide +kernel) f_y_121
              have b_y_122 : 0 ≤ (y_122).toInt ∧ (y_122).toInt ≤ 500 := dg_I.intb (lo := 0) (hi := 500) I_115 sM_0 (by decide +kernel) f_y_122
              have w_115_2 : ∀ k9 : Int32, S_115.1 0 8 = .int k9 → k9.toInt = 0 → ((x_114).toInt = 1 → P1M S_115) ∧ ((x_114).toInt = 0 → P0M S_115) := w_115_2
              refine dg_put (ci := 12) (v := .int x_114) (ty := tyX12 46) (C := RX12) (T := TX12) (N := 77) hx hb hts (fun w h => bw_mem (wU_X12 w h)) tyX12 tyX12_ok nmX12 hown K hP hS hA1 sM_0 rfl 46 (by decide) (hts _ (bw_mem wB_1237)) (fun _ h9 => h9) rfl (by decide +kernel) (dk_znar (by omega) (by omega)) (dk_zfit (by omega) (by omega)) dX12_reads_59 (fun S_123 e_123 H locs hP hS => ?_)
              have I_123 := dg_I.uFi (lo := 0) (hi := 1) I_115 e_123 sM_0 (by decide +kernel) (show 0 ≤ (x_114).toInt ∧ (x_114).toInt ≤ 1 from (by omega))
              have M_123 := dg_sm.uF M_115 e_123 sM_0 (by decide)
              refine lv_goto (tgt := 70) hx hb dX12_reads_62 (by decide) ?_
              refine lv_iload_n hx hb dX12_reads_70 rfl (lv_at hl 0 rfl) ?_
              refine lv_if_eq (tgt := 85) hx hb dX12_reads_71 (by decide) (fun c => absurd c (fun z => absurd (dk_eqc (k := 0) (by decide +kernel) z) (by omega))) (fun _ => ?_)
              refine lv_aload_n hx hb dX12_reads_74 rfl (lv_at hl 1 rfl) ?_
              refine dg_get (C := RX12) (T := TX12) (N := 77) hx hb hts (fun w h => bw_mem (wU_X12 w h)) hown K hP sM_0 rfl 8 (by decide) (hts _ (bw_mem wB_1133)) (fun _ h9 => h9) (v := .int y_119) ((dg_uF_ne e_123 (fun z => absurd z.2 (by decide))).trans f_y_119) dX12_reads_75 ?_
              refine lv_if_ne (tgt := 85) hx hb dX12_reads_78 (by decide) (fun c_124 => ?_) (fun c_124 => ?_)
              · have jc_124 := dk_neqc (k := 0) (by decide +kernel) c_124
                clear w_115_1_5
                clear w_115_1_6
                refine lv_iconst (v := 0) hx hb dX12_reads_85 (by decide +kernel) ?_
                refine lv_istore_n (lv' := [(2, .int 0), (0, .ref (o + 0)), (1, .int a1)]) hx hb dX12_reads_86 rfl hl (by decide) rfl (fun ls hl => ?_)
                refine lv_goto (tgt := 43) hx hb dX12_reads_87 (by decide) ?_
                have hz_125 : (0 : Int32).toInt = 0 := by decide +kernel
                have hz_126 : (0 : Int32).toInt = 0 := by decide +kernel
                have hz_127 : (0 : Int32).toInt = 0 := by decide +kernel
                exact ih 0 y_116 y_117 y_118 y_119 y_120 y_121 y_122 x_114 (by decide +kernel) (by omega) (by omega) (by omega) (by omega) (by omega) (by omega) (by omega) (by omega) (by omega) S_123 I_123 M_123 ((dg_uF_ne e_123 (fun z => absurd z.2 (by decide))).trans f_y_116) ((dg_uF_ne e_123 (fun z => absurd z.2 (by decide))).trans f_y_117) ((dg_uF_ne e_123 (fun z => absurd z.2 (by decide))).trans f_y_118) ((dg_uF_ne e_123 (fun z => absurd z.2 (by decide))).trans f_y_119) ((dg_uF_ne e_123 (fun z => absurd z.2 (by decide))).trans f_y_120) ((dg_uF_ne e_123 (fun z => absurd z.2 (by decide))).trans f_y_121) ((dg_uF_ne e_123 (fun z => absurd z.2 (by decide))).trans f_y_122) (dg_uF_at e_123) (ZWM.keep w_115_3 (dg_sm.uF (WF := [(0, 46)]) (WA := []) dg_sm.rf e_123 sM_0 (by decide)) (by decide) (by decide) (by decide) (by decide)) (by omega) (by omega) (by omega) (fun h9 => absurd h9 (by decide +kernel)) (fun _ h8 => absurd h8 (by omega)) _ _ hP hS _ (lv_sub hl [0, 1, 2] rfl)
              · have jc_124 := dk_eqc (k := 0) (by decide +kernel) c_124
                have w_115_1_5r := w_115_1_5 (by omega)
                clear w_115_1_5
                have w_115_1_6r := w_115_1_6 (by omega)
                clear w_115_1_6
                refine lv_iconst (v := 1) hx hb dX12_reads_81 (by decide +kernel) ?_
                refine lv_goto (tgt := 86) hx hb dX12_reads_82 (by decide) ?_
                refine lv_istore_n (lv' := [(2, .int 1), (0, .ref (o + 0)), (1, .int a1)]) hx hb dX12_reads_86 rfl hl (by decide) rfl (fun ls hl => ?_)
                refine lv_goto (tgt := 43) hx hb dX12_reads_87 (by decide) ?_
                have hz_128 : (1 : Int32).toInt = 1 := by decide +kernel
                have hz_129 : (1 : Int32).toInt = 1 := by decide +kernel
                have hz_130 : (1 : Int32).toInt = 1 := by decide +kernel
                exact ih 1 y_116 y_117 y_118 y_119 y_120 y_121 y_122 x_114 (by decide +kernel) (by omega) (by omega) (by omega) (by omega) (by omega) (by omega) (by omega) (by omega) (by omega) S_123 I_123 M_123 ((dg_uF_ne e_123 (fun z => absurd z.2 (by decide))).trans f_y_116) ((dg_uF_ne e_123 (fun z => absurd z.2 (by decide))).trans f_y_117) ((dg_uF_ne e_123 (fun z => absurd z.2 (by decide))).trans f_y_118) ((dg_uF_ne e_123 (fun z => absurd z.2 (by decide))).trans f_y_119) ((dg_uF_ne e_123 (fun z => absurd z.2 (by decide))).trans f_y_120) ((dg_uF_ne e_123 (fun z => absurd z.2 (by decide))).trans f_y_121) ((dg_uF_ne e_123 (fun z => absurd z.2 (by decide))).trans f_y_122) (dg_uF_at e_123) (ZWM.keep w_115_3 (dg_sm.uF (WF := [(0, 46)]) (WA := []) dg_sm.rf e_123 sM_0 (by decide)) (by decide) (by decide) (by decide) (by decide)) (by omega) (by omega) (by omega) (fun _ => POM.of e_123 (w_115_2 _ f_y_119 (by omega)).1 (w_115_2 _ f_y_119 (by omega)).2 (by omega)) (fun h9 => absurd h9 (by decide +kernel)) _ _ hP hS _ (lv_sub hl [0, 1, 2] rfl)
      obtain ⟨x_131, f_x_131, b_x_131⟩ := dg_I.int (i := 0) (k := 42) (lo := 0) (hi := 20) I_14 sM_0 (by decide +kernel)
      have hz_132 : (1 : Int32).toInt = 1 := by decide +kernel
      have hz_133 : (0 : Int32).toInt = 0 := by decide +kernel
      have hz_134 : (0 : Int32).toInt = 0 := by decide +kernel
      have hz_135 : (1 : Int32).toInt = 1 := by decide +kernel
      have hz_136 : (0 : Int32).toInt = 0 := by decide +kernel
      have hz_137 : (0 : Int32).toInt = 0 := by decide +kernel
      have hz_138 : (0 : Int32).toInt = 0 := by decide +kernel
      have hz_139 : (0 : Int32).toInt = 0 := by decide +kernel
      have hz_140 : (1 : Int32).toInt = 1 := by decide +kernel
      exact L_85 ((((1 : Int32)).toInt + 1600 - ((sa : Int32)).toInt).toNat + 1) 1 sg sa se fk cd x_131 0 0 (by decide +kernel) (by omega) (by omega) (by omega) (by omega) (by omega) (by omega) (by decide +kernel) (by decide +kernel) (by omega) S_14 I_14 M_14 (((m_14.1 0 3 _ sM_0 (by decide)).trans ((dg_uF_ne e_9 (fun z => absurd z.2 (by decide))).trans ((dg_uF_ne e_7 (fun z => absurd z.2 (by decide))).trans ((dg_uF_ne e_5 (fun z => absurd z.2 (by decide))).trans (dg_uF_ne e_3 (fun z => absurd z.2 (by decide))))))).trans f_sg) (((m_14.1 0 4 _ sM_0 (by decide)).trans ((dg_uF_ne e_9 (fun z => absurd z.2 (by decide))).trans ((dg_uF_ne e_7 (fun z => absurd z.2 (by decide))).trans ((dg_uF_ne e_5 (fun z => absurd z.2 (by decide))).trans (dg_uF_ne e_3 (fun z => absurd z.2 (by decide))))))).trans f_sa) (((m_14.1 0 5 _ sM_0 (by decide)).trans ((dg_uF_ne e_9 (fun z => absurd z.2 (by decide))).trans ((dg_uF_ne e_7 (fun z => absurd z.2 (by decide))).trans ((dg_uF_ne e_5 (fun z => absurd z.2 (by decide))).trans (dg_uF_ne e_3 (fun z => absurd z.2 (by decide))))))).trans f_se) (((m_14.1 0 8 _ sM_0 (by decide)).trans ((dg_uF_ne e_9 (fun z => absurd z.2 (by decide))).trans ((dg_uF_ne e_7 (fun z => absurd z.2 (by decide))).trans ((dg_uF_ne e_5 (fun z => absurd z.2 (by decide))).trans (dg_uF_ne e_3 (fun z => absurd z.2 (by decide))))))).trans f_fk) (((m_14.1 0 34 _ sM_0 (by decide)).trans ((dg_uF_ne e_9 (fun z => absurd z.2 (by decide))).trans ((dg_uF_ne e_7 (fun z => absurd z.2 (by decide))).trans ((dg_uF_ne e_5 (fun z => absurd z.2 (by decide))).trans (dg_uF_ne e_3 (fun z => absurd z.2 (by decide))))))).trans f_cd) f_x_131 (((m_14.1 0 45 _ sM_0 (by decide)).trans (dg_uF_ne e_9 (fun z => absurd z.2 (by decide)))).trans (dg_uF_at e_7)) ((m_14.1 0 46 _ sM_0 (by decide)).trans (dg_uF_at e_9)) (ZWM.keep (ZWM.keep (ZWM.keep (ZWM.keep (ZWM.keep ZW (dg_sm.uF (WF := [(0, 42)]) (WA := []) dg_sm.rf e_3 sM_0 (by decide)) (by decide) (by decide) (by decide) (by decide)) (dg_sm.uF (WF := [(0, 43)]) (WA := []) dg_sm.rf e_5 sM_0 (by decide)) (by decide) (by decide) (by decide) (by decide)) (dg_sm.uF (WF := [(0, 45)]) (WA := []) dg_sm.rf e_7 sM_0 (by decide)) (by decide) (by decide) (by decide) (by decide)) (dg_sm.uF (WF := [(0, 46)]) (WA := []) dg_sm.rf e_9 sM_0 (by decide)) (by decide) (by decide) (by decide) (by decide)) m_14 (by decide) (by decide) (by decide) (by decide)) (by omega) (by omega) (by omega) (fun _ => hpo0) (fun h9 => absurd h9 (by decide +kernel)) _ _ hP hS _ (lv_sub hl [0, 1, 2] rfl)
    · have jc_10 := dk_neqc (k := 0) (by decide +kernel) c_10
      refine lv_iconst (v := 1) hx hb dX12_reads_33 (by decide +kernel) ?_
      refine lv_goto (tgt := 38) hx hb dX12_reads_34 (by decide) ?_
      have hz_141 : (1 : Int32).toInt = 1 := by decide +kernel
      have hz_142 : (0 : Int32).toInt = 0 := by decide +kernel
      have hz_143 : (0 : Int32).toInt = 0 := by decide +kernel
      refine dg_callv hS hA1 hA (va_runV (As := [.int 1]) (rest := []) F (c_m_pushes l g D o S_9 1 (by decide +kernel) 0 (((dg_uF_ne e_9 (fun z => absurd z.2 (by decide))).trans ((dg_uF_ne e_7 (fun z => absurd z.2 (by decide))).trans (dg_uF_ne e_5 (fun z => absurd z.2 (by decide))))).trans (dg_uF_at e_3)) (by decide +kernel) 0 ((dg_uF_ne e_9 (fun z => absurd z.2 (by decide))).trans (dg_uF_at e_7)) (by decide +kernel) I_9 H.size) (cwV 1 hts (bw_V wB_1217 wB_1218 wB_1219 wB_881 wB_1216) rfl rfl rfl (by decide +kernel) ⟨Nat.le_of_ble_eq_true rfl, Nat.le_of_ble_eq_true rfl⟩) (dg_preV sM_0 rfl K ST hP hS hA1 hA) rfl rfl hl.1 rfl (lv_room (Nat.le_of_ble_eq_true rfl)) dX12_reads_38 ⟨Nat.le_of_ble_eq_true rfl, Nat.le_of_ble_eq_true rfl⟩) (fun S_144 hw_144 H locs hP hS => ?_)
      obtain ⟨I_144, m_144, w_144_0, w_144_1, -⟩ := hw_144
      have M_144 := dg_sm.tr M_9 m_144 (by decide) (by decide)
      have hz_145 : (1 : Int32).toInt = 1 := by decide +kernel
      have hz_146 : (0 : Int32).toInt = 0 := by decide +kernel
      have hz_147 : (0 : Int32).toInt = 0 := by decide +kernel
      obtain ⟨y_148, f_y_148, w_144_0⟩ := w_144_0
      have w_144_0 : (y_148).toInt = ((0 : Int32)).toInt + 1 := w_144_0
      have b_y_148 : 0 ≤ (y_148).toInt ∧ (y_148).toInt ≤ 20 := dg_I.intb (lo := 0) (hi := 20) I_144 sM_0 (by decide +kernel) f_y_148
      have w_144_1 : PUM S_9 S_144 (1 : Int32) := w_144_1
      obtain ⟨x_149, f_x_149, b_x_149⟩ := dg_I.int (i := 0) (k := 42) (lo := 0) (hi := 20) I_9 sM_0 (by decide +kernel)
      have P0_144 : P0M S_144 := P0M.first (QSM.keep (QSM.keep (QSM.keep (QSM.keep hq (dg_sm.uF (WF := [(0, 42)]) (WA := []) dg_sm.rf e_3 sM_0 (by decide)) (by decide) (by decide) (by decide) (by decide) (by decide) (by decide)) (dg_sm.uF (WF := [(0, 43)]) (WA := []) dg_sm.rf e_5 sM_0 (by decide)) (by decide) (by decide) (by decide) (by decide) (by decide) (by decide)) (dg_sm.uF (WF := [(0, 45)]) (WA := []) dg_sm.rf e_7 sM_0 (by decide)) (by decide) (by decide) (by decide) (by decide) (by decide) (by decide)) (dg_sm.uF (WF := [(0, 46)]) (WA := []) dg_sm.rf e_9 sM_0 (by decide)) (by decide) (by decide) (by decide) (by decide) (by decide) (by decide)) (dp := x_149) (on := 0) (om := 0) f_x_149 (((dg_uF_ne e_9 (fun z => absurd z.2 (by decide))).trans (dg_uF_ne e_7 (fun z => absurd z.2 (by decide)))).trans (dg_uF_at e_5)) ((dg_uF_ne e_9 (fun z => absurd z.2 (by decide))).trans (dg_uF_at e_7)) (by decide +kernel) (by decide +kernel) (by decide +kernel) w_144_1 m_144 (by decide +kernel)
      have hpo0 : POM S_144 := POM.mk0 P0_144 ((m_144.1 0 46 _ sM_0 (by decide)).trans (dg_uF_at e_9)) (by decide +kernel)
      refine lv_iconst (v := 1) hx hb dX12_reads_41 (by decide +kernel) ?_
      refine lv_istore_n (lv' := [(2, .int 1), (0, .ref (o + 0)), (1, .int a1)]) hx hb dX12_reads_42 rfl hl (by decide) rfl (fun ls hl => ?_)
      have L_215 : ∀ (n : Nat) (x_205 : Int32) (x_206 : Int32) (x_207 : Int32) (x_208 : Int32) (x_209 : Int32) (x_210 : Int32) (x_211 : Int32) (x_212 : Int32) (x_213 : Int32), (0 ≤ (x_205).toInt ∧ (x_205).toInt ≤ 1) → (0 ≤ (x_206).toInt ∧ (x_206).toInt ≤ 3) → (0 ≤ (x_207).toInt ∧ (x_207).toInt ≤ 1600) → (0 ≤ (x_208).toInt ∧ (x_208).toInt ≤ 1600) → (0 ≤ (x_209).toInt ∧ (x_209).toInt ≤ 6) → (0 ≤ (x_210).toInt ∧ (x_210).toInt ≤ 1600) → (0 ≤ (x_211).toInt ∧ (x_211).toInt ≤ 20) → (0 ≤ (x_212).toInt ∧ (x_212).toInt ≤ 500) → (0 ≤ (x_213).toInt ∧ (x_213).toInt ≤ 1) → (((x_205).toInt + 1600 - (x_207).toInt).toNat < n) → ∀ S_214 : dg_S, CM o S_214 → dg_sm shM [(0, 3), (0, 4), (0, 5), (0, 6), (0, 7), (0, 8), (0, 9), (0, 12), (0, 34), (0, 42), (0, 43), (0, 45), (0, 46)] [18, 19, 22, 23, 24, 25, 26, 27] S S_214 → S_214.1 0 3 = .int x_206 → S_214.1 0 4 = .int x_207 → S_214.1 0 5 = .int x_208 → S_214.1 0 8 = .int x_209 → S_214.1 0 34 = .int x_210 → S_214.1 0 42 = .int x_211 → S_214.1 0 45 = .int x_212 → S_214.1 0 46 = .int x_213 → ZWM S_214 → (((x_207).toInt ≤ (x_208).toInt ∧ (x_208).toInt ≤ (sl).toInt ∧ ((x_206).toInt ≠ 0 → (x_207).toInt + 1 ≤ (x_208).toInt)) ∧ (sa).toInt ≤ (x_207).toInt) → ((x_205 : Int32).toInt = 1 → (x_209).toInt = 0) → ((x_209).toInt = 0 → (x_210).toInt + (x_212).toInt + (x_211).toInt ≤ (x_207).toInt) → ((x_205 : Int32).toInt = 1 → POM S_214) → ((x_205 : Int32).toInt = 0 → (x_209).toInt = 0 → QEM S_214) → ∀ (H : Heap) (locs : List Loc), va_P D vwCl (dg_w g shM o rfM S_214) H → va_S A s.heap H locs → ∀ ls : Array Slot, lv_has ls 3 [(2, .int x_205), (0, .ref (o + 0)), (1, .int a1)] → W p l e ({ frames := 5, cells := 0, slots := 0, locals := 121 } : Room) s m args below meth c H locs 0 0 (MQ below (va_Qv (fun S' => CM o S' ∧ dg_sm shM [(0, 3), (0, 4), (0, 5), (0, 6), (0, 7), (0, 8), (0, 9), (0, 12), (0, 34), (0, 42), (0, 43), (0, 45), (0, 46)] [18, 19, 22, 23, 24, 25, 26, 27] S S' ∧ (∃ y9_3 y9_4 y9_5 y9_8 y9_34 : Int32, S'.1 0 3 = .int y9_3 ∧ S'.1 0 4 = .int y9_4 ∧ S'.1 0 5 = .int y9_5 ∧ S'.1 0 8 = .int y9_8 ∧ S'.1 0 34 = .int y9_34 ∧ (((y9_4).toInt ≤ (y9_5).toInt ∧ (y9_5).toInt ≤ (sl).toInt ∧ ((y9_3).toInt ≠ 0 → (y9_4).toInt + 1 ≤ (y9_5).toInt)) ∧ (sa).toInt ≤ (y9_4).toInt ∧ ((fk).toInt ≠ 0 → (y9_8).toInt ≠ 0) ∧ ((y9_8).toInt = 0 → (y9_34).toInt ≤ (y9_4).toInt))) ∧ (∀ k9 : Int32, S'.1 0 8 = .int k9 → k9.toInt = 0 → QEM S') ∧ ZWM S' ∧ True) (dg_B g D shM o rfM) A) args s 0 0 A) (F0 m 43 ls []) := by
        intro n
        induction n with
        | zero =>
          intro x_205 x_206 x_207 x_208 x_209 x_210 x_211 x_212 x_213 b_x_205 b_x_206 b_x_207 b_x_208 b_x_209 b_x_210 b_x_211 b_x_212 b_x_213 hmu S_214 I_214 M_214 ff_214_3_0 ff_214_4_0 ff_214_5_0 ff_214_8_0 ff_214_34_0 ff_214_42_0 ff_214_45_0 ff_214_46_0 ZW_214 srel_214_0 srel_214_1 srel_214_2 srel_214_3 srel_214_4 H locs hP hS ls hl
          omega
        | succ n ih =>
          intro x_205 x_206 x_207 x_208 x_209 x_210 x_211 x_212 x_213 b_x_205 b_x_206 b_x_207 b_x_208 b_x_209 b_x_210 b_x_211 b_x_212 b_x_213 hmu S_214 I_214 M_214 ff_214_3_0 ff_214_4_0 ff_214_5_0 ff_214_8_0 ff_214_34_0 ff_214_42_0 ff_214_45_0 ff_214_46_0 ZW_214 srel_214_0 srel_214_1 srel_214_2 srel_214_3 srel_214_4 H locs hP hS ls hl
          refine lv_iload_n hx hb dX12_reads_43 rfl (lv_at hl 0 rfl) ?_
          refine lv_if_eq (tgt := 90) hx hb dX12_reads_44 (by decide) (fun c_216 => ?_) (fun c_216 => ?_)
          · have jc_216 := dk_eqc (k := 0) (by decide +kernel) c_216
            refine W.widen (k := 0) (n := 0) (Nat.le_of_ble_eq_true rfl) (Nat.le_of_ble_eq_true rfl) ?_
            exact dg_vret hx hb hr hlocks hP hS ⟨I_214, M_214, ⟨x_206, x_207, x_208, x_209, x_210, ff_214_3_0, ff_214_4_0, ff_214_5_0, ff_214_8_0, ff_214_34_0, (by omega)⟩, (fun k9 hk9 hk0 => by have q9 := (ff_214_8_0).symm.trans hk9; cases q9; exact srel_214_4 (by omega) hk0), ZW_214, trivial⟩ dX12_reads_90
          · have jc_216 := dk_neqc (k := 0) (by decide +kernel) c_216
            refine lv_aload_n hx hb dX12_reads_47 rfl (lv_at hl 1 rfl) ?_
            refine dg_get (C := RX12) (T := TX12) (N := 77) hx hb hts (fun w h => bw_mem (wU_X12 w h)) hown K hP sM_0 rfl 46 (by decide) (hts _ (bw_mem wB_1237)) (fun _ h9 => h9) (v := .int x_213) ff_214_46_0 dX12_reads_48 ?_
            refine lv_if_ne (tgt := 65) hx hb dX12_reads_51 (by decide) (fun c_217 => ?_) (fun c_217 => ?_)
            · have jc_217 := dk_neqc (k := 0) (by decide +kernel) c_217
              have P1_214 : P1M S_214 := POM.p1 (srel_214_3 (by omega)) ff_214_46_0 (by omega)
              refine lv_aload_n hx hb dX12_reads_65 rfl (lv_at hl 1 rfl) ?_
              obtain ⟨x_218, f_x_218, b_x_218⟩ := dg_I.int (i := 0) (k := 6) (lo := 0) (hi := 9999) I_214 sM_0 (by decide +kernel)
              obtain ⟨x_219, f_x_219, b_x_219⟩ := dg_I.int (i := 0) (k := 43) (lo := (-2147483648)) (hi := 2147483647) I_214 sM_0 (by decide +kernel)
              refine dg_calli hS hA1 hA (va_runV (As := []) (rest := []) F (c_m_goesOn l g D o S_214 x_206 ff_214_3_0 (by omega) x_207 ff_214_4_0 (by omega) x_208 ff_214_5_0 (by omega) sl ((M_214.1 0 2 _ sM_0 (by decide)).trans f_sl) (by omega) x_209 ff_214_8_0 (by omega) x_218 f_x_218 (by omega) x_210 ff_214_34_0 (by omega) x_211 ff_214_42_0 (by omega) x_219 f_x_219 x_212 ff_214_45_0 (by omega) x_213 ff_214_46_0 (by omega) (by omega) (by omega) ZW_214 (ZKM.keep ZK M_214 (by decide) (by decide)) P1_214 I_214 H.size) (cwV 0 hts (bw_V wB_1243 wB_1244 wB_1245 wB_881 wB_1242) rfl rfl rfl (by decide +kernel) ⟨Nat.le_of_ble_eq_true rfl, Nat.le_of_ble_eq_true rfl⟩) (dg_preV sM_0 rfl K ST hP hS hA1 hA) rfl rfl hl.1 rfl (lv_room (Nat.le_of_ble_eq_true rfl)) dX12_reads_66 ⟨Nat.le_of_ble_eq_true rfl, Nat.le_of_ble_eq_true rfl⟩) (fun x_220 S_221 hw_221 H locs hP hS => ?_)
              obtain ⟨I_221, m_221, w_221_0, w_221_1, w_221_2, w_221_3, -⟩ := hw_221
              have M_221 := dg_sm.tr M_214 m_221 (by decide) (by decide)
              have w_221_0 : 0 ≤ (x_220).toInt ∧ (x_220).toInt ≤ 1 := w_221_0
              obtain ⟨y_222, y_223, y_224, y_225, y_226, y_227, y_228, y_229, f_y_222, f_y_223, f_y_224, f_y_225, f_y_226, f_y_227, f_y_228, f_y_229, w_221_1⟩ := w_221_1
              have w_221_1 : ((y_223).toInt ≤ (y_224).toInt ∧ (y_224).toInt ≤ (sl).toInt ∧ ((y_222).toInt ≠ 0 → (y_223).toInt + 1 ≤ (y_224).toInt)) ∧ (x_207).toInt ≤ (y_223).toInt ∧ ((x_209).toInt ≠ 0 → (y_225).toInt ≠ 0) ∧ (((y_225).toInt = 0 → (x_220).toInt = 1 → (x_207).toInt + 1 ≤ (y_223).toInt) ∧ ((y_225).toInt = 0 → (y_226).toInt + (y_228).toInt + (y_227).toInt ≤ (y_223).toInt)) := w_221_1
              obtain ⟨⟨w_221_1_0, w_221_1_1, w_221_1_2⟩, w_221_1_3, w_221_1_4, ⟨w_221_1_5, w_221_1_6⟩⟩ := w_221_1
              have b_y_222 : 0 ≤ (y_222).toInt ∧ (y_222).toInt ≤ 3 := dg_I.intb (lo := 0) (hi := 3) I_221 sM_0 (by decide +kernel) f_y_222
              have b_y_223 : 0 ≤ (y_223).toInt ∧ (y_223).toInt ≤ 1600 := dg_I.intb (lo := 0) (hi := 1600) I_221 sM_0 (by decide +kernel) f_y_223
              have b_y_224 : 0 ≤ (y_224).toInt ∧ (y_224).toInt ≤ 1600 := dg_I.intb (lo := 0) (hi := 1600) I_221 sM_0 (by decide +kernel) f_y_224
              have b_y_225 : 0 ≤ (y_225).toInt ∧ (y_225).toInt ≤ 6 := dg_I.intb (lo := 0) (hi := 6) I_221 sM_0 (by decide +kernel) f_y_225
              have b_y_226 : 0 ≤ (y_226).toInt ∧ (y_226).toInt ≤ 1600 := dg_I.intb (lo := 0) (hi := 1600) I_221 sM_0 (by decide +kernel) f_y_226
              have b_y_227 : 0 ≤ (y_227).toInt ∧ (y_227).toInt ≤ 20 := dg_I.intb (lo := 0) (hi := 20) I_221 sM_0 (by decide +kernel) f_y_227
              have b_y_228 : 0 ≤ (y_228).toInt ∧ (y_228).toInt ≤ 500 := dg_I.intb (lo := 0) (hi := 500) I_221 sM_0 (by decide +kernel) f_y_228
              have b_y_229 : 0 ≤ (y_229).toInt ∧ (y_229).toInt ≤ 1 := dg_I.intb (lo := 0) (hi := 1) I_221 sM_0 (by decide +kernel) f_y_229
              have w_221_2 : ∀ k9 : Int32, S_221.1 0 8 = .int k9 → k9.toInt = 0 → POM S_221 := w_221_2
              refine lv_istore_n (lv' := [(2, .int x_220), (0, .ref (o + 0)), (1, .int a1)]) hx hb dX12_reads_69 rfl hl (by decide) rfl (fun ls hl => ?_)
              refine lv_iload_n hx hb dX12_reads_70 rfl (lv_at hl 0 rfl) ?_
              refine lv_if_eq (tgt := 85) hx hb dX12_reads_71 (by decide) (fun c_230 => ?_) (fun c_230 => ?_)
              · have jc_230 := dk_eqc (k := 0) (by decide +kernel) c_230
                refine lv_iconst (v := 0) hx hb dX12_reads_85 (by decide +kernel) ?_
                refine lv_istore_n (lv' := [(2, .int 0), (0, .ref (o + 0)), (1, .int a1)]) hx hb dX12_reads_86 rfl hl (by decide) rfl (fun ls hl => ?_)
                refine lv_goto (tgt := 43) hx hb dX12_reads_87 (by decide) ?_
                have hz_231 : (0 : Int32).toInt = 0 := by decide +kernel
                have hz_232 : (0 : Int32).toInt = 0 := by decide +kernel
                have hz_233 : (0 : Int32).toInt = 0 := by decide +kernel
                obtain ⟨x_234, f_x_234, b_x_234⟩ := dg_I.int (i := 0) (k := 43) (lo := (-2147483648)) (hi := 2147483647) I_221 sM_0 (by decide +kernel)
                exact ih 0 y_222 y_223 y_224 y_225 y_226 y_227 y_228 y_229 (by decide +kernel) (by omega) (by omega) (by omega) (by omega) (by omega) (by omega) (by omega) (by omega) (by omega) S_221 I_221 M_221 f_y_222 f_y_223 f_y_224 f_y_225 f_y_226 f_y_227 f_y_228 f_y_229 w_221_3 (by omega) (by omega) (by omega) (fun h9 => absurd h9 (by decide +kernel)) (fun _ h8 => POM.qe (w_221_2 _ f_y_225 h8) f_y_229 f_y_227 f_x_234 f_y_228) _ _ hP hS _ (lv_sub hl [0, 1, 2] rfl)
              · have jc_230 := dk_neqc (k := 0) (by decide +kernel) c_230
                refine lv_aload_n hx hb dX12_reads_74 rfl (lv_at hl 1 rfl) ?_
                refine dg_get (C := RX12) (T := TX12) (N := 77) hx hb hts (fun w h => bw_mem (wU_X12 w h)) hown K hP sM_0 rfl 8 (by decide) (hts _ (bw_mem wB_1133)) (fun _ h9 => h9) (v := .int y_225) f_y_225 dX12_reads_75 ?_
                refine lv_if_ne (tgt := 85) hx hb dX12_reads_78 (by decide) (fun c_235 => ?_) (fun c_235 => ?_)
                · have jc_235 := dk_neqc (k := 0) (by decide +kernel) c_235
                  clear w_221_1_5
                  clear w_221_1_6
                  refine lv_iconst (v := 0) hx hb dX12_reads_85 (by decide +kernel) ?_
                  refine lv_istore_n (lv' := [(2, .int 0), (0, .ref (o + 0)), (1, .int a1)]) hx hb dX12_reads_86 rfl hl (by decide) rfl (fun ls hl => ?_)
                  refine lv_goto (tgt := 43) hx hb dX12_reads_87 (by decide) ?_
                  have hz_236 : (0 : Int32).toInt = 0 := by decide +kernel
                  have hz_237 : (0 : Int32).toInt = 0 := by decide +kernel
                  have hz_238 : (0 : Int32).toInt = 0 := by decide +kernel
                  exact ih 0 y_222 y_223 y_224 y_225 y_226 y_227 y_228 y_229 (by decide +kernel) (by omega) (by omega) (by omega) (by omega) (by omega) (by omega) (by omega) (by omega) (by omega) S_221 I_221 M_221 f_y_222 f_y_223 f_y_224 f_y_225 f_y_226 f_y_227 f_y_228 f_y_229 w_221_3 (by omega) (by omega) (by omega) (fun h9 => absurd h9 (by decide +kernel)) (fun _ h8 => absurd h8 (by omega)) _ _ hP hS _ (lv_sub hl [0, 1, 2] rfl)
                · have jc_235 := dk_eqc (k := 0) (by decide +kernel) c_235
                  have w_221_1_5r := w_221_1_5 (by omega)
                  clear w_221_1_5
                  have w_221_1_6r := w_221_1_6 (by omega)
                  clear w_221_1_6
                  have w_221_1_5rr := w_221_1_5r (by omega)
                  clear w_221_1_5r
                  refine lv_iconst (v := 1) hx hb dX12_reads_81 (by decide +kernel) ?_
                  refine lv_goto (tgt := 86) hx hb dX12_reads_82 (by decide) ?_
                  refine lv_istore_n (lv' := [(2, .int 1), (0, .ref (o + 0)), (1, .int a1)]) hx hb dX12_reads_86 rfl hl (by decide) rfl (fun ls hl => ?_)
                  refine lv_goto (tgt := 43) hx hb dX12_reads_87 (by decide) ?_
                  have hz_239 : (1 : Int32).toInt = 1 := by decide +kernel
                  have hz_240 : (1 : Int32).toInt = 1 := by decide +kernel
                  have hz_241 : (1 : Int32).toInt = 1 := by decide +kernel
                  exact ih 1 y_222 y_223 y_224 y_225 y_226 y_227 y_228 y_229 (by decide +kernel) (by omega) (by omega) (by omega) (by omega) (by omega) (by omega) (by omega) (by omega) (by omega) S_221 I_221 M_221 f_y_222 f_y_223 f_y_224 f_y_225 f_y_226 f_y_227 f_y_228 f_y_229 w_221_3 (by omega) (by omega) (by omega) (fun _ => w_221_2 _ f_y_225 (by omega)) (fun h9 => absurd h9 (by decide +kernel)) _ _ hP hS _ (lv_sub hl [0, 1, 2] rfl)
            · have jc_217 := dk_eqc (k := 0) (by decide +kernel) c_217
              have P0_214 : P0M S_214 := POM.p0 (srel_214_3 (by omega)) ff_214_46_0 (by omega)
              refine lv_aload_n hx hb dX12_reads_54 rfl (lv_at hl 1 rfl) ?_
              refine lv_aload_n hx hb dX12_reads_55 rfl (lv_at hl 1 rfl) ?_
              obtain ⟨x_242, f_x_242, b_x_242⟩ := dg_I.int (i := 0) (k := 6) (lo := 0) (hi := 9999) I_214 sM_0 (by decide +kernel)
              obtain ⟨x_243, f_x_243, b_x_243⟩ := dg_I.int (i := 0) (k := 43) (lo := (-2147483648)) (hi := 2147483647) I_214 sM_0 (by decide +kernel)
              refine dg_calli hS hA1 hA (va_runV (As := []) (rest := [.ref (o + 0)]) F (c_m_operand l g D o S_214 x_206 ff_214_3_0 (by omega) x_207 ff_214_4_0 (by omega) x_208 ff_214_5_0 (by omega) sl ((M_214.1 0 2 _ sM_0 (by decide)).trans f_sl) (by omega) x_242 f_x_242 (by omega) x_210 ff_214_34_0 (by omega) x_211 ff_214_42_0 (by omega) x_243 f_x_243 x_212 ff_214_45_0 (by omega) x_209 ff_214_8_0 (by omega) (by omega) (by omega) ZW_214 (ZKM.keep ZK M_214 (by decide) (by decide)) P0_214 I_214 H.size) (cwV 0 hts (bw_V wB_1239 wB_1240 wB_1241 wB_881 wB_1238) rfl rfl rfl (by decide +kernel) ⟨Nat.le_of_ble_eq_true rfl, Nat.le_of_ble_eq_true rfl⟩) (dg_preV sM_0 rfl K ST hP hS hA1 hA) rfl rfl hl.1 rfl (lv_room (Nat.le_of_ble_eq_true rfl)) dX12_reads_56 ⟨Nat.le_of_ble_eq_true rfl, Nat.le_of_ble_eq_true rfl⟩) (fun x_244 S_245 hw_245 H locs hP hS => ?_)
              obtain ⟨I_245, m_245, w_245_0, w_245_1, w_245_2, w_245_3, -⟩ := hw_245
              have M_245 := dg_sm.tr M_214 m_245 (by decide) (by decide)
              have w_245_0 : 0 ≤ (x_244).toInt ∧ (x_244).toInt ≤ 1 := w_245_0
              obtain ⟨y_246, y_247, y_248, y_249, y_250, y_251, y_252, f_y_246, f_y_247, f_y_248, f_y_249, f_y_250, f_y_251, f_y_252, w_245_1⟩ := w_245_1
              have w_245_1 : ((y_247).toInt ≤ (y_248).toInt ∧ (y_248).toInt ≤ (sl).toInt ∧ ((y_246).toInt ≠ 0 → (y_247).toInt + 1 ≤ (y_248).toInt)) ∧ (x_207).toInt ≤ (y_247).toInt ∧ ((x_209).toInt ≠ 0 → (y_249).toInt ≠ 0) ∧ (((y_249).toInt = 0 → (x_207).toInt + 1 ≤ (y_247).toInt) ∧ ((y_249).toInt = 0 → (y_250).toInt + (y_252).toInt + (y_251).toInt ≤ (y_247).toInt)) := w_245_1
              obtain ⟨⟨w_245_1_0, w_245_1_1, w_245_1_2⟩, w_245_1_3, w_245_1_4, ⟨w_245_1_5, w_245_1_6⟩⟩ := w_245_1
              have b_y_246 : 0 ≤ (y_246).toInt ∧ (y_246).toInt ≤ 3 := dg_I.intb (lo := 0) (hi := 3) I_245 sM_0 (by decide +kernel) f_y_246
              have b_y_247 : 0 ≤ (y_247).toInt ∧ (y_247).toInt ≤ 1600 := dg_I.intb (lo := 0) (hi := 1600) I_245 sM_0 (by decide +kernel) f_y_247
              have b_y_248 : 0 ≤ (y_248).toInt ∧ (y_248).toInt ≤ 1600 := dg_I.intb (lo := 0) (hi := 1600) I_245 sM_0 (by decide +kernel) f_y_248
              have b_y_249 : 0 ≤ (y_249).toInt ∧ (y_249).toInt ≤ 6 := dg_I.intb (lo := 0) (hi := 6) I_245 sM_0 (by decide +kernel) f_y_249
              have b_y_250 : 0 ≤ (y_250).toInt ∧ (y_250).toInt ≤ 1600 := dg_I.intb (lo := 0) (hi := 1600) I_245 sM_0 (by decide +kernel) f_y_250
              have b_y_251 : 0 ≤ (y_251).toInt ∧ (y_251).toInt ≤ 20 := dg_I.intb (lo := 0) (hi := 20) I_245 sM_0 (by decide +kernel) f_y_251
              have b_y_252 : 0 ≤ (y_252).toInt ∧ (y_252).toInt ≤ 500 := dg_I.intb (lo := 0) (hi := 500) I_245 sM_0 (by decide +kernel) f_y_252
              have w_245_2 : ∀ k9 : Int32, S_245.1 0 8 = .int k9 → k9.toInt = 0 → ((x_244).toInt = 1 → P1M S_245) ∧ ((x_244).toInt = 0 → P0M S_245) := w_245_2
              refine dg_put (ci := 12) (v := .int x_244) (ty := tyX12 46) (C := RX12) (T := TX12) (N := 77) hx hb hts (fun w h => bw_mem (wU_X12 w h)) tyX12 tyX12_ok nmX12 hown K hP hS hA1 sM_0 rfl 46 (by decide) (hts _ (bw_mem wB_1237)) (fun _ h9 => h9) rfl (by decide +kernel) (dk_znar (by omega) (by omega)) (dk_zfit (by omega) (by omega)) dX12_reads_59 (fun S_253 e_253 H locs hP hS => ?_)
              have I_253 := dg_I.uFi (lo := 0) (hi := 1) I_245 e_253 sM_0 (by decide +kernel) (show 0 ≤ (x_244).toInt ∧ (x_244).toInt ≤ 1 from (by omega))
              have M_253 := dg_sm.uF M_245 e_253 sM_0 (by decide)
              refine lv_goto (tgt := 70) hx hb dX12_reads_62 (by decide) ?_
              refine lv_iload_n hx hb dX12_reads_70 rfl (lv_at hl 0 rfl) ?_
              refine lv_if_eq (tgt := 85) hx hb dX12_reads_71 (by decide) (fun c => absurd c (fun z => absurd (dk_eqc (k := 0) (by decide +kernel) z) (by omega))) (fun _ => ?_)
              refine lv_aload_n hx hb dX12_reads_74 rfl (lv_at hl 1 rfl) ?_
              refine dg_get (C := RX12) (T := TX12) (N := 77) hx hb hts (fun w h => bw_mem (wU_X12 w h)) hown K hP sM_0 rfl 8 (by decide) (hts _ (bw_mem wB_1133)) (fun _ h9 => h9) (v := .int y_249) ((dg_uF_ne e_253 (fun z => absurd z.2 (by decide))).trans f_y_249) dX12_reads_75 ?_
              refine lv_if_ne (tgt := 85) hx hb dX12_reads_78 (by decide) (fun c_254 => ?_) (fun c_254 => ?_)
              · have jc_254 := dk_neqc (k := 0) (by decide +kernel) c_254
                clear w_245_1_5
                clear w_245_1_6
                refine lv_iconst (v := 0) hx hb dX12_reads_85 (by decide +kernel) ?_
                refine lv_istore_n (lv' := [(2, .int 0), (0, .ref (o + 0)), (1, .int a1)]) hx hb dX12_reads_86 rfl hl (by decide) rfl (fun ls hl => ?_)
                refine lv_goto (tgt := 43) hx hb dX12_reads_87 (by decide) ?_
                have hz_255 : (0 : Int32).toInt = 0 := by decide +kernel
                have hz_256 : (0 : Int32).toInt = 0 := by decide +kernel
                have hz_257 : (0 : Int32).toInt = 0 := by decide +kernel
                exact ih 0 y_246 y_247 y_248 y_249 y_250 y_251 y_252 x_244 (by decide +kernel) (by omega) (by omega) (by omega) (by omega) (by omega) (by omega) (by omega) (by omega) (by omega) S_253 I_253 M_253 ((dg_uF_ne e_253 (fun z => absurd z.2 (by decide))).trans f_y_246) ((dg_uF_ne e_253 (fun z => absurd z.2 (by decide))).trans f_y_247) ((dg_uF_ne e_253 (fun z => absurd z.2 (by decide))).trans f_y_248) ((dg_uF_ne e_253 (fun z => absurd z.2 (by decide))).trans f_y_249) ((dg_uF_ne e_253 (fun z => absurd z.2 (by decide))).trans f_y_250) ((dg_uF_ne e_253 (fun z => absurd z.2 (by decide))).trans f_y_251) ((dg_uF_ne e_253 (fun z => absurd z.2 (by decide))).trans f_y_252) (dg_uF_at e_253) (ZWM.keep w_245_3 (dg_sm.uF (WF := [(0, 46)]) (WA := []) dg_sm.rf e_253 sM_0 (by decide)) (by decide) (by decide) (by decide) (by decide)) (by omega) (by omega) (by omega) (fun h9 => absurd h9 (by decide +kernel)) (fun _ h8 => absurd h8 (by omega)) _ _ hP hS _ (lv_sub hl [0, 1, 2] rfl)
              · have jc_254 := dk_eqc (k := 0) (by decide +kernel) c_254
                have w_245_1_5r := w_245_1_5 (by omega)
                clear w_245_1_5
                have w_245_1_6r := w_245_1_6 (by omega)
                clear w_245_1_6
                refine lv_iconst (v := 1) hx hb dX12_reads_81 (by decide +kernel) ?_
                refine lv_goto (tgt := 86) hx hb dX12_reads_82 (by decide) ?_
                refine lv_istore_n (lv' := [(2, .int 1), (0, .ref (o + 0)), (1, .int a1)]) hx hb dX12_reads_86 rfl hl (by decide) rfl (fun ls hl => ?_)
                refine lv_goto (tgt := 43) hx hb dX12_reads_87 (by decide) ?_
                have hz_258 : (1 : Int32).toInt = 1 := by decide +kernel
                have hz_259 : (1 : Int32).toInt = 1 := by decide +kernel
                have hz_260 : (1 : Int32).toInt = 1 := by decide +kernel
                exact ih 1 y_246 y_247 y_248 y_249 y_250 y_251 y_252 x_244 (by decide +kernel) (by omega) (by omega) (by omega) (by omega) (by omega) (by omega) (by omega) (by omega) (by omega) S_253 I_253 M_253 ((dg_uF_ne e_253 (fun z => absurd z.2 (by decide))).trans f_y_246) ((dg_uF_ne e_253 (fun z => absurd z.2 (by decide))).trans f_y_247) ((dg_uF_ne e_253 (fun z => absurd z.2 (by decide))).trans f_y_248) ((dg_uF_ne e_253 (fun z => absurd z.2 (by decide))).trans f_y_249) ((dg_uF_ne e_253 (fun z => absurd z.2 (by decide))).trans f_y_250) ((dg_uF_ne e_253 (fun z => absurd z.2 (by decide))).trans f_y_251) ((dg_uF_ne e_253 (fun z => absurd z.2 (by decide))).trans f_y_252) (dg_uF_at e_253) (ZWM.keep w_245_3 (dg_sm.uF (WF := [(0, 46)]) (WA := []) dg_sm.rf e_253 sM_0 (by decide)) (by decide) (by decide) (by decide) (by decide)) (by omega) (by omega) (by omega) (fun _ => POM.of e_253 (w_245_2 _ f_y_249 (by omega)).1 (w_245_2 _ f_y_249 (by omega)).2 (by omega)) (fun h9 => absurd h9 (by decide +kernel)) _ _ hP hS _ (lv_sub hl [0, 1, 2] rfl)
      obtain ⟨x_261, f_x_261, b_x_261⟩ := dg_I.int (i := 0) (k := 42) (lo := 0) (hi := 20) I_144 sM_0 (by decide +kernel)
      have hz_262 : (1 : Int32).toInt = 1 := by decide +kernel
      have hz_263 : (0 : Int32).toInt = 0 := by decide +kernel
      have hz_264 : (0 : Int32).toInt = 0 := by decide +kernel
      have hz_265 : (1 : Int32).toInt = 1 := by decide +kernel
      have hz_266 : (0 : Int32).toInt = 0 := by decide +kernel
      have hz_267 : (0 : Int32).toInt = 0 := by decide +kernel
      have hz_268 : (0 : Int32).toInt = 0 := by decide +kernel
      have hz_269 : (0 : Int32).toInt = 0 := by decide +kernel
      have hz_270 : (1 : Int32).toInt = 1 := by decide +kernel
      exact L_215 ((((1 : Int32)).toInt + 1600 - ((sa : Int32)).toInt).toNat + 1) 1 sg sa se fk cd x_261 0 0 (by decide +kernel) (by omega) (by omega) (by omega) (by omega) (by omega) (by omega) (by decide +kernel) (by decide +kernel) (by omega) S_144 I_144 M_144 (((m_144.1 0 3 _ sM_0 (by decide)).trans ((dg_uF_ne e_9 (fun z => absurd z.2 (by decide))).trans ((dg_uF_ne e_7 (fun z => absurd z.2 (by decide))).trans ((dg_uF_ne e_5 (fun z => absurd z.2 (by decide))).trans (dg_uF_ne e_3 (fun z => absurd z.2 (by decide))))))).trans f_sg) (((m_144.1 0 4 _ sM_0 (by decide)).trans ((dg_uF_ne e_9 (fun z => absurd z.2 (by decide))).trans ((dg_uF_ne e_7 (fun z => absurd z.2 (by decide))).trans ((dg_uF_ne e_5 (fun z => absurd z.2 (by decide))).trans (dg_uF_ne e_3 (fun z => absurd z.2 (by decide))))))).trans f_sa) (((m_144.1 0 5 _ sM_0 (by decide)).trans ((dg_uF_ne e_9 (fun z => absurd z.2 (by decide))).trans ((dg_uF_ne e_7 (fun z => absurd z.2 (by decide))).trans ((dg_uF_ne e_5 (fun z => absurd z.2 (by decide))).trans (dg_uF_ne e_3 (fun z => absurd z.2 (by decide))))))).trans f_se) (((m_144.1 0 8 _ sM_0 (by decide)).trans ((dg_uF_ne e_9 (fun z => absurd z.2 (by decide))).trans ((dg_uF_ne e_7 (fun z => absurd z.2 (by decide))).trans ((dg_uF_ne e_5 (fun z => absurd z.2 (by decide))).trans (dg_uF_ne e_3 (fun z => absurd z.2 (by decide))))))).trans f_fk) (((m_144.1 0 34 _ sM_0 (by decide)).trans ((dg_uF_ne e_9 (fun z => absurd z.2 (by decide))).trans ((dg_uF_ne e_7 (fun z => absurd z.2 (by decide))).trans ((dg_uF_ne e_5 (fun z => absurd z.2 (by decide))).trans (dg_uF_ne e_3 (fun z => absurd z.2 (by decide))))))).trans f_cd) f_x_261 (((m_144.1 0 45 _ sM_0 (by decide)).trans (dg_uF_ne e_9 (fun z => absurd z.2 (by decide)))).trans (dg_uF_at e_7)) ((m_144.1 0 46 _ sM_0 (by decide)).trans (dg_uF_at e_9)) (ZWM.keep (ZWM.keep (ZWM.keep (ZWM.keep (ZWM.keep ZW (dg_sm.uF (WF := [(0, 42)]) (WA := []) dg_sm.rf e_3 sM_0 (by decide)) (by decide) (by decide) (by decide) (by decide)) (dg_sm.uF (WF := [(0, 43)]) (WA := []) dg_sm.rf e_5 sM_0 (by decide)) (by decide) (by decide) (by decide) (by decide)) (dg_sm.uF (WF := [(0, 45)]) (WA := []) dg_sm.rf e_7 sM_0 (by decide)) (by decide) (by decide) (by decide) (by decide)) (dg_sm.uF (WF := [(0, 46)]) (WA := []) dg_sm.rf e_9 sM_0 (by decide)) (by decide) (by decide) (by decide) (by decide)) m_144 (by decide) (by decide) (by decide) (by decide)) (by omega) (by omega) (by omega) (fun _ => hpo0) (fun h9 => absurd h9 (by decide +kernel)) _ _ hP hS _ (lv_sub hl [0, 1, 2] rfl)
  · have jc_1 := dk_nlec (k := 0) (by decide +kernel) c_1
    refine W.widen (k := 0) (n := 0) (Nat.le_of_ble_eq_true rfl) (Nat.le_of_ble_eq_true rfl) ?_
    exact dg_vret hx hb hr hlocks hP hS ⟨I, M_0, ⟨sg, sa, se, fk, cd, f_sg, f_sa, f_se, f_fk, f_cd, (by omega)⟩, (fun k9 hk9 hk0 => by have q9 := (f_fk).symm.trans hk9; cases q9; omega), ZW, trivial⟩ dX12_reads_7
