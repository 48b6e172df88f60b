/-! 45.s.lean.txt -/
theorem dX12_reads_0 : decode cX12_reads 0 = .ok (.aload_n 0, 1) := by decide +kernel
theorem dX12_reads_1 : decode cX12_reads 1 = .ok (.getfield 36, 3) := by decide +kernel
theorem dX12_reads_4 : decode cX12_reads 4 = .ok (.ifCond .le 4, 3) := by decide +kernel
theorem dX12_reads_7 : decode cX12_reads 7 = .ok (.return_, 1) := by decide +kernel
theorem dX12_reads_8 : decode cX12_reads 8 = .ok (.aload_n 0, 1) := by decide +kernel
theorem dX12_reads_9 : decode cX12_reads 9 = .ok (.iconst 0, 1) := by decide +kernel
theorem dX12_reads_10 : decode cX12_reads 10 = .ok (.putfield 140, 3) := by decide +kernel
theorem dX12_reads_13 : decode cX12_reads 13 = .ok (.aload_n 0, 1) := by decide +kernel
theorem dX12_reads_14 : decode cX12_reads 14 = .ok (.iconst 0, 1) := by decide +kernel
theorem dX12_reads_15 : decode cX12_reads 15 = .ok (.putfield 143, 3) := by decide +kernel
theorem dX12_reads_18 : decode cX12_reads 18 = .ok (.aload_n 0, 1) := by decide +kernel
theorem dX12_reads_19 : decode cX12_reads 19 = .ok (.iconst 0, 1) := by decide +kernel
theorem dX12_reads_20 : decode cX12_reads 20 = .ok (.putfield 149, 3) := by decide +kernel
theorem dX12_reads_23 : decode cX12_reads 23 = .ok (.aload_n 0, 1) := by decide +kernel
theorem dX12_reads_24 : decode cX12_reads 24 = .ok (.iconst 0, 1) := by decide +kernel
theorem dX12_reads_25 : decode cX12_reads 25 = .ok (.putfield 152, 3) := by decide +kernel
theorem dX12_reads_28 : decode cX12_reads 28 = .ok (.aload_n 0, 1) := by decide +kernel
theorem dX12_reads_29 : decode cX12_reads 29 = .ok (.iload_n 1, 1) := by decide +kernel
theorem dX12_reads_30 : decode cX12_reads 30 = .ok (.ifCond .eq 7, 3) := by decide +kernel
theorem dX12_reads_33 : decode cX12_reads 33 = .ok (.iconst 1, 1) := by decide +kernel
theorem dX12_reads_34 : decode cX12_reads 34 = .ok (.goto 4, 3) := by decide +kernel
theorem dX12_reads_37 : decode cX12_reads 37 = .ok (.iconst 0, 1) := by decide +kernel
theorem dX12_reads_38 : decode cX12_reads 38 = .ok (.invokevirtual 343, 3) := by decide +kernel
theorem dX12_reads_41 : decode cX12_reads 41 = .ok (.iconst 1, 1) := by decide +kernel
theorem dX12_reads_42 : decode cX12_reads 42 = .ok (.istore_n 2, 1) := by decide +kernel
theorem dX12_reads_43 : decode cX12_reads 43 = .ok (.iload_n 2, 1) := by decide +kernel
theorem dX12_reads_44 : decode cX12_reads 44 = .ok (.ifCond .eq 46, 3) := by decide +kernel
theorem dX12_reads_47 : decode cX12_reads 47 = .ok (.aload_n 0, 1) := by decide +kernel
theorem dX12_reads_48 : decode cX12_reads 48 = .ok (.getfield 152, 3) := by decide +kernel
theorem dX12_reads_51 : decode cX12_reads 51 = .ok (.ifCond .ne 14, 3) := by decide +kernel
theorem dX12_reads_54 : decode cX12_reads 54 = .ok (.aload_n 0, 1) := by decide +kernel
theorem dX12_reads_55 : decode cX12_reads 55 = .ok (.aload_n 0, 1) := by decide +kernel
theorem dX12_reads_56 : decode cX12_reads 56 = .ok (.invokevirtual 362, 3) := by decide +kernel
theorem dX12_reads_59 : decode cX12_reads 59 = .ok (.putfield 152, 3) := by decide +kernel
theorem dX12_reads_62 : decode cX12_reads 62 = .ok (.goto 8, 3) := by decide +kernel
theorem dX12_reads_65 : decode cX12_reads 65 = .ok (.aload_n 0, 1) := by decide +kernel
theorem dX12_reads_66 : decode cX12_reads 66 = .ok (.invokevirtual 365, 3) := by decide +kernel
theorem dX12_reads_69 : decode cX12_reads 69 = .ok (.istore_n 2, 1) := by decide +kernel
theorem dX12_reads_70 : decode cX12_reads 70 = .ok (.iload_n 2, 1) := by decide +kernel
theorem dX12_reads_71 : decode cX12_reads 71 = .ok (.ifCond .eq 14, 3) := by decide +kernel
theorem dX12_reads_74 : decode cX12_reads 74 = .ok (.aload_n 0, 1) := by decide +kernel
theorem dX12_reads_75 : decode cX12_reads 75 = .ok (.getfield 36, 3) := by decide +kernel
theorem dX12_reads_78 : decode cX12_reads 78 = .ok (.ifCond .ne 7, 3) := by decide +kernel
theorem dX12_reads_81 : decode cX12_reads 81 = .ok (.iconst 1, 1) := by decide +kernel
theorem dX12_reads_82 : decode cX12_reads 82 = .ok (.goto 4, 3) := by decide +kernel
theorem dX12_reads_85 : decode cX12_reads 85 = .ok (.iconst 0, 1) := by decide +kernel
theorem dX12_reads_86 : decode cX12_reads 86 = .ok (.istore_n 2, 1) := by decide +kernel
theorem dX12_reads_87 : decode cX12_reads 87 = .ok (.goto (-44), 3) := by decide +kernel
theorem dX12_reads_90 : decode cX12_reads 90 = .ok (.return_, 1) := by decide +kernel
theorem wB_441 : Cond.code yX12_operand cX12_operand 4 (some .boolean) ∈ dgB := List.mem_filter.mpr ⟨tbl_8 _ (List.mem_of_getElem? (i := 76) rfl), rfl⟩
theorem wB_442 : Cond.methodLink RX12 362 yX12_operand ∈ dgB := List.mem_filter.mpr ⟨tbl_8 _ (List.mem_of_getElem? (i := 73) (by decide +kernel)), by decide +kernel⟩
theorem wB_443 : Cond.instanceMethod yX12_operand ∈ dgB := List.mem_filter.mpr ⟨tbl_8 _ (List.mem_of_getElem? (i := 75) (by decide +kernel)), by decide +kernel⟩
theorem wB_444 : Cond.selects RX12 yX12_operand yX12_operand ∈ dgB := List.mem_filter.mpr ⟨List.mem_of_getElem? (i := 108) (by decide +kernel), by decide +kernel⟩
theorem wB_445 : Cond.code yX12_goesOn cX12_goesOn 5 (some .boolean) ∈ dgB := List.mem_filter.mpr ⟨tbl_8 _ (List.mem_of_getElem? (i := 95) rfl), rfl⟩
theorem wB_446 : Cond.methodLink RX12 365 yX12_goesOn ∈ dgB := List.mem_filter.mpr ⟨tbl_8 _ (List.mem_of_getElem? (i := 92) (by decide +kernel)), by decide +kernel⟩
theorem wB_447 : Cond.instanceMethod yX12_goesOn ∈ dgB := List.mem_filter.mpr ⟨tbl_8 _ (List.mem_of_getElem? (i := 94) (by decide +kernel)), by decide +kernel⟩
theorem wB_448 : Cond.selects RX12 yX12_goesOn yX12_goesOn ∈ dgB := List.mem_filter.mpr ⟨List.mem_of_getElem? (i := 112) (by decide +kernel), by decide +kernel⟩
set_option maxHeartbeats 8000000 in
set_option maxRecDepth 100000 in
theorem c_m_reads (l : Launch) (g : Nat → ClassId) (D : va_G) (o : Nat) (S : dg_S) (a1 : Int32) (b_a1 : 0 ≤ (a1).toInt ∧ (a1).toInt ≤ 1) (tb : Nat → Int32) (tn : Nat) (sg : Int32) (f_sg : S.1 0 3 = .int sg) (b_sg : 0 ≤ (sg).toInt ∧ (sg).toInt ≤ 3) (sa : Int32) (f_sa : S.1 0 4 = .int sa) (b_sa : 0 ≤ (sa).toInt ∧ (sa).toInt ≤ 1600) (se : Int32) (f_se : S.1 0 5 = .int se) (b_se : 0 ≤ (se).toInt ∧ (se).toInt ≤ 1600) (sl : Int32) (f_sl : S.1 0 2 = .int sl) (b_sl : 0 ≤ (sl).toInt ∧ (sl).toInt ≤ 1600) (fk : Int32) (f_fk : S.1 0 8 = .int fk) (b_fk : 0 ≤ (fk).toInt ∧ (fk).toInt ≤ 6) (cd : Int32) (f_cd : S.1 0 34 = .int cd) (b_cd : 0 ≤ (cd).toInt ∧ (cd).toInt ≤ 1600) (lw : Int32) (f_lw : S.1 0 36 = .int lw) (b_lw : 0 ≤ (lw).toInt ∧ (lw).toInt ≤ 2) (hlx : (sa).toInt ≤ (se).toInt ∧ (se).toInt ≤ (sl).toInt ∧ ((sg).toInt ≠ 0 → (sa).toInt + 1 ≤ (se).toInt)) (hro : (cd).toInt + 1 ≤ (sa).toInt) (hq : QSM S 0) (hlw : (a1).toInt = 1 ↔ (lw).toInt = 1) (TK : TKM tb tn S) (ZW : ZWM S) (ZK : ZKM S) (I : CM o S) (sz : Nat) : Met l yX12_reads (bw yX12_reads cX12_reads 3 none) ({ frames := 5, cells := 0, slots := 0, locals := 121 } : Room) (dk_Pc g D (dg_w g shM o rfM S) sz [.ref (o + 0), .int a1]) (va_Qv (fun S' => CM o S' ∧ dg_sm shM [(0, 3), (0, 4), (0, 5), (0, 6), (0, 7), (0, 8), (0, 9), (0, 12), (0, 34), (0, 42), (0, 43), (0, 45), (0, 46)] [18, 19, 22, 23, 24, 25, 26, 27] S S' ∧ (∃ y9_3 y9_4 y9_5 y9_8 y9_34 : Int32, S'.1 0 3 = .int y9_3 ∧ S'.1 0 4 = .int y9_4 ∧ S'.1 0 5 = .int y9_5 ∧ S'.1 0 8 = .int y9_8 ∧ S'.1 0 34 = .int y9_34 ∧ (((y9_4).toInt ≤ (y9_5).toInt ∧ (y9_5).toInt ≤ (sl).toInt ∧ ((y9_3).toInt ≠ 0 → (y9_4).toInt + 1 ≤ (y9_5).toInt)) ∧ (sa).toInt ≤ (y9_4).toInt ∧ ((fk).toInt ≠ 0 → (y9_8).toInt ≠ 0) ∧ ((y9_8).toInt = 0 → (y9_34).toInt ≤ (y9_4).toInt))) ∧ (∀ k9 : Int32, S'.1 0 8 = .int k9 → k9.toInt = 0 → QEM S') ∧ (ROK tb tn fk (y_rule (T_kd tb tn) (T_vl tb tn) (lw).toInt (t_ix tb tn (sa : Int32).toNatClampNeg)) S') ∧ TKM tb tn S' ∧ ZWM S' ∧ True) (dg_B g D shM o rfM) (dg_A o shM.length sz)) 0 0 (dg_A o shM.length sz) := by
  refine dg_met (cc := cX12_reads) (maxL := 3) (ret := none) (by decide) rfl (Nat.le_of_ble_eq_true rfl) ?_
  intro p e s m args below meth c A hAe harg hx hb hr hml hts hown hlocks hin hP K hS hA1 hA ST hsz ls hl
  rw [← hAe]
  have F : CallFix p m c cX12_reads 3 s args (bw yX12_reads cX12_reads 3 none) RX12 := ⟨hx, hb, hml, hown, hts⟩
  have hl : lv_has ls 3 [(0, .ref (o + 0)), (1, .int a1)] := hl
  have M_0 : dg_sm shM [(0, 3), (0, 4), (0, 5), (0, 6), (0, 7), (0, 8), (0, 9), (0, 12), (0, 34), (0, 42), (0, 43), (0, 45), (0, 46)] [18, 19, 22, 23, 24, 25, 26, 27] S S := dg_sm.rf
  obtain ⟨Q9, hQ9⟩ : ∃ Q : State → Prop, Q = MQ below (va_Qv (fun S' => CM o S' ∧ dg_sm shM [(0, 3), (0, 4), (0, 5), (0, 6), (0, 7), (0, 8), (0, 9), (0, 12), (0, 34), (0, 42), (0, 43), (0, 45), (0, 46)] [18, 19, 22, 23, 24, 25, 26, 27] S S' ∧ (∃ y9_3 y9_4 y9_5 y9_8 y9_34 : Int32, S'.1 0 3 = .int y9_3 ∧ S'.1 0 4 = .int y9_4 ∧ S'.1 0 5 = .int y9_5 ∧ S'.1 0 8 = .int y9_8 ∧ S'.1 0 34 = .int y9_34 ∧ (((y9_4).toInt ≤ (y9_5).toInt ∧ (y9_5).toInt ≤ (sl).toInt ∧ ((y9_3).toInt ≠ 0 → (y9_4).toInt + 1 ≤ (y9_5).toInt)) ∧ (sa).toInt ≤ (y9_4).toInt ∧ ((fk).toInt ≠ 0 → (y9_8).toInt ≠ 0) ∧ ((y9_8).toInt = 0 → (y9_34).toInt ≤ (y9_4).toInt))) ∧ (∀ k9 : Int32, S'.1 0 8 = .int k9 → k9.toInt = 0 → QEM S') ∧ (ROK tb tn fk (y_rule (T_kd tb tn) (T_vl tb tn) (lw).toInt (t_ix tb tn (sa : Int32).toNatClampNeg)) S') ∧ TKM tb tn S' ∧ ZWM S' ∧ True) (dg_B g D shM o rfM) A) args s 0 0 A := ⟨_, rfl⟩
  rw [← hQ9]
  obtain ⟨hlx_0, hlx_1, hlx_2⟩ := hlx
  refine lv_aload_n hx hb dX12_reads_0 rfl (lv_at hl 0 rfl) ?_
  refine dg_get (C := RX12) (T := TX12) (N := 77) hx hb hts (fun w h => bw_mem (wU_X12 w h)) hown K hP sM_0 rfl 8 (by decide) (hts _ (bw_mem wB_303)) (fun _ h9 => h9) (v := .int fk) f_fk dX12_reads_1 ?_
  refine lv_if_le (tgt := 8) hx hb dX12_reads_4 (by decide) (fun c_1 => ?_) (fun c_1 => ?_)
  · have jc_1 := dk_lec (k := 0) (by decide +kernel) c_1
    refine lv_aload_n hx hb dX12_reads_8 rfl (lv_at hl 0 rfl) ?_
    refine lv_iconst (v := 0) hx hb dX12_reads_9 (by decide +kernel) ?_
    have hz_2 : (0 : Int32).toInt = 0 := by decide +kernel
    refine dg_put (ci := 12) (v := .int 0) (ty := tyX12 42) (C := RX12) (T := TX12) (N := 77) hx hb hts (fun w h => bw_mem (wU_X12 w h)) tyX12 tyX12_ok nmX12 hown K hP hS hA1 sM_0 rfl 42 (by decide) (hts _ (bw_mem wB_406)) (fun _ h9 => h9) rfl (by decide +kernel) rfl rfl dX12_reads_10 (fun S_3 e_3 H locs hP hS => ?_)
    have I_3 := dg_I.uFi (lo := 0) (hi := 20) I e_3 sM_0 (by decide +kernel) (show 0 ≤ ((0 : Int32)).toInt ∧ ((0 : Int32)).toInt ≤ 20 from (by decide +kernel))
    have M_3 := dg_sm.uF M_0 e_3 sM_0 (by decide)
    refine lv_aload_n hx hb dX12_reads_13 rfl (lv_at hl 0 rfl) ?_
    refine lv_iconst (v := 0) hx hb dX12_reads_14 (by decide +kernel) ?_
    have hz_4 : (0 : Int32).toInt = 0 := by decide +kernel
    refine dg_put (ci := 12) (v := .int 0) (ty := tyX12 43) (C := RX12) (T := TX12) (N := 77) hx hb hts (fun w h => bw_mem (wU_X12 w h)) tyX12 tyX12_ok nmX12 hown K hP hS hA1 sM_0 rfl 43 (by decide) (hts _ (bw_mem wB_415)) (fun _ h9 => h9) rfl (by decide +kernel) rfl rfl dX12_reads_15 (fun S_5 e_5 H locs hP hS => ?_)
    have I_5 := dg_I.uFi (lo := (-2147483648)) (hi := 2147483647) I_3 e_5 sM_0 (by decide +kernel) (show (-2147483648) ≤ ((0 : Int32)).toInt ∧ ((0 : Int32)).toInt ≤ 2147483647 from (by decide +kernel))
    have M_5 := dg_sm.uF M_3 e_5 sM_0 (by decide)
    refine lv_aload_n hx hb dX12_reads_18 rfl (lv_at hl 0 rfl) ?_
    refine lv_iconst (v := 0) hx hb dX12_reads_19 (by decide +kernel) ?_
    have hz_6 : (0 : Int32).toInt = 0 := by decide +kernel
    refine dg_put (ci := 12) (v := .int 0) (ty := tyX12 45) (C := RX12) (T := TX12) (N := 77) hx hb hts (fun w h => bw_mem (wU_X12 w h)) tyX12 tyX12_ok nmX12 hown K hP hS hA1 sM_0 rfl 45 (by decide) (hts _ (bw_mem wB_404)) (fun _ h9 => h9) rfl (by decide +kernel) rfl rfl dX12_reads_20 (fun S_7 e_7 H locs hP hS => ?_)
    have I_7 := dg_I.uFi (lo := 0) (hi := 500) I_5 e_7 sM_0 (by decide +kernel) (show 0 ≤ ((0 : Int32)).toInt ∧ ((0 : Int32)).toInt ≤ 500 from (by decide +kernel))
    have M_7 := dg_sm.uF M_5 e_7 sM_0 (by decide)
    refine lv_aload_n hx hb dX12_reads_23 rfl (lv_at hl 0 rfl) ?_
    refine lv_iconst (v := 0) hx hb dX12_reads_24 (by decide +kernel) ?_
    have hz_8 : (0 : Int32).toInt = 0 := by decide +kernel
    refine dg_put (ci := 12) (v := .int 0) (ty := tyX12 46) (C := RX12) (T := TX12) (N := 77) hx hb hts (fun w h => bw_mem (wU_X12 w h)) tyX12 tyX12_ok nmX12 hown K hP hS hA1 sM_0 rfl 46 (by decide) (hts _ (bw_mem wB_440)) (fun _ h9 => h9) rfl (by decide +kernel) (by decide +kernel) (by decide +kernel) dX12_reads_25 (fun S_9 e_9 H locs hP hS => ?_)
    have I_9 := dg_I.uFi (lo := 0) (hi := 1) I_7 e_9 sM_0 (by decide +kernel) (show 0 ≤ ((0 : Int32)).toInt ∧ ((0 : Int32)).toInt ≤ 1 from (by decide +kernel))
    have M_9 := dg_sm.uF M_7 e_9 sM_0 (by decide)
    refine lv_aload_n hx hb dX12_reads_28 rfl (lv_at hl 0 rfl) ?_
    refine lv_iload_n hx hb dX12_reads_29 rfl (lv_at hl 1 rfl) ?_
    refine lv_if_eq (tgt := 37) hx hb dX12_reads_30 (by decide) (fun c_10 => ?_) (fun c_10 => ?_)
    · have jc_10 := dk_eqc (k := 0) (by decide +kernel) c_10
      refine lv_iconst (v := 0) hx hb dX12_reads_37 (by decide +kernel) ?_
      have hz_11 : (0 : Int32).toInt = 0 := by decide +kernel
      have hz_12 : (0 : Int32).toInt = 0 := by decide +kernel
      have hz_13 : (0 : Int32).toInt = 0 := by decide +kernel
      refine dg_callv hS hA1 hA (va_runV (As := [.int 0]) (rest := []) F (c_m_pushes l g D o S_9 0 (by decide +kernel) 0 (((dg_uF_ne e_9 (fun z => absurd z.2 (by decide))).trans ((dg_uF_ne e_7 (fun z => absurd z.2 (by decide))).trans (dg_uF_ne e_5 (fun z => absurd z.2 (by decide))))).trans (dg_uF_at e_3)) (by decide +kernel) 0 ((dg_uF_ne e_9 (fun z => absurd z.2 (by decide))).trans (dg_uF_at e_7)) (by decide +kernel) I_9 H.size) (cwV 1 hts (bw_V wB_420 wB_421 wB_422 wB_297 wB_419) rfl rfl rfl (by decide +kernel) ⟨Nat.le_of_ble_eq_true rfl, Nat.le_of_ble_eq_true rfl⟩) (dg_preV sM_0 rfl K ST hP hS hA1 hA) rfl rfl hl.1 rfl (lv_room (Nat.le_of_ble_eq_true rfl)) dX12_reads_38 ⟨Nat.le_of_ble_eq_true rfl, Nat.le_of_ble_eq_true rfl⟩) (fun S_14 hw_14 H locs hP hS => ?_)
      obtain ⟨I_14, m_14, w_14_0, w_14_1, -⟩ := hw_14
      have M_14 := dg_sm.tr M_9 m_14 (by decide) (by decide)
      have hz_15 : (0 : Int32).toInt = 0 := by decide +kernel
      have hz_16 : (0 : Int32).toInt = 0 := by decide +kernel
      have hz_17 : (0 : Int32).toInt = 0 := by decide +kernel
      obtain ⟨y_18, f_y_18, w_14_0⟩ := w_14_0
      have w_14_0 : (y_18).toInt = ((0 : Int32)).toInt + 1 := w_14_0
      have b_y_18 : 0 ≤ (y_18).toInt ∧ (y_18).toInt ≤ 20 := dg_I.intb (lo := 0) (hi := 20) I_14 sM_0 (by decide +kernel) f_y_18
      replace w_14_1 : PUM S_9 S_14 (0 : Int32) := w_14_1
      have P0_14 : P0M S_14 := P0M.first (QSM.keep (QSM.keep (QSM.keep (QSM.keep hq (dg_sm.uF (WF := [(0, 42)]) (WA := []) dg_sm.rf e_3 sM_0 (by decide)) (by decide) (by decide) (by decide) (by decide) (by decide) (by decide)) (dg_sm.uF (WF := [(0, 43)]) (WA := []) dg_sm.rf e_5 sM_0 (by decide)) (by decide) (by decide) (by decide) (by decide) (by decide) (by decide)) (dg_sm.uF (WF := [(0, 45)]) (WA := []) dg_sm.rf e_7 sM_0 (by decide)) (by decide) (by decide) (by decide) (by decide) (by decide) (by decide)) (dg_sm.uF (WF := [(0, 46)]) (WA := []) dg_sm.rf e_9 sM_0 (by decide)) (by decide) (by decide) (by decide) (by decide) (by decide) (by decide)) (dp := 0) (on := 0) (om := 0) (((dg_uF_ne e_9 (fun z => absurd z.2 (by decide))).trans ((dg_uF_ne e_7 (fun z => absurd z.2 (by decide))).trans (dg_uF_ne e_5 (fun z => absurd z.2 (by decide))))).trans (dg_uF_at e_3)) (((dg_uF_ne e_9 (fun z => absurd z.2 (by decide))).trans (dg_uF_ne e_7 (fun z => absurd z.2 (by decide)))).trans (dg_uF_at e_5)) ((dg_uF_ne e_9 (fun z => absurd z.2 (by decide))).trans (dg_uF_at e_7)) (by decide +kernel) (by decide +kernel) (by decide +kernel) w_14_1 m_14 (by decide +kernel)
      have hpo0 : POM S_14 := POM.mk0 P0_14 ((m_14.1 0 46 _ sM_0 (by decide)).trans (dg_uF_at e_9)) (by decide +kernel)
      refine lv_iconst (v := 1) hx hb dX12_reads_41 (by decide +kernel) ?_
      refine lv_istore_n (lv' := [(2, .int 1), (0, .ref (o + 0)), (1, .int a1)]) hx hb dX12_reads_42 rfl hl (by decide) rfl (fun ls hl => ?_)
      have L_83 : ∀ (n : Nat) (x_73 : Int32) (x_74 : Int32) (x_75 : Int32) (x_76 : Int32) (x_77 : Int32) (x_78 : Int32) (x_79 : Int32) (x_80 : Int32) (x_81 : Int32), (0 ≤ (x_73).toInt ∧ (x_73).toInt ≤ 1) → (0 ≤ (x_74).toInt ∧ (x_74).toInt ≤ 3) → (0 ≤ (x_75).toInt ∧ (x_75).toInt ≤ 1600) → (0 ≤ (x_76).toInt ∧ (x_76).toInt ≤ 1600) → (0 ≤ (x_77).toInt ∧ (x_77).toInt ≤ 6) → (0 ≤ (x_78).toInt ∧ (x_78).toInt ≤ 1600) → (0 ≤ (x_79).toInt ∧ (x_79).toInt ≤ 20) → (0 ≤ (x_80).toInt ∧ (x_80).toInt ≤ 500) → (0 ≤ (x_81).toInt ∧ (x_81).toInt ≤ 1) → (((x_73).toInt + 1600 - (x_75).toInt).toNat < n) → ∀ S_82 : dg_S, CM o S_82 → dg_sm shM [(0, 3), (0, 4), (0, 5), (0, 6), (0, 7), (0, 8), (0, 9), (0, 12), (0, 34), (0, 42), (0, 43), (0, 45), (0, 46)] [18, 19, 22, 23, 24, 25, 26, 27] S S_82 → S_82.1 0 3 = .int x_74 → S_82.1 0 4 = .int x_75 → S_82.1 0 5 = .int x_76 → S_82.1 0 8 = .int x_77 → S_82.1 0 34 = .int x_78 → S_82.1 0 42 = .int x_79 → S_82.1 0 45 = .int x_80 → S_82.1 0 46 = .int x_81 → TKM tb tn S_82 → ZWM S_82 → (((x_75).toInt ≤ (x_76).toInt ∧ (x_76).toInt ≤ (sl).toInt ∧ ((x_74).toInt ≠ 0 → (x_75).toInt + 1 ≤ (x_76).toInt)) ∧ (sa).toInt ≤ (x_75).toInt) → ((x_73 : Int32).toInt = 1 → (x_77).toInt = 0) → ((x_77).toInt = 0 → (x_78).toInt + (x_80).toInt + (x_79).toInt ≤ (x_75).toInt) → ((x_73 : Int32).toInt = 1 → POM S_82) → ((x_73 : Int32).toInt = 0 → (x_77).toInt = 0 → QEM S_82) → (m_hid ((fk).toInt = 0 → RDG tb tn (lw).toInt (t_ix tb tn (sa : Int32).toNatClampNeg) S_82 (x_73 : Int32) x_77 x_75 x_81)) → ∀ (H : Heap) (locs : List Loc), va_P D vwCl (dg_w g shM o rfM S_82) H → va_S A s.heap H locs → ∀ ls : Array Slot, lv_has ls 3 [(2, .int x_73), (0, .ref (o + 0)), (1, .int a1)] → W p l e ({ frames := 5, cells := 0, slots := 0, locals := 121 } : Room) s m args below meth c H locs 0 0 Q9 (F0 m 43 ls []) := by
        intro n
        induction n with
        | zero =>
          intro x_73 x_74 x_75 x_76 x_77 x_78 x_79 x_80 x_81 b_x_73 b_x_74 b_x_75 b_x_76 b_x_77 b_x_78 b_x_79 b_x_80 b_x_81 hmu S_82 I_82 M_82 ff_82_3_0 ff_82_4_0 ff_82_5_0 ff_82_8_0 ff_82_34_0 ff_82_42_0 ff_82_45_0 ff_82_46_0 TK_82 ZW_82 srel_82_0 srel_82_1 srel_82_2 srel_82_3 srel_82_4 srel_82_5 H locs hP hS ls hl
          omega
        | succ n ih =>
          intro x_73 x_74 x_75 x_76 x_77 x_78 x_79 x_80 x_81 b_x_73 b_x_74 b_x_75 b_x_76 b_x_77 b_x_78 b_x_79 b_x_80 b_x_81 hmu S_82 I_82 M_82 ff_82_3_0 ff_82_4_0 ff_82_5_0 ff_82_8_0 ff_82_34_0 ff_82_42_0 ff_82_45_0 ff_82_46_0 TK_82 ZW_82 srel_82_0 srel_82_1 srel_82_2 srel_82_3 srel_82_4 srel_82_5 H locs hP hS ls hl
          obtain ⟨⟨srel_82_0_0, srel_82_0_1, srel_82_0_2⟩, srel_82_0_3⟩ := srel_82_0
          refine lv_iload_n hx hb dX12_reads_43 rfl (lv_at hl 0 rfl) ?_
          refine lv_if_eq (tgt := 90) hx hb dX12_reads_44 (by decide) (fun c_84 => ?_) (fun c_84 => ?_)
          · have jc_84 := dk_eqc (k := 0) (by decide +kernel) c_84
            clear srel_82_1
            refine W.widen (k := 0) (n := 0) (Nat.le_of_ble_eq_true rfl) (Nat.le_of_ble_eq_true rfl) ?_
            rw [hQ9]
            exact dg_vret hx hb hr hlocks hP hS ⟨I_82, M_82, ⟨x_74, x_75, x_76, x_77, x_78, ff_82_3_0, ff_82_4_0, ff_82_5_0, ff_82_8_0, ff_82_34_0, (by omega)⟩, (fun k9 hk9 hk0 => by have q9 := (ff_82_8_0).symm.trans hk9; cases q9; exact srel_82_4 (by omega) hk0), (RDG.rok TK.1.2.1 (fun h0 => srel_82_5.out h0) (by omega) ff_82_8_0 ff_82_4_0), TK_82, ZW_82, trivial⟩ dX12_reads_90
          · have jc_84 := dk_neqc (k := 0) (by decide +kernel) c_84
            have jbc_84 : 1 ≤ (x_73).toInt := by omega
            clear jc_84
            have srel_82_1r := srel_82_1 (by omega)
            clear srel_82_1
            have srel_82_2r := srel_82_2 (by omega)
            clear srel_82_2
            refine lv_aload_n hx hb dX12_reads_47 rfl (lv_at hl 1 rfl) ?_
            refine dg_get (C := RX12) (T := TX12) (N := 77) hx hb hts (fun w h => bw_mem (wU_X12 w h)) hown K hP sM_0 rfl 46 (by decide) (hts _ (bw_mem wB_440)) (fun _ h9 => h9) (v := .int x_81) ff_82_46_0 dX12_reads_48 ?_
            refine lv_if_ne (tgt := 65) hx hb dX12_reads_51 (by decide) (fun c_85 => ?_) (fun c_85 => ?_)
            · have jc_85 := dk_neqc (k := 0) (by decide +kernel) c_85
              have jbc_85 : 1 ≤ (x_81).toInt := by omega
              clear jc_85
              have P1_82 : P1M S_82 := POM.p1 (srel_82_3 (by omega)) ff_82_46_0 (by omega)
              refine lv_aload_n hx hb dX12_reads_65 rfl (lv_at hl 1 rfl) ?_
              obtain ⟨x_86, f_x_86, b_x_86⟩ := dg_I.int (i := 0) (k := 6) (lo := 0) (hi := 9999) I_82 sM_0 (by decide +kernel)
              obtain ⟨x_87, f_x_87, b_x_87⟩ := dg_I.int (i := 0) (k := 43) (lo := (-2147483648)) (hi := 2147483647) I_82 sM_0 (by decide +kernel)
              refine dg_calli hS hA1 hA (va_runV (As := []) (rest := []) F (c_m_goesOn l g D o S_82 tb tn x_74 ff_82_3_0 (by omega) x_75 ff_82_4_0 (by omega) x_76 ff_82_5_0 (by omega) sl ((M_82.1 0 2 _ sM_0 (by decide)).trans f_sl) (by omega) x_77 ff_82_8_0 (by omega) x_86 f_x_86 (by omega) x_78 ff_82_34_0 (by omega) x_79 ff_82_42_0 (by omega) x_87 f_x_87 x_80 ff_82_45_0 (by omega) x_81 ff_82_46_0 (by omega) lw ((M_82.1 0 36 _ sM_0 (by decide)).trans f_lw) (by omega) (by omega) (by omega) TK_82 ZW_82 (ZKM.keep ZK M_82 (by decide) (by decide)) P1_82 I_82 H.size) (cwV 0 hts (bw_V wB_446 wB_447 wB_448 wB_297 wB_445) rfl rfl rfl (by decide +kernel) ⟨Nat.le_of_ble_eq_true rfl, Nat.le_of_ble_eq_true rfl⟩) (dg_preV sM_0 rfl K ST hP hS hA1 hA) rfl rfl hl.1 rfl (lv_room (Nat.le_of_ble_eq_true rfl)) dX12_reads_66 ⟨Nat.le_of_ble_eq_true rfl, Nat.le_of_ble_eq_true rfl⟩) (fun x_88 S_89 hw_89 H locs hP hS => ?_)
              obtain ⟨I_89, m_89, w_89_0, w_89_1, w_89_2, w_89_3, w_89_4, w_89_5, -⟩ := hw_89
              have M_89 := dg_sm.tr M_82 m_89 (by decide) (by decide)
              have w_89_0 : 0 ≤ (x_88).toInt ∧ (x_88).toInt ≤ 1 := w_89_0
              obtain ⟨y_90, y_91, y_92, y_93, y_94, y_95, y_96, y_97, f_y_90, f_y_91, f_y_92, f_y_93, f_y_94, f_y_95, f_y_96, f_y_97, w_89_1⟩ := w_89_1
              have w_89_1 : ((y_91).toInt ≤ (y_92).toInt ∧ (y_92).toInt ≤ (sl).toInt ∧ ((y_90).toInt ≠ 0 → (y_91).toInt + 1 ≤ (y_92).toInt)) ∧ (x_75).toInt ≤ (y_91).toInt ∧ ((x_77).toInt ≠ 0 → (y_93).toInt ≠ 0) ∧ (((y_93).toInt = 0 → (x_88).toInt = 1 → (x_75).toInt + 1 ≤ (y_91).toInt) ∧ ((y_93).toInt = 0 → (y_94).toInt + (y_96).toInt + (y_95).toInt ≤ (y_91).toInt)) := w_89_1
              obtain ⟨⟨w_89_1_0, w_89_1_1, w_89_1_2⟩, w_89_1_3, w_89_1_4, ⟨w_89_1_5, w_89_1_6⟩⟩ := w_89_1
              clear w_89_1_4
              have b_y_90 : 0 ≤ (y_90).toInt ∧ (y_90).toInt ≤ 3 := dg_I.intb (lo := 0) (hi := 3) I_89 sM_0 (by decide +kernel) f_y_90
              have b_y_91 : 0 ≤ (y_91).toInt ∧ (y_91).toInt ≤ 1600 := dg_I.intb (lo := 0) (hi := 1600) I_89 sM_0 (by decide +kernel) f_y_91
              have b_y_92 : 0 ≤ (y_92).toInt ∧ (y_92).toInt ≤ 1600 := dg_I.intb (lo := 0) (hi := 1600) I_89 sM_0 (by decide +kernel) f_y_92
              have b_y_93 : 0 ≤ (y_93).toInt ∧ (y_93).toInt ≤ 6 := dg_I.intb (lo := 0) (hi := 6) I_89 sM_0 (by decide +kernel) f_y_93
              have b_y_94 : 0 ≤ (y_94).toInt ∧ (y_94).toInt ≤ 1600 := dg_I.intb (lo := 0) (hi := 1600) I_89 sM_0 (by decide +kernel) f_y_94
              have b_y_95 : 0 ≤ (y_95).toInt ∧ (y_95).toInt ≤ 20 := dg_I.intb (lo := 0) (hi := 20) I_89 sM_0 (by decide +kernel) f_y_95
              have b_y_96 : 0 ≤ (y_96).toInt ∧ (y_96).toInt ≤ 500 := dg_I.intb (lo := 0) (hi := 500) I_89 sM_0 (by decide +kernel) f_y_96
              have b_y_97 : 0 ≤ (y_97).toInt ∧ (y_97).toInt ≤ 1 := dg_I.intb (lo := 0) (hi := 1) I_89 sM_0 (by decide +kernel) f_y_97
              replace w_89_2 : ∀ k9 : Int32, S_89.1 0 8 = .int k9 → k9.toInt = 0 → POM S_89 := w_89_2
              replace w_89_3 : GOK tb tn (lw).toInt S_82 S_89 x_88 := w_89_3
              refine lv_istore_n (lv' := [(2, .int x_88), (0, .ref (o + 0)), (1, .int a1)]) hx hb dX12_reads_69 rfl hl (by decide) rfl (fun ls hl => ?_)
              refine lv_iload_n hx hb dX12_reads_70 rfl (lv_at hl 0 rfl) ?_
              refine lv_if_eq (tgt := 85) hx hb dX12_reads_71 (by decide) (fun c_98 => ?_) (fun c_98 => ?_)
              · have jc_98 := dk_eqc (k := 0) (by decide +kernel) c_98
                refine lv_iconst (v := 0) hx hb dX12_reads_85 (by decide +kernel) ?_
                refine lv_istore_n (lv' := [(2, .int 0), (0, .ref (o + 0)), (1, .int a1)]) hx hb dX12_reads_86 rfl hl (by decide) rfl (fun ls hl => ?_)
                refine lv_goto (tgt := 43) hx hb dX12_reads_87 (by decide) ?_
                have hz_99 : (0 : Int32).toInt = 0 := by decide +kernel
                have hz_100 : (0 : Int32).toInt = 0 := by decide +kernel
                have hz_101 : (0 : Int32).toInt = 0 := by decide +kernel
                obtain ⟨x_102, f_x_102, b_x_102⟩ := dg_I.int (i := 0) (k := 43) (lo := (-2147483648)) (hi := 2147483647) I_89 sM_0 (by decide +kernel)
                have hz_103 : (0 : Int32).toInt = 0 := by decide +kernel
                obtain ⟨x_104, f_x_104, b_x_104⟩ := dg_I.int (i := 0) (k := 4) (lo := 0) (hi := 1600) I_82 sM_0 (by decide +kernel)
                obtain ⟨x_105, f_x_105, b_x_105⟩ := dg_I.int (i := 0) (k := 8) (lo := 0) (hi := 6) I_82 sM_0 (by decide +kernel)
                obtain ⟨x_106, f_x_106, b_x_106⟩ := dg_I.int (i := 0) (k := 46) (lo := 0) (hi := 1) I_82 sM_0 (by decide +kernel)
                exact ih 0 y_90 y_91 y_92 y_93 y_94 y_95 y_96 y_97 (by decide +kernel) (by omega) (by omega) (by omega) (by omega) (by omega) (by omega) (by omega) (by omega) (by omega) S_89 I_89 M_89 f_y_90 f_y_91 f_y_92 f_y_93 f_y_94 f_y_95 f_y_96 f_y_97 w_89_4 w_89_5 (by omega) (by omega) (by omega) (fun h9 => absurd h9 (by decide +kernel)) (fun _ h8 => POM.qe (w_89_2 _ f_y_93 h8) f_y_97 f_y_95 f_x_102 f_y_96) (m_hid.mk (fun h0 => RDG.go (r := x_88) (srel_82_5.out h0) (by omega) (by omega) f_x_104 f_x_105 (by omega) w_89_3 f_y_93 f_y_91 f_y_97 ⟨fun q9 => by omega, fun q9 => by omega⟩)) _ _ hP hS _ (lv_sub hl [0, 1, 2] rfl)
              · have jc_98 := dk_neqc (k := 0) (by decide +kernel) c_98
                have jbc_98 : 1 ≤ (x_88).toInt := by omega
                clear jc_98
                refine lv_aload_n hx hb dX12_reads_74 rfl (lv_at hl 1 rfl) ?_
                refine dg_get (C := RX12) (T := TX12) (N := 77) hx hb hts (fun w h => bw_mem (wU_X12 w h)) hown K hP sM_0 rfl 8 (by decide) (hts _ (bw_mem wB_303)) (fun _ h9 => h9) (v := .int y_93) f_y_93 dX12_reads_75 ?_
                refine lv_if_ne (tgt := 85) hx hb dX12_reads_78 (by decide) (fun c_107 => ?_) (fun c_107 => ?_)
                · have jc_107 := dk_neqc (k := 0) (by decide +kernel) c_107
                  have jbc_107 : 1 ≤ (y_93).toInt := by omega
                  clear jc_107
                  clear w_89_1_5
                  clear w_89_1_6
                  refine lv_iconst (v := 0) hx hb dX12_reads_85 (by decide +kernel) ?_
                  refine lv_istore_n (lv' := [(2, .int 0), (0, .ref (o + 0)), (1, .int a1)]) hx hb dX12_reads_86 rfl hl (by decide) rfl (fun ls hl => ?_)
                  refine lv_goto (tgt := 43) hx hb dX12_reads_87 (by decide) ?_
                  have hz_108 : (0 : Int32).toInt = 0 := by decide +kernel
                  have hz_109 : (0 : Int32).toInt = 0 := by decide +kernel
                  have hz_110 : (0 : Int32).toInt = 0 := by decide +kernel
                  have hz_111 : (0 : Int32).toInt = 0 := by decide +kernel
                  obtain ⟨x_112, f_x_112, b_x_112⟩ := dg_I.int (i := 0) (k := 4) (lo := 0) (hi := 1600) I_82 sM_0 (by decide +kernel)
                  obtain ⟨x_113, f_x_113, b_x_113⟩ := dg_I.int (i := 0) (k := 8) (lo := 0) (hi := 6) I_82 sM_0 (by decide +kernel)
                  obtain ⟨x_114, f_x_114, b_x_114⟩ := dg_I.int (i := 0) (k := 46) (lo := 0) (hi := 1) I_82 sM_0 (by decide +kernel)
                  exact ih 0 y_90 y_91 y_92 y_93 y_94 y_95 y_96 y_97 (by decide +kernel) (by omega) (by omega) (by omega) (by omega) (by omega) (by omega) (by omega) (by omega) (by omega) S_89 I_89 M_89 f_y_90 f_y_91 f_y_92 f_y_93 f_y_94 f_y_95 f_y_96 f_y_97 w_89_4 w_89_5 (by omega) (by omega) (by omega) (fun h9 => absurd h9 (by decide +kernel)) (fun _ h8 => absurd h8 (by omega)) (m_hid.mk (fun h0 => RDG.go (r := x_88) (srel_82_5.out h0) (by omega) (by omega) f_x_112 f_x_113 (by omega) w_89_3 f_y_93 f_y_91 f_y_97 ⟨fun q9 => by omega, fun q9 => by omega⟩)) _ _ hP hS _ (lv_sub hl [0, 1, 2] rfl)
                · have jc_107 := dk_eqc (k := 0) (by decide +kernel) c_107
                  have w_89_1_5r := w_89_1_5 (by omega)
                  clear w_89_1_5
                  have w_89_1_6r := w_89_1_6 (by omega)
                  clear w_89_1_6
                  have w_89_1_5rr := w_89_1_5r (by omega)
                  clear w_89_1_5r
                  refine lv_iconst (v := 1) hx hb dX12_reads_81 (by decide +kernel) ?_
                  refine lv_goto (tgt := 86) hx hb dX12_reads_82 (by decide) ?_
                  refine lv_istore_n (lv' := [(2, .int 1), (0, .ref (o + 0)), (1, .int a1)]) hx hb dX12_reads_86 rfl hl (by decide) rfl (fun ls hl => ?_)
                  refine lv_goto (tgt := 43) hx hb dX12_reads_87 (by decide) ?_
                  have hz_115 : (1 : Int32).toInt = 1 := by decide +kernel
                  have hz_116 : (1 : Int32).toInt = 1 := by decide +kernel
                  have hz_117 : (1 : Int32).toInt = 1 := by decide +kernel
                  have hz_118 : (1 : Int32).toInt = 1 := by decide +kernel
                  obtain ⟨x_119, f_x_119, b_x_119⟩ := dg_I.int (i := 0) (k := 4) (lo := 0) (hi := 1600) I_82 sM_0 (by decide +kernel)
                  obtain ⟨x_120, f_x_120, b_x_120⟩ := dg_I.int (i := 0) (k := 8) (lo := 0) (hi := 6) I_82 sM_0 (by decide +kernel)
                  obtain ⟨x_121, f_x_121, b_x_121⟩ := dg_I.int (i := 0) (k := 46) (lo := 0) (hi := 1) I_82 sM_0 (by decide +kernel)
                  exact ih 1 y_90 y_91 y_92 y_93 y_94 y_95 y_96 y_97 (by decide +kernel) (by omega) (by omega) (by omega) (by omega) (by omega) (by omega) (by omega) (by omega) (by omega) S_89 I_89 M_89 f_y_90 f_y_91 f_y_92 f_y_93 f_y_94 f_y_95 f_y_96 f_y_97 w_89_4 w_89_5 (by omega) (by omega) (by omega) (fun _ => w_89_2 _ f_y_93 (by omega)) (fun h9 => absurd h9 (by decide +kernel)) (m_hid.mk (fun h0 => RDG.go (r := x_88) (srel_82_5.out h0) (by omega) (by omega) f_x_119 f_x_120 (by omega) w_89_3 f_y_93 f_y_91 f_y_97 ⟨fun q9 => by omega, fun q9 => by omega⟩)) _ _ hP hS _ (lv_sub hl [0, 1, 2] rfl)
            · have jc_85 := dk_eqc (k := 0) (by decide +kernel) c_85
              have P0_82 : P0M S_82 := POM.p0 (srel_82_3 (by omega)) ff_82_46_0 (by omega)
              refine lv_aload_n hx hb dX12_reads_54 rfl (lv_at hl 1 rfl) ?_
              refine lv_aload_n hx hb dX12_reads_55 rfl (lv_at hl 1 rfl) ?_
              obtain ⟨x_122, f_x_122, b_x_122⟩ := dg_I.int (i := 0) (k := 6) (lo := 0) (hi := 9999) I_82 sM_0 (by decide +kernel)
              obtain ⟨x_123, f_x_123, b_x_123⟩ := dg_I.int (i := 0) (k := 43) (lo := (-2147483648)) (hi := 2147483647) I_82 sM_0 (by decide +kernel)
              refine dg_calli hS hA1 hA (va_runV (As := []) (rest := [.ref (o + 0)]) F (c_m_operand l g D o S_82 tb tn x_74 ff_82_3_0 (by omega) x_75 ff_82_4_0 (by omega) x_76 ff_82_5_0 (by omega) sl ((M_82.1 0 2 _ sM_0 (by decide)).trans f_sl) (by omega) x_122 f_x_122 (by omega) x_78 ff_82_34_0 (by omega) x_79 ff_82_42_0 (by omega) x_123 f_x_123 x_80 ff_82_45_0 (by omega) x_77 ff_82_8_0 (by omega) lw ((M_82.1 0 36 _ sM_0 (by decide)).trans f_lw) (by omega) (by omega) (by omega) TK_82 ZW_82 (ZKM.keep ZK M_82 (by decide) (by decide)) P0_82 I_82 H.size) (cwV 0 hts (bw_V wB_442 wB_443 wB_444 wB_297 wB_441) rfl rfl rfl (by decide +kernel) ⟨Nat.le_of_ble_eq_true rfl, Nat.le_of_ble_eq_true rfl⟩) (dg_preV sM_0 rfl K ST hP hS hA1 hA) rfl rfl hl.1 rfl (lv_room (Nat.le_of_ble_eq_true rfl)) dX12_reads_56 ⟨Nat.le_of_ble_eq_true rfl, Nat.le_of_ble_eq_true rfl⟩) (fun x_124 S_125 hw_125 H locs hP hS => ?_)
              obtain ⟨I_125, m_125, w_125_0, w_125_1, w_125_2, w_125_3, w_125_4, w_125_5, -⟩ := hw_125
              have M_125 := dg_sm.tr M_82 m_125 (by decide) (by decide)
              have w_125_0 : 0 ≤ (x_124).toInt ∧ (x_124).toInt ≤ 1 := w_125_0
              obtain ⟨y_126, y_127, y_128, y_129, y_130, y_131, y_132, f_y_126, f_y_127, f_y_128, f_y_129, f_y_130, f_y_131, f_y_132, w_125_1⟩ := w_125_1
              have w_125_1 : ((y_127).toInt ≤ (y_128).toInt ∧ (y_128).toInt ≤ (sl).toInt ∧ ((y_126).toInt ≠ 0 → (y_127).toInt + 1 ≤ (y_128).toInt)) ∧ (x_75).toInt ≤ (y_127).toInt ∧ ((x_77).toInt ≠ 0 → (y_129).toInt ≠ 0) ∧ (((y_129).toInt = 0 → (x_75).toInt + 1 ≤ (y_127).toInt) ∧ ((y_129).toInt = 0 → (y_130).toInt + (y_132).toInt + (y_131).toInt ≤ (y_127).toInt)) := w_125_1
              obtain ⟨⟨w_125_1_0, w_125_1_1, w_125_1_2⟩, w_125_1_3, w_125_1_4, ⟨w_125_1_5, w_125_1_6⟩⟩ := w_125_1
              clear w_125_1_4
              have b_y_126 : 0 ≤ (y_126).toInt ∧ (y_126).toInt ≤ 3 := dg_I.intb (lo := 0) (hi := 3) I_125 sM_0 (by decide +kernel) f_y_126
              have b_y_127 : 0 ≤ (y_127).toInt ∧ (y_127).toInt ≤ 1600 := dg_I.intb (lo := 0) (hi := 1600) I_125 sM_0 (by decide +kernel) f_y_127
              have b_y_128 : 0 ≤ (y_128).toInt ∧ (y_128).toInt ≤ 1600 := dg_I.intb (lo := 0) (hi := 1600) I_125 sM_0 (by decide +kernel) f_y_128
              have b_y_129 : 0 ≤ (y_129).toInt ∧ (y_129).toInt ≤ 6 := dg_I.intb (lo := 0) (hi := 6) I_125 sM_0 (by decide +kernel) f_y_129
              have b_y_130 : 0 ≤ (y_130).toInt ∧ (y_130).toInt ≤ 1600 := dg_I.intb (lo := 0) (hi := 1600) I_125 sM_0 (by decide +kernel) f_y_130
              have b_y_131 : 0 ≤ (y_131).toInt ∧ (y_131).toInt ≤ 20 := dg_I.intb (lo := 0) (hi := 20) I_125 sM_0 (by decide +kernel) f_y_131
              have b_y_132 : 0 ≤ (y_132).toInt ∧ (y_132).toInt ≤ 500 := dg_I.intb (lo := 0) (hi := 500) I_125 sM_0 (by decide +kernel) f_y_132
              replace w_125_2 : ∀ k9 : Int32, S_125.1 0 8 = .int k9 → k9.toInt = 0 → ((x_124).toInt = 1 → P1M S_125) ∧ ((x_124).toInt = 0 → P0M S_125) := w_125_2
              replace w_125_3 : OPK tb tn (lw).toInt S_82 S_125 x_124 := w_125_3
              refine dg_put (ci := 12) (v := .int x_124) (ty := tyX12 46) (C := RX12) (T := TX12) (N := 77) hx hb hts (fun w h => bw_mem (wU_X12 w h)) tyX12 tyX12_ok nmX12 hown K hP hS hA1 sM_0 rfl 46 (by decide) (hts _ (bw_mem wB_440)) (fun _ h9 => h9) rfl (by decide +kernel) (dk_znar (by omega) (by omega)) (dk_zfit (by omega) (by omega)) dX12_reads_59 (fun S_133 e_133 H locs hP hS => ?_)
              have I_133 := dg_I.uFi (lo := 0) (hi := 1) I_125 e_133 sM_0 (by decide +kernel) (show 0 ≤ (x_124).toInt ∧ (x_124).toInt ≤ 1 from (by omega))
              have M_133 := dg_sm.uF M_125 e_133 sM_0 (by decide)
              refine lv_goto (tgt := 70) hx hb dX12_reads_62 (by decide) ?_
              refine lv_iload_n hx hb dX12_reads_70 rfl (lv_at hl 0 rfl) ?_
              refine lv_if_eq (tgt := 85) hx hb dX12_reads_71 (by decide) (fun c => absurd c (fun z => absurd (dk_eqc (k := 0) (by decide +kernel) z) (by omega))) (fun _ => ?_)
              refine lv_aload_n hx hb dX12_reads_74 rfl (lv_at hl 1 rfl) ?_
              refine dg_get (C := RX12) (T := TX12) (N := 77) hx hb hts (fun w h => bw_mem (wU_X12 w h)) hown K hP sM_0 rfl 8 (by decide) (hts _ (bw_mem wB_303)) (fun _ h9 => h9) (v := .int y_129) ((dg_uF_ne e_133 (fun z => absurd z.2 (by decide))).trans f_y_129) dX12_reads_75 ?_
              refine lv_if_ne (tgt := 85) hx hb dX12_reads_78 (by decide) (fun c_134 => ?_) (fun c_134 => ?_)
              · have jc_134 := dk_neqc (k := 0) (by decide +kernel) c_134
                have jbc_134 : 1 ≤ (y_129).toInt := by omega
                clear jc_134
                clear w_125_1_5
                clear w_125_1_6
                refine lv_iconst (v := 0) hx hb dX12_reads_85 (by decide +kernel) ?_
                refine lv_istore_n (lv' := [(2, .int 0), (0, .ref (o + 0)), (1, .int a1)]) hx hb dX12_reads_86 rfl hl (by decide) rfl (fun ls hl => ?_)
                refine lv_goto (tgt := 43) hx hb dX12_reads_87 (by decide) ?_
                have hz_135 : (0 : Int32).toInt = 0 := by decide +kernel
                have hz_136 : (0 : Int32).toInt = 0 := by decide +kernel
                have hz_137 : (0 : Int32).toInt = 0 := by decide +kernel
                have hz_138 : (0 : Int32).toInt = 0 := by decide +kernel
                obtain ⟨x_139, f_x_139, b_x_139⟩ := dg_I.int (i := 0) (k := 4) (lo := 0) (hi := 1600) I_82 sM_0 (by decide +kernel)
                obtain ⟨x_140, f_x_140, b_x_140⟩ := dg_I.int (i := 0) (k := 8) (lo := 0) (hi := 6) I_82 sM_0 (by decide +kernel)
                obtain ⟨x_141, f_x_141, b_x_141⟩ := dg_I.int (i := 0) (k := 46) (lo := 0) (hi := 1) I_82 sM_0 (by decide +kernel)
                obtain ⟨x_142, f_x_142, b_x_142⟩ := dg_I.int (i := 0) (k := 8) (lo := 0) (hi := 6) I_125 sM_0 (by decide +kernel)
                obtain ⟨x_143, f_x_143, b_x_143⟩ := dg_I.int (i := 0) (k := 4) (lo := 0) (hi := 1600) I_125 sM_0 (by decide +kernel)
                exact ih 0 y_126 y_127 y_128 y_129 y_130 y_131 y_132 x_124 (by decide +kernel) (by omega) (by omega) (by omega) (by omega) (by omega) (by omega) (by omega) (by omega) (by omega) S_133 I_133 M_133 ((dg_uF_ne e_133 (fun z => absurd z.2 (by decide))).trans f_y_126) ((dg_uF_ne e_133 (fun z => absurd z.2 (by decide))).trans f_y_127) ((dg_uF_ne e_133 (fun z => absurd z.2 (by decide))).trans f_y_128) ((dg_uF_ne e_133 (fun z => absurd z.2 (by decide))).trans f_y_129) ((dg_uF_ne e_133 (fun z => absurd z.2 (by decide))).trans f_y_130) ((dg_uF_ne e_133 (fun z => absurd z.2 (by decide))).trans f_y_131) ((dg_uF_ne e_133 (fun z => absurd z.2 (by decide))).trans f_y_132) (dg_uF_at e_133) (TKM.keep w_125_4 (dg_sm.uF (WF := [(0, 46)]) (WA := []) dg_sm.rf e_133 sM_0 (by decide)) (by decide) (by decide) (by decide) (by decide) (by decide) (by decide) (by decide) (by decide)) (ZWM.keep w_125_5 (dg_sm.uF (WF := [(0, 46)]) (WA := []) dg_sm.rf e_133 sM_0 (by decide)) (by decide) (by decide) (by decide) (by decide)) (by omega) (by omega) (by omega) (fun h9 => absurd h9 (by decide +kernel)) (fun _ h8 => absurd h8 (by omega)) (m_hid.mk (fun h0 => RDG.opd (srel_82_5.out h0) (by omega) (by omega) f_x_139 f_x_140 (by omega) w_125_3 f_x_142 f_x_143 (fun k q => MSv.uF46 e_133) (by omega) (fun q9 => by omega) (fun q9 => by omega))) _ _ hP hS _ (lv_sub hl [0, 1, 2] rfl)
              · have jc_134 := dk_eqc (k := 0) (by decide +kernel) c_134
                have w_125_1_5r := w_125_1_5 (by omega)
                clear w_125_1_5
                have w_125_1_6r := w_125_1_6 (by omega)
                clear w_125_1_6
                refine lv_iconst (v := 1) hx hb dX12_reads_81 (by decide +kernel) ?_
                refine lv_goto (tgt := 86) hx hb dX12_reads_82 (by decide) ?_
                refine lv_istore_n (lv' := [(2, .int 1), (0, .ref (o + 0)), (1, .int a1)]) hx hb dX12_reads_86 rfl hl (by decide) rfl (fun ls hl => ?_)
                refine lv_goto (tgt := 43) hx hb dX12_reads_87 (by decide) ?_
                have hz_144 : (1 : Int32).toInt = 1 := by decide +kernel
                have hz_145 : (1 : Int32).toInt = 1 := by decide +kernel
                have hz_146 : (1 : Int32).toInt = 1 := by decide +kernel
                have hz_147 : (1 : Int32).toInt = 1 := by decide +kernel
                obtain ⟨x_148, f_x_148, b_x_148⟩ := dg_I.int (i := 0) (k := 4) (lo := 0) (hi := 1600) I_82 sM_0 (by decide +kernel)
                obtain ⟨x_149, f_x_149, b_x_149⟩ := dg_I.int (i := 0) (k := 8) (lo := 0) (hi := 6) I_82 sM_0 (by decide +kernel)
                obtain ⟨x_150, f_x_150, b_x_150⟩ := dg_I.int (i := 0) (k := 46) (lo := 0) (hi := 1) I_82 sM_0 (by decide +kernel)
                obtain ⟨x_151, f_x_151, b_x_151⟩ := dg_I.int (i := 0) (k := 8) (lo := 0) (hi := 6) I_125 sM_0 (by decide +kernel)
                obtain ⟨x_152, f_x_152, b_x_152⟩ := dg_I.int (i := 0) (k := 4) (lo := 0) (hi := 1600) I_125 sM_0 (by decide +kernel)
                exact ih 1 y_126 y_127 y_128 y_129 y_130 y_131 y_132 x_124 (by decide +kernel) (by omega) (by omega) (by omega) (by omega) (by omega) (by omega) (by omega) (by omega) (by omega) S_133 I_133 M_133 ((dg_uF_ne e_133 (fun z => absurd z.2 (by decide))).trans f_y_126) ((dg_uF_ne e_133 (fun z => absurd z.2 (by decide))).trans f_y_127) ((dg_uF_ne e_133 (fun z => absurd z.2 (by decide))).trans f_y_128) ((dg_uF_ne e_133 (fun z => absurd z.2 (by decide))).trans f_y_129) ((dg_uF_ne e_133 (fun z => absurd z.2 (by decide))).trans f_y_130) ((dg_uF_ne e_133 (fun z => absurd z.2 (by decide))).trans f_y_131) ((dg_uF_ne e_133 (fun z => absurd z.2 (by decide))).trans f_y_132) (dg_uF_at e_133) (TKM.keep w_125_4 (dg_sm.uF (WF := [(0, 46)]) (WA := []) dg_sm.rf e_133 sM_0 (by decide)) (by decide) (by decide) (by decide) (by decide) (by decide) (by decide) (by decide) (by decide)) (ZWM.keep w_125_5 (dg_sm.uF (WF := [(0, 46)]) (WA := []) dg_sm.rf e_133 sM_0 (by decide)) (by decide) (by decide) (by decide) (by decide)) (by omega) (by omega) (by omega) (fun _ => POM.of e_133 (w_125_2 _ f_y_129 (by omega)).1 (w_125_2 _ f_y_129 (by omega)).2 (by omega)) (fun h9 => absurd h9 (by decide +kernel)) (m_hid.mk (fun h0 => RDG.opd (srel_82_5.out h0) (by omega) (by omega) f_x_148 f_x_149 (by omega) w_125_3 f_x_151 f_x_152 (fun k q => MSv.uF46 e_133) (by omega) (fun q9 => by omega) (fun q9 => by omega))) _ _ hP hS _ (lv_sub hl [0, 1, 2] rfl)
      have hz_153 : (1 : Int32).toInt = 1 := by decide +kernel
      have hz_154 : (0 : Int32).toInt = 0 := by decide +kernel
      have hz_155 : (0 : Int32).toInt = 0 := by decide +kernel
      have hz_156 : (1 : Int32).toInt = 1 := by decide +kernel
      have hz_157 : (0 : Int32).toInt = 0 := by decide +kernel
      have hz_158 : (0 : Int32).toInt = 0 := by decide +kernel
      have hz_159 : (0 : Int32).toInt = 0 := by decide +kernel
      have hz_160 : (0 : Int32).toInt = 0 := by decide +kernel
      have hz_161 : (1 : Int32).toInt = 1 := by decide +kernel
      have hz_162 : (1 : Int32).toInt = 1 := by decide +kernel
      have hz_163 : (0 : Int32).toInt = 0 := by decide +kernel
      obtain ⟨x_164, f_x_164, b_x_164⟩ := dg_I.int (i := 0) (k := 42) (lo := 0) (hi := 20) I_9 sM_0 (by decide +kernel)
      exact L_83 ((((1 : Int32)).toInt + 1600 - ((sa : Int32)).toInt).toNat + 1) 1 sg sa se fk cd y_18 0 0 (by decide +kernel) (by omega) (by omega) (by omega) (by omega) (by omega) (by omega) (by decide +kernel) (by decide +kernel) (by omega) S_14 I_14 M_14 (((m_14.1 0 3 _ sM_0 (by decide)).trans ((dg_uF_ne e_9 (fun z => absurd z.2 (by decide))).trans ((dg_uF_ne e_7 (fun z => absurd z.2 (by decide))).trans ((dg_uF_ne e_5 (fun z => absurd z.2 (by decide))).trans (dg_uF_ne e_3 (fun z => absurd z.2 (by decide))))))).trans f_sg) (((m_14.1 0 4 _ sM_0 (by decide)).trans ((dg_uF_ne e_9 (fun z => absurd z.2 (by decide))).trans ((dg_uF_ne e_7 (fun z => absurd z.2 (by decide))).trans ((dg_uF_ne e_5 (fun z => absurd z.2 (by decide))).trans (dg_uF_ne e_3 (fun z => absurd z.2 (by decide))))))).trans f_sa) (((m_14.1 0 5 _ sM_0 (by decide)).trans ((dg_uF_ne e_9 (fun z => absurd z.2 (by decide))).trans ((dg_uF_ne e_7 (fun z => absurd z.2 (by decide))).trans ((dg_uF_ne e_5 (fun z => absurd z.2 (by decide))).trans (dg_uF_ne e_3 (fun z => absurd z.2 (by decide))))))).trans f_se) (((m_14.1 0 8 _ sM_0 (by decide)).trans ((dg_uF_ne e_9 (fun z => absurd z.2 (by decide))).trans ((dg_uF_ne e_7 (fun z => absurd z.2 (by decide))).trans ((dg_uF_ne e_5 (fun z => absurd z.2 (by decide))).trans (dg_uF_ne e_3 (fun z => absurd z.2 (by decide))))))).trans f_fk) (((m_14.1 0 34 _ sM_0 (by decide)).trans ((dg_uF_ne e_9 (fun z => absurd z.2 (by decide))).trans ((dg_uF_ne e_7 (fun z => absurd z.2 (by decide))).trans ((dg_uF_ne e_5 (fun z => absurd z.2 (by decide))).trans (dg_uF_ne e_3 (fun z => absurd z.2 (by decide))))))).trans f_cd) f_y_18 (((m_14.1 0 45 _ sM_0 (by decide)).trans (dg_uF_ne e_9 (fun z => absurd z.2 (by decide)))).trans (dg_uF_at e_7)) ((m_14.1 0 46 _ sM_0 (by decide)).trans (dg_uF_at e_9)) (TKM.keep (TKM.keep (TKM.keep (TKM.keep (TKM.keep TK (dg_sm.uF (WF := [(0, 42)]) (WA := []) dg_sm.rf e_3 sM_0 (by decide)) (by decide) (by decide) (by decide) (by decide) (by decide) (by decide) (by decide) (by decide)) (dg_sm.uF (WF := [(0, 43)]) (WA := []) dg_sm.rf e_5 sM_0 (by decide)) (by decide) (by decide) (by decide) (by decide) (by decide) (by decide) (by decide) (by decide)) (dg_sm.uF (WF := [(0, 45)]) (WA := []) dg_sm.rf e_7 sM_0 (by decide)) (by decide) (by decide) (by decide) (by decide) (by decide) (by decide) (by decide) (by decide)) (dg_sm.uF (WF := [(0, 46)]) (WA := []) dg_sm.rf e_9 sM_0 (by decide)) (by decide) (by decide) (by decide) (by decide) (by decide) (by decide) (by decide) (by decide)) m_14 (by decide) (by decide) (by decide) (by decide) (by decide) (by decide) (by decide) (by decide)) (ZWM.keep (ZWM.keep (ZWM.keep (ZWM.keep (ZWM.keep ZW (dg_sm.uF (WF := [(0, 42)]) (WA := []) dg_sm.rf e_3 sM_0 (by decide)) (by decide) (by decide) (by decide) (by decide)) (dg_sm.uF (WF := [(0, 43)]) (WA := []) dg_sm.rf e_5 sM_0 (by decide)) (by decide) (by decide) (by decide) (by decide)) (dg_sm.uF (WF := [(0, 45)]) (WA := []) dg_sm.rf e_7 sM_0 (by decide)) (by decide) (by decide) (by decide) (by decide)) (dg_sm.uF (WF := [(0, 46)]) (WA := []) dg_sm.rf e_9 sM_0 (by decide)) (by decide) (by decide) (by decide) (by decide)) m_14 (by decide) (by decide) (by decide) (by decide)) (by omega) (by omega) (by omega) (fun _ => hpo0) (fun h9 => absurd h9 (by decide +kernel)) (m_hid.mk (fun h0 => RDG.start (by decide +kernel) (by decide +kernel) (TFM.first f_x_164 (((dg_uF_ne e_9 (fun z => absurd z.2 (by decide))).trans (dg_uF_ne e_7 (fun z => absurd z.2 (by decide)))).trans (dg_uF_at e_5)) ((dg_uF_ne e_9 (fun z => absurd z.2 (by decide))).trans (dg_uF_at e_7)) (by decide +kernel) (by decide +kernel) (by decide +kernel) m_14 (by decide) (by decide) w_14_1) (by rw [if_neg (by omega)]; decide +kernel) rfl)) _ _ hP hS _ (lv_sub hl [0, 1, 2] rfl)
    · have jc_10 := dk_neqc (k := 0) (by decide +kernel) c_10
      have jbc_10 : 1 ≤ (a1).toInt := by omega
      clear jc_10
      refine lv_iconst (v := 1) hx hb dX12_reads_33 (by decide +kernel) ?_
      refine lv_goto (tgt := 38) hx hb dX12_reads_34 (by decide) ?_
      have hz_165 : (1 : Int32).toInt = 1 := by decide +kernel
      have hz_166 : (0 : Int32).toInt = 0 := by decide +kernel
      have hz_167 : (0 : Int32).toInt = 0 := by decide +kernel
      refine dg_callv hS hA1 hA (va_runV (As := [.int 1]) (rest := []) F (c_m_pushes l g D o S_9 1 (by decide +kernel) 0 (((dg_uF_ne e_9 (fun z => absurd z.2 (by decide))).trans ((dg_uF_ne e_7 (fun z => absurd z.2 (by decide))).trans (dg_uF_ne e_5 (fun z => absurd z.2 (by decide))))).trans (dg_uF_at e_3)) (by decide +kernel) 0 ((dg_uF_ne e_9 (fun z => absurd z.2 (by decide))).trans (dg_uF_at e_7)) (by decide +kernel) I_9 H.size) (cwV 1 hts (bw_V wB_420 wB_421 wB_422 wB_297 wB_419) rfl rfl rfl (by decide +kernel) ⟨Nat.le_of_ble_eq_true rfl, Nat.le_of_ble_eq_true rfl⟩) (dg_preV sM_0 rfl K ST hP hS hA1 hA) rfl rfl hl.1 rfl (lv_room (Nat.le_of_ble_eq_true rfl)) dX12_reads_38 ⟨Nat.le_of_ble_eq_true rfl, Nat.le_of_ble_eq_true rfl⟩) (fun S_168 hw_168 H locs hP hS => ?_)
      obtain ⟨I_168, m_168, w_168_0, w_168_1, -⟩ := hw_168
      have M_168 := dg_sm.tr M_9 m_168 (by decide) (by decide)
      have hz_169 : (1 : Int32).toInt = 1 := by decide +kernel
      have hz_170 : (0 : Int32).toInt = 0 := by decide +kernel
      have hz_171 : (0 : Int32).toInt = 0 := by decide +kernel
      obtain ⟨y_172, f_y_172, w_168_0⟩ := w_168_0
      have w_168_0 : (y_172).toInt = ((0 : Int32)).toInt + 1 := w_168_0
      have b_y_172 : 0 ≤ (y_172).toInt ∧ (y_172).toInt ≤ 20 := dg_I.intb (lo := 0) (hi := 20) I_168 sM_0 (by decide +kernel) f_y_172
      replace w_168_1 : PUM S_9 S_168 (1 : Int32) := w_168_1
      have P0_168 : P0M S_168 := P0M.first (QSM.keep (QSM.keep (QSM.keep (QSM.keep hq (dg_sm.uF (WF := [(0, 42)]) (WA := []) dg_sm.rf e_3 sM_0 (by decide)) (by decide) (by decide) (by decide) (by decide) (by decide) (by decide)) (dg_sm.uF (WF := [(0, 43)]) (WA := []) dg_sm.rf e_5 sM_0 (by decide)) (by decide) (by decide) (by decide) (by decide) (by decide) (by decide)) (dg_sm.uF (WF := [(0, 45)]) (WA := []) dg_sm.rf e_7 sM_0 (by decide)) (by decide) (by decide) (by decide) (by decide) (by decide) (by decide)) (dg_sm.uF (WF := [(0, 46)]) (WA := []) dg_sm.rf e_9 sM_0 (by decide)) (by decide) (by decide) (by decide) (by decide) (by decide) (by decide)) (dp := 0) (on := 0) (om := 0) (((dg_uF_ne e_9 (fun z => absurd z.2 (by decide))).trans ((dg_uF_ne e_7 (fun z => absurd z.2 (by decide))).trans (dg_uF_ne e_5 (fun z => absurd z.2 (by decide))))).trans (dg_uF_at e_3)) (((dg_uF_ne e_9 (fun z => absurd z.2 (by decide))).trans (dg_uF_ne e_7 (fun z => absurd z.2 (by decide)))).trans (dg_uF_at e_5)) ((dg_uF_ne e_9 (fun z => absurd z.2 (by decide))).trans (dg_uF_at e_7)) (by decide +kernel) (by decide +kernel) (by decide +kernel) w_168_1 m_168 (by decide +kernel)
      have hpo0 : POM S_168 := POM.mk0 P0_168 ((m_168.1 0 46 _ sM_0 (by decide)).trans (dg_uF_at e_9)) (by decide +kernel)
      refine lv_iconst (v := 1) hx hb dX12_reads_41 (by decide +kernel) ?_
      refine lv_istore_n (lv' := [(2, .int 1), (0, .ref (o + 0)), (1, .int a1)]) hx hb dX12_reads_42 rfl hl (by decide) rfl (fun ls hl => ?_)
      have L_237 : ∀ (n : Nat) (x_227 : Int32) (x_228 : Int32) (x_229 : Int32) (x_230 : Int32) (x_231 : Int32) (x_232 : Int32) (x_233 : Int32) (x_234 : Int32) (x_235 : Int32), (0 ≤ (x_227).toInt ∧ (x_227).toInt ≤ 1) → (0 ≤ (x_228).toInt ∧ (x_228).toInt ≤ 3) → (0 ≤ (x_229).toInt ∧ (x_229).toInt ≤ 1600) → (0 ≤ (x_230).toInt ∧ (x_230).toInt ≤ 1600) → (0 ≤ (x_231).toInt ∧ (x_231).toInt ≤ 6) → (0 ≤ (x_232).toInt ∧ (x_232).toInt ≤ 1600) → (0 ≤ (x_233).toInt ∧ (x_233).toInt ≤ 20) → (0 ≤ (x_234).toInt ∧ (x_234).toInt ≤ 500) → (0 ≤ (x_235).toInt ∧ (x_235).toInt ≤ 1) → (((x_227).toInt + 1600 - (x_229).toInt).toNat < n) → ∀ S_236 : dg_S, CM o S_236 → dg_sm shM [(0, 3), (0, 4), (0, 5), (0, 6), (0, 7), (0, 8), (0, 9), (0, 12), (0, 34), (0, 42), (0, 43), (0, 45), (0, 46)] [18, 19, 22, 23, 24, 25, 26, 27] S S_236 → S_236.1 0 3 = .int x_228 → S_236.1 0 4 = .int x_229 → S_236.1 0 5 = .int x_230 → S_236.1 0 8 = .int x_231 → S_236.1 0 34 = .int x_232 → S_236.1 0 42 = .int x_233 → S_236.1 0 45 = .int x_234 → S_236.1 0 46 = .int x_235 → TKM tb tn S_236 → ZWM S_236 → (((x_229).toInt ≤ (x_230).toInt ∧ (x_230).toInt ≤ (sl).toInt ∧ ((x_228).toInt ≠ 0 → (x_229).toInt + 1 ≤ (x_230).toInt)) ∧ (sa).toInt ≤ (x_229).toInt) → ((x_227 : Int32).toInt = 1 → (x_231).toInt = 0) → ((x_231).toInt = 0 → (x_232).toInt + (x_234).toInt + (x_233).toInt ≤ (x_229).toInt) → ((x_227 : Int32).toInt = 1 → POM S_236) → ((x_227 : Int32).toInt = 0 → (x_231).toInt = 0 → QEM S_236) → (m_hid ((fk).toInt = 0 → RDG tb tn (lw).toInt (t_ix tb tn (sa : Int32).toNatClampNeg) S_236 (x_227 : Int32) x_231 x_229 x_235)) → ∀ (H : Heap) (locs : List Loc), va_P D vwCl (dg_w g shM o rfM S_236) H → va_S A s.heap H locs → ∀ ls : Array Slot, lv_has ls 3 [(2, .int x_227), (0, .ref (o + 0)), (1, .int a1)] → W p l e ({ frames := 5, cells := 0, slots := 0, locals := 121 } : Room) s m args below meth c H locs 0 0 Q9 (F0 m 43 ls []) := by
        intro n
        induction n with
        | zero =>
          intro x_227 x_228 x_229 x_230 x_231 x_232 x_233 x_234 x_235 b_x_227 b_x_228 b_x_229 b_x_230 b_x_231 b_x_232 b_x_233 b_x_234 b_x_235 hmu S_236 I_236 M_236 ff_236_3_0 ff_236_4_0 ff_236_5_0 ff_236_8_0 ff_236_34_0 ff_236_42_0 ff_236_45_0 ff_236_46_0 TK_236 ZW_236 srel_236_0 srel_236_1 srel_236_2 srel_236_3 srel_236_4 srel_236_5 H locs hP hS ls hl
          omega
        | succ n ih =>
          intro x_227 x_228 x_229 x_230 x_231 x_232 x_233 x_234 x_235 b_x_227 b_x_228 b_x_229 b_x_230 b_x_231 b_x_232 b_x_233 b_x_234 b_x_235 hmu S_236 I_236 M_236 ff_236_3_0 ff_236_4_0 ff_236_5_0 ff_236_8_0 ff_236_34_0 ff_236_42_0 ff_236_45_0 ff_236_46_0 TK_236 ZW_236 srel_236_0 srel_236_1 srel_236_2 srel_236_3 srel_236_4 srel_236_5 H locs hP hS ls hl
          obtain ⟨⟨srel_236_0_0, srel_236_0_1, srel_236_0_2⟩, srel_236_0_3⟩ := srel_236_0
          refine lv_iload_n hx hb dX12_reads_43 rfl (lv_at hl 0 rfl) ?_
          refine lv_if_eq (tgt := 90) hx hb dX12_reads_44 (by decide) (fun c_238 => ?_) (fun c_238 => ?_)
          · have jc_238 := dk_eqc (k := 0) (by decide +kernel) c_238
            clear srel_236_1
            refine W.widen (k := 0) (n := 0) (Nat.le_of_ble_eq_true rfl) (Nat.le_of_ble_eq_true rfl) ?_
            rw [hQ9]
            exact dg_vret hx hb hr hlocks hP hS ⟨I_236, M_236, ⟨x_228, x_229, x_230, x_231, x_232, ff_236_3_0, ff_236_4_0, ff_236_5_0, ff_236_8_0, ff_236_34_0, (by omega)⟩, (fun k9 hk9 hk0 => by have q9 := (ff_236_8_0).symm.trans hk9; cases q9; exact srel_236_4 (by omega) hk0), (RDG.rok TK.1.2.1 (fun h0 => srel_236_5.out h0) (by omega) ff_236_8_0 ff_236_4_0), TK_236, ZW_236, trivial⟩ dX12_reads_90
          · have jc_238 := dk_neqc (k := 0) (by decide +kernel) c_238
            have jbc_238 : 1 ≤ (x_227).toInt := by omega
            clear jc_238
            have srel_236_1r := srel_236_1 (by omega)
            clear srel_236_1
            have srel_236_2r := srel_236_2 (by omega)
            clear srel_236_2
            refine lv_aload_n hx hb dX12_reads_47 rfl (lv_at hl 1 rfl) ?_
            refine dg_get (C := RX12) (T := TX12) (N := 77) hx hb hts (fun w h => bw_mem (wU_X12 w h)) hown K hP sM_0 rfl 46 (by decide) (hts _ (bw_mem wB_440)) (fun _ h9 => h9) (v := .int x_235) ff_236_46_0 dX12_reads_48 ?_
            refine lv_if_ne (tgt := 65) hx hb dX12_reads_51 (by decide) (fun c_239 => ?_) (fun c_239 => ?_)
            · have jc_239 := dk_neqc (k := 0) (by decide +kernel) c_239
              have jbc_239 : 1 ≤ (x_235).toInt := by omega
              clear jc_239
              have P1_236 : P1M S_236 := POM.p1 (srel_236_3 (by omega)) ff_236_46_0 (by omega)
              refine lv_aload_n hx hb dX12_reads_65 rfl (lv_at hl 1 rfl) ?_
              obtain ⟨x_240, f_x_240, b_x_240⟩ := dg_I.int (i := 0) (k := 6) (lo := 0) (hi := 9999) I_236 sM_0 (by decide +kernel)
              obtain ⟨x_241, f_x_241, b_x_241⟩ := dg_I.int (i := 0) (k := 43) (lo := (-2147483648)) (hi := 2147483647) I_236 sM_0 (by decide +kernel)
              refine dg_calli hS hA1 hA (va_runV (As := []) (rest := []) F (c_m_goesOn l g D o S_236 tb tn x_228 ff_236_3_0 (by omega) x_229 ff_236_4_0 (by omega) x_230 ff_236_5_0 (by omega) sl ((M_236.1 0 2 _ sM_0 (by decide)).trans f_sl) (by omega) x_231 ff_236_8_0 (by omega) x_240 f_x_240 (by omega) x_232 ff_236_34_0 (by omega) x_233 ff_236_42_0 (by omega) x_241 f_x_241 x_234 ff_236_45_0 (by omega) x_235 ff_236_46_0 (by omega) lw ((M_236.1 0 36 _ sM_0 (by decide)).trans f_lw) (by omega) (by omega) (by omega) TK_236 ZW_236 (ZKM.keep ZK M_236 (by decide) (by decide)) P1_236 I_236 H.size) (cwV 0 hts (bw_V wB_446 wB_447 wB_448 wB_297 wB_445) rfl rfl rfl (by decide +kernel) ⟨Nat.le_of_ble_eq_true rfl, Nat.le_of_ble_eq_true rfl⟩) (dg_preV sM_0 rfl K ST hP hS hA1 hA) rfl rfl hl.1 rfl (lv_room (Nat.le_of_ble_eq_true rfl)) dX12_reads_66 ⟨Nat.le_of_ble_eq_true rfl, Nat.le_of_ble_eq_true rfl⟩) (fun x_242 S_243 hw_243 H locs hP hS => ?_)
              obtain ⟨I_243, m_243, w_243_0, w_243_1, w_243_2, w_243_3, w_243_4, w_243_5, -⟩ := hw_243
              have M_243 := dg_sm.tr M_236 m_243 (by decide) (by decide)
              have w_243_0 : 0 ≤ (x_242).toInt ∧ (x_242).toInt ≤ 1 := w_243_0
              obtain ⟨y_244, y_245, y_246, y_247, y_248, y_249, y_250, y_251, f_y_244, f_y_245, f_y_246, f_y_247, f_y_248, f_y_249, f_y_250, f_y_251, w_243_1⟩ := w_243_1
              have w_243_1 : ((y_245).toInt ≤ (y_246).toInt ∧ (y_246).toInt ≤ (sl).toInt ∧ ((y_244).toInt ≠ 0 → (y_245).toInt + 1 ≤ (y_246).toInt)) ∧ (x_229).toInt ≤ (y_245).toInt ∧ ((x_231).toInt ≠ 0 → (y_247).toInt ≠ 0) ∧ (((y_247).toInt = 0 → (x_242).toInt = 1 → (x_229).toInt + 1 ≤ (y_245).toInt) ∧ ((y_247).toInt = 0 → (y_248).toInt + (y_250).toInt + (y_249).toInt ≤ (y_245).toInt)) := w_243_1
              obtain ⟨⟨w_243_1_0, w_243_1_1, w_243_1_2⟩, w_243_1_3, w_243_1_4, ⟨w_243_1_5, w_243_1_6⟩⟩ := w_243_1
              clear w_243_1_4
              have b_y_244 : 0 ≤ (y_244).toInt ∧ (y_244).toInt ≤ 3 := dg_I.intb (lo := 0) (hi := 3) I_243 sM_0 (by decide +kernel) f_y_244
              have b_y_245 : 0 ≤ (y_245).toInt ∧ (y_245).toInt ≤ 1600 := dg_I.intb (lo := 0) (hi := 1600) I_243 sM_0 (by decide +kernel) f_y_245
              have b_y_246 : 0 ≤ (y_246).toInt ∧ (y_246).toInt ≤ 1600 := dg_I.intb (lo := 0) (hi := 1600) I_243 sM_0 (by decide +kernel) f_y_246
              have b_y_247 : 0 ≤ (y_247).toInt ∧ (y_247).toInt ≤ 6 := dg_I.intb (lo := 0) (hi := 6) I_243 sM_0 (by decide +kernel) f_y_247
              have b_y_248 : 0 ≤ (y_248).toInt ∧ (y_248).toInt ≤ 1600 := dg_I.intb (lo := 0) (hi := 1600) I_243 sM_0 (by decide +kernel) f_y_248
              have b_y_249 : 0 ≤ (y_249).toInt ∧ (y_249).toInt ≤ 20 := dg_I.intb (lo := 0) (hi := 20) I_243 sM_0 (by decide +kernel) f_y_249
              have b_y_250 : 0 ≤ (y_250).toInt ∧ (y_250).toInt ≤ 500 := dg_I.intb (lo := 0) (hi := 500) I_243 sM_0 (by decide +kernel) f_y_250
              have b_y_251 : 0 ≤ (y_251).toInt ∧ (y_251).toInt ≤ 1 := dg_I.intb (lo := 0) (hi := 1) I_243 sM_0 (by decide +kernel) f_y_251
              replace w_243_2 : ∀ k9 : Int32, S_243.1 0 8 = .int k9 → k9.toInt = 0 → POM S_243 := w_243_2
              replace w_243_3 : GOK tb tn (lw).toInt S_236 S_243 x_242 := w_243_3
              refine lv_istore_n (lv' := [(2, .int x_242), (0, .ref (o + 0)), (1, .int a1)]) hx hb dX12_reads_69 rfl hl (by decide) rfl (fun ls hl => ?_)
              refine lv_iload_n hx hb dX12_reads_70 rfl (lv_at hl 0 rfl) ?_
              refine lv_if_eq (tgt := 85) hx hb dX12_reads_71 (by decide) (fun c_252 => ?_) (fun c_252 => ?_)
              · have jc_252 := dk_eqc (k := 0) (by decide +kernel) c_252
                refine lv_iconst (v := 0) hx hb dX12_reads_85 (by decide +kernel) ?_
                refine lv_istore_n (lv' := [(2, .int 0), (0, .ref (o + 0)), (1, .int a1)]) hx hb dX12_reads_86 rfl hl (by decide) rfl (fun ls hl => ?_)
                refine lv_goto (tgt := 43) hx hb dX12_reads_87 (by decide) ?_
                have hz_253 : (0 : Int32).toInt = 0 := by decide +kernel
                have hz_254 : (0 : Int32).toInt = 0 := by decide +kernel
                have hz_255 : (0 : Int32).toInt = 0 := by decide +kernel
                obtain ⟨x_256, f_x_256, b_x_256⟩ := dg_I.int (i := 0) (k := 43) (lo := (-2147483648)) (hi := 2147483647) I_243 sM_0 (by decide +kernel)
                have hz_257 : (0 : Int32).toInt = 0 := by decide +kernel
                obtain ⟨x_258, f_x_258, b_x_258⟩ := dg_I.int (i := 0) (k := 4) (lo := 0) (hi := 1600) I_236 sM_0 (by decide +kernel)
                obtain ⟨x_259, f_x_259, b_x_259⟩ := dg_I.int (i := 0) (k := 8) (lo := 0) (hi := 6) I_236 sM_0 (by decide +kernel)
                obtain ⟨x_260, f_x_260, b_x_260⟩ := dg_I.int (i := 0) (k := 46) (lo := 0) (hi := 1) I_236 sM_0 (by decide +kernel)
                exact ih 0 y_244 y_245 y_246 y_247 y_248 y_249 y_250 y_251 (by decide +kernel) (by omega) (by omega) (by omega) (by omega) (by omega) (by omega) (by omega) (by omega) (by omega) S_243 I_243 M_243 f_y_244 f_y_245 f_y_246 f_y_247 f_y_248 f_y_249 f_y_250 f_y_251 w_243_4 w_243_5 (by omega) (by omega) (by omega) (fun h9 => absurd h9 (by decide +kernel)) (fun _ h8 => POM.qe (w_243_2 _ f_y_247 h8) f_y_251 f_y_249 f_x_256 f_y_250) (m_hid.mk (fun h0 => RDG.go (r := x_242) (srel_236_5.out h0) (by omega) (by omega) f_x_258 f_x_259 (by omega) w_243_3 f_y_247 f_y_245 f_y_251 ⟨fun q9 => by omega, fun q9 => by omega⟩)) _ _ hP hS _ (lv_sub hl [0, 1, 2] rfl)
              · have jc_252 := dk_neqc (k := 0) (by decide +kernel) c_252
                have jbc_252 : 1 ≤ (x_242).toInt := by omega
                clear jc_252
                refine lv_aload_n hx hb dX12_reads_74 rfl (lv_at hl 1 rfl) ?_
                refine dg_get (C := RX12) (T := TX12) (N := 77) hx hb hts (fun w h => bw_mem (wU_X12 w h)) hown K hP sM_0 rfl 8 (by decide) (hts _ (bw_mem wB_303)) (fun _ h9 => h9) (v := .int y_247) f_y_247 dX12_reads_75 ?_
                refine lv_if_ne (tgt := 85) hx hb dX12_reads_78 (by decide) (fun c_261 => ?_) (fun c_261 => ?_)
                · have jc_261 := dk_neqc (k := 0) (by decide +kernel) c_261
                  have jbc_261 : 1 ≤ (y_247).toInt := by omega
                  clear jc_261
                  clear w_243_1_5
                  clear w_243_1_6
                  refine lv_iconst (v := 0) hx hb dX12_reads_85 (by decide +kernel) ?_
                  refine lv_istore_n (lv' := [(2, .int 0), (0, .ref (o + 0)), (1, .int a1)]) hx hb dX12_reads_86 rfl hl (by decide) rfl (fun ls hl => ?_)
                  refine lv_goto (tgt := 43) hx hb dX12_reads_87 (by decide) ?_
                  have hz_262 : (0 : Int32).toInt = 0 := by decide +kernel
                  have hz_263 : (0 : Int32).toInt = 0 := by decide +kernel
                  have hz_264 : (0 : Int32).toInt = 0 := by decide +kernel
                  have hz_265 : (0 : Int32).toInt = 0 := by decide +kernel
                  obtain ⟨x_266, f_x_266, b_x_266⟩ := dg_I.int (i := 0) (k := 4) (lo := 0) (hi := 1600) I_236 sM_0 (by decide +kernel)
                  obtain ⟨x_267, f_x_267, b_x_267⟩ := dg_I.int (i := 0) (k := 8) (lo := 0) (hi := 6) I_236 sM_0 (by decide +kernel)
                  obtain ⟨x_268, f_x_268, b_x_268⟩ := dg_I.int (i := 0) (k := 46) (lo := 0) (hi := 1) I_236 sM_0 (by decide +kernel)
                  exact ih 0 y_244 y_245 y_246 y_247 y_248 y_249 y_250 y_251 (by decide +kernel) (by omega) (by omega) (by omega) (by omega) (by omega) (by omega) (by omega) (by omega) (by omega) S_243 I_243 M_243 f_y_244 f_y_245 f_y_246 f_y_247 f_y_248 f_y_249 f_y_250 f_y_251 w_243_4 w_243_5 (by omega) (by omega) (by omega) (fun h9 => absurd h9 (by decide +kernel)) (fun _ h8 => absurd h8 (by omega)) (m_hid.mk (fun h0 => RDG.go (r := x_242) (srel_236_5.out h0) (by omega) (by omega) f_x_266 f_x_267 (by omega) w_243_3 f_y_247 f_y_245 f_y_251 ⟨fun q9 => by omega, fun q9 => by omega⟩)) _ _ hP hS _ (lv_sub hl [0, 1, 2] rfl)
                · have jc_261 := dk_eqc (k := 0) (by decide +kernel) c_261
                  have w_243_1_5r := w_243_1_5 (by omega)
                  clear w_243_1_5
                  have w_243_1_6r := w_243_1_6 (by omega)
                  clear w_243_1_6
                  have w_243_1_5rr := w_243_1_5r (by omega)
                  clear w_243_1_5r
                  refine lv_iconst (v := 1) hx hb dX12_reads_81 (by decide +kernel) ?_
                  refine lv_goto (tgt := 86) hx hb dX12_reads_82 (by decide) ?_
                  refine lv_istore_n (lv' := [(2, .int 1), (0, .ref (o + 0)), (1, .int a1)]) hx hb dX12_reads_86 rfl hl (by decide) rfl (fun ls hl => ?_)
                  refine lv_goto (tgt := 43) hx hb dX12_reads_87 (by decide) ?_
                  have hz_269 : (1 : Int32).toInt = 1 := by decide +kernel
                  have hz_270 : (1 : Int32).toInt = 1 := by decide +kernel
                  have hz_271 : (1 : Int32).toInt = 1 := by decide +kernel
                  have hz_272 : (1 : Int32).toInt = 1 := by decide +kernel
                  obtain ⟨x_273, f_x_273, b_x_273⟩ := dg_I.int (i := 0) (k := 4) (lo := 0) (hi := 1600) I_236 sM_0 (by decide +kernel)
                  obtain ⟨x_274, f_x_274, b_x_274⟩ := dg_I.int (i := 0) (k := 8) (lo := 0) (hi := 6) I_236 sM_0 (by decide +kernel)
                  obtain ⟨x_275, f_x_275, b_x_275⟩ := dg_I.int (i := 0) (k := 46) (lo := 0) (hi := 1) I_236 sM_0 (by decide +kernel)
                  exact ih 1 y_244 y_245 y_246 y_247 y_248 y_249 y_250 y_251 (by decide +kernel) (by omega) (by omega) (by omega) (by omega) (by omega) (by omega) (by omega) (by omega) (by omega) S_243 I_243 M_243 f_y_244 f_y_245 f_y_246 f_y_247 f_y_248 f_y_249 f_y_250 f_y_251 w_243_4 w_243_5 (by omega) (by omega) (by omega) (fun _ => w_243_2 _ f_y_247 (by omega)) (fun h9 => absurd h9 (by decide +kernel)) (m_hid.mk (fun h0 => RDG.go (r := x_242) (srel_236_5.out h0) (by omega) (by omega) f_x_273 f_x_274 (by omega) w_243_3 f_y_247 f_y_245 f_y_251 ⟨fun q9 => by omega, fun q9 => by omega⟩)) _ _ hP hS _ (lv_sub hl [0, 1, 2] rfl)
            · have jc_239 := dk_eqc (k := 0) (by decide +kernel) c_239
              have P0_236 : P0M S_236 := POM.p0 (srel_236_3 (by omega)) ff_236_46_0 (by omega)
              refine lv_aload_n hx hb dX12_reads_54 rfl (lv_at hl 1 rfl) ?_
              refine lv_aload_n hx hb dX12_reads_55 rfl (lv_at hl 1 rfl) ?_
              obtain ⟨x_276, f_x_276, b_x_276⟩ := dg_I.int (i := 0) (k := 6) (lo := 0) (hi := 9999) I_236 sM_0 (by decide +kernel)
              obtain ⟨x_277, f_x_277, b_x_277⟩ := dg_I.int (i := 0) (k := 43) (lo := (-2147483648)) (hi := 2147483647) I_236 sM_0 (by decide +kernel)
              refine dg_calli hS hA1 hA (va_runV (As := []) (rest := [.ref (o + 0)]) F (c_m_operand l g D o S_236 tb tn x_228 ff_236_3_0 (by omega) x_229 ff_236_4_0 (by omega) x_230 ff_236_5_0 (by omega) sl ((M_236.1 0 2 _ sM_0 (by decide)).trans f_sl) (by omega) x_276 f_x_276 (by omega) x_232 ff_236_34_0 (by omega) x_233 ff_236_42_0 (by omega) x_277 f_x_277 x_234 ff_236_45_0 (by omega) x_231 ff_236_8_0 (by omega) lw ((M_236.1 0 36 _ sM_0 (by decide)).trans f_lw) (by omega) (by omega) (by omega) TK_236 ZW_236 (ZKM.keep ZK M_236 (by decide) (by decide)) P0_236 I_236 H.size) (cwV 0 hts (bw_V wB_442 wB_443 wB_444 wB_297 wB_441) rfl rfl rfl (by decide +kernel) ⟨Nat.le_of_ble_eq_true rfl, Nat.le_of_ble_eq_true rfl⟩) (dg_preV sM_0 rfl K ST hP hS hA1 hA) rfl rfl hl.1 rfl (lv_room (Nat.le_of_ble_eq_true rfl)) dX12_reads_56 ⟨Nat.le_of_ble_eq_true rfl, Nat.le_of_ble_eq_true rfl⟩) (fun x_278 S_279 hw_279 H locs hP hS => ?_)
              obtain ⟨I_279, m_279, w_279_0, w_279_1, w_279_2, w_279_3, w_279_4, w_279_5, -⟩ := hw_279
              have M_279 := dg_sm.tr M_236 m_279 (by decide) (by decide)
              have w_279_0 : 0 ≤ (x_278).toInt ∧ (x_278).toInt ≤ 1 := w_279_0
              obtain ⟨y_280, y_281, y_282, y_283, y_284, y_285, y_286, f_y_280, f_y_281, f_y_282, f_y_283, f_y_284, f_y_285, f_y_286, w_279_1⟩ := w_279_1
              have w_279_1 : ((y_281).toInt ≤ (y_282).toInt ∧ (y_282).toInt ≤ (sl).toInt ∧ ((y_280).toInt ≠ 0 → (y_281).toInt + 1 ≤ (y_282).toInt)) ∧ (x_229).toInt ≤ (y_281).toInt ∧ ((x_231).toInt ≠ 0 → (y_283).toInt ≠ 0) ∧ (((y_283).toInt = 0 → (x_229).toInt + 1 ≤ (y_281).toInt) ∧ ((y_283).toInt = 0 → (y_284).toInt + (y_286).toInt + (y_285).toInt ≤ (y_281).toInt)) := w_279_1
              obtain ⟨⟨w_279_1_0, w_279_1_1, w_279_1_2⟩, w_279_1_3, w_279_1_4, ⟨w_279_1_5, w_279_1_6⟩⟩ := w_279_1
              clear w_279_1_4
              have b_y_280 : 0 ≤ (y_280).toInt ∧ (y_280).toInt ≤ 3 := dg_I.intb (lo := 0) (hi := 3) I_279 sM_0 (by decide +kernel) f_y_280
              have b_y_281 : 0 ≤ (y_281).toInt ∧ (y_281).toInt ≤ 1600 := dg_I.intb (lo := 0) (hi := 1600) I_279 sM_0 (by decide +kernel) f_y_281
              have b_y_282 : 0 ≤ (y_282).toInt ∧ (y_282).toInt ≤ 1600 := dg_I.intb (lo := 0) (hi := 1600) I_279 sM_0 (by decide +kernel) f_y_282
              have b_y_283 : 0 ≤ (y_283).toInt ∧ (y_283).toInt ≤ 6 := dg_I.intb (lo := 0) (hi := 6) I_279 sM_0 (by decide +kernel) f_y_283
              have b_y_284 : 0 ≤ (y_284).toInt ∧ (y_284).toInt ≤ 1600 := dg_I.intb (lo := 0) (hi := 1600) I_279 sM_0 (by decide +kernel) f_y_284
              have b_y_285 : 0 ≤ (y_285).toInt ∧ (y_285).toInt ≤ 20 := dg_I.intb (lo := 0) (hi := 20) I_279 sM_0 (by decide +kernel) f_y_285
              have b_y_286 : 0 ≤ (y_286).toInt ∧ (y_286).toInt ≤ 500 := dg_I.intb (lo := 0) (hi := 500) I_279 sM_0 (by decide +kernel) f_y_286
              replace w_279_2 : ∀ k9 : Int32, S_279.1 0 8 = .int k9 → k9.toInt = 0 → ((x_278).toInt = 1 → P1M S_279) ∧ ((x_278).toInt = 0 → P0M S_279) := w_279_2
              replace w_279_3 : OPK tb tn (lw).toInt S_236 S_279 x_278 := w_279_3
              refine dg_put (ci := 12) (v := .int x_278) (ty := tyX12 46) (C := RX12) (T := TX12) (N := 77) hx hb hts (fun w h => bw_mem (wU_X12 w h)) tyX12 tyX12_ok nmX12 hown K hP hS hA1 sM_0 rfl 46 (by decide) (hts _ (bw_mem wB_440)) (fun _ h9 => h9) rfl (by decide +kernel) (dk_znar (by omega) (by omega)) (dk_zfit (by omega) (by omega)) dX12_reads_59 (fun S_287 e_287 H locs hP hS => ?_)
              have I_287 := dg_I.uFi (lo := 0) (hi := 1) I_279 e_287 sM_0 (by decide +kernel) (show 0 ≤ (x_278).toInt ∧ (x_278).toInt ≤ 1 from (by omega))
              have M_287 := dg_sm.uF M_279 e_287 sM_0 (by decide)
              refine lv_goto (tgt := 70) hx hb dX12_reads_62 (by decide) ?_
              refine lv_iload_n hx hb dX12_reads_70 rfl (lv_at hl 0 rfl) ?_
              refine lv_if_eq (tgt := 85) hx hb dX12_reads_71 (by decide) (fun c => absurd c (fun z => absurd (dk_eqc (k := 0) (by decide +kernel) z) (by omega))) (fun _ => ?_)
              refine lv_aload_n hx hb dX12_reads_74 rfl (lv_at hl 1 rfl) ?_
              refine dg_get (C := RX12) (T := TX12) (N := 77) hx hb hts (fun w h => bw_mem (wU_X12 w h)) hown K hP sM_0 rfl 8 (by decide) (hts _ (bw_mem wB_303)) (fun _ h9 => h9) (v := .int y_283) ((dg_uF_ne e_287 (fun z => absurd z.2 (by decide))).trans f_y_283) dX12_reads_75 ?_
              refine lv_if_ne (tgt := 85) hx hb dX12_reads_78 (by decide) (fun c_288 => ?_) (fun c_288 => ?_)
              · have jc_288 := dk_neqc (k := 0) (by decide +kernel) c_288
                have jbc_288 : 1 ≤ (y_283).toInt := by omega
                clear jc_288
                clear w_279_1_5
                clear w_279_1_6
                refine lv_iconst (v := 0) hx hb dX12_reads_85 (by decide +kernel) ?_
                refine lv_istore_n (lv' := [(2, .int 0), (0, .ref (o + 0)), (1, .int a1)]) hx hb dX12_reads_86 rfl hl (by decide) rfl (fun ls hl => ?_)
                refine lv_goto (tgt := 43) hx hb dX12_reads_87 (by decide) ?_
                have hz_289 : (0 : Int32).toInt = 0 := by decide +kernel
                have hz_290 : (0 : Int32).toInt = 0 := by decide +kernel
                have hz_291 : (0 : Int32).toInt = 0 := by decide +kernel
                have hz_292 : (0 : Int32).toInt = 0 := by decide +kernel
                obtain ⟨x_293, f_x_293, b_x_293⟩ := dg_I.int (i := 0) (k := 4) (lo := 0) (hi := 1600) I_236 sM_0 (by decide +kernel)
                obtain ⟨x_294, f_x_294, b_x_294⟩ := dg_I.int (i := 0) (k := 8) (lo := 0) (hi := 6) I_236 sM_0 (by decide +kernel)
                obtain ⟨x_295, f_x_295, b_x_295⟩ := dg_I.int (i := 0) (k := 46) (lo := 0) (hi := 1) I_236 sM_0 (by decide +kernel)
                obtain ⟨x_296, f_x_296, b_x_296⟩ := dg_I.int (i := 0) (k := 8) (lo := 0) (hi := 6) I_279 sM_0 (by decide +kernel)
                obtain ⟨x_297, f_x_297, b_x_297⟩ := dg_I.int (i := 0) (k := 4) (lo := 0) (hi := 1600) I_279 sM_0 (by decide +kernel)
                exact ih 0 y_280 y_281 y_282 y_283 y_284 y_285 y_286 x_278 (by decide +kernel) (by omega) (by omega) (by omega) (by omega) (by omega) (by omega) (by omega) (by omega) (by omega) S_287 I_287 M_287 ((dg_uF_ne e_287 (fun z => absurd z.2 (by decide))).trans f_y_280) ((dg_uF_ne e_287 (fun z => absurd z.2 (by decide))).trans f_y_281) ((dg_uF_ne e_287 (fun z => absurd z.2 (by decide))).trans f_y_282) ((dg_uF_ne e_287 (fun z => absurd z.2 (by decide))).trans f_y_283) ((dg_uF_ne e_287 (fun z => absurd z.2 (by decide))).trans f_y_284) ((dg_uF_ne e_287 (fun z => absurd z.2 (by decide))).trans f_y_285) ((dg_uF_ne e_287 (fun z => absurd z.2 (by decide))).trans f_y_286) (dg_uF_at e_287) (TKM.keep w_279_4 (dg_sm.uF (WF := [(0, 46)]) (WA := []) dg_sm.rf e_287 sM_0 (by decide)) (by decide) (by decide) (by decide) (by decide) (by decide) (by decide) (by decide) (by decide)) (ZWM.keep w_279_5 (dg_sm.uF (WF := [(0, 46)]) (WA := []) dg_sm.rf e_287 sM_0 (by decide)) (by decide) (by decide) (by decide) (by decide)) (by omega) (by omega) (by omega) (fun h9 => absurd h9 (by decide +kernel)) (fun _ h8 => absurd h8 (by omega)) (m_hid.mk (fun h0 => RDG.opd (srel_236_5.out h0) (by omega) (by omega) f_x_293 f_x_294 (by omega) w_279_3 f_x_296 f_x_297 (fun k q => MSv.uF46 e_287) (by omega) (fun q9 => by omega) (fun q9 => by omega))) _ _ hP hS _ (lv_sub hl [0, 1, 2] rfl)
              · have jc_288 := dk_eqc (k := 0) (by decide +kernel) c_288
                have w_279_1_5r := w_279_1_5 (by omega)
                clear w_279_1_5
                have w_279_1_6r := w_279_1_6 (by omega)
                clear w_279_1_6
                refine lv_iconst (v := 1) hx hb dX12_reads_81 (by decide +kernel) ?_
                refine lv_goto (tgt := 86) hx hb dX12_reads_82 (by decide) ?_
                refine lv_istore_n (lv' := [(2, .int 1), (0, .ref (o + 0)), (1, .int a1)]) hx hb dX12_reads_86 rfl hl (by decide) rfl (fun ls hl => ?_)
                refine lv_goto (tgt := 43) hx hb dX12_reads_87 (by decide) ?_
                have hz_298 : (1 : Int32).toInt = 1 := by decide +kernel
                have hz_299 : (1 : Int32).toInt = 1 := by decide +kernel
                have hz_300 : (1 : Int32).toInt = 1 := by decide +kernel
                have hz_301 : (1 : Int32).toInt = 1 := by decide +kernel
                obtain ⟨x_302, f_x_302, b_x_302⟩ := dg_I.int (i := 0) (k := 4) (lo := 0) (hi := 1600) I_236 sM_0 (by decide +kernel)
                obtain ⟨x_303, f_x_303, b_x_303⟩ := dg_I.int (i := 0) (k := 8) (lo := 0) (hi := 6) I_236 sM_0 (by decide +kernel)
                obtain ⟨x_304, f_x_304, b_x_304⟩ := dg_I.int (i := 0) (k := 46) (lo := 0) (hi := 1) I_236 sM_0 (by decide +kernel)
                obtain ⟨x_305, f_x_305, b_x_305⟩ := dg_I.int (i := 0) (k := 8) (lo := 0) (hi := 6) I_279 sM_0 (by decide +kernel)
                obtain ⟨x_306, f_x_306, b_x_306⟩ := dg_I.int (i := 0) (k := 4) (lo := 0) (hi := 1600) I_279 sM_0 (by decide +kernel)
                exact ih 1 y_280 y_281 y_282 y_283 y_284 y_285 y_286 x_278 (by decide +kernel) (by omega) (by omega) (by omega) (by omega) (by omega) (by omega) (by omega) (by omega) (by omega) S_287 I_287 M_287 ((dg_uF_ne e_287 (fun z => absurd z.2 (by decide))).trans f_y_280) ((dg_uF_ne e_287 (fun z => absurd z.2 (by decide))).trans f_y_281) ((dg_uF_ne e_287 (fun z => absurd z.2 (by decide))).trans f_y_282) ((dg_uF_ne e_287 (fun z => absurd z.2 (by decide))).trans f_y_283) ((dg_uF_ne e_287 (fun z => absurd z.2 (by decide))).trans f_y_284) ((dg_uF_ne e_287 (fun z => absurd z.2 (by decide))).trans f_y_285) ((dg_uF_ne e_287 (fun z => absurd z.2 (by decide))).trans f_y_286) (dg_uF_at e_287) (TKM.keep w_279_4 (dg_sm.uF (WF := [(0, 46)]) (WA := []) dg_sm.rf e_287 sM_0 (by decide)) (by decide) (by decide) (by decide) (by decide) (by decide) (by decide) (by decide) (by decide)) (ZWM.keep w_279_5 (dg_sm.uF (WF := [(0, 46)]) (WA := []) dg_sm.rf e_287 sM_0 (by decide)) (by decide) (by decide) (by decide) (by decide)) (by omega) (by omega) (by omega) (fun _ => POM.of e_287 (w_279_2 _ f_y_283 (by omega)).1 (w_279_2 _ f_y_283 (by omega)).2 (by omega)) (fun h9 => absurd h9 (by decide +kernel)) (m_hid.mk (fun h0 => RDG.opd (srel_236_5.out h0) (by omega) (by omega) f_x_302 f_x_303 (by omega) w_279_3 f_x_305 f_x_306 (fun k q => MSv.uF46 e_287) (by omega) (fun q9 => by omega) (fun q9 => by omega))) _ _ hP hS _ (lv_sub hl [0, 1, 2] rfl)
      have hz_307 : (1 : Int32).toInt = 1 := by decide +kernel
      have hz_308 : (0 : Int32).toInt = 0 := by decide +kernel
      have hz_309 : (0 : Int32).toInt = 0 := by decide +kernel
      have hz_310 : (1 : Int32).toInt = 1 := by decide +kernel
      have hz_311 : (0 : Int32).toInt = 0 := by decide +kernel
      have hz_312 : (0 : Int32).toInt = 0 := by decide +kernel
      have hz_313 : (0 : Int32).toInt = 0 := by decide +kernel
      have hz_314 : (0 : Int32).toInt = 0 := by decide +kernel
      have hz_315 : (1 : Int32).toInt = 1 := by decide +kernel
      have hz_316 : (1 : Int32).toInt = 1 := by decide +kernel
      have hz_317 : (0 : Int32).toInt = 0 := by decide +kernel
      obtain ⟨x_318, f_x_318, b_x_318⟩ := dg_I.int (i := 0) (k := 42) (lo := 0) (hi := 20) I_9 sM_0 (by decide +kernel)
      exact L_237 ((((1 : Int32)).toInt + 1600 - ((sa : Int32)).toInt).toNat + 1) 1 sg sa se fk cd y_172 0 0 (by decide +kernel) (by omega) (by omega) (by omega) (by omega) (by omega) (by omega) (by decide +kernel) (by decide +kernel) (by omega) S_168 I_168 M_168 (((m_168.1 0 3 _ sM_0 (by decide)).trans ((dg_uF_ne e_9 (fun z => absurd z.2 (by decide))).trans ((dg_uF_ne e_7 (fun z => absurd z.2 (by decide))).trans ((dg_uF_ne e_5 (fun z => absurd z.2 (by decide))).trans (dg_uF_ne e_3 (fun z => absurd z.2 (by decide))))))).trans f_sg) (((m_168.1 0 4 _ sM_0 (by decide)).trans ((dg_uF_ne e_9 (fun z => absurd z.2 (by decide))).trans ((dg_uF_ne e_7 (fun z => absurd z.2 (by decide))).trans ((dg_uF_ne e_5 (fun z => absurd z.2 (by decide))).trans (dg_uF_ne e_3 (fun z => absurd z.2 (by decide))))))).trans f_sa) (((m_168.1 0 5 _ sM_0 (by decide)).trans ((dg_uF_ne e_9 (fun z => absurd z.2 (by decide))).trans ((dg_uF_ne e_7 (fun z => absurd z.2 (by decide))).trans ((dg_uF_ne e_5 (fun z => absurd z.2 (by decide))).trans (dg_uF_ne e_3 (fun z => absurd z.2 (by decide))))))).trans f_se) (((m_168.1 0 8 _ sM_0 (by decide)).trans ((dg_uF_ne e_9 (fun z => absurd z.2 (by decide))).trans ((dg_uF_ne e_7 (fun z => absurd z.2 (by decide))).trans ((dg_uF_ne e_5 (fun z => absurd z.2 (by decide))).trans (dg_uF_ne e_3 (fun z => absurd z.2 (by decide))))))).trans f_fk) (((m_168.1 0 34 _ sM_0 (by decide)).trans ((dg_uF_ne e_9 (fun z => absurd z.2 (by decide))).trans ((dg_uF_ne e_7 (fun z => absurd z.2 (by decide))).trans ((dg_uF_ne e_5 (fun z => absurd z.2 (by decide))).trans (dg_uF_ne e_3 (fun z => absurd z.2 (by decide))))))).trans f_cd) f_y_172 (((m_168.1 0 45 _ sM_0 (by decide)).trans (dg_uF_ne e_9 (fun z => absurd z.2 (by decide)))).trans (dg_uF_at e_7)) ((m_168.1 0 46 _ sM_0 (by decide)).trans (dg_uF_at e_9)) (TKM.keep (TKM.keep (TKM.keep (TKM.keep (TKM.keep TK (dg_sm.uF (WF := [(0, 42)]) (WA := []) dg_sm.rf e_3 sM_0 (by decide)) (by decide) (by decide) (by decide) (by decide) (by decide) (by decide) (by decide) (by decide)) (dg_sm.uF (WF := [(0, 43)]) (WA := []) dg_sm.rf e_5 sM_0 (by decide)) (by decide) (by decide) (by decide) (by decide) (by decide) (by decide) (by decide) (by decide)) (dg_sm.uF (WF := [(0, 45)]) (WA := []) dg_sm.rf e_7 sM_0 (by decide)) (by decide) (by decide) (by decide) (by decide) (by decide) (by decide) (by decide) (by decide)) (dg_sm.uF (WF := [(0, 46)]) (WA := []) dg_sm.rf e_9 sM_0 (by decide)) (by decide) (by decide) (by decide) (by decide) (by decide) (by decide) (by decide) (by decide)) m_168 (by decide) (by decide) (by decide) (by decide) (by decide) (by decide) (by decide) (by decide)) (ZWM.keep (ZWM.keep (ZWM.keep (ZWM.keep (ZWM.keep ZW (dg_sm.uF (WF := [(0, 42)]) (WA := []) dg_sm.rf e_3 sM_0 (by decide)) (by decide) (by decide) (by decide) (by decide)) (dg_sm.uF (WF := [(0, 43)]) (WA := []) dg_sm.rf e_5 sM_0 (by decide)) (by decide) (by decide) (by decide) (by decide)) (dg_sm.uF (WF := [(0, 45)]) (WA := []) dg_sm.rf e_7 sM_0 (by decide)) (by decide) (by decide) (by decide) (by decide)) (dg_sm.uF (WF := [(0, 46)]) (WA := []) dg_sm.rf e_9 sM_0 (by decide)) (by decide) (by decide) (by decide) (by decide)) m_168 (by decide) (by decide) (by decide) (by decide)) (by omega) (by omega) (by omega) (fun _ => hpo0) (fun h9 => absurd h9 (by decide +kernel)) (m_hid.mk (fun h0 => RDG.start (by decide +kernel) (by decide +kernel) (TFM.first f_x_318 (((dg_uF_ne e_9 (fun z => absurd z.2 (by decide))).trans (dg_uF_ne e_7 (fun z => absurd z.2 (by decide)))).trans (dg_uF_at e_5)) ((dg_uF_ne e_9 (fun z => absurd z.2 (by decide))).trans (dg_uF_at e_7)) (by decide +kernel) (by decide +kernel) (by decide +kernel) m_168 (by decide) (by decide) w_168_1) (by rw [if_pos (by omega)]; decide +kernel) rfl)) _ _ hP hS _ (lv_sub hl [0, 1, 2] rfl)
  · have jc_1 := dk_nlec (k := 0) (by decide +kernel) c_1
    refine W.widen (k := 0) (n := 0) (Nat.le_of_ble_eq_true rfl) (Nat.le_of_ble_eq_true rfl) ?_
    rw [hQ9]
    exact dg_vret hx hb hr hlocks hP hS ⟨I, M_0, ⟨sg, sa, se, fk, cd, f_sg, f_sa, f_se, f_fk, f_cd, (by omega)⟩, (fun k9 hk9 hk0 => by have q9 := (f_fk).symm.trans hk9; cases q9; omega), (fun h0 => absurd h0 (by omega)), TK, ZW, trivial⟩ dX12_reads_7
