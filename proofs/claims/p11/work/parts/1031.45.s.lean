/-! 45.s.lean.txt -/
theorem dX12_reads_0 : decode cX12_reads 0 = .ok (.aload_n 0, 1) := dk_o42 (by decide +kernel)
theorem dX12_reads_1 : decode cX12_reads 1 = .ok (.getfield 36, 3) := dk_o180 (by decide +kernel)
theorem dX12_reads_4 : decode cX12_reads 4 = .ok (.ifCond .le 4, 3) := dk_o158 (by decide +kernel)
theorem dX12_reads_7 : decode cX12_reads 7 = .ok (.return_, 1) := dk_o177 (by decide +kernel)
theorem dX12_reads_8 : decode cX12_reads 8 = .ok (.aload_n 0, 1) := dk_o42 (by decide +kernel)
theorem dX12_reads_9 : decode cX12_reads 9 = .ok (.iconst 0, 1) := dk_o3 (by decide +kernel)
theorem dX12_reads_10 : decode cX12_reads 10 = .ok (.putfield 140, 3) := dk_o181 (by decide +kernel)
theorem dX12_reads_13 : decode cX12_reads 13 = .ok (.aload_n 0, 1) := dk_o42 (by decide +kernel)
theorem dX12_reads_14 : decode cX12_reads 14 = .ok (.iconst 0, 1) := dk_o3 (by decide +kernel)
theorem dX12_reads_15 : decode cX12_reads 15 = .ok (.putfield 143, 3) := dk_o181 (by decide +kernel)
theorem dX12_reads_18 : decode cX12_reads 18 = .ok (.aload_n 0, 1) := dk_o42 (by decide +kernel)
theorem dX12_reads_19 : decode cX12_reads 19 = .ok (.iconst 0, 1) := dk_o3 (by decide +kernel)
theorem dX12_reads_20 : decode cX12_reads 20 = .ok (.putfield 149, 3) := dk_o181 (by decide +kernel)
theorem dX12_reads_23 : decode cX12_reads 23 = .ok (.aload_n 0, 1) := dk_o42 (by decide +kernel)
theorem dX12_reads_24 : decode cX12_reads 24 = .ok (.iconst 0, 1) := dk_o3 (by decide +kernel)
theorem dX12_reads_25 : decode cX12_reads 25 = .ok (.putfield 152, 3) := dk_o181 (by decide +kernel)
theorem dX12_reads_28 : decode cX12_reads 28 = .ok (.aload_n 0, 1) := dk_o42 (by decide +kernel)
theorem dX12_reads_29 : decode cX12_reads 29 = .ok (.iload_n 1, 1) := dk_o27 (by decide +kernel)
theorem dX12_reads_30 : decode cX12_reads 30 = .ok (.ifCond .eq 7, 3) := dk_o153 (by decide +kernel)
theorem dX12_reads_33 : decode cX12_reads 33 = .ok (.iconst 1, 1) := dk_o4 (by decide +kernel)
theorem dX12_reads_34 : decode cX12_reads 34 = .ok (.goto 4, 3) := dk_o167 (by decide +kernel)
theorem dX12_reads_37 : decode cX12_reads 37 = .ok (.iconst 0, 1) := dk_o3 (by decide +kernel)
theorem dX12_reads_38 : decode cX12_reads 38 = .ok (.invokevirtual 343, 3) := dk_o182 (by decide +kernel)
theorem dX12_reads_41 : decode cX12_reads 41 = .ok (.iconst 1, 1) := dk_o4 (by decide +kernel)
theorem dX12_reads_42 : decode cX12_reads 42 = .ok (.istore_n 2, 1) := dk_o61 (by decide +kernel)
theorem dX12_reads_43 : decode cX12_reads 43 = .ok (.iload_n 2, 1) := dk_o28 (by decide +kernel)
theorem dX12_reads_44 : decode cX12_reads 44 = .ok (.ifCond .eq 46, 3) := dk_o153 (by decide +kernel)
theorem dX12_reads_47 : decode cX12_reads 47 = .ok (.aload_n 0, 1) := dk_o42 (by decide +kernel)
theorem dX12_reads_48 : decode cX12_reads 48 = .ok (.getfield 152, 3) := dk_o180 (by decide +kernel)
theorem dX12_reads_51 : decode cX12_reads 51 = .ok (.ifCond .ne 14, 3) := dk_o154 (by decide +kernel)
theorem dX12_reads_54 : decode cX12_reads 54 = .ok (.aload_n 0, 1) := dk_o42 (by decide +kernel)
theorem dX12_reads_55 : decode cX12_reads 55 = .ok (.aload_n 0, 1) := dk_o42 (by decide +kernel)
theorem dX12_reads_56 : decode cX12_reads 56 = .ok (.invokevirtual 362, 3) := dk_o182 (by decide +kernel)
theorem dX12_reads_59 : decode cX12_reads 59 = .ok (.putfield 152, 3) := dk_o181 (by decide +kernel)
theorem dX12_reads_62 : decode cX12_reads 62 = .ok (.goto 8, 3) := dk_o167 (by decide +kernel)
theorem dX12_reads_65 : decode cX12_reads 65 = .ok (.aload_n 0, 1) := dk_o42 (by decide +kernel)
theorem dX12_reads_66 : decode cX12_reads 66 = .ok (.invokevirtual 365, 3) := dk_o182 (by decide +kernel)
theorem dX12_reads_69 : decode cX12_reads 69 = .ok (.istore_n 2, 1) := dk_o61 (by decide +kernel)
theorem dX12_reads_70 : decode cX12_reads 70 = .ok (.iload_n 2, 1) := dk_o28 (by decide +kernel)
theorem dX12_reads_71 : decode cX12_reads 71 = .ok (.ifCond .eq 14, 3) := dk_o153 (by decide +kernel)
theorem dX12_reads_74 : decode cX12_reads 74 = .ok (.aload_n 0, 1) := dk_o42 (by decide +kernel)
theorem dX12_reads_75 : decode cX12_reads 75 = .ok (.getfield 36, 3) := dk_o180 (by decide +kernel)
theorem dX12_reads_78 : decode cX12_reads 78 = .ok (.ifCond .ne 7, 3) := dk_o154 (by decide +kernel)
theorem dX12_reads_81 : decode cX12_reads 81 = .ok (.iconst 1, 1) := dk_o4 (by decide +kernel)
theorem dX12_reads_82 : decode cX12_reads 82 = .ok (.goto 4, 3) := dk_o167 (by decide +kernel)
theorem dX12_reads_85 : decode cX12_reads 85 = .ok (.iconst 0, 1) := dk_o3 (by decide +kernel)
theorem dX12_reads_86 : decode cX12_reads 86 = .ok (.istore_n 2, 1) := dk_o61 (by decide +kernel)
theorem dX12_reads_87 : decode cX12_reads 87 = .ok (.goto (-44), 3) := dk_o167 (by decide +kernel)
theorem dX12_reads_90 : decode cX12_reads 90 = .ok (.return_, 1) := dk_o177 (by decide +kernel)
theorem wB_441 : Cond.code yX12_operand cX12_operand 4 (some .boolean) ∈ dgB := List.mem_filter.mpr ⟨tbl_8 _ (List.mem_of_getElem? (i := 76) rfl), rfl⟩
theorem wB_442 : Cond.methodLink RX12 362 yX12_operand ∈ dgB := List.mem_filter.mpr ⟨tbl_8 _ (List.mem_of_getElem? (i := 73) (by decide +kernel)), by decide +kernel⟩
theorem wB_443 : Cond.instanceMethod yX12_operand ∈ dgB := List.mem_filter.mpr ⟨tbl_8 _ (List.mem_of_getElem? (i := 75) (by decide +kernel)), by decide +kernel⟩
theorem wB_444 : Cond.selects RX12 yX12_operand yX12_operand ∈ dgB := List.mem_filter.mpr ⟨List.mem_of_getElem? (i := 108) (by decide +kernel), by decide +kernel⟩
theorem wB_445 : Cond.code yX12_goesOn cX12_goesOn 5 (some .boolean) ∈ dgB := List.mem_filter.mpr ⟨tbl_8 _ (List.mem_of_getElem? (i := 95) rfl), rfl⟩
theorem wB_446 : Cond.methodLink RX12 365 yX12_goesOn ∈ dgB := List.mem_filter.mpr ⟨tbl_8 _ (List.mem_of_getElem? (i := 92) (by decide +kernel)), by decide +kernel⟩
theorem wB_447 : Cond.instanceMethod yX12_goesOn ∈ dgB := List.mem_filter.mpr ⟨tbl_8 _ (List.mem_of_getElem? (i := 94) (by decide +kernel)), by decide +kernel⟩
theorem wB_448 : Cond.selects RX12 yX12_goesOn yX12_goesOn ∈ dgB := List.mem_filter.mpr ⟨List.mem_of_getElem? (i := 112) (by decide +kernel), by decide +kernel⟩
set_option maxHeartbeats 8000000 in
set_option maxRecDepth 100000 in
theorem c_m_reads (l : Launch) (g : Nat → ClassId) (D : va_G) (o : Nat) (S : dg_S) (a1 : Int32) (b_a1 : 0 ≤ (a1).toInt ∧ (a1).toInt ≤ 1) (tb : Nat → Int32) (tn : Nat) (S0 : dg_S) (sg : Int32) (f_sg : S.1 0 3 = .int sg) (b_sg : 0 ≤ (sg).toInt ∧ (sg).toInt ≤ 3) (sa : Int32) (f_sa : S.1 0 4 = .int sa) (b_sa : 0 ≤ (sa).toInt ∧ (sa).toInt ≤ 1600) (se : Int32) (f_se : S.1 0 5 = .int se) (b_se : 0 ≤ (se).toInt ∧ (se).toInt ≤ 1600) (sl : Int32) (f_sl : S.1 0 2 = .int sl) (b_sl : 0 ≤ (sl).toInt ∧ (sl).toInt ≤ 1600) (fk : Int32) (f_fk : S.1 0 8 = .int fk) (b_fk : 0 ≤ (fk).toInt ∧ (fk).toInt ≤ 6) (cd : Int32) (f_cd : S.1 0 34 = .int cd) (b_cd : 0 ≤ (cd).toInt ∧ (cd).toInt ≤ 1600) (lw : Int32) (f_lw : S.1 0 36 = .int lw) (b_lw : 0 ≤ (lw).toInt ∧ (lw).toInt ≤ 2) (hlx : (sa).toInt ≤ (se).toInt ∧ (se).toInt ≤ (sl).toInt ∧ ((sg).toInt ≠ 0 → (sa).toInt + 1 ≤ (se).toInt)) (hro : (cd).toInt + 1 ≤ (sa).toInt) (hq : QSM S 0) (hlw : (a1).toInt = 1 ↔ (lw).toInt = 1) (TK : TKM tb tn S) (ZW : ZWM S) (ZK : ZKM S) (G8 : G8M S0 S) (I : CM o S) (sz : Nat) : Met l yX12_reads (bw yX12_reads cX12_reads 3 none) ({ frames := 5, cells := 0, slots := 0, locals := 121 } : Room) (dk_Pc g D (dg_w g shM o rfM S) sz [.ref (o + 0), .int a1]) (va_Qv (fun S' => CM o S' ∧ dg_sm shM [(0, 3), (0, 4), (0, 5), (0, 6), (0, 7), (0, 8), (0, 9), (0, 12), (0, 34), (0, 42), (0, 43), (0, 45), (0, 46)] [18, 19, 22, 23, 24, 25, 26, 27] S S' ∧ (∃ y9_3 y9_4 y9_5 y9_8 y9_34 : Int32, S'.1 0 3 = .int y9_3 ∧ S'.1 0 4 = .int y9_4 ∧ S'.1 0 5 = .int y9_5 ∧ S'.1 0 8 = .int y9_8 ∧ S'.1 0 34 = .int y9_34 ∧ (((y9_4).toInt ≤ (y9_5).toInt ∧ (y9_5).toInt ≤ (sl).toInt ∧ ((y9_3).toInt ≠ 0 → (y9_4).toInt + 1 ≤ (y9_5).toInt)) ∧ (sa).toInt ≤ (y9_4).toInt ∧ ((fk).toInt ≠ 0 → (y9_8).toInt ≠ 0) ∧ ((y9_8).toInt = 0 → (y9_34).toInt ≤ (y9_4).toInt))) ∧ (∀ k9 : Int32, S'.1 0 8 = .int k9 → k9.toInt = 0 → QEM S') ∧ (ROK tb tn fk (y_rule (T_kd tb tn) (T_vl tb tn) (lw).toInt (t_ix tb tn (sa : Int32).toNatClampNeg)) S') ∧ (m_hid ((fk).toInt = 0 → ∀ k9 : Int32, S'.1 0 8 = .int k9 → k9.toInt = 0 → q_am S S' (d_rule (T_kd tb tn) (T_vl tb tn) (lw).toInt (t_ix tb tn (sa : Int32).toNatClampNeg)))) ∧ TKM tb tn S' ∧ ZWM S' ∧ G8M S0 S' ∧ True) (dg_B g D shM o rfM) (dg_A o shM.length sz)) 0 0 (dg_A o shM.length sz) := by
  refine dg_met (cc := cX12_reads) (maxL := 3) (ret := none) (dk_dq rfl) rfl (Nat.le_of_ble_eq_true rfl) ?_
  intro p e s m args below meth c A hAe harg hx hb hr hml hts hown hlocks hin hP K hS hA1 hA ST hsz ls hl
  rw [← hAe]
  have F : CallFix p m c cX12_reads 3 s args (bw yX12_reads cX12_reads 3 none) RX12 := ⟨hx, hb, hml, hown, hts⟩
  have hl : lv_has ls 3 [(0, .ref (o + 0)), (1, .int a1)] := hl
  have M_0 : dg_sm shM [(0, 3), (0, 4), (0, 5), (0, 6), (0, 7), (0, 8), (0, 9), (0, 12), (0, 34), (0, 42), (0, 43), (0, 45), (0, 46)] [18, 19, 22, 23, 24, 25, 26, 27] S S := dg_sm.rf
  obtain ⟨Q9, hQ9⟩ : ∃ Q : State → Prop, Q = MQ below (va_Qv (fun S' => CM o S' ∧ dg_sm shM [(0, 3), (0, 4), (0, 5), (0, 6), (0, 7), (0, 8), (0, 9), (0, 12), (0, 34), (0, 42), (0, 43), (0, 45), (0, 46)] [18, 19, 22, 23, 24, 25, 26, 27] S S' ∧ (∃ y9_3 y9_4 y9_5 y9_8 y9_34 : Int32, S'.1 0 3 = .int y9_3 ∧ S'.1 0 4 = .int y9_4 ∧ S'.1 0 5 = .int y9_5 ∧ S'.1 0 8 = .int y9_8 ∧ S'.1 0 34 = .int y9_34 ∧ (((y9_4).toInt ≤ (y9_5).toInt ∧ (y9_5).toInt ≤ (sl).toInt ∧ ((y9_3).toInt ≠ 0 → (y9_4).toInt + 1 ≤ (y9_5).toInt)) ∧ (sa).toInt ≤ (y9_4).toInt ∧ ((fk).toInt ≠ 0 → (y9_8).toInt ≠ 0) ∧ ((y9_8).toInt = 0 → (y9_34).toInt ≤ (y9_4).toInt))) ∧ (∀ k9 : Int32, S'.1 0 8 = .int k9 → k9.toInt = 0 → QEM S') ∧ (ROK tb tn fk (y_rule (T_kd tb tn) (T_vl tb tn) (lw).toInt (t_ix tb tn (sa : Int32).toNatClampNeg)) S') ∧ (m_hid ((fk).toInt = 0 → ∀ k9 : Int32, S'.1 0 8 = .int k9 → k9.toInt = 0 → q_am S S' (d_rule (T_kd tb tn) (T_vl tb tn) (lw).toInt (t_ix tb tn (sa : Int32).toNatClampNeg)))) ∧ TKM tb tn S' ∧ ZWM S' ∧ G8M S0 S' ∧ True) (dg_B g D shM o rfM) A) args s 0 0 A := ⟨_, rfl⟩
  rw [← hQ9]
  obtain ⟨hlx_0, hlx_1, hlx_2⟩ := hlx
  refine lv_aload_n hx hb dX12_reads_0 rfl (lv_at hl 0 rfl) ?_
  refine dg_get (C := RX12) (T := TX12) (N := 77) hx hb hts (fun w h => bw_mem (wU_X12 w h)) hown K hP sM_0 rfl 8 (dk_dq rfl) (hts _ (bw_mem wB_303)) (fun _ h9 => h9) (v := .int fk) f_fk dX12_reads_1 ?_
  refine lv_if_le (tgt := 8) hx hb dX12_reads_4 (dk_dq rfl) (fun c_1 => ?_) (fun c_1 => ?_)
  · as_aux_lemma =>
      have jc_1 := dk_lec (k := 0) (by decide +kernel) c_1
      refine lv_aload_n hx hb dX12_reads_8 rfl (lv_at hl 0 rfl) ?_
      refine lv_iconst (v := 0) hx hb dX12_reads_9 (by decide +kernel) ?_
      have hz_2 : (0 : Int32).toInt = 0 := by decide +kernel
      refine dg_put (ci := 12) (v := .int 0) (ty := tyX12 42) (C := RX12) (T := TX12) (N := 77) hx hb hts (fun w h => bw_mem (wU_X12 w h)) tyX12 tyX12_ok nmX12 hown K hP hS hA1 sM_0 rfl 42 (dk_dq rfl) (hts _ (bw_mem wB_406)) (fun _ h9 => h9) rfl (by decide +kernel) rfl rfl dX12_reads_10 (fun S_3 e_3 H locs hP hS => ?_)
      have I_3 := dg_I.uFi (lo := 0) (hi := 20) I e_3 sM_0 (by decide +kernel) (show 0 ≤ ((0 : Int32)).toInt ∧ ((0 : Int32)).toInt ≤ 20 from (by decide +kernel))
      have M_3 := dg_sm.uF M_0 e_3 sM_0 (dk_dq rfl)
      refine lv_aload_n hx hb dX12_reads_13 rfl (lv_at hl 0 rfl) ?_
      refine lv_iconst (v := 0) hx hb dX12_reads_14 (by decide +kernel) ?_
      have hz_4 : (0 : Int32).toInt = 0 := by decide +kernel
      refine dg_put (ci := 12) (v := .int 0) (ty := tyX12 43) (C := RX12) (T := TX12) (N := 77) hx hb hts (fun w h => bw_mem (wU_X12 w h)) tyX12 tyX12_ok nmX12 hown K hP hS hA1 sM_0 rfl 43 (dk_dq rfl) (hts _ (bw_mem wB_415)) (fun _ h9 => h9) rfl (by decide +kernel) rfl rfl dX12_reads_15 (fun S_5 e_5 H locs hP hS => ?_)
      have I_5 := dg_I.uFi (lo := (-2147483648)) (hi := 2147483647) I_3 e_5 sM_0 (by decide +kernel) (show (-2147483648) ≤ ((0 : Int32)).toInt ∧ ((0 : Int32)).toInt ≤ 2147483647 from (by decide +kernel))
      have M_5 := dg_sm.uF M_3 e_5 sM_0 (dk_dq rfl)
      refine lv_aload_n hx hb dX12_reads_18 rfl (lv_at hl 0 rfl) ?_
      refine lv_iconst (v := 0) hx hb dX12_reads_19 (by decide +kernel) ?_
      have hz_6 : (0 : Int32).toInt = 0 := by decide +kernel
      refine dg_put (ci := 12) (v := .int 0) (ty := tyX12 45) (C := RX12) (T := TX12) (N := 77) hx hb hts (fun w h => bw_mem (wU_X12 w h)) tyX12 tyX12_ok nmX12 hown K hP hS hA1 sM_0 rfl 45 (dk_dq rfl) (hts _ (bw_mem wB_404)) (fun _ h9 => h9) rfl (by decide +kernel) rfl rfl dX12_reads_20 (fun S_7 e_7 H locs hP hS => ?_)
      have I_7 := dg_I.uFi (lo := 0) (hi := 500) I_5 e_7 sM_0 (by decide +kernel) (show 0 ≤ ((0 : Int32)).toInt ∧ ((0 : Int32)).toInt ≤ 500 from (by decide +kernel))
      have M_7 := dg_sm.uF M_5 e_7 sM_0 (dk_dq rfl)
      refine lv_aload_n hx hb dX12_reads_23 rfl (lv_at hl 0 rfl) ?_
      refine lv_iconst (v := 0) hx hb dX12_reads_24 (by decide +kernel) ?_
      have hz_8 : (0 : Int32).toInt = 0 := by decide +kernel
      refine dg_put (ci := 12) (v := .int 0) (ty := tyX12 46) (C := RX12) (T := TX12) (N := 77) hx hb hts (fun w h => bw_mem (wU_X12 w h)) tyX12 tyX12_ok nmX12 hown K hP hS hA1 sM_0 rfl 46 (dk_dq rfl) (hts _ (bw_mem wB_440)) (fun _ h9 => h9) rfl (by decide +kernel) (by decide +kernel) (by decide +kernel) dX12_reads_25 (fun S_9 e_9 H locs hP hS => ?_)
      have I_9 := dg_I.uFi (lo := 0) (hi := 1) I_7 e_9 sM_0 (by decide +kernel) (show 0 ≤ ((0 : Int32)).toInt ∧ ((0 : Int32)).toInt ≤ 1 from (by decide +kernel))
      have M_9 := dg_sm.uF M_7 e_9 sM_0 (dk_dq rfl)
      refine lv_aload_n hx hb dX12_reads_28 rfl (lv_at hl 0 rfl) ?_
      refine lv_iload_n hx hb dX12_reads_29 rfl (lv_at hl 1 rfl) ?_
      refine lv_if_eq (tgt := 37) hx hb dX12_reads_30 (dk_dq rfl) (fun c_10 => ?_) (fun c_10 => ?_)
      · as_aux_lemma =>
          have jc_10 := dk_eqc (k := 0) (by decide +kernel) c_10
          refine lv_iconst (v := 0) hx hb dX12_reads_37 (by decide +kernel) ?_
          have hz_11 : (0 : Int32).toInt = 0 := by decide +kernel
          have hz_12 : (0 : Int32).toInt = 0 := by decide +kernel
          have hz_13 : (0 : Int32).toInt = 0 := by decide +kernel
          refine dg_callv hS hA1 hA (va_runV (As := [.int 0]) (rest := []) F (c_m_pushes l g D o S_9 0 (by decide +kernel) 0 (((dg_uF_ne e_9 (fun z => absurd z.2 (dk_dq rfl))).trans ((dg_uF_ne e_7 (fun z => absurd z.2 (dk_dq rfl))).trans (dg_uF_ne e_5 (fun z => absurd z.2 (dk_dq rfl))))).trans (dg_uF_at e_3)) (by decide +kernel) 0 ((dg_uF_ne e_9 (fun z => absurd z.2 (dk_dq rfl))).trans (dg_uF_at e_7)) (by decide +kernel) I_9 H.size) (cwV 1 hts (bw_V wB_420 wB_421 wB_422 wB_297 wB_419) rfl rfl rfl (by decide +kernel) ⟨Nat.le_of_ble_eq_true rfl, Nat.le_of_ble_eq_true rfl⟩) (dg_preV sM_0 rfl K ST hP hS hA1 hA) rfl rfl hl.1 rfl (lv_room (Nat.le_of_ble_eq_true rfl)) dX12_reads_38 ⟨Nat.le_of_ble_eq_true rfl, Nat.le_of_ble_eq_true rfl⟩) (fun S_14 hw_14 H locs hP hS => ?_)
          obtain ⟨I_14, m_14, w_14_0, w_14_1, -⟩ := hw_14
          have M_14 := dg_sm.tr M_9 m_14 (dk_dq rfl) (dk_dq rfl)
          have hz_15 : (0 : Int32).toInt = 0 := by decide +kernel
          have hz_16 : (0 : Int32).toInt = 0 := by decide +kernel
          have hz_17 : (0 : Int32).toInt = 0 := by decide +kernel
          obtain ⟨y_18, f_y_18, w_14_0⟩ := w_14_0
          have w_14_0 : (y_18).toInt = ((0 : Int32)).toInt + 1 := w_14_0
          have b_y_18 : 0 ≤ (y_18).toInt ∧ (y_18).toInt ≤ 20 := dg_I.intb (lo := 0) (hi := 20) I_14 sM_0 (by decide +kernel) f_y_18
          replace w_14_1 : PUM S_9 S_14 (0 : Int32) := w_14_1
          have P0_14 : P0M S_14 := P0M.first (QSM.keep (QSM.keep (QSM.keep (QSM.keep hq (dg_sm.uF (WF := [(0, 42)]) (WA := []) dg_sm.rf e_3 sM_0 (dk_dq rfl)) (dk_dq rfl) (dk_dq rfl) (dk_dq rfl) (dk_dq rfl) (dk_dq rfl) (dk_dq rfl)) (dg_sm.uF (WF := [(0, 43)]) (WA := []) dg_sm.rf e_5 sM_0 (dk_dq rfl)) (dk_dq rfl) (dk_dq rfl) (dk_dq rfl) (dk_dq rfl) (dk_dq rfl) (dk_dq rfl)) (dg_sm.uF (WF := [(0, 45)]) (WA := []) dg_sm.rf e_7 sM_0 (dk_dq rfl)) (dk_dq rfl) (dk_dq rfl) (dk_dq rfl) (dk_dq rfl) (dk_dq rfl) (dk_dq rfl)) (dg_sm.uF (WF := [(0, 46)]) (WA := []) dg_sm.rf e_9 sM_0 (dk_dq rfl)) (dk_dq rfl) (dk_dq rfl) (dk_dq rfl) (dk_dq rfl) (dk_dq rfl) (dk_dq rfl)) (dp := 0) (on := 0) (om := 0) (((dg_uF_ne e_9 (fun z => absurd z.2 (dk_dq rfl))).trans ((dg_uF_ne e_7 (fun z => absurd z.2 (dk_dq rfl))).trans (dg_uF_ne e_5 (fun z => absurd z.2 (dk_dq rfl))))).trans (dg_uF_at e_3)) (((dg_uF_ne e_9 (fun z => absurd z.2 (dk_dq rfl))).trans (dg_uF_ne e_7 (fun z => absurd z.2 (dk_dq rfl)))).trans (dg_uF_at e_5)) ((dg_uF_ne e_9 (fun z => absurd z.2 (dk_dq rfl))).trans (dg_uF_at e_7)) (by decide +kernel) (by decide +kernel) (by decide +kernel) w_14_1 m_14 (by decide +kernel)
          have hpo0 : POM S_14 := POM.mk0 P0_14 ((m_14.1 0 46 _ sM_0 (dk_dq rfl)).trans (dg_uF_at e_9)) (by decide +kernel)
          refine lv_iconst (v := 1) hx hb dX12_reads_41 (by decide +kernel) ?_
          refine lv_istore_n (lv' := [(2, .int 1), (0, .ref (o + 0)), (1, .int a1)]) hx hb dX12_reads_42 rfl hl (dk_dq rfl) rfl (fun ls hl => ?_)
          have L_83 : ∀ (n : Nat) (x_73 : Int32) (x_74 : Int32) (x_75 : Int32) (x_76 : Int32) (x_77 : Int32) (x_78 : Int32) (x_79 : Int32) (x_80 : Int32) (x_81 : Int32), (0 ≤ (x_73).toInt ∧ (x_73).toInt ≤ 1) → (0 ≤ (x_74).toInt ∧ (x_74).toInt ≤ 3) → (0 ≤ (x_75).toInt ∧ (x_75).toInt ≤ 1600) → (0 ≤ (x_76).toInt ∧ (x_76).toInt ≤ 1600) → (0 ≤ (x_77).toInt ∧ (x_77).toInt ≤ 6) → (0 ≤ (x_78).toInt ∧ (x_78).toInt ≤ 1600) → (0 ≤ (x_79).toInt ∧ (x_79).toInt ≤ 20) → (0 ≤ (x_80).toInt ∧ (x_80).toInt ≤ 500) → (0 ≤ (x_81).toInt ∧ (x_81).toInt ≤ 1) → (((x_73).toInt + 1600 - (x_75).toInt).toNat < n) → ∀ S_82 : dg_S, CM o S_82 → dg_sm shM [(0, 3), (0, 4), (0, 5), (0, 6), (0, 7), (0, 8), (0, 9), (0, 12), (0, 34), (0, 42), (0, 43), (0, 45), (0, 46)] [18, 19, 22, 23, 24, 25, 26, 27] S S_82 → S_82.1 0 3 = .int x_74 → S_82.1 0 4 = .int x_75 → S_82.1 0 5 = .int x_76 → S_82.1 0 8 = .int x_77 → S_82.1 0 34 = .int x_78 → S_82.1 0 42 = .int x_79 → S_82.1 0 45 = .int x_80 → S_82.1 0 46 = .int x_81 → TKM tb tn S_82 → ZWM S_82 → G8M S0 S_82 → (((x_75).toInt ≤ (x_76).toInt ∧ (x_76).toInt ≤ (sl).toInt ∧ ((x_74).toInt ≠ 0 → (x_75).toInt + 1 ≤ (x_76).toInt)) ∧ (sa).toInt ≤ (x_75).toInt) → ((x_73 : Int32).toInt = 1 → (x_77).toInt = 0) → ((x_77).toInt = 0 → (x_78).toInt + (x_80).toInt + (x_79).toInt ≤ (x_75).toInt) → ((x_73 : Int32).toInt = 1 → POM S_82) → ((x_73 : Int32).toInt = 0 → (x_77).toInt = 0 → QEM S_82) → (m_hid ((fk).toInt = 0 → RDG tb tn (lw).toInt (t_ix tb tn (sa : Int32).toNatClampNeg) S_82 (x_73 : Int32) x_77 x_75 x_81)) → (m_hid ((fk).toInt = 0 → RDN tb tn (lw).toInt (t_ix tb tn (sa : Int32).toNatClampNeg) S S_82 (x_73 : Int32) x_77 x_75 x_81)) → ∀ (H : Heap) (locs : List Loc), va_P D vwCl (dg_w g shM o rfM S_82) H → va_S A s.heap H locs → ∀ ls : Array Slot, lv_has ls 3 [(2, .int x_73), (0, .ref (o + 0)), (1, .int a1)] → W p l e ({ frames := 5, cells := 0, slots := 0, locals := 121 } : Room) s m args below meth c H locs 0 0 Q9 (F0 m 43 ls []) := by
            as_aux_lemma =>
              intro n
              induction n with
              | zero =>
                intro x_73 x_74 x_75 x_76 x_77 x_78 x_79 x_80 x_81 b_x_73 b_x_74 b_x_75 b_x_76 b_x_77 b_x_78 b_x_79 b_x_80 b_x_81 hmu S_82 I_82 M_82 ff_82_3_0 ff_82_4_0 ff_82_5_0 ff_82_8_0 ff_82_34_0 ff_82_42_0 ff_82_45_0 ff_82_46_0 TK_82 ZW_82 G8_82 srel_82_0 srel_82_1 srel_82_2 srel_82_3 srel_82_4 srel_82_5 srel_82_6 H locs hP hS ls hl
                omega
              | succ n ih =>
                as_aux_lemma =>
                  intro x_73 x_74 x_75 x_76 x_77 x_78 x_79 x_80 x_81 b_x_73 b_x_74 b_x_75 b_x_76 b_x_77 b_x_78 b_x_79 b_x_80 b_x_81 hmu S_82 I_82 M_82 ff_82_3_0 ff_82_4_0 ff_82_5_0 ff_82_8_0 ff_82_34_0 ff_82_42_0 ff_82_45_0 ff_82_46_0 TK_82 ZW_82 G8_82 srel_82_0 srel_82_1 srel_82_2 srel_82_3 srel_82_4 srel_82_5 srel_82_6 H locs hP hS ls hl
                  clear hlx_2
                  obtain ⟨⟨srel_82_0_0, srel_82_0_1, srel_82_0_2⟩, srel_82_0_3⟩ := srel_82_0
                  refine lv_iload_n hx hb dX12_reads_43 rfl (lv_at hl 0 rfl) ?_
                  refine lv_if_eq (tgt := 90) hx hb dX12_reads_44 (dk_dq rfl) (fun c_84 => ?_) (fun c_84 => ?_)
                  · have jc_84 := dk_eqc (k := 0) (by decide +kernel) c_84
                    clear srel_82_1
                    refine W.widen (k := 0) (n := 0) (Nat.le_of_ble_eq_true rfl) (Nat.le_of_ble_eq_true rfl) ?_
                    rw [hQ9]
                    exact dg_vret hx hb hr hlocks hP hS ⟨I_82, M_82, ⟨x_74, x_75, x_76, x_77, x_78, ff_82_3_0, ff_82_4_0, ff_82_5_0, ff_82_8_0, ff_82_34_0, (by omega)⟩, (fun k9 hk9 hk0 => by have q9 := (ff_82_8_0).symm.trans hk9; cases q9; exact srel_82_4 (by omega) hk0), (RDG.rok TK.1.2.1 (fun h0 => srel_82_5.out h0) (by omega) ff_82_8_0 ff_82_4_0), (m_hid.mk (fun h0 k9 q8 q9 => RDN.fin TK.1.2.1 (srel_82_6.out h0) (by omega) ff_82_8_0 q8 q9)), TK_82, ZW_82, G8_82, trivial⟩ dX12_reads_90
                  · as_aux_lemma =>
                      have jc_84 := dk_neqc (k := 0) (by decide +kernel) c_84
                      have jbc_84 : 1 ≤ (x_73).toInt := by omega
                      clear jc_84
                      have srel_82_1r := srel_82_1 (by omega)
                      clear srel_82_1
                      have srel_82_2r := srel_82_2 (by omega)
                      clear srel_82_2
                      refine lv_aload_n hx hb dX12_reads_47 rfl (lv_at hl 1 rfl) ?_
                      refine dg_get (C := RX12) (T := TX12) (N := 77) hx hb hts (fun w h => bw_mem (wU_X12 w h)) hown K hP sM_0 rfl 46 (dk_dq rfl) (hts _ (bw_mem wB_440)) (fun _ h9 => h9) (v := .int x_81) ff_82_46_0 dX12_reads_48 ?_
                      refine lv_if_ne (tgt := 65) hx hb dX12_reads_51 (dk_dq rfl) (fun c_85 => ?_) (fun c_85 => ?_)
                      · as_aux_lemma =>
                          have jc_85 := dk_neqc (k := 0) (by decide +kernel) c_85
                          have jbc_85 : 1 ≤ (x_81).toInt := by omega
                          clear jc_85
                          have P1_82 : P1M S_82 := POM.p1 (srel_82_3 (by omega)) ff_82_46_0 (by omega)
                          refine lv_aload_n hx hb dX12_reads_65 rfl (lv_at hl 1 rfl) ?_
                          obtain ⟨x_86, f_x_86, b_x_86⟩ := dg_I.int (i := 0) (k := 6) (lo := 0) (hi := 9999) I_82 sM_0 (by decide +kernel)
                          obtain ⟨x_87, f_x_87, b_x_87⟩ := dg_I.int (i := 0) (k := 43) (lo := (-2147483648)) (hi := 2147483647) I_82 sM_0 (by decide +kernel)
                          refine dg_calli hS hA1 hA (va_runV (As := []) (rest := []) F (c_m_goesOn l g D o S_82 tb tn S0 x_74 ff_82_3_0 (by omega) x_75 ff_82_4_0 (by omega) x_76 ff_82_5_0 (by omega) sl ((M_82.1 0 2 _ sM_0 (dk_dq rfl)).trans f_sl) (by omega) x_77 ff_82_8_0 (by omega) x_86 f_x_86 (by omega) x_78 ff_82_34_0 (by omega) x_79 ff_82_42_0 (by omega) x_87 f_x_87 x_80 ff_82_45_0 (by omega) x_81 ff_82_46_0 (by omega) lw ((M_82.1 0 36 _ sM_0 (dk_dq rfl)).trans f_lw) (by omega) (by omega) (by omega) TK_82 ZW_82 (ZKM.keep ZK M_82 (dk_dq rfl) (dk_dq rfl)) P1_82 G8_82 I_82 H.size) (cwV 0 hts (bw_V wB_446 wB_447 wB_448 wB_297 wB_445) rfl rfl rfl (by decide +kernel) ⟨Nat.le_of_ble_eq_true rfl, Nat.le_of_ble_eq_true rfl⟩) (dg_preV sM_0 rfl K ST hP hS hA1 hA) rfl rfl hl.1 rfl (lv_room (Nat.le_of_ble_eq_true rfl)) dX12_reads_66 ⟨Nat.le_of_ble_eq_true rfl, Nat.le_of_ble_eq_true rfl⟩) (fun x_88 S_89 hw_89 H locs hP hS => ?_)
                          obtain ⟨I_89, m_89, w_89_0, w_89_1, w_89_2, w_89_3, w_89_4, w_89_5, w_89_6, w_89_7, -⟩ := hw_89
                          have M_89 := dg_sm.tr M_82 m_89 (dk_dq rfl) (dk_dq rfl)
                          have w_89_0 : 0 ≤ (x_88).toInt ∧ (x_88).toInt ≤ 1 := w_89_0
                          obtain ⟨y_90, y_91, y_92, y_93, y_94, y_95, y_96, y_97, f_y_90, f_y_91, f_y_92, f_y_93, f_y_94, f_y_95, f_y_96, f_y_97, w_89_1⟩ := w_89_1
                          have w_89_1 : ((y_91).toInt ≤ (y_92).toInt ∧ (y_92).toInt ≤ (sl).toInt ∧ ((y_90).toInt ≠ 0 → (y_91).toInt + 1 ≤ (y_92).toInt)) ∧ (x_75).toInt ≤ (y_91).toInt ∧ ((x_77).toInt ≠ 0 → (y_93).toInt ≠ 0) ∧ (((y_93).toInt = 0 → (x_88).toInt = 1 → (x_75).toInt + 1 ≤ (y_91).toInt) ∧ ((y_93).toInt = 0 → (y_94).toInt + (y_96).toInt + (y_95).toInt ≤ (y_91).toInt)) := w_89_1
                          obtain ⟨⟨w_89_1_0, w_89_1_1, w_89_1_2⟩, w_89_1_3, w_89_1_4, ⟨w_89_1_5, w_89_1_6⟩⟩ := w_89_1
                          clear w_89_1_4
                          have b_y_90 : 0 ≤ (y_90).toInt ∧ (y_90).toInt ≤ 3 := dg_I.intb (lo := 0) (hi := 3) I_89 sM_0 (by decide +kernel) f_y_90
                          have b_y_91 : 0 ≤ (y_91).toInt ∧ (y_91).toInt ≤ 1600 := dg_I.intb (lo := 0) (hi := 1600) I_89 sM_0 (by decide +kernel) f_y_91
                          have b_y_92 : 0 ≤ (y_92).toInt ∧ (y_92).toInt ≤ 1600 := dg_I.intb (lo := 0) (hi := 1600) I_89 sM_0 (by decide +kernel) f_y_92
                          have b_y_93 : 0 ≤ (y_93).toInt ∧ (y_93).toInt ≤ 6 := dg_I.intb (lo := 0) (hi := 6) I_89 sM_0 (by decide +kernel) f_y_93
                          have b_y_94 : 0 ≤ (y_94).toInt ∧ (y_94).toInt ≤ 1600 := dg_I.intb (lo := 0) (hi := 1600) I_89 sM_0 (by decide +kernel) f_y_94
                          have b_y_95 : 0 ≤ (y_95).toInt ∧ (y_95).toInt ≤ 20 := dg_I.intb (lo := 0) (hi := 20) I_89 sM_0 (by decide +kernel) f_y_95
                          have b_y_96 : 0 ≤ (y_96).toInt ∧ (y_96).toInt ≤ 500 := dg_I.intb (lo := 0) (hi := 500) I_89 sM_0 (by decide +kernel) f_y_96
                          have b_y_97 : 0 ≤ (y_97).toInt ∧ (y_97).toInt ≤ 1 := dg_I.intb (lo := 0) (hi := 1) I_89 sM_0 (by decide +kernel) f_y_97
                          replace w_89_2 : ∀ k9 : Int32, S_89.1 0 8 = .int k9 → k9.toInt = 0 → POM S_89 := w_89_2
                          replace w_89_3 : GOK tb tn (lw).toInt S_82 S_89 x_88 := w_89_3
                          replace w_89_4 : GON tb tn (lw).toInt S_82 S_89 x_88 := w_89_4
                          refine lv_istore_n (lv' := [(2, .int x_88), (0, .ref (o + 0)), (1, .int a1)]) hx hb dX12_reads_69 rfl hl (dk_dq rfl) rfl (fun ls hl => ?_)
                          refine lv_iload_n hx hb dX12_reads_70 rfl (lv_at hl 0 rfl) ?_
                          refine lv_if_eq (tgt := 85) hx hb dX12_reads_71 (dk_dq rfl) (fun c_98 => ?_) (fun c_98 => ?_)
                          · have jc_98 := dk_eqc (k := 0) (by decide +kernel) c_98
                            refine lv_iconst (v := 0) hx hb dX12_reads_85 (by decide +kernel) ?_
                            refine lv_istore_n (lv' := [(2, .int 0), (0, .ref (o + 0)), (1, .int a1)]) hx hb dX12_reads_86 rfl hl (dk_dq rfl) rfl (fun ls hl => ?_)
                            refine lv_goto (tgt := 43) hx hb dX12_reads_87 (dk_dq rfl) ?_
                            have hz_99 : (0 : Int32).toInt = 0 := by decide +kernel
                            have hz_100 : (0 : Int32).toInt = 0 := by decide +kernel
                            have hz_101 : (0 : Int32).toInt = 0 := by decide +kernel
                            obtain ⟨x_102, f_x_102, b_x_102⟩ := dg_I.int (i := 0) (k := 43) (lo := (-2147483648)) (hi := 2147483647) I_89 sM_0 (by decide +kernel)
                            have hz_103 : (0 : Int32).toInt = 0 := by decide +kernel
                            have hz_104 : (0 : Int32).toInt = 0 := by decide +kernel
                            exact ih 0 y_90 y_91 y_92 y_93 y_94 y_95 y_96 y_97 (by decide +kernel) (by omega) (by omega) (by omega) (by omega) (by omega) (by omega) (by omega) (by omega) (by first | exact mu_lt hmu (by omega) (by omega) | omega) S_89 I_89 M_89 f_y_90 f_y_91 f_y_92 f_y_93 f_y_94 f_y_95 f_y_96 f_y_97 w_89_5 w_89_6 w_89_7 (by omega) (by omega) (by omega) (fun h9 => absurd h9 (by decide +kernel)) (fun _ h8 => POM.qe (w_89_2 _ f_y_93 h8) f_y_97 f_y_95 f_x_102 f_y_96) (m_hid.mk (fun h0 => RDG.go (r := x_88) (srel_82_5.out h0) (by omega) (by omega) ff_82_4_0 ff_82_8_0 (by omega) w_89_3 f_y_93 f_y_91 f_y_97 ⟨fun q9 => by omega, fun q9 => by omega⟩)) (m_hid.mk (fun h0 => RDN.go (r := x_88) (srel_82_6.out h0) (by omega) (by omega) ff_82_4_0 ff_82_8_0 (by omega) w_89_4 f_y_93 f_y_91 f_y_97 ⟨fun q9 => by omega, fun q9 => by omega⟩)) _ _ hP hS _ (lv_sub hl [0, 1, 2] rfl)
                          · as_aux_lemma =>
                              have jc_98 := dk_neqc (k := 0) (by decide +kernel) c_98
                              have jbc_98 : 1 ≤ (x_88).toInt := by omega
                              clear jc_98
                              refine lv_aload_n hx hb dX12_reads_74 rfl (lv_at hl 1 rfl) ?_
                              refine dg_get (C := RX12) (T := TX12) (N := 77) hx hb hts (fun w h => bw_mem (wU_X12 w h)) hown K hP sM_0 rfl 8 (dk_dq rfl) (hts _ (bw_mem wB_303)) (fun _ h9 => h9) (v := .int y_93) f_y_93 dX12_reads_75 ?_
                              refine lv_if_ne (tgt := 85) hx hb dX12_reads_78 (dk_dq rfl) (fun c_105 => ?_) (fun c_105 => ?_)
                              · have jc_105 := dk_neqc (k := 0) (by decide +kernel) c_105
                                have jbc_105 : 1 ≤ (y_93).toInt := by omega
                                clear jc_105
                                clear w_89_1_5
                                clear w_89_1_6
                                refine lv_iconst (v := 0) hx hb dX12_reads_85 (by decide +kernel) ?_
                                refine lv_istore_n (lv' := [(2, .int 0), (0, .ref (o + 0)), (1, .int a1)]) hx hb dX12_reads_86 rfl hl (dk_dq rfl) rfl (fun ls hl => ?_)
                                refine lv_goto (tgt := 43) hx hb dX12_reads_87 (dk_dq rfl) ?_
                                have hz_106 : (0 : Int32).toInt = 0 := by decide +kernel
                                have hz_107 : (0 : Int32).toInt = 0 := by decide +kernel
                                have hz_108 : (0 : Int32).toInt = 0 := by decide +kernel
                                have hz_109 : (0 : Int32).toInt = 0 := by decide +kernel
                                have hz_110 : (0 : Int32).toInt = 0 := by decide +kernel
                                exact ih 0 y_90 y_91 y_92 y_93 y_94 y_95 y_96 y_97 (by decide +kernel) (by omega) (by omega) (by omega) (by omega) (by omega) (by omega) (by omega) (by omega) (by first | exact mu_lt hmu (by omega) (by omega) | omega) S_89 I_89 M_89 f_y_90 f_y_91 f_y_92 f_y_93 f_y_94 f_y_95 f_y_96 f_y_97 w_89_5 w_89_6 w_89_7 (by omega) (by omega) (by omega) (fun h9 => absurd h9 (by decide +kernel)) (fun _ h8 => absurd h8 (by omega)) (m_hid.mk (fun h0 => RDG.go (r := x_88) (srel_82_5.out h0) (by omega) (by omega) ff_82_4_0 ff_82_8_0 (by omega) w_89_3 f_y_93 f_y_91 f_y_97 ⟨fun q9 => by omega, fun q9 => by omega⟩)) (m_hid.mk (fun h0 => RDN.go (r := x_88) (srel_82_6.out h0) (by omega) (by omega) ff_82_4_0 ff_82_8_0 (by omega) w_89_4 f_y_93 f_y_91 f_y_97 ⟨fun q9 => by omega, fun q9 => by omega⟩)) _ _ hP hS _ (lv_sub hl [0, 1, 2] rfl)
                              · as_aux_lemma =>
                                  have jc_105 := dk_eqc (k := 0) (by decide +kernel) c_105
                                  have w_89_1_5r := w_89_1_5 (by omega)
                                  clear w_89_1_5
                                  have w_89_1_6r := w_89_1_6 (by omega)
                                  clear w_89_1_6
                                  have w_89_1_5rr := w_89_1_5r (by omega)
                                  clear w_89_1_5r
                                  refine lv_iconst (v := 1) hx hb dX12_reads_81 (by decide +kernel) ?_
                                  refine lv_goto (tgt := 86) hx hb dX12_reads_82 (dk_dq rfl) ?_
                                  refine lv_istore_n (lv' := [(2, .int 1), (0, .ref (o + 0)), (1, .int a1)]) hx hb dX12_reads_86 rfl hl (dk_dq rfl) rfl (fun ls hl => ?_)
                                  refine lv_goto (tgt := 43) hx hb dX12_reads_87 (dk_dq rfl) ?_
                                  have hz_111 : (1 : Int32).toInt = 1 := by decide +kernel
                                  have hz_112 : (1 : Int32).toInt = 1 := by decide +kernel
                                  have hz_113 : (1 : Int32).toInt = 1 := by decide +kernel
                                  have hz_114 : (1 : Int32).toInt = 1 := by decide +kernel
                                  have hz_115 : (1 : Int32).toInt = 1 := by decide +kernel
                                  exact ih 1 y_90 y_91 y_92 y_93 y_94 y_95 y_96 y_97 (by decide +kernel) (by omega) (by omega) (by omega) (by omega) (by omega) (by omega) (by omega) (by omega) (by first | exact mu_lt hmu (by omega) (by omega) | omega) S_89 I_89 M_89 f_y_90 f_y_91 f_y_92 f_y_93 f_y_94 f_y_95 f_y_96 f_y_97 w_89_5 w_89_6 w_89_7 (by omega) (by omega) (by omega) (fun _ => w_89_2 _ f_y_93 (by omega)) (fun h9 => absurd h9 (by decide +kernel)) (m_hid.mk (fun h0 => RDG.go (r := x_88) (srel_82_5.out h0) (by omega) (by omega) ff_82_4_0 ff_82_8_0 (by omega) w_89_3 f_y_93 f_y_91 f_y_97 ⟨fun q9 => by omega, fun q9 => by omega⟩)) (m_hid.mk (fun h0 => RDN.go (r := x_88) (srel_82_6.out h0) (by omega) (by omega) ff_82_4_0 ff_82_8_0 (by omega) w_89_4 f_y_93 f_y_91 f_y_97 ⟨fun q9 => by omega, fun q9 => by omega⟩)) _ _ hP hS _ (lv_sub hl [0, 1, 2] rfl)
                      · as_aux_lemma =>
                          have jc_85 := dk_eqc (k := 0) (by decide +kernel) c_85
                          have P0_82 : P0M S_82 := POM.p0 (srel_82_3 (by omega)) ff_82_46_0 (by omega)
                          refine lv_aload_n hx hb dX12_reads_54 rfl (lv_at hl 1 rfl) ?_
                          refine lv_aload_n hx hb dX12_reads_55 rfl (lv_at hl 1 rfl) ?_
                          obtain ⟨x_116, f_x_116, b_x_116⟩ := dg_I.int (i := 0) (k := 6) (lo := 0) (hi := 9999) I_82 sM_0 (by decide +kernel)
                          obtain ⟨x_117, f_x_117, b_x_117⟩ := dg_I.int (i := 0) (k := 43) (lo := (-2147483648)) (hi := 2147483647) I_82 sM_0 (by decide +kernel)
                          refine dg_calli hS hA1 hA (va_runV (As := []) (rest := [.ref (o + 0)]) F (c_m_operand l g D o S_82 tb tn S0 x_74 ff_82_3_0 (by omega) x_75 ff_82_4_0 (by omega) x_76 ff_82_5_0 (by omega) sl ((M_82.1 0 2 _ sM_0 (dk_dq rfl)).trans f_sl) (by omega) x_116 f_x_116 (by omega) x_78 ff_82_34_0 (by omega) x_79 ff_82_42_0 (by omega) x_117 f_x_117 x_80 ff_82_45_0 (by omega) x_77 ff_82_8_0 (by omega) lw ((M_82.1 0 36 _ sM_0 (dk_dq rfl)).trans f_lw) (by omega) (by omega) (by omega) TK_82 ZW_82 (ZKM.keep ZK M_82 (dk_dq rfl) (dk_dq rfl)) P0_82 G8_82 I_82 H.size) (cwV 0 hts (bw_V wB_442 wB_443 wB_444 wB_297 wB_441) rfl rfl rfl (by decide +kernel) ⟨Nat.le_of_ble_eq_true rfl, Nat.le_of_ble_eq_true rfl⟩) (dg_preV sM_0 rfl K ST hP hS hA1 hA) rfl rfl hl.1 rfl (lv_room (Nat.le_of_ble_eq_true rfl)) dX12_reads_56 ⟨Nat.le_of_ble_eq_true rfl, Nat.le_of_ble_eq_true rfl⟩) (fun x_118 S_119 hw_119 H locs hP hS => ?_)
                          obtain ⟨I_119, m_119, w_119_0, w_119_1, w_119_2, w_119_3, w_119_4, w_119_5, w_119_6, w_119_7, -⟩ := hw_119
                          have M_119 := dg_sm.tr M_82 m_119 (dk_dq rfl) (dk_dq rfl)
                          have w_119_0 : 0 ≤ (x_118).toInt ∧ (x_118).toInt ≤ 1 := w_119_0
                          obtain ⟨y_120, y_121, y_122, y_123, y_124, y_125, y_126, f_y_120, f_y_121, f_y_122, f_y_123, f_y_124, f_y_125, f_y_126, w_119_1⟩ := w_119_1
                          have w_119_1 : ((y_121).toInt ≤ (y_122).toInt ∧ (y_122).toInt ≤ (sl).toInt ∧ ((y_120).toInt ≠ 0 → (y_121).toInt + 1 ≤ (y_122).toInt)) ∧ (x_75).toInt ≤ (y_121).toInt ∧ ((x_77).toInt ≠ 0 → (y_123).toInt ≠ 0) ∧ (((y_123).toInt = 0 → (x_75).toInt + 1 ≤ (y_121).toInt) ∧ ((y_123).toInt = 0 → (y_124).toInt + (y_126).toInt + (y_125).toInt ≤ (y_121).toInt)) := w_119_1
                          obtain ⟨⟨w_119_1_0, w_119_1_1, w_119_1_2⟩, w_119_1_3, w_119_1_4, ⟨w_119_1_5, w_119_1_6⟩⟩ := w_119_1
                          clear w_119_1_4
                          have b_y_120 : 0 ≤ (y_120).toInt ∧ (y_120).toInt ≤ 3 := dg_I.intb (lo := 0) (hi := 3) I_119 sM_0 (by decide +kernel) f_y_120
                          have b_y_121 : 0 ≤ (y_121).toInt ∧ (y_121).toInt ≤ 1600 := dg_I.intb (lo := 0) (hi := 1600) I_119 sM_0 (by decide +kernel) f_y_121
                          have b_y_122 : 0 ≤ (y_122).toInt ∧ (y_122).toInt ≤ 1600 := dg_I.intb (lo := 0) (hi := 1600) I_119 sM_0 (by decide +kernel) f_y_122
                          have b_y_123 : 0 ≤ (y_123).toInt ∧ (y_123).toInt ≤ 6 := dg_I.intb (lo := 0) (hi := 6) I_119 sM_0 (by decide +kernel) f_y_123
                          have b_y_124 : 0 ≤ (y_124).toInt ∧ (y_124).toInt ≤ 1600 := dg_I.intb (lo := 0) (hi := 1600) I_119 sM_0 (by decide +kernel) f_y_124
                          have b_y_125 : 0 ≤ (y_125).toInt ∧ (y_125).toInt ≤ 20 := dg_I.intb (lo := 0) (hi := 20) I_119 sM_0 (by decide +kernel) f_y_125
                          have b_y_126 : 0 ≤ (y_126).toInt ∧ (y_126).toInt ≤ 500 := dg_I.intb (lo := 0) (hi := 500) I_119 sM_0 (by decide +kernel) f_y_126
                          replace w_119_2 : ∀ k9 : Int32, S_119.1 0 8 = .int k9 → k9.toInt = 0 → ((x_118).toInt = 1 → P1M S_119) ∧ ((x_118).toInt = 0 → P0M S_119) := w_119_2
                          replace w_119_3 : OPK tb tn (lw).toInt S_82 S_119 x_118 := w_119_3
                          replace w_119_4 : OPN tb tn (lw).toInt S_82 S_119 x_118 := w_119_4
                          refine dg_put (ci := 12) (v := .int x_118) (ty := tyX12 46) (C := RX12) (T := TX12) (N := 77) hx hb hts (fun w h => bw_mem (wU_X12 w h)) tyX12 tyX12_ok nmX12 hown K hP hS hA1 sM_0 rfl 46 (dk_dq rfl) (hts _ (bw_mem wB_440)) (fun _ h9 => h9) rfl (by decide +kernel) (dk_znar2 (by omega)) (dk_zfit (by omega) (by omega)) dX12_reads_59 (fun S_127 e_127 H locs hP hS => ?_)
                          have I_127 := dg_I.uFi (lo := 0) (hi := 1) I_119 e_127 sM_0 (by decide +kernel) (show 0 ≤ (x_118).toInt ∧ (x_118).toInt ≤ 1 from (by omega))
                          have M_127 := dg_sm.uF M_119 e_127 sM_0 (dk_dq rfl)
                          refine lv_goto (tgt := 70) hx hb dX12_reads_62 (dk_dq rfl) ?_
                          refine lv_iload_n hx hb dX12_reads_70 rfl (lv_at hl 0 rfl) ?_
                          refine lv_if_eq (tgt := 85) hx hb dX12_reads_71 (dk_dq rfl) (fun c => absurd c (fun z => absurd (dk_eqc (k := 0) (by decide +kernel) z) (by omega))) (fun _ => ?_)
                          refine lv_aload_n hx hb dX12_reads_74 rfl (lv_at hl 1 rfl) ?_
                          refine dg_get (C := RX12) (T := TX12) (N := 77) hx hb hts (fun w h => bw_mem (wU_X12 w h)) hown K hP sM_0 rfl 8 (dk_dq rfl) (hts _ (bw_mem wB_303)) (fun _ h9 => h9) (v := .int y_123) ((dg_uF_ne e_127 (fun z => absurd z.2 (dk_dq rfl))).trans f_y_123) dX12_reads_75 ?_
                          refine lv_if_ne (tgt := 85) hx hb dX12_reads_78 (dk_dq rfl) (fun c_128 => ?_) (fun c_128 => ?_)
                          · have jc_128 := dk_neqc (k := 0) (by decide +kernel) c_128
                            have jbc_128 : 1 ≤ (y_123).toInt := by omega
                            clear jc_128
                            clear w_119_1_5
                            clear w_119_1_6
                            refine lv_iconst (v := 0) hx hb dX12_reads_85 (by decide +kernel) ?_
                            refine lv_istore_n (lv' := [(2, .int 0), (0, .ref (o + 0)), (1, .int a1)]) hx hb dX12_reads_86 rfl hl (dk_dq rfl) rfl (fun ls hl => ?_)
                            refine lv_goto (tgt := 43) hx hb dX12_reads_87 (dk_dq rfl) ?_
                            have hz_129 : (0 : Int32).toInt = 0 := by decide +kernel
                            have hz_130 : (0 : Int32).toInt = 0 := by decide +kernel
                            have hz_131 : (0 : Int32).toInt = 0 := by decide +kernel
                            have hz_132 : (0 : Int32).toInt = 0 := by decide +kernel
                            have hz_133 : (0 : Int32).toInt = 0 := by decide +kernel
                            exact ih 0 y_120 y_121 y_122 y_123 y_124 y_125 y_126 x_118 (by decide +kernel) (by omega) (by omega) (by omega) (by omega) (by omega) (by omega) (by omega) (by omega) (by first | exact mu_lt hmu (by omega) (by omega) | omega) S_127 I_127 M_127 ((dg_uF_ne e_127 (fun z => absurd z.2 (dk_dq rfl))).trans f_y_120) ((dg_uF_ne e_127 (fun z => absurd z.2 (dk_dq rfl))).trans f_y_121) ((dg_uF_ne e_127 (fun z => absurd z.2 (dk_dq rfl))).trans f_y_122) ((dg_uF_ne e_127 (fun z => absurd z.2 (dk_dq rfl))).trans f_y_123) ((dg_uF_ne e_127 (fun z => absurd z.2 (dk_dq rfl))).trans f_y_124) ((dg_uF_ne e_127 (fun z => absurd z.2 (dk_dq rfl))).trans f_y_125) ((dg_uF_ne e_127 (fun z => absurd z.2 (dk_dq rfl))).trans f_y_126) (dg_uF_at e_127) (TKM.keep w_119_5 (dg_sm.uF (WF := [(0, 46)]) (WA := []) dg_sm.rf e_127 sM_0 (dk_dq rfl)) (dk_dq rfl) (dk_dq rfl) (dk_dq rfl) (dk_dq rfl) (dk_dq rfl) (dk_dq rfl) (dk_dq rfl) (dk_dq rfl)) (ZWM.keep w_119_6 (dg_sm.uF (WF := [(0, 46)]) (WA := []) dg_sm.rf e_127 sM_0 (dk_dq rfl)) (dk_dq rfl) (dk_dq rfl) (dk_dq rfl) (dk_dq rfl)) (G8M.keep w_119_7 (dg_sm.uF (WF := [(0, 46)]) (WA := []) dg_sm.rf e_127 sM_0 (dk_dq rfl)) (dk_dq rfl) (dk_dq rfl) (dk_dq rfl)) (by omega) (by omega) (by omega) (fun h9 => absurd h9 (by decide +kernel)) (fun _ h8 => absurd h8 (by omega)) (m_hid.mk (fun h0 => RDG.opd (srel_82_5.out h0) (by omega) (by omega) ff_82_4_0 ff_82_8_0 (by omega) w_119_3 f_y_123 f_y_121 (fun k q => MSv.uF46 e_127) (by omega) (fun q9 => by omega) (fun q9 => by omega))) (m_hid.mk (fun h0 => RDN.opd (srel_82_6.out h0) (by omega) (by omega) ff_82_4_0 ff_82_8_0 (by omega) w_119_4 f_y_123 f_y_121 (fun k q out => NSv.uF46 e_127) (fun L9 h9 => q_am.mv h9 (dg_uF_ne e_127 (fun z => absurd z.2 (dk_dq rfl))) (dg_uF_ne e_127 (fun z => absurd z.2 (dk_dq rfl))) (dg_uF_f e_127 18) (dg_uF_f e_127 19)) (by omega) (fun q9 => by omega) (fun q9 => by omega))) _ _ hP hS _ (lv_sub hl [0, 1, 2] rfl)
                          · have jc_128 := dk_eqc (k := 0) (by decide +kernel) c_128
                            have w_119_1_5r := w_119_1_5 (by omega)
                            clear w_119_1_5
                            have w_119_1_6r := w_119_1_6 (by omega)
                            clear w_119_1_6
                            refine lv_iconst (v := 1) hx hb dX12_reads_81 (by decide +kernel) ?_
                            refine lv_goto (tgt := 86) hx hb dX12_reads_82 (dk_dq rfl) ?_
                            refine lv_istore_n (lv' := [(2, .int 1), (0, .ref (o + 0)), (1, .int a1)]) hx hb dX12_reads_86 rfl hl (dk_dq rfl) rfl (fun ls hl => ?_)
                            refine lv_goto (tgt := 43) hx hb dX12_reads_87 (dk_dq rfl) ?_
                            have hz_134 : (1 : Int32).toInt = 1 := by decide +kernel
                            have hz_135 : (1 : Int32).toInt = 1 := by decide +kernel
                            have hz_136 : (1 : Int32).toInt = 1 := by decide +kernel
                            have hz_137 : (1 : Int32).toInt = 1 := by decide +kernel
                            have hz_138 : (1 : Int32).toInt = 1 := by decide +kernel
                            exact ih 1 y_120 y_121 y_122 y_123 y_124 y_125 y_126 x_118 (by decide +kernel) (by omega) (by omega) (by omega) (by omega) (by omega) (by omega) (by omega) (by omega) (by first | exact mu_lt hmu (by omega) (by omega) | omega) S_127 I_127 M_127 ((dg_uF_ne e_127 (fun z => absurd z.2 (dk_dq rfl))).trans f_y_120) ((dg_uF_ne e_127 (fun z => absurd z.2 (dk_dq rfl))).trans f_y_121) ((dg_uF_ne e_127 (fun z => absurd z.2 (dk_dq rfl))).trans f_y_122) ((dg_uF_ne e_127 (fun z => absurd z.2 (dk_dq rfl))).trans f_y_123) ((dg_uF_ne e_127 (fun z => absurd z.2 (dk_dq rfl))).trans f_y_124) ((dg_uF_ne e_127 (fun z => absurd z.2 (dk_dq rfl))).trans f_y_125) ((dg_uF_ne e_127 (fun z => absurd z.2 (dk_dq rfl))).trans f_y_126) (dg_uF_at e_127) (TKM.keep w_119_5 (dg_sm.uF (WF := [(0, 46)]) (WA := []) dg_sm.rf e_127 sM_0 (dk_dq rfl)) (dk_dq rfl) (dk_dq rfl) (dk_dq rfl) (dk_dq rfl) (dk_dq rfl) (dk_dq rfl) (dk_dq rfl) (dk_dq rfl)) (ZWM.keep w_119_6 (dg_sm.uF (WF := [(0, 46)]) (WA := []) dg_sm.rf e_127 sM_0 (dk_dq rfl)) (dk_dq rfl) (dk_dq rfl) (dk_dq rfl) (dk_dq rfl)) (G8M.keep w_119_7 (dg_sm.uF (WF := [(0, 46)]) (WA := []) dg_sm.rf e_127 sM_0 (dk_dq rfl)) (dk_dq rfl) (dk_dq rfl) (dk_dq rfl)) (by omega) (by omega) (by omega) (fun _ => POM.of e_127 (w_119_2 _ f_y_123 (by omega)).1 (w_119_2 _ f_y_123 (by omega)).2 (by omega)) (fun h9 => absurd h9 (by decide +kernel)) (m_hid.mk (fun h0 => RDG.opd (srel_82_5.out h0) (by omega) (by omega) ff_82_4_0 ff_82_8_0 (by omega) w_119_3 f_y_123 f_y_121 (fun k q => MSv.uF46 e_127) (by omega) (fun q9 => by omega) (fun q9 => by omega))) (m_hid.mk (fun h0 => RDN.opd (srel_82_6.out h0) (by omega) (by omega) ff_82_4_0 ff_82_8_0 (by omega) w_119_4 f_y_123 f_y_121 (fun k q out => NSv.uF46 e_127) (fun L9 h9 => q_am.mv h9 (dg_uF_ne e_127 (fun z => absurd z.2 (dk_dq rfl))) (dg_uF_ne e_127 (fun z => absurd z.2 (dk_dq rfl))) (dg_uF_f e_127 18) (dg_uF_f e_127 19)) (by omega) (fun q9 => by omega) (fun q9 => by omega))) _ _ hP hS _ (lv_sub hl [0, 1, 2] rfl)
          have hz_139 : (1 : Int32).toInt = 1 := by decide +kernel
          have hz_140 : (0 : Int32).toInt = 0 := by decide +kernel
          have hz_141 : (0 : Int32).toInt = 0 := by decide +kernel
          have hz_142 : (1 : Int32).toInt = 1 := by decide +kernel
          have hz_143 : (0 : Int32).toInt = 0 := by decide +kernel
          have hz_144 : (0 : Int32).toInt = 0 := by decide +kernel
          have hz_145 : (0 : Int32).toInt = 0 := by decide +kernel
          have hz_146 : (0 : Int32).toInt = 0 := by decide +kernel
          have hz_147 : (1 : Int32).toInt = 1 := by decide +kernel
          have hz_148 : (1 : Int32).toInt = 1 := by decide +kernel
          have hz_149 : (0 : Int32).toInt = 0 := by decide +kernel
          have hz_150 : (1 : Int32).toInt = 1 := by decide +kernel
          have hz_151 : (0 : Int32).toInt = 0 := by decide +kernel
          obtain ⟨x_152, f_x_152, b_x_152⟩ := dg_I.int (i := 0) (k := 35) (lo := 0) (hi := 1) I sM_0 (by decide +kernel)
          exact L_83 ((((1 : Int32)).toInt + 1600 - ((sa : Int32)).toInt).toNat + 1) 1 sg sa se fk cd y_18 0 0 (by decide +kernel) (by omega) (by omega) (by omega) (by omega) (by omega) (by omega) (by decide +kernel) (by decide +kernel) (by first | exact mu_lt hmu (by omega) (by omega) | omega) S_14 I_14 M_14 (((m_14.1 0 3 _ sM_0 (dk_dq rfl)).trans ((dg_uF_ne e_9 (fun z => absurd z.2 (dk_dq rfl))).trans ((dg_uF_ne e_7 (fun z => absurd z.2 (dk_dq rfl))).trans ((dg_uF_ne e_5 (fun z => absurd z.2 (dk_dq rfl))).trans (dg_uF_ne e_3 (fun z => absurd z.2 (dk_dq rfl))))))).trans f_sg) (((m_14.1 0 4 _ sM_0 (dk_dq rfl)).trans ((dg_uF_ne e_9 (fun z => absurd z.2 (dk_dq rfl))).trans ((dg_uF_ne e_7 (fun z => absurd z.2 (dk_dq rfl))).trans ((dg_uF_ne e_5 (fun z => absurd z.2 (dk_dq rfl))).trans (dg_uF_ne e_3 (fun z => absurd z.2 (dk_dq rfl))))))).trans f_sa) (((m_14.1 0 5 _ sM_0 (dk_dq rfl)).trans ((dg_uF_ne e_9 (fun z => absurd z.2 (dk_dq rfl))).trans ((dg_uF_ne e_7 (fun z => absurd z.2 (dk_dq rfl))).trans ((dg_uF_ne e_5 (fun z => absurd z.2 (dk_dq rfl))).trans (dg_uF_ne e_3 (fun z => absurd z.2 (dk_dq rfl))))))).trans f_se) (((m_14.1 0 8 _ sM_0 (dk_dq rfl)).trans ((dg_uF_ne e_9 (fun z => absurd z.2 (dk_dq rfl))).trans ((dg_uF_ne e_7 (fun z => absurd z.2 (dk_dq rfl))).trans ((dg_uF_ne e_5 (fun z => absurd z.2 (dk_dq rfl))).trans (dg_uF_ne e_3 (fun z => absurd z.2 (dk_dq rfl))))))).trans f_fk) (((m_14.1 0 34 _ sM_0 (dk_dq rfl)).trans ((dg_uF_ne e_9 (fun z => absurd z.2 (dk_dq rfl))).trans ((dg_uF_ne e_7 (fun z => absurd z.2 (dk_dq rfl))).trans ((dg_uF_ne e_5 (fun z => absurd z.2 (dk_dq rfl))).trans (dg_uF_ne e_3 (fun z => absurd z.2 (dk_dq rfl))))))).trans f_cd) f_y_18 (((m_14.1 0 45 _ sM_0 (dk_dq rfl)).trans (dg_uF_ne e_9 (fun z => absurd z.2 (dk_dq rfl)))).trans (dg_uF_at e_7)) ((m_14.1 0 46 _ sM_0 (dk_dq rfl)).trans (dg_uF_at e_9)) (TKM.keep (TKM.keep (TKM.keep (TKM.keep (TKM.keep TK (dg_sm.uF (WF := [(0, 42)]) (WA := []) dg_sm.rf e_3 sM_0 (dk_dq rfl)) (dk_dq rfl) (dk_dq rfl) (dk_dq rfl) (dk_dq rfl) (dk_dq rfl) (dk_dq rfl) (dk_dq rfl) (dk_dq rfl)) (dg_sm.uF (WF := [(0, 43)]) (WA := []) dg_sm.rf e_5 sM_0 (dk_dq rfl)) (dk_dq rfl) (dk_dq rfl) (dk_dq rfl) (dk_dq rfl) (dk_dq rfl) (dk_dq rfl) (dk_dq rfl) (dk_dq rfl)) (dg_sm.uF (WF := [(0, 45)]) (WA := []) dg_sm.rf e_7 sM_0 (dk_dq rfl)) (dk_dq rfl) (dk_dq rfl) (dk_dq rfl) (dk_dq rfl) (dk_dq rfl) (dk_dq rfl) (dk_dq rfl) (dk_dq rfl)) (dg_sm.uF (WF := [(0, 46)]) (WA := []) dg_sm.rf e_9 sM_0 (dk_dq rfl)) (dk_dq rfl) (dk_dq rfl) (dk_dq rfl) (dk_dq rfl) (dk_dq rfl) (dk_dq rfl) (dk_dq rfl) (dk_dq rfl)) m_14 (dk_dq rfl) (dk_dq rfl) (dk_dq rfl) (dk_dq rfl) (dk_dq rfl) (dk_dq rfl) (dk_dq rfl) (dk_dq rfl)) (ZWM.keep (ZWM.keep (ZWM.keep (ZWM.keep (ZWM.keep ZW (dg_sm.uF (WF := [(0, 42)]) (WA := []) dg_sm.rf e_3 sM_0 (dk_dq rfl)) (dk_dq rfl) (dk_dq rfl) (dk_dq rfl) (dk_dq rfl)) (dg_sm.uF (WF := [(0, 43)]) (WA := []) dg_sm.rf e_5 sM_0 (dk_dq rfl)) (dk_dq rfl) (dk_dq rfl) (dk_dq rfl) (dk_dq rfl)) (dg_sm.uF (WF := [(0, 45)]) (WA := []) dg_sm.rf e_7 sM_0 (dk_dq rfl)) (dk_dq rfl) (dk_dq rfl) (dk_dq rfl) (dk_dq rfl)) (dg_sm.uF (WF := [(0, 46)]) (WA := []) dg_sm.rf e_9 sM_0 (dk_dq rfl)) (dk_dq rfl) (dk_dq rfl) (dk_dq rfl) (dk_dq rfl)) m_14 (dk_dq rfl) (dk_dq rfl) (dk_dq rfl) (dk_dq rfl)) (G8M.keep (G8M.keep (G8M.keep (G8M.keep (G8M.keep G8 (dg_sm.uF (WF := [(0, 42)]) (WA := []) dg_sm.rf e_3 sM_0 (dk_dq rfl)) (dk_dq rfl) (dk_dq rfl) (dk_dq rfl)) (dg_sm.uF (WF := [(0, 43)]) (WA := []) dg_sm.rf e_5 sM_0 (dk_dq rfl)) (dk_dq rfl) (dk_dq rfl) (dk_dq rfl)) (dg_sm.uF (WF := [(0, 45)]) (WA := []) dg_sm.rf e_7 sM_0 (dk_dq rfl)) (dk_dq rfl) (dk_dq rfl) (dk_dq rfl)) (dg_sm.uF (WF := [(0, 46)]) (WA := []) dg_sm.rf e_9 sM_0 (dk_dq rfl)) (dk_dq rfl) (dk_dq rfl) (dk_dq rfl)) m_14 (dk_dq rfl) (dk_dq rfl) (dk_dq rfl)) (by omega) (by omega) (by omega) (fun _ => hpo0) (fun h9 => absurd h9 (by decide +kernel)) (m_hid.mk (fun h0 => RDG.start (by decide +kernel) (by decide +kernel) (TFM.first (((dg_uF_ne e_9 (fun z => absurd z.2 (dk_dq rfl))).trans ((dg_uF_ne e_7 (fun z => absurd z.2 (dk_dq rfl))).trans (dg_uF_ne e_5 (fun z => absurd z.2 (dk_dq rfl))))).trans (dg_uF_at e_3)) (((dg_uF_ne e_9 (fun z => absurd z.2 (dk_dq rfl))).trans (dg_uF_ne e_7 (fun z => absurd z.2 (dk_dq rfl)))).trans (dg_uF_at e_5)) ((dg_uF_ne e_9 (fun z => absurd z.2 (dk_dq rfl))).trans (dg_uF_at e_7)) (by decide +kernel) (by decide +kernel) (by decide +kernel) m_14 (dk_dq rfl) (dk_dq rfl) w_14_1) (by rw [if_neg (by omega)]; decide +kernel) rfl)) (m_hid.mk (fun h0 => by obtain ⟨z9, h9⟩ := XFM.first (((dg_uF_ne e_9 (fun z => absurd z.2 (dk_dq rfl))).trans ((dg_uF_ne e_7 (fun z => absurd z.2 (dk_dq rfl))).trans (dg_uF_ne e_5 (fun z => absurd z.2 (dk_dq rfl))))).trans (dg_uF_at e_3)) ((dg_uF_ne e_9 (fun z => absurd z.2 (dk_dq rfl))).trans (dg_uF_at e_7)) (by decide +kernel) m_14 (dk_dq rfl) w_14_1; exact RDN.start (by decide +kernel) (by decide +kernel) (TFM.first (((dg_uF_ne e_9 (fun z => absurd z.2 (dk_dq rfl))).trans ((dg_uF_ne e_7 (fun z => absurd z.2 (dk_dq rfl))).trans (dg_uF_ne e_5 (fun z => absurd z.2 (dk_dq rfl))))).trans (dg_uF_at e_3)) (((dg_uF_ne e_9 (fun z => absurd z.2 (dk_dq rfl))).trans (dg_uF_ne e_7 (fun z => absurd z.2 (dk_dq rfl)))).trans (dg_uF_at e_5)) ((dg_uF_ne e_9 (fun z => absurd z.2 (dk_dq rfl))).trans (dg_uF_at e_7)) (by decide +kernel) (by decide +kernel) (by decide +kernel) m_14 (dk_dq rfl) (dk_dq rfl) w_14_1) h9 (by rw [if_neg (by omega)]; decide +kernel) rfl (q_am.mv (q_am.z f_x_152 f_cd (by omega) (by omega)) ((m_14.1 0 34 _ sM_0 (dk_dq rfl)).trans ((dg_uF_ne e_9 (fun z => absurd z.2 (dk_dq rfl))).trans ((dg_uF_ne e_7 (fun z => absurd z.2 (dk_dq rfl))).trans ((dg_uF_ne e_5 (fun z => absurd z.2 (dk_dq rfl))).trans (dg_uF_ne e_3 (fun z => absurd z.2 (dk_dq rfl))))))) ((m_14.1 0 35 _ sM_0 (dk_dq rfl)).trans ((dg_uF_ne e_9 (fun z => absurd z.2 (dk_dq rfl))).trans ((dg_uF_ne e_7 (fun z => absurd z.2 (dk_dq rfl))).trans ((dg_uF_ne e_5 (fun z => absurd z.2 (dk_dq rfl))).trans (dg_uF_ne e_3 (fun z => absurd z.2 (dk_dq rfl))))))) ((m_14.2 18 _ sM_18 (dk_dq rfl)).1.trans ((dg_uF_f e_9 18).trans ((dg_uF_f e_7 18).trans ((dg_uF_f e_5 18).trans (dg_uF_f e_3 18))))) ((m_14.2 19 _ sM_19 (dk_dq rfl)).1.trans ((dg_uF_f e_9 19).trans ((dg_uF_f e_7 19).trans ((dg_uF_f e_5 19).trans (dg_uF_f e_3 19)))))))) _ _ hP hS _ (lv_sub hl [0, 1, 2] rfl)
      · as_aux_lemma =>
          have jc_10 := dk_neqc (k := 0) (by decide +kernel) c_10
          have jbc_10 : 1 ≤ (a1).toInt := by omega
          clear jc_10
          refine lv_iconst (v := 1) hx hb dX12_reads_33 (by decide +kernel) ?_
          refine lv_goto (tgt := 38) hx hb dX12_reads_34 (dk_dq rfl) ?_
          have hz_153 : (1 : Int32).toInt = 1 := by decide +kernel
          have hz_154 : (0 : Int32).toInt = 0 := by decide +kernel
          have hz_155 : (0 : Int32).toInt = 0 := by decide +kernel
          refine dg_callv hS hA1 hA (va_runV (As := [.int 1]) (rest := []) F (c_m_pushes l g D o S_9 1 (by decide +kernel) 0 (((dg_uF_ne e_9 (fun z => absurd z.2 (dk_dq rfl))).trans ((dg_uF_ne e_7 (fun z => absurd z.2 (dk_dq rfl))).trans (dg_uF_ne e_5 (fun z => absurd z.2 (dk_dq rfl))))).trans (dg_uF_at e_3)) (by decide +kernel) 0 ((dg_uF_ne e_9 (fun z => absurd z.2 (dk_dq rfl))).trans (dg_uF_at e_7)) (by decide +kernel) I_9 H.size) (cwV 1 hts (bw_V wB_420 wB_421 wB_422 wB_297 wB_419) rfl rfl rfl (by decide +kernel) ⟨Nat.le_of_ble_eq_true rfl, Nat.le_of_ble_eq_true rfl⟩) (dg_preV sM_0 rfl K ST hP hS hA1 hA) rfl rfl hl.1 rfl (lv_room (Nat.le_of_ble_eq_true rfl)) dX12_reads_38 ⟨Nat.le_of_ble_eq_true rfl, Nat.le_of_ble_eq_true rfl⟩) (fun S_156 hw_156 H locs hP hS => ?_)
          obtain ⟨I_156, m_156, w_156_0, w_156_1, -⟩ := hw_156
          have M_156 := dg_sm.tr M_9 m_156 (dk_dq rfl) (dk_dq rfl)
          have hz_157 : (1 : Int32).toInt = 1 := by decide +kernel
          have hz_158 : (0 : Int32).toInt = 0 := by decide +kernel
          have hz_159 : (0 : Int32).toInt = 0 := by decide +kernel
          obtain ⟨y_160, f_y_160, w_156_0⟩ := w_156_0
          have w_156_0 : (y_160).toInt = ((0 : Int32)).toInt + 1 := w_156_0
          have b_y_160 : 0 ≤ (y_160).toInt ∧ (y_160).toInt ≤ 20 := dg_I.intb (lo := 0) (hi := 20) I_156 sM_0 (by decide +kernel) f_y_160
          replace w_156_1 : PUM S_9 S_156 (1 : Int32) := w_156_1
          have P0_156 : P0M S_156 := P0M.first (QSM.keep (QSM.keep (QSM.keep (QSM.keep hq (dg_sm.uF (WF := [(0, 42)]) (WA := []) dg_sm.rf e_3 sM_0 (dk_dq rfl)) (dk_dq rfl) (dk_dq rfl) (dk_dq rfl) (dk_dq rfl) (dk_dq rfl) (dk_dq rfl)) (dg_sm.uF (WF := [(0, 43)]) (WA := []) dg_sm.rf e_5 sM_0 (dk_dq rfl)) (dk_dq rfl) (dk_dq rfl) (dk_dq rfl) (dk_dq rfl) (dk_dq rfl) (dk_dq rfl)) (dg_sm.uF (WF := [(0, 45)]) (WA := []) dg_sm.rf e_7 sM_0 (dk_dq rfl)) (dk_dq rfl) (dk_dq rfl) (dk_dq rfl) (dk_dq rfl) (dk_dq rfl) (dk_dq rfl)) (dg_sm.uF (WF := [(0, 46)]) (WA := []) dg_sm.rf e_9 sM_0 (dk_dq rfl)) (dk_dq rfl) (dk_dq rfl) (dk_dq rfl) (dk_dq rfl) (dk_dq rfl) (dk_dq rfl)) (dp := 0) (on := 0) (om := 0) (((dg_uF_ne e_9 (fun z => absurd z.2 (dk_dq rfl))).trans ((dg_uF_ne e_7 (fun z => absurd z.2 (dk_dq rfl))).trans (dg_uF_ne e_5 (fun z => absurd z.2 (dk_dq rfl))))).trans (dg_uF_at e_3)) (((dg_uF_ne e_9 (fun z => absurd z.2 (dk_dq rfl))).trans (dg_uF_ne e_7 (fun z => absurd z.2 (dk_dq rfl)))).trans (dg_uF_at e_5)) ((dg_uF_ne e_9 (fun z => absurd z.2 (dk_dq rfl))).trans (dg_uF_at e_7)) (by decide +kernel) (by decide +kernel) (by decide +kernel) w_156_1 m_156 (by decide +kernel)
          have hpo0 : POM S_156 := POM.mk0 P0_156 ((m_156.1 0 46 _ sM_0 (dk_dq rfl)).trans (dg_uF_at e_9)) (by decide +kernel)
          refine lv_iconst (v := 1) hx hb dX12_reads_41 (by decide +kernel) ?_
          refine lv_istore_n (lv' := [(2, .int 1), (0, .ref (o + 0)), (1, .int a1)]) hx hb dX12_reads_42 rfl hl (dk_dq rfl) rfl (fun ls hl => ?_)
          have L_225 : ∀ (n : Nat) (x_215 : Int32) (x_216 : Int32) (x_217 : Int32) (x_218 : Int32) (x_219 : Int32) (x_220 : Int32) (x_221 : Int32) (x_222 : Int32) (x_223 : Int32), (0 ≤ (x_215).toInt ∧ (x_215).toInt ≤ 1) → (0 ≤ (x_216).toInt ∧ (x_216).toInt ≤ 3) → (0 ≤ (x_217).toInt ∧ (x_217).toInt ≤ 1600) → (0 ≤ (x_218).toInt ∧ (x_218).toInt ≤ 1600) → (0 ≤ (x_219).toInt ∧ (x_219).toInt ≤ 6) → (0 ≤ (x_220).toInt ∧ (x_220).toInt ≤ 1600) → (0 ≤ (x_221).toInt ∧ (x_221).toInt ≤ 20) → (0 ≤ (x_222).toInt ∧ (x_222).toInt ≤ 500) → (0 ≤ (x_223).toInt ∧ (x_223).toInt ≤ 1) → (((x_215).toInt + 1600 - (x_217).toInt).toNat < n) → ∀ S_224 : dg_S, CM o S_224 → dg_sm shM [(0, 3), (0, 4), (0, 5), (0, 6), (0, 7), (0, 8), (0, 9), (0, 12), (0, 34), (0, 42), (0, 43), (0, 45), (0, 46)] [18, 19, 22, 23, 24, 25, 26, 27] S S_224 → S_224.1 0 3 = .int x_216 → S_224.1 0 4 = .int x_217 → S_224.1 0 5 = .int x_218 → S_224.1 0 8 = .int x_219 → S_224.1 0 34 = .int x_220 → S_224.1 0 42 = .int x_221 → S_224.1 0 45 = .int x_222 → S_224.1 0 46 = .int x_223 → TKM tb tn S_224 → ZWM S_224 → G8M S0 S_224 → (((x_217).toInt ≤ (x_218).toInt ∧ (x_218).toInt ≤ (sl).toInt ∧ ((x_216).toInt ≠ 0 → (x_217).toInt + 1 ≤ (x_218).toInt)) ∧ (sa).toInt ≤ (x_217).toInt) → ((x_215 : Int32).toInt = 1 → (x_219).toInt = 0) → ((x_219).toInt = 0 → (x_220).toInt + (x_222).toInt + (x_221).toInt ≤ (x_217).toInt) → ((x_215 : Int32).toInt = 1 → POM S_224) → ((x_215 : Int32).toInt = 0 → (x_219).toInt = 0 → QEM S_224) → (m_hid ((fk).toInt = 0 → RDG tb tn (lw).toInt (t_ix tb tn (sa : Int32).toNatClampNeg) S_224 (x_215 : Int32) x_219 x_217 x_223)) → (m_hid ((fk).toInt = 0 → RDN tb tn (lw).toInt (t_ix tb tn (sa : Int32).toNatClampNeg) S S_224 (x_215 : Int32) x_219 x_217 x_223)) → ∀ (H : Heap) (locs : List Loc), va_P D vwCl (dg_w g shM o rfM S_224) H → va_S A s.heap H locs → ∀ ls : Array Slot, lv_has ls 3 [(2, .int x_215), (0, .ref (o + 0)), (1, .int a1)] → W p l e ({ frames := 5, cells := 0, slots := 0, locals := 121 } : Room) s m args below meth c H locs 0 0 Q9 (F0 m 43 ls []) := by
            as_aux_lemma =>
              intro n
              induction n with
              | zero =>
                intro x_215 x_216 x_217 x_218 x_219 x_220 x_221 x_222 x_223 b_x_215 b_x_216 b_x_217 b_x_218 b_x_219 b_x_220 b_x_221 b_x_222 b_x_223 hmu S_224 I_224 M_224 ff_224_3_0 ff_224_4_0 ff_224_5_0 ff_224_8_0 ff_224_34_0 ff_224_42_0 ff_224_45_0 ff_224_46_0 TK_224 ZW_224 G8_224 srel_224_0 srel_224_1 srel_224_2 srel_224_3 srel_224_4 srel_224_5 srel_224_6 H locs hP hS ls hl
                omega
              | succ n ih =>
                as_aux_lemma =>
                  intro x_215 x_216 x_217 x_218 x_219 x_220 x_221 x_222 x_223 b_x_215 b_x_216 b_x_217 b_x_218 b_x_219 b_x_220 b_x_221 b_x_222 b_x_223 hmu S_224 I_224 M_224 ff_224_3_0 ff_224_4_0 ff_224_5_0 ff_224_8_0 ff_224_34_0 ff_224_42_0 ff_224_45_0 ff_224_46_0 TK_224 ZW_224 G8_224 srel_224_0 srel_224_1 srel_224_2 srel_224_3 srel_224_4 srel_224_5 srel_224_6 H locs hP hS ls hl
                  clear hlx_2
                  obtain ⟨⟨srel_224_0_0, srel_224_0_1, srel_224_0_2⟩, srel_224_0_3⟩ := srel_224_0
                  refine lv_iload_n hx hb dX12_reads_43 rfl (lv_at hl 0 rfl) ?_
                  refine lv_if_eq (tgt := 90) hx hb dX12_reads_44 (dk_dq rfl) (fun c_226 => ?_) (fun c_226 => ?_)
                  · have jc_226 := dk_eqc (k := 0) (by decide +kernel) c_226
                    clear srel_224_1
                    refine W.widen (k := 0) (n := 0) (Nat.le_of_ble_eq_true rfl) (Nat.le_of_ble_eq_true rfl) ?_
                    rw [hQ9]
                    exact dg_vret hx hb hr hlocks hP hS ⟨I_224, M_224, ⟨x_216, x_217, x_218, x_219, x_220, ff_224_3_0, ff_224_4_0, ff_224_5_0, ff_224_8_0, ff_224_34_0, (by omega)⟩, (fun k9 hk9 hk0 => by have q9 := (ff_224_8_0).symm.trans hk9; cases q9; exact srel_224_4 (by omega) hk0), (RDG.rok TK.1.2.1 (fun h0 => srel_224_5.out h0) (by omega) ff_224_8_0 ff_224_4_0), (m_hid.mk (fun h0 k9 q8 q9 => RDN.fin TK.1.2.1 (srel_224_6.out h0) (by omega) ff_224_8_0 q8 q9)), TK_224, ZW_224, G8_224, trivial⟩ dX12_reads_90
                  · as_aux_lemma =>
                      have jc_226 := dk_neqc (k := 0) (by decide +kernel) c_226
                      have jbc_226 : 1 ≤ (x_215).toInt := by omega
                      clear jc_226
                      have srel_224_1r := srel_224_1 (by omega)
                      clear srel_224_1
                      have srel_224_2r := srel_224_2 (by omega)
                      clear srel_224_2
                      refine lv_aload_n hx hb dX12_reads_47 rfl (lv_at hl 1 rfl) ?_
                      refine dg_get (C := RX12) (T := TX12) (N := 77) hx hb hts (fun w h => bw_mem (wU_X12 w h)) hown K hP sM_0 rfl 46 (dk_dq rfl) (hts _ (bw_mem wB_440)) (fun _ h9 => h9) (v := .int x_223) ff_224_46_0 dX12_reads_48 ?_
                      refine lv_if_ne (tgt := 65) hx hb dX12_reads_51 (dk_dq rfl) (fun c_227 => ?_) (fun c_227 => ?_)
                      · as_aux_lemma =>
                          have jc_227 := dk_neqc (k := 0) (by decide +kernel) c_227
                          have jbc_227 : 1 ≤ (x_223).toInt := by omega
                          clear jc_227
                          have P1_224 : P1M S_224 := POM.p1 (srel_224_3 (by omega)) ff_224_46_0 (by omega)
                          refine lv_aload_n hx hb dX12_reads_65 rfl (lv_at hl 1 rfl) ?_
                          obtain ⟨x_228, f_x_228, b_x_228⟩ := dg_I.int (i := 0) (k := 6) (lo := 0) (hi := 9999) I_224 sM_0 (by decide +kernel)
                          obtain ⟨x_229, f_x_229, b_x_229⟩ := dg_I.int (i := 0) (k := 43) (lo := (-2147483648)) (hi := 2147483647) I_224 sM_0 (by decide +kernel)
                          refine dg_calli hS hA1 hA (va_runV (As := []) (rest := []) F (c_m_goesOn l g D o S_224 tb tn S0 x_216 ff_224_3_0 (by omega) x_217 ff_224_4_0 (by omega) x_218 ff_224_5_0 (by omega) sl ((M_224.1 0 2 _ sM_0 (dk_dq rfl)).trans f_sl) (by omega) x_219 ff_224_8_0 (by omega) x_228 f_x_228 (by omega) x_220 ff_224_34_0 (by omega) x_221 ff_224_42_0 (by omega) x_229 f_x_229 x_222 ff_224_45_0 (by omega) x_223 ff_224_46_0 (by omega) lw ((M_224.1 0 36 _ sM_0 (dk_dq rfl)).trans f_lw) (by omega) (by omega) (by omega) TK_224 ZW_224 (ZKM.keep ZK M_224 (dk_dq rfl) (dk_dq rfl)) P1_224 G8_224 I_224 H.size) (cwV 0 hts (bw_V wB_446 wB_447 wB_448 wB_297 wB_445) rfl rfl rfl (by decide +kernel) ⟨Nat.le_of_ble_eq_true rfl, Nat.le_of_ble_eq_true rfl⟩) (dg_preV sM_0 rfl K ST hP hS hA1 hA) rfl rfl hl.1 rfl (lv_room (Nat.le_of_ble_eq_true rfl)) dX12_reads_66 ⟨Nat.le_of_ble_eq_true rfl, Nat.le_of_ble_eq_true rfl⟩) (fun x_230 S_231 hw_231 H locs hP hS => ?_)
                          obtain ⟨I_231, m_231, w_231_0, w_231_1, w_231_2, w_231_3, w_231_4, w_231_5, w_231_6, w_231_7, -⟩ := hw_231
                          have M_231 := dg_sm.tr M_224 m_231 (dk_dq rfl) (dk_dq rfl)
                          have w_231_0 : 0 ≤ (x_230).toInt ∧ (x_230).toInt ≤ 1 := w_231_0
                          obtain ⟨y_232, y_233, y_234, y_235, y_236, y_237, y_238, y_239, f_y_232, f_y_233, f_y_234, f_y_235, f_y_236, f_y_237, f_y_238, f_y_239, w_231_1⟩ := w_231_1
                          have w_231_1 : ((y_233).toInt ≤ (y_234).toInt ∧ (y_234).toInt ≤ (sl).toInt ∧ ((y_232).toInt ≠ 0 → (y_233).toInt + 1 ≤ (y_234).toInt)) ∧ (x_217).toInt ≤ (y_233).toInt ∧ ((x_219).toInt ≠ 0 → (y_235).toInt ≠ 0) ∧ (((y_235).toInt = 0 → (x_230).toInt = 1 → (x_217).toInt + 1 ≤ (y_233).toInt) ∧ ((y_235).toInt = 0 → (y_236).toInt + (y_238).toInt + (y_237).toInt ≤ (y_233).toInt)) := w_231_1
                          obtain ⟨⟨w_231_1_0, w_231_1_1, w_231_1_2⟩, w_231_1_3, w_231_1_4, ⟨w_231_1_5, w_231_1_6⟩⟩ := w_231_1
                          clear w_231_1_4
                          have b_y_232 : 0 ≤ (y_232).toInt ∧ (y_232).toInt ≤ 3 := dg_I.intb (lo := 0) (hi := 3) I_231 sM_0 (by decide +kernel) f_y_232
                          have b_y_233 : 0 ≤ (y_233).toInt ∧ (y_233).toInt ≤ 1600 := dg_I.intb (lo := 0) (hi := 1600) I_231 sM_0 (by decide +kernel) f_y_233
                          have b_y_234 : 0 ≤ (y_234).toInt ∧ (y_234).toInt ≤ 1600 := dg_I.intb (lo := 0) (hi := 1600) I_231 sM_0 (by decide +kernel) f_y_234
                          have b_y_235 : 0 ≤ (y_235).toInt ∧ (y_235).toInt ≤ 6 := dg_I.intb (lo := 0) (hi := 6) I_231 sM_0 (by decide +kernel) f_y_235
                          have b_y_236 : 0 ≤ (y_236).toInt ∧ (y_236).toInt ≤ 1600 := dg_I.intb (lo := 0) (hi := 1600) I_231 sM_0 (by decide +kernel) f_y_236
                          have b_y_237 : 0 ≤ (y_237).toInt ∧ (y_237).toInt ≤ 20 := dg_I.intb (lo := 0) (hi := 20) I_231 sM_0 (by decide +kernel) f_y_237
                          have b_y_238 : 0 ≤ (y_238).toInt ∧ (y_238).toInt ≤ 500 := dg_I.intb (lo := 0) (hi := 500) I_231 sM_0 (by decide +kernel) f_y_238
                          have b_y_239 : 0 ≤ (y_239).toInt ∧ (y_239).toInt ≤ 1 := dg_I.intb (lo := 0) (hi := 1) I_231 sM_0 (by decide +kernel) f_y_239
                          replace w_231_2 : ∀ k9 : Int32, S_231.1 0 8 = .int k9 → k9.toInt = 0 → POM S_231 := w_231_2
                          replace w_231_3 : GOK tb tn (lw).toInt S_224 S_231 x_230 := w_231_3
                          replace w_231_4 : GON tb tn (lw).toInt S_224 S_231 x_230 := w_231_4
                          refine lv_istore_n (lv' := [(2, .int x_230), (0, .ref (o + 0)), (1, .int a1)]) hx hb dX12_reads_69 rfl hl (dk_dq rfl) rfl (fun ls hl => ?_)
                          refine lv_iload_n hx hb dX12_reads_70 rfl (lv_at hl 0 rfl) ?_
                          refine lv_if_eq (tgt := 85) hx hb dX12_reads_71 (dk_dq rfl) (fun c_240 => ?_) (fun c_240 => ?_)
                          · have jc_240 := dk_eqc (k := 0) (by decide +kernel) c_240
                            refine lv_iconst (v := 0) hx hb dX12_reads_85 (by decide +kernel) ?_
                            refine lv_istore_n (lv' := [(2, .int 0), (0, .ref (o + 0)), (1, .int a1)]) hx hb dX12_reads_86 rfl hl (dk_dq rfl) rfl (fun ls hl => ?_)
                            refine lv_goto (tgt := 43) hx hb dX12_reads_87 (dk_dq rfl) ?_
                            have hz_241 : (0 : Int32).toInt = 0 := by decide +kernel
                            have hz_242 : (0 : Int32).toInt = 0 := by decide +kernel
                            have hz_243 : (0 : Int32).toInt = 0 := by decide +kernel
                            obtain ⟨x_244, f_x_244, b_x_244⟩ := dg_I.int (i := 0) (k := 43) (lo := (-2147483648)) (hi := 2147483647) I_231 sM_0 (by decide +kernel)
                            have hz_245 : (0 : Int32).toInt = 0 := by decide +kernel
                            have hz_246 : (0 : Int32).toInt = 0 := by decide +kernel
                            exact ih 0 y_232 y_233 y_234 y_235 y_236 y_237 y_238 y_239 (by decide +kernel) (by omega) (by omega) (by omega) (by omega) (by omega) (by omega) (by omega) (by omega) (by first | exact mu_lt hmu (by omega) (by omega) | omega) S_231 I_231 M_231 f_y_232 f_y_233 f_y_234 f_y_235 f_y_236 f_y_237 f_y_238 f_y_239 w_231_5 w_231_6 w_231_7 (by omega) (by omega) (by omega) (fun h9 => absurd h9 (by decide +kernel)) (fun _ h8 => POM.qe (w_231_2 _ f_y_235 h8) f_y_239 f_y_237 f_x_244 f_y_238) (m_hid.mk (fun h0 => RDG.go (r := x_230) (srel_224_5.out h0) (by omega) (by omega) ff_224_4_0 ff_224_8_0 (by omega) w_231_3 f_y_235 f_y_233 f_y_239 ⟨fun q9 => by omega, fun q9 => by omega⟩)) (m_hid.mk (fun h0 => RDN.go (r := x_230) (srel_224_6.out h0) (by omega) (by omega) ff_224_4_0 ff_224_8_0 (by omega) w_231_4 f_y_235 f_y_233 f_y_239 ⟨fun q9 => by omega, fun q9 => by omega⟩)) _ _ hP hS _ (lv_sub hl [0, 1, 2] rfl)
                          · as_aux_lemma =>
                              have jc_240 := dk_neqc (k := 0) (by decide +kernel) c_240
                              have jbc_240 : 1 ≤ (x_230).toInt := by omega
                              clear jc_240
                              refine lv_aload_n hx hb dX12_reads_74 rfl (lv_at hl 1 rfl) ?_
                              refine dg_get (C := RX12) (T := TX12) (N := 77) hx hb hts (fun w h => bw_mem (wU_X12 w h)) hown K hP sM_0 rfl 8 (dk_dq rfl) (hts _ (bw_mem wB_303)) (fun _ h9 => h9) (v := .int y_235) f_y_235 dX12_reads_75 ?_
                              refine lv_if_ne (tgt := 85) hx hb dX12_reads_78 (dk_dq rfl) (fun c_247 => ?_) (fun c_247 => ?_)
                              · have jc_247 := dk_neqc (k := 0) (by decide +kernel) c_247
                                have jbc_247 : 1 ≤ (y_235).toInt := by omega
                                clear jc_247
                                clear w_231_1_5
                                clear w_231_1_6
                                refine lv_iconst (v := 0) hx hb dX12_reads_85 (by decide +kernel) ?_
                                refine lv_istore_n (lv' := [(2, .int 0), (0, .ref (o + 0)), (1, .int a1)]) hx hb dX12_reads_86 rfl hl (dk_dq rfl) rfl (fun ls hl => ?_)
                                refine lv_goto (tgt := 43) hx hb dX12_reads_87 (dk_dq rfl) ?_
                                have hz_248 : (0 : Int32).toInt = 0 := by decide +kernel
                                have hz_249 : (0 : Int32).toInt = 0 := by decide +kernel
                                have hz_250 : (0 : Int32).toInt = 0 := by decide +kernel
                                have hz_251 : (0 : Int32).toInt = 0 := by decide +kernel
                                have hz_252 : (0 : Int32).toInt = 0 := by decide +kernel
                                exact ih 0 y_232 y_233 y_234 y_235 y_236 y_237 y_238 y_239 (by decide +kernel) (by omega) (by omega) (by omega) (by omega) (by omega) (by omega) (by omega) (by omega) (by first | exact mu_lt hmu (by omega) (by omega) | omega) S_231 I_231 M_231 f_y_232 f_y_233 f_y_234 f_y_235 f_y_236 f_y_237 f_y_238 f_y_239 w_231_5 w_231_6 w_231_7 (by omega) (by omega) (by omega) (fun h9 => absurd h9 (by decide +kernel)) (fun _ h8 => absurd h8 (by omega)) (m_hid.mk (fun h0 => RDG.go (r := x_230) (srel_224_5.out h0) (by omega) (by omega) ff_224_4_0 ff_224_8_0 (by omega) w_231_3 f_y_235 f_y_233 f_y_239 ⟨fun q9 => by omega, fun q9 => by omega⟩)) (m_hid.mk (fun h0 => RDN.go (r := x_230) (srel_224_6.out h0) (by omega) (by omega) ff_224_4_0 ff_224_8_0 (by omega) w_231_4 f_y_235 f_y_233 f_y_239 ⟨fun q9 => by omega, fun q9 => by omega⟩)) _ _ hP hS _ (lv_sub hl [0, 1, 2] rfl)
                              · as_aux_lemma =>
                                  have jc_247 := dk_eqc (k := 0) (by decide +kernel) c_247
                                  have w_231_1_5r := w_231_1_5 (by omega)
                                  clear w_231_1_5
                                  have w_231_1_6r := w_231_1_6 (by omega)
                                  clear w_231_1_6
                                  have w_231_1_5rr := w_231_1_5r (by omega)
                                  clear w_231_1_5r
                                  refine lv_iconst (v := 1) hx hb dX12_reads_81 (by decide +kernel) ?_
                                  refine lv_goto (tgt := 86) hx hb dX12_reads_82 (dk_dq rfl) ?_
                                  refine lv_istore_n (lv' := [(2, .int 1), (0, .ref (o + 0)), (1, .int a1)]) hx hb dX12_reads_86 rfl hl (dk_dq rfl) rfl (fun ls hl => ?_)
                                  refine lv_goto (tgt := 43) hx hb dX12_reads_87 (dk_dq rfl) ?_
                                  have hz_253 : (1 : Int32).toInt = 1 := by decide +kernel
                                  have hz_254 : (1 : Int32).toInt = 1 := by decide +kernel
                                  have hz_255 : (1 : Int32).toInt = 1 := by decide +kernel
                                  have hz_256 : (1 : Int32).toInt = 1 := by decide +kernel
                                  have hz_257 : (1 : Int32).toInt = 1 := by decide +kernel
                                  exact ih 1 y_232 y_233 y_234 y_235 y_236 y_237 y_238 y_239 (by decide +kernel) (by omega) (by omega) (by omega) (by omega) (by omega) (by omega) (by omega) (by omega) (by first | exact mu_lt hmu (by omega) (by omega) | omega) S_231 I_231 M_231 f_y_232 f_y_233 f_y_234 f_y_235 f_y_236 f_y_237 f_y_238 f_y_239 w_231_5 w_231_6 w_231_7 (by omega) (by omega) (by omega) (fun _ => w_231_2 _ f_y_235 (by omega)) (fun h9 => absurd h9 (by decide +kernel)) (m_hid.mk (fun h0 => RDG.go (r := x_230) (srel_224_5.out h0) (by omega) (by omega) ff_224_4_0 ff_224_8_0 (by omega) w_231_3 f_y_235 f_y_233 f_y_239 ⟨fun q9 => by omega, fun q9 => by omega⟩)) (m_hid.mk (fun h0 => RDN.go (r := x_230) (srel_224_6.out h0) (by omega) (by omega) ff_224_4_0 ff_224_8_0 (by omega) w_231_4 f_y_235 f_y_233 f_y_239 ⟨fun q9 => by omega, fun q9 => by omega⟩)) _ _ hP hS _ (lv_sub hl [0, 1, 2] rfl)
                      · as_aux_lemma =>
                          have jc_227 := dk_eqc (k := 0) (by decide +kernel) c_227
                          have P0_224 : P0M S_224 := POM.p0 (srel_224_3 (by omega)) ff_224_46_0 (by omega)
                          refine lv_aload_n hx hb dX12_reads_54 rfl (lv_at hl 1 rfl) ?_
                          refine lv_aload_n hx hb dX12_reads_55 rfl (lv_at hl 1 rfl) ?_
                          obtain ⟨x_258, f_x_258, b_x_258⟩ := dg_I.int (i := 0) (k := 6) (lo := 0) (hi := 9999) I_224 sM_0 (by decide +kernel)
                          obtain ⟨x_259, f_x_259, b_x_259⟩ := dg_I.int (i := 0) (k := 43) (lo := (-2147483648)) (hi := 2147483647) I_224 sM_0 (by decide +kernel)
                          refine dg_calli hS hA1 hA (va_runV (As := []) (rest := [.ref (o + 0)]) F (c_m_operand l g D o S_224 tb tn S0 x_216 ff_224_3_0 (by omega) x_217 ff_224_4_0 (by omega) x_218 ff_224_5_0 (by omega) sl ((M_224.1 0 2 _ sM_0 (dk_dq rfl)).trans f_sl) (by omega) x_258 f_x_258 (by omega) x_220 ff_224_34_0 (by omega) x_221 ff_224_42_0 (by omega) x_259 f_x_259 x_222 ff_224_45_0 (by omega) x_219 ff_224_8_0 (by omega) lw ((M_224.1 0 36 _ sM_0 (dk_dq rfl)).trans f_lw) (by omega) (by omega) (by omega) TK_224 ZW_224 (ZKM.keep ZK M_224 (dk_dq rfl) (dk_dq rfl)) P0_224 G8_224 I_224 H.size) (cwV 0 hts (bw_V wB_442 wB_443 wB_444 wB_297 wB_441) rfl rfl rfl (by decide +kernel) ⟨Nat.le_of_ble_eq_true rfl, Nat.le_of_ble_eq_true rfl⟩) (dg_preV sM_0 rfl K ST hP hS hA1 hA) rfl rfl hl.1 rfl (lv_room (Nat.le_of_ble_eq_true rfl)) dX12_reads_56 ⟨Nat.le_of_ble_eq_true rfl, Nat.le_of_ble_eq_true rfl⟩) (fun x_260 S_261 hw_261 H locs hP hS => ?_)
                          obtain ⟨I_261, m_261, w_261_0, w_261_1, w_261_2, w_261_3, w_261_4, w_261_5, w_261_6, w_261_7, -⟩ := hw_261
                          have M_261 := dg_sm.tr M_224 m_261 (dk_dq rfl) (dk_dq rfl)
                          have w_261_0 : 0 ≤ (x_260).toInt ∧ (x_260).toInt ≤ 1 := w_261_0
                          obtain ⟨y_262, y_263, y_264, y_265, y_266, y_267, y_268, f_y_262, f_y_263, f_y_264, f_y_265, f_y_266, f_y_267, f_y_268, w_261_1⟩ := w_261_1
                          have w_261_1 : ((y_263).toInt ≤ (y_264).toInt ∧ (y_264).toInt ≤ (sl).toInt ∧ ((y_262).toInt ≠ 0 → (y_263).toInt + 1 ≤ (y_264).toInt)) ∧ (x_217).toInt ≤ (y_263).toInt ∧ ((x_219).toInt ≠ 0 → (y_265).toInt ≠ 0) ∧ (((y_265).toInt = 0 → (x_217).toInt + 1 ≤ (y_263).toInt) ∧ ((y_265).toInt = 0 → (y_266).toInt + (y_268).toInt + (y_267).toInt ≤ (y_263).toInt)) := w_261_1
                          obtain ⟨⟨w_261_1_0, w_261_1_1, w_261_1_2⟩, w_261_1_3, w_261_1_4, ⟨w_261_1_5, w_261_1_6⟩⟩ := w_261_1
                          clear w_261_1_4
                          have b_y_262 : 0 ≤ (y_262).toInt ∧ (y_262).toInt ≤ 3 := dg_I.intb (lo := 0) (hi := 3) I_261 sM_0 (by decide +kernel) f_y_262
                          have b_y_263 : 0 ≤ (y_263).toInt ∧ (y_263).toInt ≤ 1600 := dg_I.intb (lo := 0) (hi := 1600) I_261 sM_0 (by decide +kernel) f_y_263
                          have b_y_264 : 0 ≤ (y_264).toInt ∧ (y_264).toInt ≤ 1600 := dg_I.intb (lo := 0) (hi := 1600) I_261 sM_0 (by decide +kernel) f_y_264
                          have b_y_265 : 0 ≤ (y_265).toInt ∧ (y_265).toInt ≤ 6 := dg_I.intb (lo := 0) (hi := 6) I_261 sM_0 (by decide +kernel) f_y_265
                          have b_y_266 : 0 ≤ (y_266).toInt ∧ (y_266).toInt ≤ 1600 := dg_I.intb (lo := 0) (hi := 1600) I_261 sM_0 (by decide +kernel) f_y_266
                          have b_y_267 : 0 ≤ (y_267).toInt ∧ (y_267).toInt ≤ 20 := dg_I.intb (lo := 0) (hi := 20) I_261 sM_0 (by decide +kernel) f_y_267
                          have b_y_268 : 0 ≤ (y_268).toInt ∧ (y_268).toInt ≤ 500 := dg_I.intb (lo := 0) (hi := 500) I_261 sM_0 (by decide +kernel) f_y_268
                          replace w_261_2 : ∀ k9 : Int32, S_261.1 0 8 = .int k9 → k9.toInt = 0 → ((x_260).toInt = 1 → P1M S_261) ∧ ((x_260).toInt = 0 → P0M S_261) := w_261_2
                          replace w_261_3 : OPK tb tn (lw).toInt S_224 S_261 x_260 := w_261_3
                          replace w_261_4 : OPN tb tn (lw).toInt S_224 S_261 x_260 := w_261_4
                          refine dg_put (ci := 12) (v := .int x_260) (ty := tyX12 46) (C := RX12) (T := TX12) (N := 77) hx hb hts (fun w h => bw_mem (wU_X12 w h)) tyX12 tyX12_ok nmX12 hown K hP hS hA1 sM_0 rfl 46 (dk_dq rfl) (hts _ (bw_mem wB_440)) (fun _ h9 => h9) rfl (by decide +kernel) (dk_znar2 (by omega)) (dk_zfit (by omega) (by omega)) dX12_reads_59 (fun S_269 e_269 H locs hP hS => ?_)
                          have I_269 := dg_I.uFi (lo := 0) (hi := 1) I_261 e_269 sM_0 (by decide +kernel) (show 0 ≤ (x_260).toInt ∧ (x_260).toInt ≤ 1 from (by omega))
                          have M_269 := dg_sm.uF M_261 e_269 sM_0 (dk_dq rfl)
                          refine lv_goto (tgt := 70) hx hb dX12_reads_62 (dk_dq rfl) ?_
                          refine lv_iload_n hx hb dX12_reads_70 rfl (lv_at hl 0 rfl) ?_
                          refine lv_if_eq (tgt := 85) hx hb dX12_reads_71 (dk_dq rfl) (fun c => absurd c (fun z => absurd (dk_eqc (k := 0) (by decide +kernel) z) (by omega))) (fun _ => ?_)
                          refine lv_aload_n hx hb dX12_reads_74 rfl (lv_at hl 1 rfl) ?_
                          refine dg_get (C := RX12) (T := TX12) (N := 77) hx hb hts (fun w h => bw_mem (wU_X12 w h)) hown K hP sM_0 rfl 8 (dk_dq rfl) (hts _ (bw_mem wB_303)) (fun _ h9 => h9) (v := .int y_265) ((dg_uF_ne e_269 (fun z => absurd z.2 (dk_dq rfl))).trans f_y_265) dX12_reads_75 ?_
                          refine lv_if_ne (tgt := 85) hx hb dX12_reads_78 (dk_dq rfl) (fun c_270 => ?_) (fun c_270 => ?_)
                          · have jc_270 := dk_neqc (k := 0) (by decide +kernel) c_270
                            have jbc_270 : 1 ≤ (y_265).toInt := by omega
                            clear jc_270
                            clear w_261_1_5
                            clear w_261_1_6
                            refine lv_iconst (v := 0) hx hb dX12_reads_85 (by decide +kernel) ?_
                            refine lv_istore_n (lv' := [(2, .int 0), (0, .ref (o + 0)), (1, .int a1)]) hx hb dX12_reads_86 rfl hl (dk_dq rfl) rfl (fun ls hl => ?_)
                            refine lv_goto (tgt := 43) hx hb dX12_reads_87 (dk_dq rfl) ?_
                            have hz_271 : (0 : Int32).toInt = 0 := by decide +kernel
                            have hz_272 : (0 : Int32).toInt = 0 := by decide +kernel
                            have hz_273 : (0 : Int32).toInt = 0 := by decide +kernel
                            have hz_274 : (0 : Int32).toInt = 0 := by decide +kernel
                            have hz_275 : (0 : Int32).toInt = 0 := by decide +kernel
                            exact ih 0 y_262 y_263 y_264 y_265 y_266 y_267 y_268 x_260 (by decide +kernel) (by omega) (by omega) (by omega) (by omega) (by omega) (by omega) (by omega) (by omega) (by first | exact mu_lt hmu (by omega) (by omega) | omega) S_269 I_269 M_269 ((dg_uF_ne e_269 (fun z => absurd z.2 (dk_dq rfl))).trans f_y_262) ((dg_uF_ne e_269 (fun z => absurd z.2 (dk_dq rfl))).trans f_y_263) ((dg_uF_ne e_269 (fun z => absurd z.2 (dk_dq rfl))).trans f_y_264) ((dg_uF_ne e_269 (fun z => absurd z.2 (dk_dq rfl))).trans f_y_265) ((dg_uF_ne e_269 (fun z => absurd z.2 (dk_dq rfl))).trans f_y_266) ((dg_uF_ne e_269 (fun z => absurd z.2 (dk_dq rfl))).trans f_y_267) ((dg_uF_ne e_269 (fun z => absurd z.2 (dk_dq rfl))).trans f_y_268) (dg_uF_at e_269) (TKM.keep w_261_5 (dg_sm.uF (WF := [(0, 46)]) (WA := []) dg_sm.rf e_269 sM_0 (dk_dq rfl)) (dk_dq rfl) (dk_dq rfl) (dk_dq rfl) (dk_dq rfl) (dk_dq rfl) (dk_dq rfl) (dk_dq rfl) (dk_dq rfl)) (ZWM.keep w_261_6 (dg_sm.uF (WF := [(0, 46)]) (WA := []) dg_sm.rf e_269 sM_0 (dk_dq rfl)) (dk_dq rfl) (dk_dq rfl) (dk_dq rfl) (dk_dq rfl)) (G8M.keep w_261_7 (dg_sm.uF (WF := [(0, 46)]) (WA := []) dg_sm.rf e_269 sM_0 (dk_dq rfl)) (dk_dq rfl) (dk_dq rfl) (dk_dq rfl)) (by omega) (by omega) (by omega) (fun h9 => absurd h9 (by decide +kernel)) (fun _ h8 => absurd h8 (by omega)) (m_hid.mk (fun h0 => RDG.opd (srel_224_5.out h0) (by omega) (by omega) ff_224_4_0 ff_224_8_0 (by omega) w_261_3 f_y_265 f_y_263 (fun k q => MSv.uF46 e_269) (by omega) (fun q9 => by omega) (fun q9 => by omega))) (m_hid.mk (fun h0 => RDN.opd (srel_224_6.out h0) (by omega) (by omega) ff_224_4_0 ff_224_8_0 (by omega) w_261_4 f_y_265 f_y_263 (fun k q out => NSv.uF46 e_269) (fun L9 h9 => q_am.mv h9 (dg_uF_ne e_269 (fun z => absurd z.2 (dk_dq rfl))) (dg_uF_ne e_269 (fun z => absurd z.2 (dk_dq rfl))) (dg_uF_f e_269 18) (dg_uF_f e_269 19)) (by omega) (fun q9 => by omega) (fun q9 => by omega))) _ _ hP hS _ (lv_sub hl [0, 1, 2] rfl)
                          · have jc_270 := dk_eqc (k := 0) (by decide +kernel) c_270
                            have w_261_1_5r := w_261_1_5 (by omega)
                            clear w_261_1_5
                            have w_261_1_6r := w_261_1_6 (by omega)
                            clear w_261_1_6
                            refine lv_iconst (v := 1) hx hb dX12_reads_81 (by decide +kernel) ?_
                            refine lv_goto (tgt := 86) hx hb dX12_reads_82 (dk_dq rfl) ?_
                            refine lv_istore_n (lv' := [(2, .int 1), (0, .ref (o + 0)), (1, .int a1)]) hx hb dX12_reads_86 rfl hl (dk_dq rfl) rfl (fun ls hl => ?_)
                            refine lv_goto (tgt := 43) hx hb dX12_reads_87 (dk_dq rfl) ?_
                            have hz_276 : (1 : Int32).toInt = 1 := by decide +kernel
                            have hz_277 : (1 : Int32).toInt = 1 := by decide +kernel
                            have hz_278 : (1 : Int32).toInt = 1 := by decide +kernel
                            have hz_279 : (1 : Int32).toInt = 1 := by decide +kernel
                            have hz_280 : (1 : Int32).toInt = 1 := by decide +kernel
                            exact ih 1 y_262 y_263 y_264 y_265 y_266 y_267 y_268 x_260 (by decide +kernel) (by omega) (by omega) (by omega) (by omega) (by omega) (by omega) (by omega) (by omega) (by first | exact mu_lt hmu (by omega) (by omega) | omega) S_269 I_269 M_269 ((dg_uF_ne e_269 (fun z => absurd z.2 (dk_dq rfl))).trans f_y_262) ((dg_uF_ne e_269 (fun z => absurd z.2 (dk_dq rfl))).trans f_y_263) ((dg_uF_ne e_269 (fun z => absurd z.2 (dk_dq rfl))).trans f_y_264) ((dg_uF_ne e_269 (fun z => absurd z.2 (dk_dq rfl))).trans f_y_265) ((dg_uF_ne e_269 (fun z => absurd z.2 (dk_dq rfl))).trans f_y_266) ((dg_uF_ne e_269 (fun z => absurd z.2 (dk_dq rfl))).trans f_y_267) ((dg_uF_ne e_269 (fun z => absurd z.2 (dk_dq rfl))).trans f_y_268) (dg_uF_at e_269) (TKM.keep w_261_5 (dg_sm.uF (WF := [(0, 46)]) (WA := []) dg_sm.rf e_269 sM_0 (dk_dq rfl)) (dk_dq rfl) (dk_dq rfl) (dk_dq rfl) (dk_dq rfl) (dk_dq rfl) (dk_dq rfl) (dk_dq rfl) (dk_dq rfl)) (ZWM.keep w_261_6 (dg_sm.uF (WF := [(0, 46)]) (WA := []) dg_sm.rf e_269 sM_0 (dk_dq rfl)) (dk_dq rfl) (dk_dq rfl) (dk_dq rfl) (dk_dq rfl)) (G8M.keep w_261_7 (dg_sm.uF (WF := [(0, 46)]) (WA := []) dg_sm.rf e_269 sM_0 (dk_dq rfl)) (dk_dq rfl) (dk_dq rfl) (dk_dq rfl)) (by omega) (by omega) (by omega) (fun _ => POM.of e_269 (w_261_2 _ f_y_265 (by omega)).1 (w_261_2 _ f_y_265 (by omega)).2 (by omega)) (fun h9 => absurd h9 (by decide +kernel)) (m_hid.mk (fun h0 => RDG.opd (srel_224_5.out h0) (by omega) (by omega) ff_224_4_0 ff_224_8_0 (by omega) w_261_3 f_y_265 f_y_263 (fun k q => MSv.uF46 e_269) (by omega) (fun q9 => by omega) (fun q9 => by omega))) (m_hid.mk (fun h0 => RDN.opd (srel_224_6.out h0) (by omega) (by omega) ff_224_4_0 ff_224_8_0 (by omega) w_261_4 f_y_265 f_y_263 (fun k q out => NSv.uF46 e_269) (fun L9 h9 => q_am.mv h9 (dg_uF_ne e_269 (fun z => absurd z.2 (dk_dq rfl))) (dg_uF_ne e_269 (fun z => absurd z.2 (dk_dq rfl))) (dg_uF_f e_269 18) (dg_uF_f e_269 19)) (by omega) (fun q9 => by omega) (fun q9 => by omega))) _ _ hP hS _ (lv_sub hl [0, 1, 2] rfl)
          have hz_281 : (1 : Int32).toInt = 1 := by decide +kernel
          have hz_282 : (0 : Int32).toInt = 0 := by decide +kernel
          have hz_283 : (0 : Int32).toInt = 0 := by decide +kernel
          have hz_284 : (1 : Int32).toInt = 1 := by decide +kernel
          have hz_285 : (0 : Int32).toInt = 0 := by decide +kernel
          have hz_286 : (0 : Int32).toInt = 0 := by decide +kernel
          have hz_287 : (0 : Int32).toInt = 0 := by decide +kernel
          have hz_288 : (0 : Int32).toInt = 0 := by decide +kernel
          have hz_289 : (1 : Int32).toInt = 1 := by decide +kernel
          have hz_290 : (1 : Int32).toInt = 1 := by decide +kernel
          have hz_291 : (0 : Int32).toInt = 0 := by decide +kernel
          have hz_292 : (1 : Int32).toInt = 1 := by decide +kernel
          have hz_293 : (0 : Int32).toInt = 0 := by decide +kernel
          obtain ⟨x_294, f_x_294, b_x_294⟩ := dg_I.int (i := 0) (k := 35) (lo := 0) (hi := 1) I sM_0 (by decide +kernel)
          exact L_225 ((((1 : Int32)).toInt + 1600 - ((sa : Int32)).toInt).toNat + 1) 1 sg sa se fk cd y_160 0 0 (by decide +kernel) (by omega) (by omega) (by omega) (by omega) (by omega) (by omega) (by decide +kernel) (by decide +kernel) (by first | exact mu_lt hmu (by omega) (by omega) | omega) S_156 I_156 M_156 (((m_156.1 0 3 _ sM_0 (dk_dq rfl)).trans ((dg_uF_ne e_9 (fun z => absurd z.2 (dk_dq rfl))).trans ((dg_uF_ne e_7 (fun z => absurd z.2 (dk_dq rfl))).trans ((dg_uF_ne e_5 (fun z => absurd z.2 (dk_dq rfl))).trans (dg_uF_ne e_3 (fun z => absurd z.2 (dk_dq rfl))))))).trans f_sg) (((m_156.1 0 4 _ sM_0 (dk_dq rfl)).trans ((dg_uF_ne e_9 (fun z => absurd z.2 (dk_dq rfl))).trans ((dg_uF_ne e_7 (fun z => absurd z.2 (dk_dq rfl))).trans ((dg_uF_ne e_5 (fun z => absurd z.2 (dk_dq rfl))).trans (dg_uF_ne e_3 (fun z => absurd z.2 (dk_dq rfl))))))).trans f_sa) (((m_156.1 0 5 _ sM_0 (dk_dq rfl)).trans ((dg_uF_ne e_9 (fun z => absurd z.2 (dk_dq rfl))).trans ((dg_uF_ne e_7 (fun z => absurd z.2 (dk_dq rfl))).trans ((dg_uF_ne e_5 (fun z => absurd z.2 (dk_dq rfl))).trans (dg_uF_ne e_3 (fun z => absurd z.2 (dk_dq rfl))))))).trans f_se) (((m_156.1 0 8 _ sM_0 (dk_dq rfl)).trans ((dg_uF_ne e_9 (fun z => absurd z.2 (dk_dq rfl))).trans ((dg_uF_ne e_7 (fun z => absurd z.2 (dk_dq rfl))).trans ((dg_uF_ne e_5 (fun z => absurd z.2 (dk_dq rfl))).trans (dg_uF_ne e_3 (fun z => absurd z.2 (dk_dq rfl))))))).trans f_fk) (((m_156.1 0 34 _ sM_0 (dk_dq rfl)).trans ((dg_uF_ne e_9 (fun z => absurd z.2 (dk_dq rfl))).trans ((dg_uF_ne e_7 (fun z => absurd z.2 (dk_dq rfl))).trans ((dg_uF_ne e_5 (fun z => absurd z.2 (dk_dq rfl))).trans (dg_uF_ne e_3 (fun z => absurd z.2 (dk_dq rfl))))))).trans f_cd) f_y_160 (((m_156.1 0 45 _ sM_0 (dk_dq rfl)).trans (dg_uF_ne e_9 (fun z => absurd z.2 (dk_dq rfl)))).trans (dg_uF_at e_7)) ((m_156.1 0 46 _ sM_0 (dk_dq rfl)).trans (dg_uF_at e_9)) (TKM.keep (TKM.keep (TKM.keep (TKM.keep (TKM.keep TK (dg_sm.uF (WF := [(0, 42)]) (WA := []) dg_sm.rf e_3 sM_0 (dk_dq rfl)) (dk_dq rfl) (dk_dq rfl) (dk_dq rfl) (dk_dq rfl) (dk_dq rfl) (dk_dq rfl) (dk_dq rfl) (dk_dq rfl)) (dg_sm.uF (WF := [(0, 43)]) (WA := []) dg_sm.rf e_5 sM_0 (dk_dq rfl)) (dk_dq rfl) (dk_dq rfl) (dk_dq rfl) (dk_dq rfl) (dk_dq rfl) (dk_dq rfl) (dk_dq rfl) (dk_dq rfl)) (dg_sm.uF (WF := [(0, 45)]) (WA := []) dg_sm.rf e_7 sM_0 (dk_dq rfl)) (dk_dq rfl) (dk_dq rfl) (dk_dq rfl) (dk_dq rfl) (dk_dq rfl) (dk_dq rfl) (dk_dq rfl) (dk_dq rfl)) (dg_sm.uF (WF := [(0, 46)]) (WA := []) dg_sm.rf e_9 sM_0 (dk_dq rfl)) (dk_dq rfl) (dk_dq rfl) (dk_dq rfl) (dk_dq rfl) (dk_dq rfl) (dk_dq rfl) (dk_dq rfl) (dk_dq rfl)) m_156 (dk_dq rfl) (dk_dq rfl) (dk_dq rfl) (dk_dq rfl) (dk_dq rfl) (dk_dq rfl) (dk_dq rfl) (dk_dq rfl)) (ZWM.keep (ZWM.keep (ZWM.keep (ZWM.keep (ZWM.keep ZW (dg_sm.uF (WF := [(0, 42)]) (WA := []) dg_sm.rf e_3 sM_0 (dk_dq rfl)) (dk_dq rfl) (dk_dq rfl) (dk_dq rfl) (dk_dq rfl)) (dg_sm.uF (WF := [(0, 43)]) (WA := []) dg_sm.rf e_5 sM_0 (dk_dq rfl)) (dk_dq rfl) (dk_dq rfl) (dk_dq rfl) (dk_dq rfl)) (dg_sm.uF (WF := [(0, 45)]) (WA := []) dg_sm.rf e_7 sM_0 (dk_dq rfl)) (dk_dq rfl) (dk_dq rfl) (dk_dq rfl) (dk_dq rfl)) (dg_sm.uF (WF := [(0, 46)]) (WA := []) dg_sm.rf e_9 sM_0 (dk_dq rfl)) (dk_dq rfl) (dk_dq rfl) (dk_dq rfl) (dk_dq rfl)) m_156 (dk_dq rfl) (dk_dq rfl) (dk_dq rfl) (dk_dq rfl)) (G8M.keep (G8M.keep (G8M.keep (G8M.keep (G8M.keep G8 (dg_sm.uF (WF := [(0, 42)]) (WA := []) dg_sm.rf e_3 sM_0 (dk_dq rfl)) (dk_dq rfl) (dk_dq rfl) (dk_dq rfl)) (dg_sm.uF (WF := [(0, 43)]) (WA := []) dg_sm.rf e_5 sM_0 (dk_dq rfl)) (dk_dq rfl) (dk_dq rfl) (dk_dq rfl)) (dg_sm.uF (WF := [(0, 45)]) (WA := []) dg_sm.rf e_7 sM_0 (dk_dq rfl)) (dk_dq rfl) (dk_dq rfl) (dk_dq rfl)) (dg_sm.uF (WF := [(0, 46)]) (WA := []) dg_sm.rf e_9 sM_0 (dk_dq rfl)) (dk_dq rfl) (dk_dq rfl) (dk_dq rfl)) m_156 (dk_dq rfl) (dk_dq rfl) (dk_dq rfl)) (by omega) (by omega) (by omega) (fun _ => hpo0) (fun h9 => absurd h9 (by decide +kernel)) (m_hid.mk (fun h0 => RDG.start (by decide +kernel) (by decide +kernel) (TFM.first (((dg_uF_ne e_9 (fun z => absurd z.2 (dk_dq rfl))).trans ((dg_uF_ne e_7 (fun z => absurd z.2 (dk_dq rfl))).trans (dg_uF_ne e_5 (fun z => absurd z.2 (dk_dq rfl))))).trans (dg_uF_at e_3)) (((dg_uF_ne e_9 (fun z => absurd z.2 (dk_dq rfl))).trans (dg_uF_ne e_7 (fun z => absurd z.2 (dk_dq rfl)))).trans (dg_uF_at e_5)) ((dg_uF_ne e_9 (fun z => absurd z.2 (dk_dq rfl))).trans (dg_uF_at e_7)) (by decide +kernel) (by decide +kernel) (by decide +kernel) m_156 (dk_dq rfl) (dk_dq rfl) w_156_1) (by rw [if_pos (by omega)]; decide +kernel) rfl)) (m_hid.mk (fun h0 => by obtain ⟨z9, h9⟩ := XFM.first (((dg_uF_ne e_9 (fun z => absurd z.2 (dk_dq rfl))).trans ((dg_uF_ne e_7 (fun z => absurd z.2 (dk_dq rfl))).trans (dg_uF_ne e_5 (fun z => absurd z.2 (dk_dq rfl))))).trans (dg_uF_at e_3)) ((dg_uF_ne e_9 (fun z => absurd z.2 (dk_dq rfl))).trans (dg_uF_at e_7)) (by decide +kernel) m_156 (dk_dq rfl) w_156_1; exact RDN.start (by decide +kernel) (by decide +kernel) (TFM.first (((dg_uF_ne e_9 (fun z => absurd z.2 (dk_dq rfl))).trans ((dg_uF_ne e_7 (fun z => absurd z.2 (dk_dq rfl))).trans (dg_uF_ne e_5 (fun z => absurd z.2 (dk_dq rfl))))).trans (dg_uF_at e_3)) (((dg_uF_ne e_9 (fun z => absurd z.2 (dk_dq rfl))).trans (dg_uF_ne e_7 (fun z => absurd z.2 (dk_dq rfl)))).trans (dg_uF_at e_5)) ((dg_uF_ne e_9 (fun z => absurd z.2 (dk_dq rfl))).trans (dg_uF_at e_7)) (by decide +kernel) (by decide +kernel) (by decide +kernel) m_156 (dk_dq rfl) (dk_dq rfl) w_156_1) h9 (by rw [if_pos (by omega)]; decide +kernel) rfl (q_am.mv (q_am.z f_x_294 f_cd (by omega) (by omega)) ((m_156.1 0 34 _ sM_0 (dk_dq rfl)).trans ((dg_uF_ne e_9 (fun z => absurd z.2 (dk_dq rfl))).trans ((dg_uF_ne e_7 (fun z => absurd z.2 (dk_dq rfl))).trans ((dg_uF_ne e_5 (fun z => absurd z.2 (dk_dq rfl))).trans (dg_uF_ne e_3 (fun z => absurd z.2 (dk_dq rfl))))))) ((m_156.1 0 35 _ sM_0 (dk_dq rfl)).trans ((dg_uF_ne e_9 (fun z => absurd z.2 (dk_dq rfl))).trans ((dg_uF_ne e_7 (fun z => absurd z.2 (dk_dq rfl))).trans ((dg_uF_ne e_5 (fun z => absurd z.2 (dk_dq rfl))).trans (dg_uF_ne e_3 (fun z => absurd z.2 (dk_dq rfl))))))) ((m_156.2 18 _ sM_18 (dk_dq rfl)).1.trans ((dg_uF_f e_9 18).trans ((dg_uF_f e_7 18).trans ((dg_uF_f e_5 18).trans (dg_uF_f e_3 18))))) ((m_156.2 19 _ sM_19 (dk_dq rfl)).1.trans ((dg_uF_f e_9 19).trans ((dg_uF_f e_7 19).trans ((dg_uF_f e_5 19).trans (dg_uF_f e_3 19)))))))) _ _ hP hS _ (lv_sub hl [0, 1, 2] rfl)
  · have jc_1 := dk_nlec (k := 0) (by decide +kernel) c_1
    refine W.widen (k := 0) (n := 0) (Nat.le_of_ble_eq_true rfl) (Nat.le_of_ble_eq_true rfl) ?_
    rw [hQ9]
    exact dg_vret hx hb hr hlocks hP hS ⟨I, M_0, ⟨sg, sa, se, fk, cd, f_sg, f_sa, f_se, f_fk, f_cd, (by omega)⟩, (fun k9 hk9 hk0 => by have q9 := (f_fk).symm.trans hk9; cases q9; omega), (fun h0 => absurd h0 (by omega)), (m_hid.mk (fun h0 => absurd h0 (by omega))), TK, ZW, G8, trivial⟩ dX12_reads_7
