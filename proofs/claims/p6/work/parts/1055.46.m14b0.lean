/-! 46.m14b0.lean.txt -/
theorem dX12_mining_0 : decode cX12_mining 0 = .ok (.aload_n 0, 1) := by decide +kernel
theorem dX12_mining_1 : decode cX12_mining 1 = .ok (.aload_n 0, 1) := by decide +kernel
theorem dX12_mining_2 : decode cX12_mining 2 = .ok (.getfield 72, 3) := by decide +kernel
theorem dX12_mining_5 : decode cX12_mining 5 = .ok (.aload_n 0, 1) := by decide +kernel
theorem dX12_mining_6 : decode cX12_mining 6 = .ok (.getfield 118, 3) := by decide +kernel
theorem dX12_mining_9 : decode cX12_mining 9 = .ok (.iaload, 1) := by decide +kernel
theorem dX12_mining_10 : decode cX12_mining 10 = .ok (.bipush 6, 2) := by decide +kernel
theorem dX12_mining_12 : decode cX12_mining 12 = .ok (.if_icmp .ne 7, 3) := by decide +kernel
theorem dX12_mining_15 : decode cX12_mining 15 = .ok (.iconst 1, 1) := by decide +kernel
theorem dX12_mining_16 : decode cX12_mining 16 = .ok (.goto 4, 3) := by decide +kernel
theorem dX12_mining_19 : decode cX12_mining 19 = .ok (.iconst 0, 1) := by decide +kernel
theorem dX12_mining_20 : decode cX12_mining 20 = .ok (.invokevirtual 382, 3) := by decide +kernel
theorem dX12_mining_23 : decode cX12_mining 23 = .ok (.ifCond .ne 4, 3) := by decide +kernel
theorem dX12_mining_26 : decode cX12_mining 26 = .ok (.return_, 1) := by decide +kernel
theorem dX12_mining_27 : decode cX12_mining 27 = .ok (.aload_n 0, 1) := by decide +kernel
theorem dX12_mining_28 : decode cX12_mining 28 = .ok (.getfield 108, 3) := by decide +kernel
theorem dX12_mining_31 : decode cX12_mining 31 = .ok (.bipush 6, 2) := by decide +kernel
theorem dX12_mining_33 : decode cX12_mining 33 = .ok (.aload_n 0, 1) := by decide +kernel
theorem dX12_mining_34 : decode cX12_mining 34 = .ok (.getfield 118, 3) := by decide +kernel
theorem dX12_mining_37 : decode cX12_mining 37 = .ok (.imul, 1) := by decide +kernel
theorem dX12_mining_38 : decode cX12_mining 38 = .ok (.aload_n 0, 1) := by decide +kernel
theorem dX12_mining_39 : decode cX12_mining 39 = .ok (.getfield 72, 3) := by decide +kernel
theorem dX12_mining_42 : decode cX12_mining 42 = .ok (.aload_n 0, 1) := by decide +kernel
theorem dX12_mining_43 : decode cX12_mining 43 = .ok (.getfield 118, 3) := by decide +kernel
theorem dX12_mining_46 : decode cX12_mining 46 = .ok (.iaload, 1) := by decide +kernel
theorem dX12_mining_47 : decode cX12_mining 47 = .ok (.iadd, 1) := by decide +kernel
theorem dX12_mining_48 : decode cX12_mining 48 = .ok (.aload_n 0, 1) := by decide +kernel
theorem dX12_mining_49 : decode cX12_mining 49 = .ok (.invokevirtual 390, 3) := by decide +kernel
theorem dX12_mining_52 : decode cX12_mining 52 = .ok (.lastore, 1) := by decide +kernel
theorem dX12_mining_53 : decode cX12_mining 53 = .ok (.aload_n 0, 1) := by decide +kernel
theorem dX12_mining_54 : decode cX12_mining 54 = .ok (.getfield 36, 3) := by decide +kernel
theorem dX12_mining_57 : decode cX12_mining 57 = .ok (.ifCond .ne 16, 3) := by decide +kernel
theorem dX12_mining_60 : decode cX12_mining 60 = .ok (.aload_n 0, 1) := by decide +kernel
theorem dX12_mining_61 : decode cX12_mining 61 = .ok (.getfield 72, 3) := by decide +kernel
theorem dX12_mining_64 : decode cX12_mining 64 = .ok (.aload_n 0, 1) := by decide +kernel
theorem dX12_mining_65 : decode cX12_mining 65 = .ok (.getfield 118, 3) := by decide +kernel
theorem dX12_mining_68 : decode cX12_mining 68 = .ok (.dup2, 1) := by decide +kernel
theorem dX12_mining_69 : decode cX12_mining 69 = .ok (.iaload, 1) := by decide +kernel
theorem dX12_mining_70 : decode cX12_mining 70 = .ok (.iconst 1, 1) := by decide +kernel
theorem dX12_mining_71 : decode cX12_mining 71 = .ok (.iadd, 1) := by decide +kernel
theorem dX12_mining_72 : decode cX12_mining 72 = .ok (.iastore, 1) := by decide +kernel
theorem dX12_mining_73 : decode cX12_mining 73 = .ok (.return_, 1) := by decide +kernel
theorem wB_387 : Cond.code yX12_fresh cX12_fresh 3 (some .long) ∈ dgB := List.mem_filter.mpr ⟨tbl_8 _ (List.mem_of_getElem? (i := 20) rfl), rfl⟩
theorem wB_388 : Cond.methodLink RX12 390 yX12_fresh ∈ dgB := List.mem_filter.mpr ⟨tbl_8 _ (List.mem_of_getElem? (i := 17) (by decide +kernel)), by decide +kernel⟩
theorem wB_389 : Cond.instanceMethod yX12_fresh ∈ dgB := List.mem_filter.mpr ⟨tbl_8 _ (List.mem_of_getElem? (i := 19) (by decide +kernel)), by decide +kernel⟩
theorem wB_390 : Cond.selects RX12 yX12_fresh yX12_fresh ∈ dgB := List.mem_filter.mpr ⟨List.mem_of_getElem? (i := 99) (by decide +kernel), by decide +kernel⟩
set_option maxHeartbeats 8000000 in
set_option maxRecDepth 100000 in
theorem c_m_mining (l : Launch) (g : Nat → ClassId) (D : va_G) (o : Nat) (S : dg_S) (tb : Nat → Int32) (tn : Nat) (sg9 : y_S) (S0 : dg_S) (sg : Int32) (f_sg : S.1 0 3 = .int sg) (b_sg : 0 ≤ (sg).toInt ∧ (sg).toInt ≤ 3) (sa : Int32) (f_sa : S.1 0 4 = .int sa) (b_sa : 0 ≤ (sa).toInt ∧ (sa).toInt ≤ 1600) (se : Int32) (f_se : S.1 0 5 = .int se) (b_se : 0 ≤ (se).toInt ∧ (se).toInt ≤ 1600) (sl : Int32) (f_sl : S.1 0 2 = .int sl) (b_sl : 0 ≤ (sl).toInt ∧ (sl).toInt ≤ 1600) (fk : Int32) (f_fk : S.1 0 8 = .int fk) (b_fk : 0 ≤ (fk).toInt ∧ (fk).toInt ≤ 6) (ii : Int32) (f_ii : S.1 0 35 = .int ii) (b_ii : 0 ≤ (ii).toInt ∧ (ii).toInt ≤ 1) (mi : Int32) (f_mi : S.2.1 8 (ii : Int32).toNatClampNeg = mi) (b_mi : 0 ≤ (mi).toInt ∧ (mi).toInt ≤ 6) (od : Int32) (f_od : S.2.1 12 (ii : Int32).toNatClampNeg = od) (b_od : 0 ≤ (od).toInt ∧ (od).toInt ≤ 5) (hlx : (sa).toInt ≤ (se).toInt ∧ (se).toInt ≤ (sl).toInt ∧ ((sg).toInt ≠ 0 → (sa).toInt + 1 ≤ (se).toInt)) (hk1 : (T_kd tb tn (t_ix tb tn (sa : Int32).toNatClampNeg)).toInt = 1) (TK : TKM tb tn S) (GS : GSM sg9 S) (GB : GBM S0 S) (ZK : ZKM S) (I : CM o S) (sz : Nat) : Met l yX12_mining (bw yX12_mining cX12_mining 1 none) ({ frames := 4, cells := 0, slots := 0, locals := 100 } : Room) (dk_Pc g D (dg_w g shM o rfM S) sz [.ref (o + 0)]) (va_Qv (fun S' => CM o S' ∧ dg_sm shM [(0, 3), (0, 4), (0, 5), (0, 6), (0, 7), (0, 8), (0, 9), (0, 12)] [8, 20] S S' ∧ (∃ y9_3 y9_4 y9_5 y9_8 : Int32, S'.1 0 3 = .int y9_3 ∧ S'.1 0 4 = .int y9_4 ∧ S'.1 0 5 = .int y9_5 ∧ S'.1 0 8 = .int y9_8 ∧ (((y9_4).toInt ≤ (y9_5).toInt ∧ (y9_5).toInt ≤ (sl).toInt ∧ ((y9_3).toInt ≠ 0 → (y9_4).toInt + 1 ≤ (y9_5).toInt)) ∧ (sa).toInt ≤ (y9_4).toInt ∧ ((fk).toInt ≠ 0 → (y9_8).toInt ≠ 0) ∧ ((y9_8).toInt = 0 → (sa).toInt + 1 ≤ (y9_4).toInt))) ∧ (SOK tb tn fk (if sg9.2.1.length = 6 then none else (y_new (T_kd tb tn) (T_vl tb tn) sg9.2.1 sg9.2.2.2.1 ((t_ix tb tn (sa : Int32).toNatClampNeg) + 1)).map fun k9 => ((sg9.1, sg9.2.1 ++ [(T_vl tb tn ((t_ix tb tn (sa : Int32).toNatClampNeg) + 1)).toInt], sg9.2.2), k9)) S') ∧ TKM tb tn S' ∧ GBM S0 S' ∧ True) (dg_B g D shM o rfM) (dg_A o shM.length sz)) 0 0 (dg_A o shM.length sz) := by
  refine dg_met (cc := cX12_mining) (maxL := 1) (ret := none) (by decide) rfl (Nat.le_of_ble_eq_true rfl) ?_
  intro p e s m args below meth c A hAe harg hx hb hr hml hts hown hlocks hin hP K hS hA1 hA ST hsz ls hl
  rw [← hAe]
  have F : CallFix p m c cX12_mining 1 s args (bw yX12_mining cX12_mining 1 none) RX12 := ⟨hx, hb, hml, hown, hts⟩
  have hl : lv_has ls 1 [(0, .ref (o + 0))] := hl
  have M_0 : dg_sm shM [(0, 3), (0, 4), (0, 5), (0, 6), (0, 7), (0, 8), (0, 9), (0, 12)] [8, 20] S S := dg_sm.rf
  obtain ⟨Q9, hQ9⟩ : ∃ Q : State → Prop, Q = MQ below (va_Qv (fun S' => CM o S' ∧ dg_sm shM [(0, 3), (0, 4), (0, 5), (0, 6), (0, 7), (0, 8), (0, 9), (0, 12)] [8, 20] S S' ∧ (∃ y9_3 y9_4 y9_5 y9_8 : Int32, S'.1 0 3 = .int y9_3 ∧ S'.1 0 4 = .int y9_4 ∧ S'.1 0 5 = .int y9_5 ∧ S'.1 0 8 = .int y9_8 ∧ (((y9_4).toInt ≤ (y9_5).toInt ∧ (y9_5).toInt ≤ (sl).toInt ∧ ((y9_3).toInt ≠ 0 → (y9_4).toInt + 1 ≤ (y9_5).toInt)) ∧ (sa).toInt ≤ (y9_4).toInt ∧ ((fk).toInt ≠ 0 → (y9_8).toInt ≠ 0) ∧ ((y9_8).toInt = 0 → (sa).toInt + 1 ≤ (y9_4).toInt))) ∧ (SOK tb tn fk (if sg9.2.1.length = 6 then none else (y_new (T_kd tb tn) (T_vl tb tn) sg9.2.1 sg9.2.2.2.1 ((t_ix tb tn (sa : Int32).toNatClampNeg) + 1)).map fun k9 => ((sg9.1, sg9.2.1 ++ [(T_vl tb tn ((t_ix tb tn (sa : Int32).toNatClampNeg) + 1)).toInt], sg9.2.2), k9)) S') ∧ TKM tb tn S' ∧ GBM S0 S' ∧ True) (dg_B g D shM o rfM) A) args s 0 0 A := ⟨_, rfl⟩
  rw [← hQ9]
  obtain ⟨hlx_0, hlx_1, hlx_2⟩ := hlx
  have hlen := GSM.miners GS f_ii f_mi; have hcm := dk_clN mi
  refine lv_aload_n hx hb dX12_mining_0 rfl (lv_at hl 0 rfl) ?_
  refine lv_aload_n hx hb dX12_mining_1 rfl (lv_at hl 0 rfl) ?_
  refine dg_get (C := RX12) (T := TX12) (N := 77) hx hb hts (fun w h => bw_mem (wU_X12 w h)) hown K hP sM_0 rfl 20 (by decide) (hts _ (bw_mem wB_352)) (fun _ h9 => h9) (v := .ref (o + 8)) (show S.1 0 20 = .ref (o + 8) from dg_I.rel (d := 8) I sM_0 (by decide +kernel)) dX12_mining_2 ?_
  refine lv_aload_n hx hb dX12_mining_5 rfl (lv_at hl 0 rfl) ?_
  refine dg_get (C := RX12) (T := TX12) (N := 77) hx hb hts (fun w h => bw_mem (wU_X12 w h)) hown K hP sM_0 rfl 35 (by decide) (hts _ (bw_mem wB_353)) (fun _ h9 => h9) (v := .int ii) f_ii dX12_mining_6 ?_
  have hin_1 : vp_in ii 2 := (dk_inv (by omega) (by omega))
  refine dg_iald hx hb K hP sM_8 hin_1 dX12_mining_9 (fun y_2 ey_2 => ?_)
  obtain rfl : mi = y_2 := (ey_2.trans f_mi).symm
  refine lv_bipush (v := 6) hx hb dX12_mining_10 (by decide +kernel) ?_
  refine lv_icmp_ne (tgt := 19) hx hb dX12_mining_12 (by decide) (fun c_3 => ?_) (fun c_3 => ?_)
  · as_aux_lemma =>
      have jc_3 := dk_neqc (k := 6) (by decide +kernel) c_3
      have jtc_3 : (mi).toInt ≤ 5 := by omega
      clear jc_3
      refine lv_iconst (v := 0) hx hb dX12_mining_19 (by decide +kernel) ?_
      have hz_4 : (0 : Int32).toInt = 0 := by decide +kernel
      refine dg_calli hS hA1 hA (va_runV (As := [.int 0]) (rest := []) F (c_m_isCounted l g D o S 0 (by decide +kernel) tb tn sg f_sg (by omega) sa f_sa (by omega) se f_se (by omega) sl f_sl (by omega) fk f_fk (by omega) (by omega) (by omega) TK I s.heap.size) (cwV 1 hts (bw_V wB_379 wB_380 wB_381 wB_297 wB_378) rfl rfl rfl (by decide +kernel) ⟨Nat.le_of_ble_eq_true rfl, Nat.le_of_ble_eq_true rfl⟩) (dg_preV sM_0 rfl K ST hP hS hA1 hA) rfl rfl hl.1 rfl (lv_room (Nat.le_of_ble_eq_true rfl)) dX12_mining_20 ⟨Nat.le_of_ble_eq_true rfl, Nat.le_of_ble_eq_true rfl⟩) (fun x_5 S_6 hw_6 H locs hP hS => ?_)
      obtain ⟨I_6, m_6, w_6_0, w_6_1, w_6_2, -⟩ := hw_6
      have M_6 := dg_sm.tr M_0 m_6 (by decide) (by decide)
      have hz_7 : (0 : Int32).toInt = 0 := by decide +kernel
      have w_6_0 : 0 ≤ (x_5).toInt ∧ (x_5).toInt ≤ 1 := w_6_0
      obtain ⟨y_8, y_9, y_10, y_11, f_y_8, f_y_9, f_y_10, f_y_11, w_6_1⟩ := w_6_1
      have w_6_1 : (((y_9).toInt ≤ (y_10).toInt ∧ (y_10).toInt ≤ (sl).toInt ∧ ((y_8).toInt ≠ 0 → (y_9).toInt + 1 ≤ (y_10).toInt)) ∧ (sa).toInt ≤ (y_9).toInt ∧ ((fk).toInt ≠ 0 → (y_11).toInt ≠ 0) ∧ (((x_5).toInt = 1 → ((y_11).toInt = 0 ∧ (fk).toInt = 0 ∧ ((0 : Int32)).toInt = 0 ∧ ((sg).toInt ≠ 0 → (sa).toInt + 1 ≤ (y_9).toInt))) ∧ ((x_5).toInt = 0 → (y_11).toInt ≠ 0))) ∧ (((x_5).toInt = 1 → (t_ix tb tn (y_9 : Int32).toNatClampNeg) = (t_ix tb tn (sa : Int32).toNatClampNeg) + 1) ∧ ((fk).toInt = 0 → ((0 : Int32)).toInt = 0 → (x_5).toInt = 1)) := w_6_1
      obtain ⟨⟨⟨w_6_1_0, w_6_1_1, w_6_1_2⟩, w_6_1_3, w_6_1_4, ⟨w_6_1_5, w_6_1_6⟩⟩, ⟨w_6_1_7, w_6_1_8⟩⟩ := w_6_1
      have b_y_8 : 0 ≤ (y_8).toInt ∧ (y_8).toInt ≤ 3 := dg_I.intb (lo := 0) (hi := 3) I_6 sM_0 (by decide +kernel) f_y_8
      have b_y_9 : 0 ≤ (y_9).toInt ∧ (y_9).toInt ≤ 1600 := dg_I.intb (lo := 0) (hi := 1600) I_6 sM_0 (by decide +kernel) f_y_9
      have b_y_10 : 0 ≤ (y_10).toInt ∧ (y_10).toInt ≤ 1600 := dg_I.intb (lo := 0) (hi := 1600) I_6 sM_0 (by decide +kernel) f_y_10
      have b_y_11 : 0 ≤ (y_11).toInt ∧ (y_11).toInt ≤ 6 := dg_I.intb (lo := 0) (hi := 6) I_6 sM_0 (by decide +kernel) f_y_11
      refine lv_if_ne (tgt := 27) hx hb dX12_mining_23 (by decide) (fun c_12 => ?_) (fun c_12 => ?_)
      · as_aux_lemma =>
          have jc_12 := dk_neqc (k := 0) (by decide +kernel) c_12
          have jbc_12 : 1 ≤ (x_5).toInt := by omega
          clear jc_12
          have w_6_1_5r := w_6_1_5 (by omega)
          clear w_6_1_5
          clear w_6_1_6
          have w_6_1_7r := w_6_1_7 (by omega)
          clear w_6_1_7
          obtain ⟨w_6_1_5r_0, w_6_1_5r_1, w_6_1_5r_2, w_6_1_5r_3⟩ := w_6_1_5r
          clear w_6_1_4
          have w_6_1_8r := w_6_1_8 (by omega)
          clear w_6_1_8
          refine lv_aload_n hx hb dX12_mining_27 rfl (lv_at hl 0 rfl) ?_
          refine dg_get (C := RX12) (T := TX12) (N := 77) hx hb hts (fun w h => bw_mem (wU_X12 w h)) hown K hP sM_0 rfl 32 (by decide) (hts _ (bw_mem wB_354)) (fun _ h9 => h9) (v := .ref (o + 20)) (show S_6.1 0 32 = .ref (o + 20) from dg_I.rel (d := 20) I_6 sM_0 (by decide +kernel)) dX12_mining_28 ?_
          refine lv_bipush (v := 6) hx hb dX12_mining_31 (by decide +kernel) ?_
          refine lv_aload_n hx hb dX12_mining_33 rfl (lv_at hl 0 rfl) ?_
          refine dg_get (C := RX12) (T := TX12) (N := 77) hx hb hts (fun w h => bw_mem (wU_X12 w h)) hown K hP sM_0 rfl 35 (by decide) (hts _ (bw_mem wB_353)) (fun _ h9 => h9) (v := .int ii) ((m_6.1 0 35 _ sM_0 (by decide)).trans f_ii) dX12_mining_34 ?_
          refine lv_imul hx hb dX12_mining_37 ?_
          refine lv_topi (fun x_13 ex_13 => ?_)
          have jx_13 : (x_13).toInt = 6 * (ii).toInt := by rw [ex_13]; exact dk_mulT (by decide +kernel) rfl (by omega) (by omega)
          refine lv_aload_n hx hb dX12_mining_38 rfl (lv_at hl 0 rfl) ?_
          refine dg_get (C := RX12) (T := TX12) (N := 77) hx hb hts (fun w h => bw_mem (wU_X12 w h)) hown K hP sM_0 rfl 20 (by decide) (hts _ (bw_mem wB_352)) (fun _ h9 => h9) (v := .ref (o + 8)) (show S_6.1 0 20 = .ref (o + 8) from dg_I.rel (d := 8) I_6 sM_0 (by decide +kernel)) dX12_mining_39 ?_
          refine lv_aload_n hx hb dX12_mining_42 rfl (lv_at hl 0 rfl) ?_
          refine dg_get (C := RX12) (T := TX12) (N := 77) hx hb hts (fun w h => bw_mem (wU_X12 w h)) hown K hP sM_0 rfl 35 (by decide) (hts _ (bw_mem wB_353)) (fun _ h9 => h9) (v := .int ii) ((m_6.1 0 35 _ sM_0 (by decide)).trans f_ii) dX12_mining_43 ?_
          have hin_14 : vp_in ii 2 := (dk_inv (by omega) (by omega))
          refine dg_iald hx hb K hP sM_8 hin_14 dX12_mining_46 (fun y_15 ey_15 => ?_)
          obtain rfl : mi = y_15 := ((ey_15.trans (congrFun (m_6.2 8 _ sM_8 (by decide)).1 _)).trans f_mi).symm
          refine lv_iadd hx hb dX12_mining_47 ?_
          refine lv_topi (fun x_16 ex_16 => ?_)
          have jx_16 : (x_16).toInt = (x_13).toInt + (mi).toInt := by rw [ex_16]; exact dk_addT rfl rfl (by omega) (by omega)
          refine lv_aload_n hx hb dX12_mining_48 rfl (lv_at hl 0 rfl) ?_
          refine dg_calll hS hA1 hA (va_runV (As := []) (rest := [.int x_16, .ref (o + 20)]) F (c_m_fresh l g D o S_6 tb tn sg9 y_8 f_y_8 (by omega) y_9 f_y_9 (by omega) y_10 f_y_10 (by omega) sl ((m_6.1 0 2 _ sM_0 (by decide)).trans f_sl) (by omega) y_11 f_y_11 (by omega) ii ((m_6.1 0 35 _ sM_0 (by decide)).trans f_ii) (by omega) mi ((congrFun (m_6.2 8 _ sM_8 (by decide)).1 _).trans f_mi) (by omega) od ((congrFun (m_6.2 12 _ sM_12 (by decide)).1 _).trans f_od) (by omega) (by omega) w_6_2 (GSM.keep GS m_6 (by decide) (by decide) (by decide) (by decide) (by decide) (by decide) (by decide) (by decide) (by decide)) I_6 H.size) (cwV 0 hts (bw_V wB_388 wB_389 wB_390 wB_297 wB_387) rfl rfl rfl (by decide +kernel) ⟨Nat.le_of_ble_eq_true rfl, Nat.le_of_ble_eq_true rfl⟩) (dg_preV sM_0 rfl K ST hP hS hA1 hA) rfl rfl hl.1 rfl (lv_room (Nat.le_of_ble_eq_true rfl)) dX12_mining_49 ⟨Nat.le_of_ble_eq_true rfl, Nat.le_of_ble_eq_true rfl⟩) (fun x_17 S_18 hw_18 H locs hP hS => ?_)
          obtain ⟨I_18, m_18, w_18_0, w_18_1, -⟩ := hw_18
          have M_18 := dg_sm.tr M_6 m_18 (by decide) (by decide)
          obtain ⟨y_19, y_20, y_21, y_22, f_y_19, f_y_20, f_y_21, f_y_22, w_18_0⟩ := w_18_0
          have w_18_0 : (((y_20).toInt ≤ (y_21).toInt ∧ (y_21).toInt ≤ (sl).toInt ∧ ((y_19).toInt ≠ 0 → (y_20).toInt + 1 ≤ (y_21).toInt)) ∧ (y_9).toInt ≤ (y_20).toInt ∧ ((y_11).toInt ≠ 0 → (y_22).toInt ≠ 0) ∧ ((y_22).toInt = 0 → (y_9).toInt + 1 ≤ (y_20).toInt)) ∧ m_hid ((y_11).toInt = 0 → m_an y_22 (y_new (T_kd tb tn) (T_vl tb tn) sg9.2.1 sg9.2.2.2.1 (t_ix tb tn (y_9 : Int32).toNatClampNeg)) (t_ix tb tn (y_20 : Int32).toNatClampNeg) ∧ ((y_22).toInt = 0 → m_WG (x_17).toInt = (T_vl tb tn (t_ix tb tn (y_9 : Int32).toNatClampNeg)).toInt ∧ m_WF (m_WG (x_17).toInt) = (x_17).toInt)) := w_18_0
          obtain ⟨⟨⟨w_18_0_0, w_18_0_1, w_18_0_2⟩, w_18_0_3, w_18_0_4, w_18_0_5⟩, w_18_0_6⟩ := w_18_0
          clear w_18_0_4
          have b_y_19 : 0 ≤ (y_19).toInt ∧ (y_19).toInt ≤ 3 := dg_I.intb (lo := 0) (hi := 3) I_18 sM_0 (by decide +kernel) f_y_19
          have b_y_20 : 0 ≤ (y_20).toInt ∧ (y_20).toInt ≤ 1600 := dg_I.intb (lo := 0) (hi := 1600) I_18 sM_0 (by decide +kernel) f_y_20
          have b_y_21 : 0 ≤ (y_21).toInt ∧ (y_21).toInt ≤ 1600 := dg_I.intb (lo := 0) (hi := 1600) I_18 sM_0 (by decide +kernel) f_y_21
          have b_y_22 : 0 ≤ (y_22).toInt ∧ (y_22).toInt ≤ 6 := dg_I.intb (lo := 0) (hi := 6) I_18 sM_0 (by decide +kernel) f_y_22
          have hin_23 : vp_in x_16 12 := (dk_inv (by omega) (by omega))
          as_aux_lemma =>
            refine dg_last hx hb K hP hS hA1 sM_20 hin_23 dX12_mining_52 (fun S_24 e_24 H locs hP hS => ?_)
            have I_24 := dg_I.ul I_18 e_24
            have M_24 := dg_sm.ul M_18 e_24 sM_20 (by decide)
            have gw_24 := GSM.w20 (GSM.keep (GSM.keep GS m_6 (by decide) (by decide) (by decide) (by decide) (by decide) (by decide) (by decide) (by decide) (by decide)) m_18 (by decide) (by decide) (by decide) (by decide) (by decide) (by decide) (by decide) (by decide) (by decide)) (((m_18.1 0 35 _ sM_0 (by decide)).trans (m_6.1 0 35 _ sM_0 (by decide))).trans f_ii) ((congrFun ((m_18.2 8 _ sM_8 (by decide)).1.trans (m_6.2 8 _ sM_8 (by decide)).1) _).trans f_mi) e_24 (by omega) (by omega)
            have GB_24 := GBM.stl (GBM.keep (GBM.keep GB m_6 (by decide) (by decide) (by decide)) m_18 (by decide) (by decide) (by decide)) (ZKM.keep (ZKM.keep ZK m_6 (by decide) (by decide)) m_18 (by decide) (by decide)) (((m_18.1 0 35 _ sM_0 (by decide)).trans (m_6.1 0 35 _ sM_0 (by decide))).trans f_ii) 6 rfl (wi := 6) rfl e_24 (by omega) (by omega)
            refine lv_aload_n hx hb dX12_mining_53 rfl (lv_at hl 0 rfl) ?_
            refine dg_get (C := RX12) (T := TX12) (N := 77) hx hb hts (fun w h => bw_mem (wU_X12 w h)) hown K hP sM_0 rfl 8 (by decide) (hts _ (bw_mem wB_303)) (fun _ h9 => h9) (v := .int y_22) ((dg_ul_F e_24 0 8).trans f_y_22) dX12_mining_54 ?_
            refine lv_if_ne (tgt := 73) hx hb dX12_mining_57 (by decide) (fun c_25 => ?_) (fun c_25 => ?_)
            · have jc_25 := dk_neqc (k := 0) (by decide +kernel) c_25
              have jbc_25 : 1 ≤ (y_22).toInt := by omega
              clear jc_25
              clear w_18_0_5
              refine W.widen (k := 0) (n := 0) (Nat.le_of_ble_eq_true rfl) (Nat.le_of_ble_eq_true rfl) ?_
              rw [hQ9]
              exact dg_vret hx hb hr hlocks hP hS ⟨I_24, M_24, ⟨y_19, y_20, y_21, y_22, ((dg_ul_F e_24 0 3).trans f_y_19), ((dg_ul_F e_24 0 4).trans f_y_20), ((dg_ul_F e_24 0 5).trans f_y_21), ((dg_ul_F e_24 0 8).trans f_y_22), (by omega)⟩, (SOK.mk (fk := fk) ((dg_ul_F e_24 0 8).trans f_y_22) ((dg_ul_F e_24 0 4).trans f_y_20) (fun h0 q9 => by exfalso; omega) (fun h0 q9 => (by have h9 := (w_18_0_6.out (by omega)).1; rw [show (t_ix tb tn (y_9 : Int32).toNatClampNeg) = ((t_ix tb tn (sa : Int32).toNatClampNeg) + 1) from by omega] at h9; exact h9)) (fun h0 q8 q9 => by exfalso; omega) rfl), (TKM.keep w_18_1 (dg_sm.ul (WF := []) (WA := [20]) dg_sm.rf e_24 sM_20 (by decide)) (by decide) (by decide) (by decide) (by decide) (by decide) (by decide) (by decide) (by decide)), GB_24, trivial⟩ dX12_mining_73
            · as_aux_lemma =>
                have jc_25 := dk_eqc (k := 0) (by decide +kernel) c_25
                have w_18_0_5r := w_18_0_5 (by omega)
                clear w_18_0_5
                refine lv_aload_n hx hb dX12_mining_60 rfl (lv_at hl 0 rfl) ?_
                refine dg_get (C := RX12) (T := TX12) (N := 77) hx hb hts (fun w h => bw_mem (wU_X12 w h)) hown K hP sM_0 rfl 20 (by decide) (hts _ (bw_mem wB_352)) (fun _ h9 => h9) (v := .ref (o + 8)) (show S_24.1 0 20 = .ref (o + 8) from dg_I.rel (d := 8) I_24 sM_0 (by decide +kernel)) dX12_mining_61 ?_
                refine lv_aload_n hx hb dX12_mining_64 rfl (lv_at hl 0 rfl) ?_
                refine dg_get (C := RX12) (T := TX12) (N := 77) hx hb hts (fun w h => bw_mem (wU_X12 w h)) hown K hP sM_0 rfl 35 (by decide) (hts _ (bw_mem wB_353)) (fun _ h9 => h9) (v := .int ii) (((dg_ul_F e_24 0 35).trans ((m_18.1 0 35 _ sM_0 (by decide)).trans (m_6.1 0 35 _ sM_0 (by decide)))).trans f_ii) dX12_mining_65 ?_
                refine lv_dup2_11 hx hb dX12_mining_68 rfl rfl ?_
                have hin_26 : vp_in ii 2 := (dk_inv (by omega) (by omega))
                refine dg_iald hx hb K hP sM_8 hin_26 dX12_mining_69 (fun y_27 ey_27 => ?_)
                obtain rfl : mi = y_27 := ((ey_27.trans (congrFun ((dg_ul_f e_24 8).trans ((m_18.2 8 _ sM_8 (by decide)).1.trans (m_6.2 8 _ sM_8 (by decide)).1)) _)).trans f_mi).symm
                refine lv_iconst (v := 1) hx hb dX12_mining_70 (by decide +kernel) ?_
                refine lv_iadd hx hb dX12_mining_71 ?_
                refine lv_topi (fun x_28 ex_28 => ?_)
                have jx_28 : (x_28).toInt = (mi).toInt + 1 := by rw [ex_28]; exact dk_addT rfl (by decide +kernel) (by omega) (by omega)
                have hin_29 : vp_in ii 2 := (dk_inv (by omega) (by omega))
                refine dg_iast hx hb K hP hS hA1 sM_8 hin_29 dX12_mining_72 (fun S_30 e_30 H locs hP hS => ?_)
                have I_30 := dg_I.ufu (lo := 0) (hi := 6) I_24 e_30 sM_8 (by decide +kernel) (show 0 ≤ (x_28).toInt ∧ (x_28).toInt ≤ 6 from (by omega))
                have M_30 := dg_sm.uf M_24 e_30 sM_8 (by decide)
                have GB_30 := GBM.st GB_24 (ZKM.keep (ZKM.keep (ZKM.keep ZK m_6 (by decide) (by decide)) m_18 (by decide) (by decide)) (dg_sm.ul (WF := []) (WA := [20]) dg_sm.rf e_24 sM_20 (by decide)) (by decide) (by decide)) (((dg_ul_F e_24 0 35).trans ((m_18.1 0 35 _ sM_0 (by decide)).trans (m_6.1 0 35 _ sM_0 (by decide)))).trans f_ii) 1 rfl (wi := 1) rfl e_30 (by omega) (by omega)
                refine W.widen (k := 0) (n := 0) (Nat.le_of_ble_eq_true rfl) (Nat.le_of_ble_eq_true rfl) ?_
                rw [hQ9]
                exact dg_vret hx hb hr hlocks hP hS ⟨I_30, M_30, ⟨y_19, y_20, y_21, y_22, (((dg_uf_F e_30 0 3).trans (dg_ul_F e_24 0 3)).trans f_y_19), (((dg_uf_F e_30 0 4).trans (dg_ul_F e_24 0 4)).trans f_y_20), (((dg_uf_F e_30 0 5).trans (dg_ul_F e_24 0 5)).trans f_y_21), (((dg_uf_F e_30 0 8).trans (dg_ul_F e_24 0 8)).trans f_y_22), (by omega)⟩, (SOK.mk (fk := fk) (((dg_uf_F e_30 0 8).trans (dg_ul_F e_24 0 8)).trans f_y_22) (((dg_uf_F e_30 0 4).trans (dg_ul_F e_24 0 4)).trans f_y_20) (fun h0 q9 => by exfalso; omega) (fun h0 q9 => (by have h9 := (w_18_0_6.out (by omega)).1; rw [show (t_ix tb tn (y_9 : Int32).toNatClampNeg) = ((t_ix tb tn (sa : Int32).toNatClampNeg) + 1) from by omega] at h9; exact h9)) (fun h0 q8 q9 => by have h9 := (w_18_0_6.out (by omega)).2 (by omega); have g9 := (GSM.c8 gw_24.1 (((dg_ul_F e_24 0 35).trans ((m_18.1 0 35 _ sM_0 (by decide)).trans (m_6.1 0 35 _ sM_0 (by decide)))).trans f_ii) ((congrFun ((dg_ul_f e_24 8).trans ((m_18.2 8 _ sM_8 (by decide)).1.trans (m_6.2 8 _ sM_8 (by decide)).1)) _).trans f_mi) gw_24.2 h9.2 e_30 (by omega) (by omega)); rw [h9.1, show (t_ix tb tn (y_9 : Int32).toNatClampNeg) = ((t_ix tb tn (sa : Int32).toNatClampNeg) + 1) from by omega] at g9; exact g9) rfl), (TKM.keep (TKM.keep w_18_1 (dg_sm.ul (WF := []) (WA := [20]) dg_sm.rf e_24 sM_20 (by decide)) (by decide) (by decide) (by decide) (by decide) (by decide) (by decide) (by decide) (by decide)) (dg_sm.uf (WF := []) (WA := [8]) dg_sm.rf e_30 sM_8 (by decide)) (by decide) (by decide) (by decide) (by decide) (by decide) (by decide) (by decide) (by decide)), GB_30, trivial⟩ dX12_mining_73
      · have jc_12 := dk_eqc (k := 0) (by decide +kernel) c_12
        clear w_6_1_5
        have w_6_1_6r := w_6_1_6 (by omega)
        clear w_6_1_6
        clear w_6_1_7
        have w_6_1_6rb : 1 ≤ (y_11).toInt := by omega
        clear w_6_1_6r
        refine W.widen (k := 0) (n := 0) (Nat.le_of_ble_eq_true rfl) (Nat.le_of_ble_eq_true rfl) ?_
        rw [hQ9]
        exact dg_vret hx hb hr hlocks hP hS ⟨I_6, M_6, ⟨y_8, y_9, y_10, y_11, f_y_8, f_y_9, f_y_10, f_y_11, (by omega)⟩, (SOK.mk (fk := fk) f_y_11 f_y_9 (fun h0 q9 => by omega) (fun h0 q9 => by exfalso; omega) (fun h0 q8 q9 => by exfalso; omega) rfl), w_6_2, (GBM.keep GB m_6 (by decide) (by decide) (by decide)), trivial⟩ dX12_mining_26
  · as_aux_lemma =>
      have jc_3 := dk_eqc (k := 6) (by decide +kernel) c_3
      refine lv_iconst (v := 1) hx hb dX12_mining_15 (by decide +kernel) ?_
      refine lv_goto (tgt := 20) hx hb dX12_mining_16 (by decide) ?_
      have hz_31 : (1 : Int32).toInt = 1 := by decide +kernel
      refine dg_calli hS hA1 hA (va_runV (As := [.int 1]) (rest := []) F (c_m_isCounted l g D o S 1 (by decide +kernel) tb tn sg f_sg (by omega) sa f_sa (by omega) se f_se (by omega) sl f_sl (by omega) fk f_fk (by omega) (by omega) (by omega) TK I s.heap.size) (cwV 1 hts (bw_V wB_379 wB_380 wB_381 wB_297 wB_378) rfl rfl rfl (by decide +kernel) ⟨Nat.le_of_ble_eq_true rfl, Nat.le_of_ble_eq_true rfl⟩) (dg_preV sM_0 rfl K ST hP hS hA1 hA) rfl rfl hl.1 rfl (lv_room (Nat.le_of_ble_eq_true rfl)) dX12_mining_20 ⟨Nat.le_of_ble_eq_true rfl, Nat.le_of_ble_eq_true rfl⟩) (fun x_32 S_33 hw_33 H locs hP hS => ?_)
      obtain ⟨I_33, m_33, w_33_0, w_33_1, w_33_2, -⟩ := hw_33
      have M_33 := dg_sm.tr M_0 m_33 (by decide) (by decide)
      have hz_34 : (1 : Int32).toInt = 1 := by decide +kernel
      have w_33_0 : 0 ≤ (x_32).toInt ∧ (x_32).toInt ≤ 1 := w_33_0
      obtain ⟨y_35, y_36, y_37, y_38, f_y_35, f_y_36, f_y_37, f_y_38, w_33_1⟩ := w_33_1
      have w_33_1 : (((y_36).toInt ≤ (y_37).toInt ∧ (y_37).toInt ≤ (sl).toInt ∧ ((y_35).toInt ≠ 0 → (y_36).toInt + 1 ≤ (y_37).toInt)) ∧ (sa).toInt ≤ (y_36).toInt ∧ ((fk).toInt ≠ 0 → (y_38).toInt ≠ 0) ∧ (((x_32).toInt = 1 → ((y_38).toInt = 0 ∧ (fk).toInt = 0 ∧ ((1 : Int32)).toInt = 0 ∧ ((sg).toInt ≠ 0 → (sa).toInt + 1 ≤ (y_36).toInt))) ∧ ((x_32).toInt = 0 → (y_38).toInt ≠ 0))) ∧ (((x_32).toInt = 1 → (t_ix tb tn (y_36 : Int32).toNatClampNeg) = (t_ix tb tn (sa : Int32).toNatClampNeg) + 1) ∧ ((fk).toInt = 0 → ((1 : Int32)).toInt = 0 → (x_32).toInt = 1)) := w_33_1
      obtain ⟨⟨⟨w_33_1_0, w_33_1_1, w_33_1_2⟩, w_33_1_3, w_33_1_4, ⟨w_33_1_5, w_33_1_6⟩⟩, ⟨w_33_1_7, w_33_1_8⟩⟩ := w_33_1
      have b_y_35 : 0 ≤ (y_35).toInt ∧ (y_35).toInt ≤ 3 := dg_I.intb (lo := 0) (hi := 3) I_33 sM_0 (by decide +kernel) f_y_35
      have b_y_36 : 0 ≤ (y_36).toInt ∧ (y_36).toInt ≤ 1600 := dg_I.intb (lo := 0) (hi := 1600) I_33 sM_0 (by decide +kernel) f_y_36
      have b_y_37 : 0 ≤ (y_37).toInt ∧ (y_37).toInt ≤ 1600 := dg_I.intb (lo := 0) (hi := 1600) I_33 sM_0 (by decide +kernel) f_y_37
      have b_y_38 : 0 ≤ (y_38).toInt ∧ (y_38).toInt ≤ 6 := dg_I.intb (lo := 0) (hi := 6) I_33 sM_0 (by decide +kernel) f_y_38
      refine lv_if_ne (tgt := 27) hx hb dX12_mining_23 (by decide) (fun c_39 => ?_) (fun c_39 => ?_)
      · have jc_39 := dk_neqc (k := 0) (by decide +kernel) c_39
        have jbc_39 : 1 ≤ (x_32).toInt := by omega
        clear jc_39
        have w_33_1_5r := w_33_1_5 (by omega)
        clear w_33_1_5
        clear w_33_1_6
        have w_33_1_7r := w_33_1_7 (by omega)
        clear w_33_1_7
        obtain ⟨w_33_1_5r_0, w_33_1_5r_1, w_33_1_5r_2, w_33_1_5r_3⟩ := w_33_1_5r
        clear w_33_1_4
        have w_33_1_8r := w_33_1_8 (by omega)
        clear w_33_1_8
        omega
      · have jc_39 := dk_eqc (k := 0) (by decide +kernel) c_39
        clear w_33_1_5
        have w_33_1_6r := w_33_1_6 (by omega)
        clear w_33_1_6
        clear w_33_1_7
        have w_33_1_6rb : 1 ≤ (y_38).toInt := by omega
        clear w_33_1_6r
        refine W.widen (k := 0) (n := 0) (Nat.le_of_ble_eq_true rfl) (Nat.le_of_ble_eq_true rfl) ?_
        rw [hQ9]
        exact dg_vret hx hb hr hlocks hP hS ⟨I_33, M_33, ⟨y_35, y_36, y_37, y_38, f_y_35, f_y_36, f_y_37, f_y_38, (by omega)⟩, (SOK.mk (fk := fk) f_y_38 f_y_36 (fun h0 q9 => by omega) (fun h0 q9 => by exfalso; omega) (fun h0 q8 q9 => by exfalso; omega) rfl), w_33_2, (GBM.keep GB m_33 (by decide) (by decide) (by decide)), trivial⟩ dX12_mining_26
  