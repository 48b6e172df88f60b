section
/-! 46.m14b0.lean.txt -/
theorem dX12_mining_0 : decode cX12_mining 0 = .ok (.aload_n 0, 1) := dk_o42 (by decide +kernel)
theorem dX12_mining_1 : decode cX12_mining 1 = .ok (.aload_n 0, 1) := dk_o42 (by decide +kernel)
theorem dX12_mining_2 : decode cX12_mining 2 = .ok (.getfield 72, 3) := dk_o180 (by decide +kernel)
theorem dX12_mining_5 : decode cX12_mining 5 = .ok (.aload_n 0, 1) := dk_o42 (by decide +kernel)
theorem dX12_mining_6 : decode cX12_mining 6 = .ok (.getfield 118, 3) := dk_o180 (by decide +kernel)
theorem dX12_mining_9 : decode cX12_mining 9 = .ok (.iaload, 1) := dk_o46 (by decide +kernel)
theorem dX12_mining_10 : decode cX12_mining 10 = .ok (.bipush 6, 2) := dk_o16 (by decide +kernel)
theorem dX12_mining_12 : decode cX12_mining 12 = .ok (.if_icmp .ne 7, 3) := dk_o160 (by decide +kernel)
theorem dX12_mining_15 : decode cX12_mining 15 = .ok (.iconst 1, 1) := dk_o4 (by decide +kernel)
theorem dX12_mining_16 : decode cX12_mining 16 = .ok (.goto 4, 3) := dk_o167 (by decide +kernel)
theorem dX12_mining_19 : decode cX12_mining 19 = .ok (.iconst 0, 1) := dk_o3 (by decide +kernel)
theorem dX12_mining_20 : decode cX12_mining 20 = .ok (.invokevirtual 382, 3) := dk_o182 (by decide +kernel)
theorem dX12_mining_23 : decode cX12_mining 23 = .ok (.ifCond .ne 4, 3) := dk_o154 (by decide +kernel)
theorem dX12_mining_26 : decode cX12_mining 26 = .ok (.return_, 1) := dk_o177 (by decide +kernel)
theorem dX12_mining_27 : decode cX12_mining 27 = .ok (.aload_n 0, 1) := dk_o42 (by decide +kernel)
theorem dX12_mining_28 : decode cX12_mining 28 = .ok (.getfield 108, 3) := dk_o180 (by decide +kernel)
theorem dX12_mining_31 : decode cX12_mining 31 = .ok (.bipush 6, 2) := dk_o16 (by decide +kernel)
theorem dX12_mining_33 : decode cX12_mining 33 = .ok (.aload_n 0, 1) := dk_o42 (by decide +kernel)
theorem dX12_mining_34 : decode cX12_mining 34 = .ok (.getfield 118, 3) := dk_o180 (by decide +kernel)
theorem dX12_mining_37 : decode cX12_mining 37 = .ok (.imul, 1) := dk_o104 (by decide +kernel)
theorem dX12_mining_38 : decode cX12_mining 38 = .ok (.aload_n 0, 1) := dk_o42 (by decide +kernel)
theorem dX12_mining_39 : decode cX12_mining 39 = .ok (.getfield 72, 3) := dk_o180 (by decide +kernel)
theorem dX12_mining_42 : decode cX12_mining 42 = .ok (.aload_n 0, 1) := dk_o42 (by decide +kernel)
theorem dX12_mining_43 : decode cX12_mining 43 = .ok (.getfield 118, 3) := dk_o180 (by decide +kernel)
theorem dX12_mining_46 : decode cX12_mining 46 = .ok (.iaload, 1) := dk_o46 (by decide +kernel)
theorem dX12_mining_47 : decode cX12_mining 47 = .ok (.iadd, 1) := dk_o96 (by decide +kernel)
theorem dX12_mining_48 : decode cX12_mining 48 = .ok (.aload_n 0, 1) := dk_o42 (by decide +kernel)
theorem dX12_mining_49 : decode cX12_mining 49 = .ok (.invokevirtual 390, 3) := dk_o182 (by decide +kernel)
theorem dX12_mining_52 : decode cX12_mining 52 = .ok (.lastore, 1) := dk_o80 (by decide +kernel)
theorem dX12_mining_53 : decode cX12_mining 53 = .ok (.aload_n 0, 1) := dk_o42 (by decide +kernel)
theorem dX12_mining_54 : decode cX12_mining 54 = .ok (.getfield 36, 3) := dk_o180 (by decide +kernel)
theorem dX12_mining_57 : decode cX12_mining 57 = .ok (.ifCond .ne 16, 3) := dk_o154 (by decide +kernel)
theorem dX12_mining_60 : decode cX12_mining 60 = .ok (.aload_n 0, 1) := dk_o42 (by decide +kernel)
theorem dX12_mining_61 : decode cX12_mining 61 = .ok (.getfield 72, 3) := dk_o180 (by decide +kernel)
theorem dX12_mining_64 : decode cX12_mining 64 = .ok (.aload_n 0, 1) := dk_o42 (by decide +kernel)
theorem dX12_mining_65 : decode cX12_mining 65 = .ok (.getfield 118, 3) := dk_o180 (by decide +kernel)
theorem dX12_mining_68 : decode cX12_mining 68 = .ok (.dup2, 1) := dk_o92 (by decide +kernel)
theorem dX12_mining_69 : decode cX12_mining 69 = .ok (.iaload, 1) := dk_o46 (by decide +kernel)
theorem dX12_mining_70 : decode cX12_mining 70 = .ok (.iconst 1, 1) := dk_o4 (by decide +kernel)
theorem dX12_mining_71 : decode cX12_mining 71 = .ok (.iadd, 1) := dk_o96 (by decide +kernel)
theorem dX12_mining_72 : decode cX12_mining 72 = .ok (.iastore, 1) := dk_o79 (by decide +kernel)
theorem dX12_mining_73 : decode cX12_mining 73 = .ok (.return_, 1) := dk_o177 (by decide +kernel)
theorem wB_387 : Cond.code yX12_fresh cX12_fresh 3 (some .long) ∈ dgB := List.mem_filter.mpr ⟨tbl_8 _ (List.mem_of_getElem? (i := 20) rfl), rfl⟩
theorem wB_388 : Cond.methodLink RX12 390 yX12_fresh ∈ dgB := List.mem_filter.mpr ⟨tbl_8 _ (List.mem_of_getElem? (i := 17) (by decide +kernel)), by decide +kernel⟩
theorem wB_389 : Cond.instanceMethod yX12_fresh ∈ dgB := List.mem_filter.mpr ⟨tbl_8 _ (List.mem_of_getElem? (i := 19) (by decide +kernel)), by decide +kernel⟩
theorem wB_390 : Cond.selects RX12 yX12_fresh yX12_fresh ∈ dgB := List.mem_filter.mpr ⟨List.mem_of_getElem? (i := 99) (by decide +kernel), by decide +kernel⟩
set_option maxHeartbeats 8000000 in
set_option maxRecDepth 100000 in
theorem c_m_mining (l : Launch) (g : Nat → ClassId) (D : va_G) (o : Nat) (S : dg_S) (tb : Nat → Int32) (tn : Nat) (sg9 : y_S) (S0 : dg_S) (sg : Int32) (f_sg : S.1 0 3 = .int sg) (b_sg : 0 ≤ (sg).toInt ∧ (sg).toInt ≤ 3) (sa : Int32) (f_sa : S.1 0 4 = .int sa) (b_sa : 0 ≤ (sa).toInt ∧ (sa).toInt ≤ 1600) (se : Int32) (f_se : S.1 0 5 = .int se) (b_se : 0 ≤ (se).toInt ∧ (se).toInt ≤ 1600) (sl : Int32) (f_sl : S.1 0 2 = .int sl) (b_sl : 0 ≤ (sl).toInt ∧ (sl).toInt ≤ 1600) (fk : Int32) (f_fk : S.1 0 8 = .int fk) (b_fk : 0 ≤ (fk).toInt ∧ (fk).toInt ≤ 6) (ii : Int32) (f_ii : S.1 0 35 = .int ii) (b_ii : 0 ≤ (ii).toInt ∧ (ii).toInt ≤ 1) (mi : Int32) (f_mi : S.2.1 8 (ii : Int32).toNatClampNeg = mi) (b_mi : 0 ≤ (mi).toInt ∧ (mi).toInt ≤ 6) (od : Int32) (f_od : S.2.1 12 (ii : Int32).toNatClampNeg = od) (b_od : 0 ≤ (od).toInt ∧ (od).toInt ≤ 5) (hlx : (sa).toInt ≤ (se).toInt ∧ (se).toInt ≤ (sl).toInt ∧ ((sg).toInt ≠ 0 → (sa).toInt + 1 ≤ (se).toInt)) (hk1 : (T_kd tb tn (t_ix tb tn (sa : Int32).toNatClampNeg)).toInt = 1) (TK : TKM tb tn S) (GS : GSM sg9 S) (GB : GBM S0 S) (ZK : ZKM S) (I : CM o S) (sz : Nat) : Met l yX12_mining (bw yX12_mining cX12_mining 1 none) ({ frames := 4, cells := 0, slots := 0, locals := 100 } : Room) (dk_Pc g D (dg_w g shM o rfM S) sz [.ref (o + 0)]) (va_Qv (fun S' => CM o S' ∧ dg_sm shM [(0, 3), (0, 4), (0, 5), (0, 6), (0, 7), (0, 8), (0, 9), (0, 12)] [8, 20] S S' ∧ (∃ y9_3 y9_4 y9_5 y9_8 : Int32, S'.1 0 3 = .int y9_3 ∧ S'.1 0 4 = .int y9_4 ∧ S'.1 0 5 = .int y9_5 ∧ S'.1 0 8 = .int y9_8 ∧ (((y9_4).toInt ≤ (y9_5).toInt ∧ (y9_5).toInt ≤ (sl).toInt ∧ ((y9_3).toInt ≠ 0 → (y9_4).toInt + 1 ≤ (y9_5).toInt)) ∧ (sa).toInt ≤ (y9_4).toInt ∧ ((fk).toInt ≠ 0 → (y9_8).toInt ≠ 0) ∧ ((y9_8).toInt = 0 → (sa).toInt + 1 ≤ (y9_4).toInt))) ∧ (SOK tb tn fk (if sg9.2.1.length = 6 then none else (y_new (T_kd tb tn) (T_vl tb tn) sg9.2.1 sg9.2.2.2.1 ((t_ix tb tn (sa : Int32).toNatClampNeg) + 1)).map fun k9 => ((sg9.1, sg9.2.1 ++ [(T_vl tb tn ((t_ix tb tn (sa : Int32).toNatClampNeg) + 1)).toInt], sg9.2.2), k9)) S') ∧ TKM tb tn S' ∧ GBM S0 S' ∧ True) (dg_B g D shM o rfM) (dg_A o shM.length sz)) 0 0 (dg_A o shM.length sz) := by
  refine dg_met (cc := cX12_mining) (maxL := 1) (ret := none) (dk_dq rfl) rfl (Nat.le_of_ble_eq_true rfl) ?_
  intro p e s m args below meth c A hAe harg hx hb hr hml hts hown hlocks hin hP K hS hA1 hA ST hsz ls hl
  rw [← hAe]
  have F : CallFix p m c cX12_mining 1 s args (bw yX12_mining cX12_mining 1 none) RX12 := ⟨hx, hb, hml, hown, hts⟩
  have hl : lv_has ls 1 [(0, .ref (o + 0))] := hl
  have M_0 : dg_sm shM [(0, 3), (0, 4), (0, 5), (0, 6), (0, 7), (0, 8), (0, 9), (0, 12)] [8, 20] S S := dg_sm.rf
  obtain ⟨Q9, hQ9⟩ : ∃ Q : State → Prop, Q = MQ below (va_Qv (fun S' => CM o S' ∧ dg_sm shM [(0, 3), (0, 4), (0, 5), (0, 6), (0, 7), (0, 8), (0, 9), (0, 12)] [8, 20] S S' ∧ (∃ y9_3 y9_4 y9_5 y9_8 : Int32, S'.1 0 3 = .int y9_3 ∧ S'.1 0 4 = .int y9_4 ∧ S'.1 0 5 = .int y9_5 ∧ S'.1 0 8 = .int y9_8 ∧ (((y9_4).toInt ≤ (y9_5).toInt ∧ (y9_5).toInt ≤ (sl).toInt ∧ ((y9_3).toInt ≠ 0 → (y9_4).toInt + 1 ≤ (y9_5).toInt)) ∧ (sa).toInt ≤ (y9_4).toInt ∧ ((fk).toInt ≠ 0 → (y9_8).toInt ≠ 0) ∧ ((y9_8).toInt = 0 → (sa).toInt + 1 ≤ (y9_4).toInt))) ∧ (SOK tb tn fk (if sg9.2.1.length = 6 then none else (y_new (T_kd tb tn) (T_vl tb tn) sg9.2.1 sg9.2.2.2.1 ((t_ix tb tn (sa : Int32).toNatClampNeg) + 1)).map fun k9 => ((sg9.1, sg9.2.1 ++ [(T_vl tb tn ((t_ix tb tn (sa : Int32).toNatClampNeg) + 1)).toInt], sg9.2.2), k9)) S') ∧ TKM tb tn S' ∧ GBM S0 S' ∧ True) (dg_B g D shM o rfM) A) args s 0 0 A := ⟨_, rfl⟩
  rw [← hQ9]
  obtain ⟨hlx_0, hlx_1, hlx_2⟩ := hlx
  have hlen := GSM.miners GS f_ii f_mi; have hcm := dk_clN mi
  refine lv_aload_n hx hb dX12_mining_0 rfl (lv_at hl 0 rfl) ?_
  refine lv_aload_n hx hb dX12_mining_1 rfl (lv_at hl 0 rfl) ?_
  refine dg_get (C := RX12) (T := TX12) (N := 77) hx hb hts (fun w h => bw_mem (wU_X12 w h)) hown K hP sM_0 rfl 20 (dk_dq rfl) (hts _ (bw_mem wB_352)) (fun _ h9 => h9) (v := .ref (o + 8)) (show S.1 0 20 = .ref (o + 8) from dg_I.rel (d := 8) I sM_0 (by decide +kernel)) dX12_mining_2 ?_
  refine lv_aload_n hx hb dX12_mining_5 rfl (lv_at hl 0 rfl) ?_
  refine dg_get (C := RX12) (T := TX12) (N := 77) hx hb hts (fun w h => bw_mem (wU_X12 w h)) hown K hP sM_0 rfl 35 (dk_dq rfl) (hts _ (bw_mem wB_353)) (fun _ h9 => h9) (v := .int ii) f_ii dX12_mining_6 ?_
  have hin_1 : vp_in ii 2 := (dk_inv2 (by omega))
  refine dg_iald hx hb K hP sM_8 hin_1 dX12_mining_9 (fun y_2 ey_2 => ?_)
  obtain rfl : mi = y_2 := (ey_2.trans f_mi).symm
  refine lv_bipush (v := 6) hx hb dX12_mining_10 (by decide +kernel) ?_
  refine lv_icmp_ne (tgt := 19) hx hb dX12_mining_12 (dk_dq rfl) (fun c_3 => ?_) (fun c_3 => ?_)
  · as_aux_lemma =>
      have jc_3 := dk_neqc (k := 6) (by decide +kernel) c_3
      have jtc_3 : (mi).toInt ≤ 5 := by omega
      clear jc_3
      refine lv_iconst (v := 0) hx hb dX12_mining_19 (by decide +kernel) ?_
      have hz_4 : (0 : Int32).toInt = 0 := by decide +kernel
      refine dg_calli hS hA1 hA (va_runV (As := [.int 0]) (rest := []) F (c_m_isCounted l g D o S 0 (by decide +kernel) tb tn sg f_sg (by omega) sa f_sa (by omega) se f_se (by omega) sl f_sl (by omega) fk f_fk (by omega) (by omega) (by omega) TK I s.heap.size) (cwV 1 hts (bw_V wB_379 wB_380 wB_381 wB_297 wB_378) rfl rfl rfl (by decide +kernel) ⟨Nat.le_of_ble_eq_true rfl, Nat.le_of_ble_eq_true rfl⟩) (dg_preV sM_0 rfl K ST hP hS hA1 hA) rfl rfl hl.1 rfl (lv_room (Nat.le_of_ble_eq_true rfl)) dX12_mining_20 ⟨Nat.le_of_ble_eq_true rfl, Nat.le_of_ble_eq_true rfl⟩) (fun x_5 S_6 hw_6 H locs hP hS => ?_)
      obtain ⟨I_6, m_6, w_6_0, w_6_1, w_6_2, -⟩ := hw_6
      have M_6 := dg_sm.tr M_0 m_6 (dk_dq rfl) (dk_dq rfl)
      have hz_7 : (0 : Int32).toInt = 0 := by decide +kernel
      have w_6_0 : 0 ≤ (x_5).toInt ∧ (x_5).toInt ≤ 1 := w_6_0
      obtain ⟨y_8, y_9, y_10, y_11, f_y_8, f_y_9, f_y_10, f_y_11, w_6_1⟩ := w_6_1
      have w_6_1 : (((y_9).toInt ≤ (y_10).toInt ∧ (y_10).toInt ≤ (sl).toInt ∧ ((y_8).toInt ≠ 0 → (y_9).toInt + 1 ≤ (y_10).toInt)) ∧ (sa).toInt ≤ (y_9).toInt ∧ ((fk).toInt ≠ 0 → (y_11).toInt ≠ 0) ∧ (((x_5).toInt = 1 → ((y_11).toInt = 0 ∧ (fk).toInt = 0 ∧ ((0 : Int32)).toInt = 0 ∧ ((sg).toInt ≠ 0 → (sa).toInt + 1 ≤ (y_9).toInt))) ∧ ((x_5).toInt = 0 → (y_11).toInt ≠ 0))) ∧ (((x_5).toInt = 1 → (t_ix tb tn (y_9 : Int32).toNatClampNeg) = (t_ix tb tn (sa : Int32).toNatClampNeg) + 1) ∧ ((fk).toInt = 0 → ((0 : Int32)).toInt = 0 → (x_5).toInt = 1)) := w_6_1
      obtain ⟨⟨⟨w_6_1_0, w_6_1_1, w_6_1_2⟩, w_6_1_3, w_6_1_4, ⟨w_6_1_5, w_6_1_6⟩⟩, ⟨w_6_1_7, w_6_1_8⟩⟩ := w_6_1
      have b_y_8 : 0 ≤ (y_8).toInt ∧ (y_8).toInt ≤ 3 := dg_I.intb (lo := 0) (hi := 3) I_6 sM_0 (by decide +kernel) f_y_8
      have b_y_9 : 0 ≤ (y_9).toInt ∧ (y_9).toInt ≤ 1600 := dg_I.intb (lo := 0) (hi := 1600) I_6 sM_0 (by decide +kernel) f_y_9
      have b_y_10 : 0 ≤ (y_10).toInt ∧ (y_10).toInt ≤ 1600 := dg_I.intb (lo := 0) (hi := 1600) I_6 sM_0 (by decide +kernel) f_y_10
      have b_y_11 : 0 ≤ (y_11).toInt ∧ (y_11).toInt ≤ 6 := dg_I.intb (lo := 0) (hi := 6) I_6 sM_0 (by decide +kernel) f_y_11
      refine lv_if_ne (tgt := 27) hx hb dX12_mining_23 (dk_dq rfl) (fun c_12 => ?_) (fun c_12 => ?_)
      · as_aux_lemma =>
          have jc_12 := dk_neqc (k := 0) (by decide +kernel) c_12
          have jbc_12 : 1 ≤ (x_5).toInt := by omega
          clear jc_12
          have w_6_1_5r := w_6_1_5 (by omega)
          clear w_6_1_5
          clear w_6_1_6
          have w_6_1_7r := w_6_1_7 (by omega)
          clear w_6_1_7
          obtain ⟨w_6_1_5r_0, w_6_1_5r_1, w_6_1_5r_2, w_6_1_5r_3⟩ := w_6_1_5r
          clear w_6_1_4
          have w_6_1_8r := w_6_1_8 (by omega)
          clear w_6_1_8
          refine lv_aload_n hx hb dX12_mining_27 rfl (lv_at hl 0 rfl) ?_
          refine dg_get (C := RX12) (T := TX12) (N := 77) hx hb hts (fun w h => bw_mem (wU_X12 w h)) hown K hP sM_0 rfl 32 (dk_dq rfl) (hts _ (bw_mem wB_354)) (fun _ h9 => h9) (v := .ref (o + 20)) (show S_6.1 0 32 = .ref (o + 20) from dg_I.rel (d := 20) I_6 sM_0 (by decide +kernel)) dX12_mining_28 ?_
          refine lv_bipush (v := 6) hx hb dX12_mining_31 (by decide +kernel) ?_
          refine lv_aload_n hx hb dX12_mining_33 rfl (lv_at hl 0 rfl) ?_
          refine dg_get (C := RX12) (T := TX12) (N := 77) hx hb hts (fun w h => bw_mem (wU_X12 w h)) hown K hP sM_0 rfl 35 (dk_dq rfl) (hts _ (bw_mem wB_353)) (fun _ h9 => h9) (v := .int ii) ((m_6.1 0 35 _ sM_0 (dk_dq rfl)).trans f_ii) dX12_mining_34 ?_
          refine lv_imul hx hb dX12_mining_37 ?_
          refine lv_topi (fun x_13 ex_13 => ?_)
          have jx_13 : (x_13).toInt = 6 * (ii).toInt := by rw [ex_13]; exact dk_mulT2 (by decide +kernel) rfl (by omega)
          refine lv_aload_n hx hb dX12_mining_38 rfl (lv_at hl 0 rfl) ?_
          refine dg_get (C := RX12) (T := TX12) (N := 77) hx hb hts (fun w h => bw_mem (wU_X12 w h)) hown K hP sM_0 rfl 20 (dk_dq rfl) (hts _ (bw_mem wB_352)) (fun _ h9 => h9) (v := .ref (o + 8)) (show S_6.1 0 20 = .ref (o + 8) from dg_I.rel (d := 8) I_6 sM_0 (by decide +kernel)) dX12_mining_39 ?_
          refine lv_aload_n hx hb dX12_mining_42 rfl (lv_at hl 0 rfl) ?_
          refine dg_get (C := RX12) (T := TX12) (N := 77) hx hb hts (fun w h => bw_mem (wU_X12 w h)) hown K hP sM_0 rfl 35 (dk_dq rfl) (hts _ (bw_mem wB_353)) (fun _ h9 => h9) (v := .int ii) ((m_6.1 0 35 _ sM_0 (dk_dq rfl)).trans f_ii) dX12_mining_43 ?_
          have hin_14 : vp_in ii 2 := (dk_inv2 (by omega))
          refine dg_iald hx hb K hP sM_8 hin_14 dX12_mining_46 (fun y_15 ey_15 => ?_)
          obtain rfl : mi = y_15 := ((ey_15.trans (congrFun (m_6.2 8 _ sM_8 (dk_dq rfl)).1 _)).trans f_mi).symm
          refine lv_iadd hx hb dX12_mining_47 ?_
          refine lv_topi (fun x_16 ex_16 => ?_)
          have jx_16 : (x_16).toInt = (x_13).toInt + (mi).toInt := by rw [ex_16]; exact dk_addT2 rfl rfl (by omega)
          refine lv_aload_n hx hb dX12_mining_48 rfl (lv_at hl 0 rfl) ?_
          refine dg_calll hS hA1 hA (va_runV (As := []) (rest := [.int x_16, .ref (o + 20)]) F (c_m_fresh l g D o S_6 tb tn sg9 y_8 f_y_8 (by omega) y_9 f_y_9 (by omega) y_10 f_y_10 (by omega) sl ((m_6.1 0 2 _ sM_0 (dk_dq rfl)).trans f_sl) (by omega) y_11 f_y_11 (by omega) ii ((m_6.1 0 35 _ sM_0 (dk_dq rfl)).trans f_ii) (by omega) mi ((congrFun (m_6.2 8 _ sM_8 (dk_dq rfl)).1 _).trans f_mi) (by omega) od ((congrFun (m_6.2 12 _ sM_12 (dk_dq rfl)).1 _).trans f_od) (by omega) (by omega) w_6_2 (GSM.keep GS m_6 (dk_dq rfl) (dk_dq rfl) (dk_dq rfl) (dk_dq rfl) (dk_dq rfl) (dk_dq rfl) (dk_dq rfl) (dk_dq rfl) (dk_dq rfl)) I_6 H.size) (cwV 0 hts (bw_V wB_388 wB_389 wB_390 wB_297 wB_387) rfl rfl rfl (by decide +kernel) ⟨Nat.le_of_ble_eq_true rfl, Nat.le_of_ble_eq_true rfl⟩) (dg_preV sM_0 rfl K ST hP hS hA1 hA) rfl rfl hl.1 rfl (lv_room (Nat.le_of_ble_eq_true rfl)) dX12_mining_49 ⟨Nat.le_of_ble_eq_true rfl, Nat.le_of_ble_eq_true rfl⟩) (fun x_17 S_18 hw_18 H locs hP hS => ?_)
          obtain ⟨I_18, m_18, w_18_0, w_18_1, -⟩ := hw_18
          have M_18 := dg_sm.tr M_6 m_18 (dk_dq rfl) (dk_dq rfl)
          obtain ⟨y_19, y_20, y_21, y_22, f_y_19, f_y_20, f_y_21, f_y_22, w_18_0⟩ := w_18_0
          have w_18_0 : (((y_20).toInt ≤ (y_21).toInt ∧ (y_21).toInt ≤ (sl).toInt ∧ ((y_19).toInt ≠ 0 → (y_20).toInt + 1 ≤ (y_21).toInt)) ∧ (y_9).toInt ≤ (y_20).toInt ∧ ((y_11).toInt ≠ 0 → (y_22).toInt ≠ 0) ∧ ((y_22).toInt = 0 → (y_9).toInt + 1 ≤ (y_20).toInt)) ∧ m_hid ((y_11).toInt = 0 → m_an y_22 (y_new (T_kd tb tn) (T_vl tb tn) sg9.2.1 sg9.2.2.2.1 (t_ix tb tn (y_9 : Int32).toNatClampNeg)) (t_ix tb tn (y_20 : Int32).toNatClampNeg) ∧ ((y_22).toInt = 0 → m_WG (x_17).toInt = (T_vl tb tn (t_ix tb tn (y_9 : Int32).toNatClampNeg)).toInt ∧ m_WF (m_WG (x_17).toInt) = (x_17).toInt)) := w_18_0
          obtain ⟨⟨⟨w_18_0_0, w_18_0_1, w_18_0_2⟩, w_18_0_3, w_18_0_4, w_18_0_5⟩, w_18_0_6⟩ := w_18_0
          clear w_18_0_4
          have b_y_19 : 0 ≤ (y_19).toInt ∧ (y_19).toInt ≤ 3 := dg_I.intb (lo := 0) (hi := 3) I_18 sM_0 (by decide +kernel) f_y_19
          have b_y_20 : 0 ≤ (y_20).toInt ∧ (y_20).toInt ≤ 1600 := dg_I.intb (lo := 0) (hi := 1600) I_18 sM_0 (by decide +kernel) f_y_20
          have b_y_21 : 0 ≤ (y_21).toInt ∧ (y_21).toInt ≤ 1600 := dg_I.intb (lo := 0) (hi := 1600) I_18 sM_0 (by decide +kernel) f_y_21
          have b_y_22 : 0 ≤ (y_22).toInt ∧ (y_22).toInt ≤ 6 := dg_I.intb (lo := 0) (hi := 6) I_18 sM_0 (by decide +kernel) f_y_22
          have hin_23 : vp_in x_16 12 := (dk_inv2 (by omega))
          as_aux_lemma =>
            refine dg_last hx hb K hP hS hA1 sM_20 hin_23 dX12_mining_52 (fun S_24 e_24 H locs hP hS => ?_)
            have I_24 := dg_I.ul I_18 e_24
            have M_24 := dg_sm.ul M_18 e_24 sM_20 (dk_dq rfl)
            have gw_24 := GSM.w20 (GSM.keep (GSM.keep GS m_6 (dk_dq rfl) (dk_dq rfl) (dk_dq rfl) (dk_dq rfl) (dk_dq rfl) (dk_dq rfl) (dk_dq rfl) (dk_dq rfl) (dk_dq rfl)) m_18 (dk_dq rfl) (dk_dq rfl) (dk_dq rfl) (dk_dq rfl) (dk_dq rfl) (dk_dq rfl) (dk_dq rfl) (dk_dq rfl) (dk_dq rfl)) (((m_18.1 0 35 _ sM_0 (dk_dq rfl)).trans (m_6.1 0 35 _ sM_0 (dk_dq rfl))).trans f_ii) ((congrFun ((m_18.2 8 _ sM_8 (dk_dq rfl)).1.trans (m_6.2 8 _ sM_8 (dk_dq rfl)).1) _).trans f_mi) e_24 (by omega) (by omega)
            have GB_24 := GBM.stl (GBM.keep (GBM.keep GB m_6 (dk_dq rfl) (dk_dq rfl) (dk_dq rfl)) m_18 (dk_dq rfl) (dk_dq rfl) (dk_dq rfl)) (ZKM.keep (ZKM.keep ZK m_6 (dk_dq rfl) (dk_dq rfl)) m_18 (dk_dq rfl) (dk_dq rfl)) (((m_18.1 0 35 _ sM_0 (dk_dq rfl)).trans (m_6.1 0 35 _ sM_0 (dk_dq rfl))).trans f_ii) 6 rfl (wi := 6) rfl e_24 (by omega) (by omega)
            refine lv_aload_n hx hb dX12_mining_53 rfl (lv_at hl 0 rfl) ?_
            refine dg_get (C := RX12) (T := TX12) (N := 77) hx hb hts (fun w h => bw_mem (wU_X12 w h)) hown K hP sM_0 rfl 8 (dk_dq rfl) (hts _ (bw_mem wB_303)) (fun _ h9 => h9) (v := .int y_22) ((dg_ul_F e_24 0 8).trans f_y_22) dX12_mining_54 ?_
            refine lv_if_ne (tgt := 73) hx hb dX12_mining_57 (dk_dq rfl) (fun c_25 => ?_) (fun c_25 => ?_)
            · have jc_25 := dk_neqc (k := 0) (by decide +kernel) c_25
              have jbc_25 : 1 ≤ (y_22).toInt := by omega
              clear jc_25
              clear w_18_0_5
              refine W.widen (k := 0) (n := 0) (Nat.le_of_ble_eq_true rfl) (Nat.le_of_ble_eq_true rfl) ?_
              rw [hQ9]
              exact dg_vret hx hb hr hlocks hP hS ⟨I_24, M_24, ⟨y_19, y_20, y_21, y_22, ((dg_ul_F e_24 0 3).trans f_y_19), ((dg_ul_F e_24 0 4).trans f_y_20), ((dg_ul_F e_24 0 5).trans f_y_21), ((dg_ul_F e_24 0 8).trans f_y_22), (by omega)⟩, (SOK.mk (fk := fk) ((dg_ul_F e_24 0 8).trans f_y_22) ((dg_ul_F e_24 0 4).trans f_y_20) (fun h0 q9 => by exfalso; omega) (fun h0 q9 => (by have h9 := (w_18_0_6.out (by omega)).1; rw [show (t_ix tb tn (y_9 : Int32).toNatClampNeg) = ((t_ix tb tn (sa : Int32).toNatClampNeg) + 1) from by omega] at h9; exact h9)) (fun h0 q8 q9 => by exfalso; omega) rfl), (TKM.keep w_18_1 (dg_sm.ul (WF := []) (WA := [20]) dg_sm.rf e_24 sM_20 (dk_dq rfl)) (dk_dq rfl) (dk_dq rfl) (dk_dq rfl) (dk_dq rfl) (dk_dq rfl) (dk_dq rfl) (dk_dq rfl) (dk_dq rfl)), GB_24, trivial⟩ dX12_mining_73
            · as_aux_lemma =>
                have jc_25 := dk_eqc (k := 0) (by decide +kernel) c_25
                have w_18_0_5r := w_18_0_5 (by omega)
                clear w_18_0_5
                refine lv_aload_n hx hb dX12_mining_60 rfl (lv_at hl 0 rfl) ?_
                refine dg_get (C := RX12) (T := TX12) (N := 77) hx hb hts (fun w h => bw_mem (wU_X12 w h)) hown K hP sM_0 rfl 20 (dk_dq rfl) (hts _ (bw_mem wB_352)) (fun _ h9 => h9) (v := .ref (o + 8)) (show S_24.1 0 20 = .ref (o + 8) from dg_I.rel (d := 8) I_24 sM_0 (by decide +kernel)) dX12_mining_61 ?_
                refine lv_aload_n hx hb dX12_mining_64 rfl (lv_at hl 0 rfl) ?_
                refine dg_get (C := RX12) (T := TX12) (N := 77) hx hb hts (fun w h => bw_mem (wU_X12 w h)) hown K hP sM_0 rfl 35 (dk_dq rfl) (hts _ (bw_mem wB_353)) (fun _ h9 => h9) (v := .int ii) (((dg_ul_F e_24 0 35).trans ((m_18.1 0 35 _ sM_0 (dk_dq rfl)).trans (m_6.1 0 35 _ sM_0 (dk_dq rfl)))).trans f_ii) dX12_mining_65 ?_
                refine lv_dup2_11 hx hb dX12_mining_68 rfl rfl ?_
                have hin_26 : vp_in ii 2 := (dk_inv2 (by omega))
                refine dg_iald hx hb K hP sM_8 hin_26 dX12_mining_69 (fun y_27 ey_27 => ?_)
                obtain rfl : mi = y_27 := ((ey_27.trans (congrFun ((dg_ul_f e_24 8).trans ((m_18.2 8 _ sM_8 (dk_dq rfl)).1.trans (m_6.2 8 _ sM_8 (dk_dq rfl)).1)) _)).trans f_mi).symm
                refine lv_iconst (v := 1) hx hb dX12_mining_70 (by decide +kernel) ?_
                refine lv_iadd hx hb dX12_mining_71 ?_
                refine lv_topi (fun x_28 ex_28 => ?_)
                have jx_28 : (x_28).toInt = (mi).toInt + 1 := by rw [ex_28]; exact dk_addT2 rfl (by decide +kernel) (by omega)
                have hin_29 : vp_in ii 2 := (dk_inv2 (by omega))
                refine dg_iast hx hb K hP hS hA1 sM_8 hin_29 dX12_mining_72 (fun S_30 e_30 H locs hP hS => ?_)
                have I_30 := dg_I.ufu (lo := 0) (hi := 6) I_24 e_30 sM_8 (by decide +kernel) (show 0 ≤ (x_28).toInt ∧ (x_28).toInt ≤ 6 from (by omega))
                have M_30 := dg_sm.uf M_24 e_30 sM_8 (dk_dq rfl)
                have GB_30 := GBM.st GB_24 (ZKM.keep (ZKM.keep (ZKM.keep ZK m_6 (dk_dq rfl) (dk_dq rfl)) m_18 (dk_dq rfl) (dk_dq rfl)) (dg_sm.ul (WF := []) (WA := [20]) dg_sm.rf e_24 sM_20 (dk_dq rfl)) (dk_dq rfl) (dk_dq rfl)) (((dg_ul_F e_24 0 35).trans ((m_18.1 0 35 _ sM_0 (dk_dq rfl)).trans (m_6.1 0 35 _ sM_0 (dk_dq rfl)))).trans f_ii) 1 rfl (wi := 1) rfl e_30 (by omega) (by omega)
                refine W.widen (k := 0) (n := 0) (Nat.le_of_ble_eq_true rfl) (Nat.le_of_ble_eq_true rfl) ?_
                rw [hQ9]
                exact dg_vret hx hb hr hlocks hP hS ⟨I_30, M_30, ⟨y_19, y_20, y_21, y_22, (((dg_uf_F e_30 0 3).trans (dg_ul_F e_24 0 3)).trans f_y_19), (((dg_uf_F e_30 0 4).trans (dg_ul_F e_24 0 4)).trans f_y_20), (((dg_uf_F e_30 0 5).trans (dg_ul_F e_24 0 5)).trans f_y_21), (((dg_uf_F e_30 0 8).trans (dg_ul_F e_24 0 8)).trans f_y_22), (by omega)⟩, (SOK.mk (fk := fk) (((dg_uf_F e_30 0 8).trans (dg_ul_F e_24 0 8)).trans f_y_22) (((dg_uf_F e_30 0 4).trans (dg_ul_F e_24 0 4)).trans f_y_20) (fun h0 q9 => by exfalso; omega) (fun h0 q9 => (by have h9 := (w_18_0_6.out (by omega)).1; rw [show (t_ix tb tn (y_9 : Int32).toNatClampNeg) = ((t_ix tb tn (sa : Int32).toNatClampNeg) + 1) from by omega] at h9; exact h9)) (fun h0 q8 q9 => by have h9 := (w_18_0_6.out (by omega)).2 (by omega); have g9 := (GSM.c8 gw_24.1 (((dg_ul_F e_24 0 35).trans ((m_18.1 0 35 _ sM_0 (dk_dq rfl)).trans (m_6.1 0 35 _ sM_0 (dk_dq rfl)))).trans f_ii) ((congrFun ((dg_ul_f e_24 8).trans ((m_18.2 8 _ sM_8 (dk_dq rfl)).1.trans (m_6.2 8 _ sM_8 (dk_dq rfl)).1)) _).trans f_mi) gw_24.2 h9.2 e_30 (by omega) (by omega)); rw [h9.1, show (t_ix tb tn (y_9 : Int32).toNatClampNeg) = ((t_ix tb tn (sa : Int32).toNatClampNeg) + 1) from by omega] at g9; exact g9) rfl), (TKM.keep (TKM.keep w_18_1 (dg_sm.ul (WF := []) (WA := [20]) dg_sm.rf e_24 sM_20 (dk_dq rfl)) (dk_dq rfl) (dk_dq rfl) (dk_dq rfl) (dk_dq rfl) (dk_dq rfl) (dk_dq rfl) (dk_dq rfl) (dk_dq rfl)) (dg_sm.uf (WF := []) (WA := [8]) dg_sm.rf e_30 sM_8 (dk_dq rfl)) (dk_dq rfl) (dk_dq rfl) (dk_dq rfl) (dk_dq rfl) (dk_dq rfl) (dk_dq rfl) (dk_dq rfl) (dk_dq rfl)), GB_30, trivial⟩ dX12_mining_73
      · have jc_12 := dk_eqc (k := 0) (by decide +kernel) c_12
        clear w_6_1_5
        have w_6_1_6r := w_6_1_6 (by omega)
        clear w_6_1_6
        clear w_6_1_7
        have w_6_1_6rb : 1 ≤ (y_11).toInt := by omega
        clear w_6_1_6r
        refine W.widen (k := 0) (n := 0) (Nat.le_of_ble_eq_true rfl) (Nat.le_of_ble_eq_true rfl) ?_
        rw [hQ9]
        exact dg_vret hx hb hr hlocks hP hS ⟨I_6, M_6, ⟨y_8, y_9, y_10, y_11, f_y_8, f_y_9, f_y_10, f_y_11, (by omega)⟩, (SOK.mk (fk := fk) f_y_11 f_y_9 (fun h0 q9 => by omega) (fun h0 q9 => by exfalso; omega) (fun h0 q8 q9 => by exfalso; omega) rfl), w_6_2, (GBM.keep GB m_6 (dk_dq rfl) (dk_dq rfl) (dk_dq rfl)), trivial⟩ dX12_mining_26
  · as_aux_lemma =>
      have jc_3 := dk_eqc (k := 6) (by decide +kernel) c_3
      refine lv_iconst (v := 1) hx hb dX12_mining_15 (by decide +kernel) ?_
      refine lv_goto (tgt := 20) hx hb dX12_mining_16 (dk_dq rfl) ?_
      have hz_31 : (1 : Int32).toInt = 1 := by decide +kernel
      refine dg_calli hS hA1 hA (va_runV (As := [.int 1]) (rest := []) F (c_m_isCounted l g D o S 1 (by decide +kernel) tb tn sg f_sg (by omega) sa f_sa (by omega) se f_se (by omega) sl f_sl (by omega) fk f_fk (by omega) (by omega) (by omega) TK I s.heap.size) (cwV 1 hts (bw_V wB_379 wB_380 wB_381 wB_297 wB_378) rfl rfl rfl (by decide +kernel) ⟨Nat.le_of_ble_eq_true rfl, Nat.le_of_ble_eq_true rfl⟩) (dg_preV sM_0 rfl K ST hP hS hA1 hA) rfl rfl hl.1 rfl (lv_room (Nat.le_of_ble_eq_true rfl)) dX12_mining_20 ⟨Nat.le_of_ble_eq_true rfl, Nat.le_of_ble_eq_true rfl⟩) (fun x_32 S_33 hw_33 H locs hP hS => ?_)
      obtain ⟨I_33, m_33, w_33_0, w_33_1, w_33_2, -⟩ := hw_33
      have M_33 := dg_sm.tr M_0 m_33 (dk_dq rfl) (dk_dq rfl)
      have hz_34 : (1 : Int32).toInt = 1 := by decide +kernel
      have w_33_0 : 0 ≤ (x_32).toInt ∧ (x_32).toInt ≤ 1 := w_33_0
      obtain ⟨y_35, y_36, y_37, y_38, f_y_35, f_y_36, f_y_37, f_y_38, w_33_1⟩ := w_33_1
      have w_33_1 : (((y_36).toInt ≤ (y_37).toInt ∧ (y_37).toInt ≤ (sl).toInt ∧ ((y_35).toInt ≠ 0 → (y_36).toInt + 1 ≤ (y_37).toInt)) ∧ (sa).toInt ≤ (y_36).toInt ∧ ((fk).toInt ≠ 0 → (y_38).toInt ≠ 0) ∧ (((x_32).toInt = 1 → ((y_38).toInt = 0 ∧ (fk).toInt = 0 ∧ ((1 : Int32)).toInt = 0 ∧ ((sg).toInt ≠ 0 → (sa).toInt + 1 ≤ (y_36).toInt))) ∧ ((x_32).toInt = 0 → (y_38).toInt ≠ 0))) ∧ (((x_32).toInt = 1 → (t_ix tb tn (y_36 : Int32).toNatClampNeg) = (t_ix tb tn (sa : Int32).toNatClampNeg) + 1) ∧ ((fk).toInt = 0 → ((1 : Int32)).toInt = 0 → (x_32).toInt = 1)) := w_33_1
      obtain ⟨⟨⟨w_33_1_0, w_33_1_1, w_33_1_2⟩, w_33_1_3, w_33_1_4, ⟨w_33_1_5, w_33_1_6⟩⟩, ⟨w_33_1_7, w_33_1_8⟩⟩ := w_33_1
      have b_y_35 : 0 ≤ (y_35).toInt ∧ (y_35).toInt ≤ 3 := dg_I.intb (lo := 0) (hi := 3) I_33 sM_0 (by decide +kernel) f_y_35
      have b_y_36 : 0 ≤ (y_36).toInt ∧ (y_36).toInt ≤ 1600 := dg_I.intb (lo := 0) (hi := 1600) I_33 sM_0 (by decide +kernel) f_y_36
      have b_y_37 : 0 ≤ (y_37).toInt ∧ (y_37).toInt ≤ 1600 := dg_I.intb (lo := 0) (hi := 1600) I_33 sM_0 (by decide +kernel) f_y_37
      have b_y_38 : 0 ≤ (y_38).toInt ∧ (y_38).toInt ≤ 6 := dg_I.intb (lo := 0) (hi := 6) I_33 sM_0 (by decide +kernel) f_y_38
      refine lv_if_ne (tgt := 27) hx hb dX12_mining_23 (dk_dq rfl) (fun c_39 => ?_) (fun c_39 => ?_)
      · have jc_39 := dk_neqc (k := 0) (by decide +kernel) c_39
        have jbc_39 : 1 ≤ (x_32).toInt := by omega
        clear jc_39
        have w_33_1_5r := w_33_1_5 (by omega)
        clear w_33_1_5
        clear w_33_1_6
        have w_33_1_7r := w_33_1_7 (by omega)
        clear w_33_1_7
        obtain ⟨w_33_1_5r_0, w_33_1_5r_1, w_33_1_5r_2, w_33_1_5r_3⟩ := w_33_1_5r
        clear w_33_1_4
        have w_33_1_8r := w_33_1_8 (by omega)
        clear w_33_1_8
        omega
      · have jc_39 := dk_eqc (k := 0) (by decide +kernel) c_39
        clear w_33_1_5
        have w_33_1_6r := w_33_1_6 (by omega)
        clear w_33_1_6
        clear w_33_1_7
        have w_33_1_6rb : 1 ≤ (y_38).toInt := by omega
        clear w_33_1_6r
        refine W.widen (k := 0) (n := 0) (Nat.le_of_ble_eq_true rfl) (Nat.le_of_ble_eq_true rfl) ?_
        rw [hQ9]
        exact dg_vret hx hb hr hlocks hP hS ⟨I_33, M_33, ⟨y_35, y_36, y_37, y_38, f_y_35, f_y_36, f_y_37, f_y_38, (by omega)⟩, (SOK.mk (fk := fk) f_y_38 f_y_36 (fun h0 q9 => by omega) (fun h0 q9 => by exfalso; omega) (fun h0 q8 q9 => by exfalso; omega) rfl), w_33_2, (GBM.keep GB m_33 (dk_dq rfl) (dk_dq rfl) (dk_dq rfl)), trivial⟩ dX12_mining_26
  
end
section
/-! the reference's STATEMENTS: what they tell (over zm) -/
theorem m_nm_get {row : Nat → Int64} {off m i : Nat} (h : i < m) : (m_nm row off m)[i]? = some (m_WG (row (off + i)).toInt) := by
  unfold m_nm
  rw [List.getElem?_map, List.getElem?_range h]
  rfl
section ZN
variable {σ σ' : y_S} {S S1 S2 : dg_S} {WF : List (Nat × Nat)} {WA : List Nat} {ii mi fk f1 f2 a1 a2 cnt : Int32} {tb : Nat → Int32} {n k k' i : Nat} {kd vl : Nat → Int32} {d : k_D} {T : Option (y_S × Nat)}
theorem GSM.ix (h : GSM σ S) (fi : S.1 0 35 = .int ii) (fm : S.2.1 8 ii.toNatClampNeg = mi) {p v : Int} (hp : p = m_WF v) (hv : m_WG p = v) {r : Nat} (hr : r < mi.toNatClampNeg) (e : (S.2.2 20 (6 * ii.toNatClampNeg + r)).toInt = p) (ne : ∀ j : Nat, j < r → (S.2.2 20 (6 * ii.toNatClampNeg + j)).toInt ≠ p) : z_ix σ.2.1 v = r := by
  obtain ⟨-, es, o1, -⟩ := h.at fi
  rw [es]
  unfold GSv
  rw [fm] at o1 ⊢
  show z_ix (m_nm (S.2.2 20) (6 * ii.toNatClampNeg) mi.toNatClampNeg) v = _
  refine z_ix_of _ r (by rw [m_nm_get hr, e, hv]) (fun j hj z => ?_)
  rw [m_nm_get (by omega)] at z
  have z1 := Option.some.inj z
  have z2 := o1 j (by omega)
  rw [z1, ← hp] at z2
  exact ne j hj z2.symm
/-- what a STATEMENT does to the bank -/
def KMT (kd vl : Nat → Int32) (σ : y_S) (k : Nat) (S S1 : dg_S) : Prop := ∀ d : k_D, kI σ d → km d S → km (k_st kd vl σ k d) S1
theorem kI.mk {G : aR} {K : Nat → List Int} (h : G 0 0 = σ.1.1 ∧ G 0 1 = σ.1.2 ∧ G 0 5 = σ.2.1.length ∧ G 0 6 = σ.2.2.1 ∧ G 0 7 = σ.2.2.2.1.length) : kI σ (G, K) := h
theorem kI.z : kI y_0 k_0 := ⟨rfl, rfl, rfl, rfl, rfl⟩
theorem zn_u {G : aR} {j b : Nat} {v : Int} (h : b ≠ j) : s_up G 0 j v 0 b = G 0 b := s_up_i h
/-- numbers of what has been told, and what the bank holds, side by side -/
theorem kI.step (h : y_one kd vl i σ k = some (σ', k')) (hI : kI σ d) : kI σ' (k_st kd vl σ k d) := by
  obtain ⟨j0, j1, j5, j6, j7⟩ := hI
  unfold y_one at h
  by_cases q : i = 0
  · rw [if_pos q] at h
    obtain ⟨x, hx, e⟩ := Option.map_eq_some_iff.mp h
    cases e
    unfold y_seam at hx
    obtain ⟨k1, h1, -⟩ := Option.bind_eq_some_iff.mp hx
    have hv := (g_o_iff.mp (y_own_o h1).1).2
    rw [k_st_0 hv]
    refine ⟨?_, ?_, ?_, ?_, ?_⟩
    · show s_up (s_up (s_up d.1 0 0 (vl (k + 1)).toInt) 0 1 (vl (k + 3)).toInt) 0 2 0 0 0 = (vl (k + 1)).toInt
      rw [s_up_i (show (0 : Nat) ≠ 2 by decide), s_up_i (show (0 : Nat) ≠ 1 by decide), s_up_at]
    · show s_up (s_up (s_up d.1 0 0 (vl (k + 1)).toInt) 0 1 (vl (k + 3)).toInt) 0 2 0 0 1 = (vl (k + 3)).toInt
      rw [s_up_i (show (1 : Nat) ≠ 2 by decide), s_up_at]
    · show s_up (s_up (s_up d.1 0 0 (vl (k + 1)).toInt) 0 1 (vl (k + 3)).toInt) 0 2 0 0 5 = _
      rw [s_up_i (show (5 : Nat) ≠ 2 by decide), s_up_i (show (5 : Nat) ≠ 1 by decide), s_up_i (show (5 : Nat) ≠ 0 by decide)]
      exact j5
    · show s_up (s_up (s_up d.1 0 0 (vl (k + 1)).toInt) 0 1 (vl (k + 3)).toInt) 0 2 0 0 6 = _
      rw [s_up_i (show (6 : Nat) ≠ 2 by decide), s_up_i (show (6 : Nat) ≠ 1 by decide), s_up_i (show (6 : Nat) ≠ 0 by decide)]
      exact j6
    · show s_up (s_up (s_up d.1 0 0 (vl (k + 1)).toInt) 0 1 (vl (k + 3)).toInt) 0 2 0 0 7 = _
      rw [s_up_i (show (7 : Nat) ≠ 2 by decide), s_up_i (show (7 : Nat) ≠ 1 by decide), s_up_i (show (7 : Nat) ≠ 0 by decide)]
      exact j7
  · rw [if_neg q] at h
    obtain ⟨q0, M, P, O, r0, r1, r2⟩ := σ
    by_cases hk : (kd k).toInt = 1
    rotate_left
    · rw [y_st_no (Or.inl hk)] at h
      cases h
    by_cases w2 : (vl k).toInt = 2
    · rw [y_st_2 hk w2] at h
      obtain ⟨x, -, e⟩ := Option.map_eq_some_iff.mp h
      cases e
      rw [k_st_2 w2]
      refine ⟨?_, ?_, ?_, ?_, ?_⟩
      · show s_up d.1 0 2 (vl (k + 1)).toInt 0 0 = _
        rw [s_up_i (show (0 : Nat) ≠ 2 by decide)]
        exact j0
      · show s_up d.1 0 2 (vl (k + 1)).toInt 0 1 = _
        rw [s_up_i (show (1 : Nat) ≠ 2 by decide)]
        exact j1
      · show s_up d.1 0 2 (vl (k + 1)).toInt 0 5 = _
        rw [s_up_i (show (5 : Nat) ≠ 2 by decide)]
        exact j5
      · show s_up d.1 0 2 (vl (k + 1)).toInt 0 6 = _
        rw [s_up_i (show (6 : Nat) ≠ 2 by decide)]
        exact j6
      · show s_up d.1 0 2 (vl (k + 1)).toInt 0 7 = _
        rw [s_up_i (show (7 : Nat) ≠ 2 by decide)]
        exact j7
    by_cases w3 : (vl k).toInt = 3
    · rw [y_st_3 hk w3] at h
      obtain ⟨x, -, e⟩ := Option.map_eq_some_iff.mp h
      cases e
      rw [k_st_3 w3]
      refine ⟨?_, ?_, ?_, ?_, ?_⟩
      · show s_up d.1 0 3 (vl (k + 1)).toInt 0 0 = _
        rw [s_up_i (show (0 : Nat) ≠ 3 by decide)]
        exact j0
      · show s_up d.1 0 3 (vl (k + 1)).toInt 0 1 = _
        rw [s_up_i (show (1 : Nat) ≠ 3 by decide)]
        exact j1
      · show s_up d.1 0 3 (vl (k + 1)).toInt 0 5 = _
        rw [s_up_i (show (5 : Nat) ≠ 3 by decide)]
        exact j5
      · show s_up d.1 0 3 (vl (k + 1)).toInt 0 6 = _
        rw [s_up_i (show (6 : Nat) ≠ 3 by decide)]
        exact j6
      · show s_up d.1 0 3 (vl (k + 1)).toInt 0 7 = _
        rw [s_up_i (show (7 : Nat) ≠ 3 by decide)]
        exact j7
    by_cases w4 : (vl k).toInt = 4
    · rw [y_st_4 hk w4] at h
      obtain ⟨x, -, e⟩ := Option.map_eq_some_iff.mp h
      cases e
      rw [k_st_4 w4]
      refine ⟨?_, ?_, ?_, ?_, ?_⟩
      · show s_up d.1 0 4 (vl (k + 1)).toInt 0 0 = _
        rw [s_up_i (show (0 : Nat) ≠ 4 by decide)]
        exact j0
      · show s_up d.1 0 4 (vl (k + 1)).toInt 0 1 = _
        rw [s_up_i (show (1 : Nat) ≠ 4 by decide)]
        exact j1
      · show s_up d.1 0 4 (vl (k + 1)).toInt 0 5 = _
        rw [s_up_i (show (5 : Nat) ≠ 4 by decide)]
        exact j5
      · show s_up d.1 0 4 (vl (k + 1)).toInt 0 6 = _
        rw [s_up_i (show (6 : Nat) ≠ 4 by decide)]
        exact j6
      · show s_up d.1 0 4 (vl (k + 1)).toInt 0 7 = _
        rw [s_up_i (show (7 : Nat) ≠ 4 by decide)]
        exact j7
    by_cases w5 : (vl k).toInt = 5
    · rw [y_st_5 hk w5] at h
      obtain ⟨x, -, e⟩ := Option.map_eq_some_iff.mp h
      cases e
      rw [k_st_5 w5]
      have u : ∀ (n : Nat) (x : Int) (b : Nat), s_up d.1 1 n x 0 b = d.1 0 b := fun n x b => s_up_r (show (0 : Nat) ≠ 1 by decide)
      exact kI.mk ⟨(u _ _ 0).trans j0, (u _ _ 1).trans j1, (u _ _ 5).trans j5, (u _ _ 6).trans j6, (u _ _ 7).trans j7⟩
    by_cases w6 : (vl k).toInt = 6
    · rw [y_st_6 hk w6] at h
      by_cases z : M.length = 6
      · rw [if_pos z] at h
        cases h
      rw [if_neg z] at h
      obtain ⟨x, -, e⟩ := Option.map_eq_some_iff.mp h
      cases e
      rw [k_st_6 w6]
      refine ⟨?_, ?_, ?_, ?_, ?_⟩
      · show s_up d.1 0 5 (d.1 0 5 + 1) 0 0 = _
        rw [s_up_i (show (0 : Nat) ≠ 5 by decide)]
        exact j0
      · show s_up d.1 0 5 (d.1 0 5 + 1) 0 1 = _
        rw [s_up_i (show (1 : Nat) ≠ 5 by decide)]
        exact j1
      · show s_up d.1 0 5 (d.1 0 5 + 1) 0 5 = (((M ++ [(vl (k + 1)).toInt]).length : Nat) : Int)
        rw [s_up_at, j5, List.length_append]
        rfl
      · show s_up d.1 0 5 (d.1 0 5 + 1) 0 6 = _
        rw [s_up_i (show (6 : Nat) ≠ 5 by decide)]
        exact j6
      · show s_up d.1 0 5 (d.1 0 5 + 1) 0 7 = _
        rw [s_up_i (show (7 : Nat) ≠ 5 by decide)]
        exact j7
    by_cases w7 : (vl k).toInt = 7
    · rw [y_st_7 hk w7] at h
      by_cases z : P = 16
      · rw [if_pos z] at h
        cases h
      rw [if_neg z] at h
      obtain ⟨x, -, e⟩ := Option.map_eq_some_iff.mp h
      cases e
      rw [k_st_7 w7]
      have u : ∀ j, j ≠ 6 → ∀ (a b : Int) (m : Nat), (s_up (s_up (s_up d.1 5 m a) 6 m b) 0 6 (d.1 0 6 + 1)) 0 j = d.1 0 j := fun j hj a b m => by rw [s_up_i hj, s_up_r (show (0 : Nat) ≠ 6 by decide), s_up_r (show (0 : Nat) ≠ 5 by decide)]
      refine kI.mk ⟨(u 0 (by decide) _ _ _).trans j0, (u 1 (by decide) _ _ _).trans j1, (u 5 (by decide) _ _ _).trans j5, ?_, (u 7 (by decide) _ _ _).trans j7⟩
      refine Eq.trans s_up_at ?_
      rw [j6]
      rfl
    by_cases w9 : (vl k).toInt = 9
    · rw [y_st_9 hk w9] at h
      by_cases z : O.length = 5
      · rw [if_pos z] at h
        cases h
      rw [if_neg z] at h
      obtain ⟨x, -, e⟩ := Option.map_eq_some_iff.mp h
      cases e
      rw [k_st_9 w9]
      have u : ∀ j, j ≠ 7 → ∀ (a b c : Int) (m : Nat), (s_up (s_up (s_up (s_up d.1 2 m a) 3 m b) 4 m c) 0 7 (d.1 0 7 + 1)) 0 j = d.1 0 j := fun j hj a b c m => by rw [s_up_i hj, s_up_r (show (0 : Nat) ≠ 4 by decide), s_up_r (show (0 : Nat) ≠ 3 by decide), s_up_r (show (0 : Nat) ≠ 2 by decide)]
      refine kI.mk ⟨(u 0 (by decide) _ _ _ _).trans j0, (u 1 (by decide) _ _ _ _).trans j1, (u 5 (by decide) _ _ _ _).trans j5, (u 6 (by decide) _ _ _ _).trans j6, ?_⟩
      refine Eq.trans s_up_at ?_
      rw [j7]
      show ((O.length : Nat) : Int) + 1 = (((O ++ [(vl (k + 1)).toInt]).length : Nat) : Int)
      rw [List.length_append]
      rfl
    by_cases w12 : (vl k).toInt = 12
    · rw [y_st_12 hk w12] at h
      cases r0 with
      | true => cases h
      | false =>
        obtain ⟨x, -, e⟩ := Option.map_eq_some_iff.mp h
        cases e
        rw [k_st_r (by omega)]
        exact ⟨j0, j1, j5, j6, j7⟩
    by_cases w13 : (vl k).toInt = 13
    · rw [y_st_13 hk w13] at h
      cases r1 with
      | true => cases h
      | false =>
        obtain ⟨x, -, e⟩ := Option.map_eq_some_iff.mp h
        cases e
        rw [k_st_r (by omega)]
        exact ⟨j0, j1, j5, j6, j7⟩
    by_cases w14 : (vl k).toInt = 14
    · rw [y_st_14 hk w14] at h
      cases r2 with
      | true => cases h
      | false =>
        obtain ⟨x, -, e⟩ := Option.map_eq_some_iff.mp h
        cases e
        rw [k_st_r (by omega)]
        exact ⟨j0, j1, j5, j6, j7⟩
    rw [y_st_no (Or.inr ⟨w2, w3, w4, w5, w6, w7, w9, w12, w13, w14⟩)] at h
    cases h
/-- nothing of it is written -/
theorem km.keep (h : km d S) (m : dg_sm shM WF WA S S1) (h35 : (0, 35) ∉ WF) (h34 : (0, 34) ∉ WF) (hA : ∀ r, 4 ≤ r → r ≤ 19 → r ≠ 8 → r ≠ 9 → r ≠ 12 → r ∉ WA) : km d S1 :=
  km.same (G := d.1) (K := d.2) h (m.1 0 35 _ sM_0 h35) (m.1 0 34 _ sM_0 h34) (m.2 4 _ sM_4 (hA 4 (by decide) (by decide) (by decide) (by decide) (by decide))).1 (m.2 5 _ sM_5 (hA 5 (by decide) (by decide) (by decide) (by decide) (by decide))).1 (m.2 6 _ sM_6 (hA 6 (by decide) (by decide) (by decide) (by decide) (by decide))).1 (m.2 7 _ sM_7 (hA 7 (by decide) (by decide) (by decide) (by decide) (by decide))).1 (m.2 10 _ sM_10 (hA 10 (by decide) (by decide) (by decide) (by decide) (by decide))).1 (m.2 11 _ sM_11 (hA 11 (by decide) (by decide) (by decide) (by decide) (by decide))).1 (m.2 13 _ sM_13 (hA 13 (by decide) (by decide) (by decide) (by decide) (by decide))).1 (m.2 14 _ sM_14 (hA 14 (by decide) (by decide) (by decide) (by decide) (by decide))).1 (m.2 15 _ sM_15 (hA 15 (by decide) (by decide) (by decide) (by decide) (by decide))).1 (m.2 16 _ sM_16 (hA 16 (by decide) (by decide) (by decide) (by decide) (by decide))).1 (m.2 17 _ sM_17 (hA 17 (by decide) (by decide) (by decide) (by decide) (by decide))).1 (m.2 18 _ sM_18 (hA 18 (by decide) (by decide) (by decide) (by decide) (by decide))).1 (m.2 19 _ sM_19 (hA 19 (by decide) (by decide) (by decide) (by decide) (by decide))).1
/-- before the first STATEMENT -/
theorem km.start {w : Value} (f35 : S.1 0 35 = .int ii) (h0 : 0 ≤ ii.toInt) (r4 : (S.2.1 4 ii.toNatClampNeg).toInt = 0) (r5 : (S.2.1 5 ii.toNatClampNeg).toInt = 3) (r6 : (S.2.1 6 ii.toNatClampNeg).toInt = 0) (r7 : ∀ c : Nat, c < 64 → (S.2.1 7 (64 * ii.toNatClampNeg + c)).toInt = 5) (r16 : ∀ w : Nat, w < 3 → (S.2.1 16 (3 * ii.toNatClampNeg + w)).toInt = -1) (e : S1 = dg_uF S 0 34 w) : km k_0 S1 := by
  subst e
  exact ⟨ii, (dg_uF_ne rfl (fun z => absurd z.2 (by decide))).trans f35, h0, r4, r5, r6, r7, fun k _ hk => absurd hk (by show ¬ ((k : Int) < 0); omega), fun k _ hk => absurd hk (by show ¬ ((k : Int) < 0); omega), fun w hw => Or.inl ⟨rfl, r16 w hw⟩⟩
/-- grades, before any is told -/
def GTM (S : dg_S) (ii : Int32) (m : Int) : Prop := ∀ j : Nat, (j : Int) < m → (S.2.1 7 (64 * ii.toNatClampNeg + j)).toInt = 5
theorem GTM.z {m : Int} (h : m = 0) : GTM S ii m := fun j hj => absurd hj (by omega)
theorem GTM.to {m m' : Int} (h : GTM S ii m) (e : m' = m) : GTM S ii m' := by rw [e]; exact h
theorem GTM.all (h : GTM S ii 64) : ∀ c : Nat, c < 64 → (S.2.1 7 (64 * ii.toNatClampNeg + c)).toInt = 5 := fun c hc => h c (by omega)
theorem GTM.keep {m : Int} (h : GTM S ii m) (M : dg_sm shM WF WA S S1) (h7 : 7 ∉ WA) : GTM S1 ii m := fun j hj => by rw [(M.2 7 _ sM_7 h7).1]; exact h j hj
theorem GTM.step {m m' : Int} {x v : Int32} (h : GTM S ii m) (e : S1 = dg_uf S 7 (upd (S.2.1 7) x.toNatClampNeg v)) (hx : x.toInt = 64 * ii.toInt + m) (h0 : 0 ≤ ii.toInt ∧ 0 ≤ m) (hv : v.toInt = 5) (hm : m' = m + 1) : GTM S1 ii m' := by
  intro j hj
  have cx := dk_clN x
  have ci := dk_clN ii
  rw [dg_uf_at e]
  by_cases z : j = m.toNat
  · rw [upd_at (by omega)]
    exact hv
  · rw [dk_upd_o (by omega)]
    exact h j (by omega)
theorem y_seam_0 {f : Nat → y_S × Nat} {p : y_S × Nat} (h : (y_seam kd vl k).map f = some p) (hk : k = 0) : (vl 0).toInt = 0 := by
  subst hk
  obtain ⟨x, hx, -⟩ := Option.map_eq_some_iff.mp h
  unfold y_seam at hx
  obtain ⟨k1, h1, -⟩ := Option.bind_eq_some_iff.mp hx
  exact (g_o_iff.mp (y_own_o h1).1).2
/-- what is told of sizes stays -/
theorem GSv.same9 {i : Nat} (h : kI (GSv S i) d) (e2 : S1.2.1 2 = S.2.1 2) (e3 : S1.2.1 3 = S.2.1 3) (e8 : S1.2.1 8 = S.2.1 8) (e9 : S1.2.1 9 = S.2.1 9) (e12 : S1.2.1 12 = S.2.1 12) (e16 : S1.2.1 16 = S.2.1 16) (e20 : S1.2.2 20 = S.2.2 20) (e21 : S1.2.2 21 = S.2.2 21) : kI (GSv S1 i) d := by
  have e : GSv S1 i = GSv S i := by
    unfold GSv
    rw [e2, e3, e8, e9, e12, e16, e20, e21]
  rw [e]
  exact h
/-- what has been told, STATEMENT by STATEMENT -/
def KMN (tb : Nat → Int32) (n : Nat) (cnt f a ii : Int32) (S : dg_S) : Prop := f.toInt = 0 → ∃ d : k_D, z_at (T_kd tb n) (T_vl tb n) (k_st (T_kd tb n) (T_vl tb n)) k_0 cnt.toNatClampNeg (GSv S ii.toNatClampNeg) d (t_ix tb n a.toNatClampNeg) ∧ kI (GSv S ii.toNatClampNeg) d ∧ km d S
theorem KMN.stp (h0 : z_at (T_kd tb n) (T_vl tb n) (k_st (T_kd tb n) (T_vl tb n)) k_0 i σ d k) (hI : kI σ d) (hz : ¬ (i ≠ 0 ∧ (T_kd tb n k).toInt = 0)) (hi : i ≠ 80) (e : y_one (T_kd tb n) (T_vl tb n) i σ k = T) (hS : SOK tb n fk T S1) (hf0 : fk.toInt = 0) (p8 : S1.1 0 8 = .int f1) (p4 : S1.1 0 4 = .int a1) (hc : (cnt.toNatClampNeg : Int) = (i : Int) + 1) (F : f1.toInt = 0 → (f2.toInt = 0 → g_tk (T_kd tb n) (T_vl tb n) 59 (t_ix tb n a1.toNatClampNeg) = some (t_ix tb n a2.toNatClampNeg) ∧ (cnt.toInt = 80 → (T_kd tb n (t_ix tb n a2.toNatClampNeg)).toInt = 0)) ∧ (f2.toInt ≠ 0 → g_tk (T_kd tb n) (T_vl tb n) 59 (t_ix tb n a1.toNatClampNeg) = none ∨ (cnt.toInt = 80 ∧ ∃ k9 : Nat, g_tk (T_kd tb n) (T_vl tb n) 59 (t_ix tb n a1.toNatClampNeg) = some k9 ∧ (T_kd tb n k9).toInt ≠ 0))) (hff : f1.toInt ≠ 0 → f2.toInt ≠ 0) (m : dg_sm shM WF WA S1 S2) (h35 : (0, 35) ∉ WF) (h34 : (0, 34) ∉ WF) (hA : ∀ r, 2 ≤ r → r ≤ 21 → r ∉ WA) (fi : S2.1 0 35 = .int ii) (hd : f1.toInt = 0 → ∀ p, T = some p → km (k_st (T_kd tb n) (T_vl tb n) σ k d) S1) : KMN tb n cnt f2 a2 ii S2 := by
  intro q2
  have q1 : f1.toInt = 0 := by
    by_cases q1 : f1.toInt = 0
    · exact q1
    · exact absurd q2 (hff q1)
  obtain ⟨σ', g, h⟩ := (hS hf0 f1 a1 p8 p4).1 q1
  have a := ((F q1).1 q2).1
  have hB : ∀ r, 2 ≤ r → r ≤ 21 → r ∉ WA := hA
  have g2 := ((g.keep m h35 (hB 2 (by decide) (by decide)) (hB 3 (by decide) (by decide)) (hB 8 (by decide) (by decide)) (hB 9 (by decide) (by decide)) (hB 12 (by decide) (by decide)) (hB 16 (by decide) (by decide)) (hB 20 (by decide) (by decide)) (hB 21 (by decide) (by decide))).at fi).2.1
  refine ⟨_, ?_, ?_, (hd q1 _ h).keep m h35 h34 (fun r h1 h2 _ _ _ => hB r (by omega) (by omega))⟩
  · rw [← g2]
    exact h0.next hi hz (by rw [e, h]) a (by omega)
  · rw [← g2]
    exact kI.step (e.trans h) hI
theorem KMN.done (h : KMN tb n cnt f1 a1 ii S) (hf : f1.toInt = 0) (hc : 1 ≤ cnt.toInt) (hz : (T_kd tb n (t_ix tb n a1.toNatClampNeg)).toInt = 0) : kI (GSv S ii.toNatClampNeg) (z_all (T_kd tb n) (T_vl tb n) (k_st (T_kd tb n) (T_vl tb n)) k_0) ∧ km (z_all (T_kd tb n) (T_vl tb n) (k_st (T_kd tb n) (T_vl tb n)) k_0) S := by
  obtain ⟨d, h1, h2, h3⟩ := h hf
  rw [h1.done (by have h9 := dk_clN cnt; omega) hz]
  exact ⟨h2, h3⟩
end ZN
end
