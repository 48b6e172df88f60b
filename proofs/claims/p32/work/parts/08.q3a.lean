/-! goesOn: tests -/
set_option maxHeartbeats 8000000 in
set_option maxRecDepth 100000 in
theorem c_m_goesOn_B (l : Launch) (g : Nat → ClassId) (D : va_G) (o : Nat) (S : dg_S) (tb : Nat → Int32) (tn : Nat) (sg : Int32) (f_sg : S.1 0 3 = .int sg) (b_sg : 0 ≤ (sg).toInt ∧ (sg).toInt ≤ 3) (sa : Int32) (f_sa : S.1 0 4 = .int sa) (b_sa : 0 ≤ (sa).toInt ∧ (sa).toInt ≤ 1600) (se : Int32) (f_se : S.1 0 5 = .int se) (b_se : 0 ≤ (se).toInt ∧ (se).toInt ≤ 1600) (sl : Int32) (f_sl : S.1 0 2 = .int sl) (b_sl : 0 ≤ (sl).toInt ∧ (sl).toInt ≤ 1600) (fk : Int32) (f_fk : S.1 0 8 = .int fk) (b_fk : 0 ≤ (fk).toInt ∧ (fk).toInt ≤ 6) (va : Int32) (f_va : S.1 0 6 = .int va) (b_va : 0 ≤ (va).toInt ∧ (va).toInt ≤ 9999) (cd : Int32) (f_cd : S.1 0 34 = .int cd) (b_cd : 0 ≤ (cd).toInt ∧ (cd).toInt ≤ 1600) (dp : Int32) (f_dp : S.1 0 42 = .int dp) (b_dp : 0 ≤ (dp).toInt ∧ (dp).toInt ≤ 20) (on : Int32) (f_on : S.1 0 43 = .int on) (om : Int32) (f_om : S.1 0 45 = .int om) (b_om : 0 ≤ (om).toInt ∧ (om).toInt ≤ 500) (oo : Int32) (f_oo : S.1 0 46 = .int oo) (b_oo : 1 ≤ (oo).toInt ∧ (oo).toInt ≤ 1) (lw : Int32) (f_lw : S.1 0 36 = .int lw) (b_lw : 0 ≤ (lw).toInt ∧ (lw).toInt ≤ 2) (hlx : (sa).toInt ≤ (se).toInt ∧ (se).toInt ≤ (sl).toInt ∧ ((sg).toInt ≠ 0 → (sa).toInt + 1 ≤ (se).toInt)) (hro : (cd).toInt + (om).toInt + (dp).toInt ≤ (sa).toInt) (TK : TKM tb tn S) (ZW : ZWM S) (ZK : ZKM S) (P1 : P1M S) (HnA : ¬ ((S.2.1 23 ((dp : Int32).toNatClampNeg - 1)).toInt < 2 ∧ (g_so (T_kd tb tn) (T_vl tb tn) (t_ix tb tn (sa : Int32).toNatClampNeg) = true ∨ g_po (T_kd tb tn) (T_vl tb tn) (t_ix tb tn (sa : Int32).toNatClampNeg) = true))) (HB : ((S.2.1 22 ((dp : Int32).toNatClampNeg - 1)).toInt = 1 ∨ (S.2.1 22 ((dp : Int32).toNatClampNeg - 1)).toInt = 5 ∨ (S.2.1 22 ((dp : Int32).toNatClampNeg - 1)).toInt = 6) ∧ (((S.2.1 23 ((dp : Int32).toNatClampNeg - 1)).toInt = 0 ∧ g_co (T_kd tb tn) (T_vl tb tn) (t_ix tb tn (sa : Int32).toNatClampNeg) = true) ∨ (g_o (T_kd tb tn) (T_vl tb tn) 22 (t_ix tb tn (sa : Int32).toNatClampNeg) = true ∨ g_o (T_kd tb tn) (T_vl tb tn) 21 (t_ix tb tn (sa : Int32).toNatClampNeg) = true))) (I : CM o S) (sz : Nat) : Met l yX12_goesOn (bw yX12_goesOn cX12_goesOn 5 (some .boolean)) ({ frames := 3, cells := 0, slots := 0, locals := 77 } : Room) (dk_Pc g D (dg_w g shM o rfM S) sz [.ref (o + 0)]) (va_Qi (fun (r : Int32) S' => CM o S' ∧ dg_sm shM [(0, 3), (0, 4), (0, 5), (0, 6), (0, 7), (0, 8), (0, 9), (0, 12), (0, 34), (0, 42), (0, 43), (0, 45), (0, 46)] [18, 19, 22, 23, 24, 27] S S' ∧ (0 ≤ (r).toInt ∧ (r).toInt ≤ 1) ∧ (∃ y9_3 y9_4 y9_5 y9_8 y9_34 y9_42 y9_45 y9_46 : Int32, S'.1 0 3 = .int y9_3 ∧ S'.1 0 4 = .int y9_4 ∧ S'.1 0 5 = .int y9_5 ∧ S'.1 0 8 = .int y9_8 ∧ S'.1 0 34 = .int y9_34 ∧ S'.1 0 42 = .int y9_42 ∧ S'.1 0 45 = .int y9_45 ∧ S'.1 0 46 = .int y9_46 ∧ (((y9_4).toInt ≤ (y9_5).toInt ∧ (y9_5).toInt ≤ (sl).toInt ∧ ((y9_3).toInt ≠ 0 → (y9_4).toInt + 1 ≤ (y9_5).toInt)) ∧ (sa).toInt ≤ (y9_4).toInt ∧ ((fk).toInt ≠ 0 → (y9_8).toInt ≠ 0) ∧ (((y9_8).toInt = 0 → (r).toInt = 1 → (sa).toInt + 1 ≤ (y9_4).toInt) ∧ ((y9_8).toInt = 0 → (y9_34).toInt + (y9_45).toInt + (y9_42).toInt ≤ (y9_4).toInt)))) ∧ (∀ k9 : Int32, S'.1 0 8 = .int k9 → k9.toInt = 0 → POM S') ∧ (GOK tb tn (lw).toInt S S' r) ∧ TKM tb tn S' ∧ ZWM S' ∧ True) (dg_B g D shM o rfM) (dg_A o shM.length sz)) 0 0 (dg_A o shM.length sz) := by
  refine dg_met (cc := cX12_goesOn) (maxL := 5) (ret := (some .boolean)) (by decide) rfl (Nat.le_of_ble_eq_true rfl) ?_
  intro p e s m args below meth c A hAe harg hx hb hr hml hts hown hlocks hin hP K hS hA1 hA ST hsz ls hl
  rw [← hAe]
  have F : CallFix p m c cX12_goesOn 5 s args (bw yX12_goesOn cX12_goesOn 5 (some .boolean)) RX12 := ⟨hx, hb, hml, hown, hts⟩
  have hl : lv_has ls 5 [(0, .ref (o + 0))] := hl
  have M_0 : dg_sm shM [(0, 3), (0, 4), (0, 5), (0, 6), (0, 7), (0, 8), (0, 9), (0, 12), (0, 34), (0, 42), (0, 43), (0, 45), (0, 46)] [18, 19, 22, 23, 24, 27] S S := dg_sm.rf
  obtain ⟨Q9, hQ9⟩ : ∃ Q : State → Prop, Q = MQ below (va_Qi (fun (r : Int32) S' => CM o S' ∧ dg_sm shM [(0, 3), (0, 4), (0, 5), (0, 6), (0, 7), (0, 8), (0, 9), (0, 12), (0, 34), (0, 42), (0, 43), (0, 45), (0, 46)] [18, 19, 22, 23, 24, 27] S S' ∧ (0 ≤ (r).toInt ∧ (r).toInt ≤ 1) ∧ (∃ y9_3 y9_4 y9_5 y9_8 y9_34 y9_42 y9_45 y9_46 : Int32, S'.1 0 3 = .int y9_3 ∧ S'.1 0 4 = .int y9_4 ∧ S'.1 0 5 = .int y9_5 ∧ S'.1 0 8 = .int y9_8 ∧ S'.1 0 34 = .int y9_34 ∧ S'.1 0 42 = .int y9_42 ∧ S'.1 0 45 = .int y9_45 ∧ S'.1 0 46 = .int y9_46 ∧ (((y9_4).toInt ≤ (y9_5).toInt ∧ (y9_5).toInt ≤ (sl).toInt ∧ ((y9_3).toInt ≠ 0 → (y9_4).toInt + 1 ≤ (y9_5).toInt)) ∧ (sa).toInt ≤ (y9_4).toInt ∧ ((fk).toInt ≠ 0 → (y9_8).toInt ≠ 0) ∧ (((y9_8).toInt = 0 → (r).toInt = 1 → (sa).toInt + 1 ≤ (y9_4).toInt) ∧ ((y9_8).toInt = 0 → (y9_34).toInt + (y9_45).toInt + (y9_42).toInt ≤ (y9_4).toInt)))) ∧ (∀ k9 : Int32, S'.1 0 8 = .int k9 → k9.toInt = 0 → POM S') ∧ (GOK tb tn (lw).toInt S S' r) ∧ TKM tb tn S' ∧ ZWM S' ∧ True) (dg_B g D shM o rfM) A) args s 0 0 A := ⟨_, rfl⟩
  rw [← hQ9]
  obtain ⟨hlx_0, hlx_1, hlx_2⟩ := hlx
  have lxh_hlx_2 : m_hid ((sa).toInt ≤ (se).toInt ∧ (se).toInt ≤ (sl).toInt ∧ ((sg).toInt ≠ 0 → (sa).toInt + 1 ≤ (se).toInt)) := m_hid.mk ⟨hlx_0, hlx_1, hlx_2⟩
  have hdm_0 := PSM.dims P1 f_dp f_on f_om
  refine lv_aload_n hx hb dX12_goesOn_0 rfl (lv_at hl 0 rfl) ?_
  refine dg_callv hS hA1 hA (va_runV (As := []) (rest := []) F (c_m_lex l g D o S tb tn fk f_fk (by omega) sa f_sa (by omega) TK I s.heap.size) (cwV 0 hts (bw_V wB_310 wB_311 wB_312 wB_297 wB_309) rfl rfl rfl (by decide +kernel) ⟨Nat.le_of_ble_eq_true rfl, Nat.le_of_ble_eq_true rfl⟩) (dg_preV sM_0 rfl K ST hP hS hA1 hA) rfl rfl hl.1 rfl (lv_room (Nat.le_of_ble_eq_true rfl)) dX12_goesOn_1 ⟨Nat.le_of_ble_eq_true rfl, Nat.le_of_ble_eq_true rfl⟩) (fun S_2 hw_2 H locs hP hS => ?_)
  obtain ⟨I_2, m_2, w_2_0, -⟩ := hw_2
  have M_2 := dg_sm.tr M_0 m_2 (by decide) (by decide)
  obtain ⟨y_3, f_y_3, w_2_0⟩ := w_2_0
  have w_2_0 : ((fk).toInt ≠ 0 → (y_3).toInt = (fk).toInt) ∧ ((fk).toInt = 0 → ((y_3).toInt = 0 ↔ (T_kd tb tn (t_ix tb tn (sa : Int32).toNatClampNeg)).toInt ≠ 5)) := w_2_0
  obtain ⟨w_2_0_0, w_2_0_1⟩ := w_2_0
  have b_y_3 : 0 ≤ (y_3).toInt ∧ (y_3).toInt ≤ 6 := dg_I.intb (lo := 0) (hi := 6) I_2 sM_0 (by decide +kernel) f_y_3
  refine lv_aload_n hx hb dX12_goesOn_4 rfl (lv_at hl 0 rfl) ?_
  refine dg_get (C := RX12) (T := TX12) (N := 77) hx hb hts (fun w h => bw_mem (wU_X12 w h)) hown K hP sM_0 rfl 8 (by decide) (hts _ (bw_mem wB_303)) (fun _ h9 => h9) (v := .int y_3) f_y_3 dX12_goesOn_5 ?_
  refine lv_if_le (tgt := 13) hx hb dX12_goesOn_8 (by decide) (fun c_4 => ?_) (fun c_4 => ?_)
  · have jc_4 := dk_lec (k := 0) (by decide +kernel) c_4
    have w_2_0_0c : (fk).toInt = 0 := by omega
    clear w_2_0_0
    have w_2_0_1r := w_2_0_1 (by omega)
    clear w_2_0_1
    have hk5 := m_hid.mk (show (T_kd tb tn (t_ix tb tn (sa : Int32).toNatClampNeg)).toInt ≠ 5 from by omega)
    clear w_2_0_1r
    refine lv_aload_n hx hb dX12_goesOn_13 rfl (lv_at hl 0 rfl) ?_
    refine dg_get (C := RX12) (T := TX12) (N := 77) hx hb hts (fun w h => bw_mem (wU_X12 w h)) hown K hP sM_0 rfl 42 (by decide) (hts _ (bw_mem wB_406)) (fun _ h9 => h9) (v := .int dp) ((m_2.1 0 42 _ sM_0 (by decide)).trans f_dp) dX12_goesOn_14 ?_
    refine lv_iconst (v := 1) hx hb dX12_goesOn_17 (by decide +kernel) ?_
    refine lv_isub hx hb dX12_goesOn_18 ?_
    refine lv_topi (fun x_5 ex_5 => ?_)
    have jx_5 : (x_5).toInt = (dp).toInt - 1 := by rw [ex_5]; exact dk_subT rfl (by decide +kernel) (by omega) (by omega)
    refine lv_istore_n (lv' := [(1, .int x_5), (0, .ref (o + 0))]) hx hb dX12_goesOn_19 rfl hl (by decide) rfl (fun ls hl => ?_)
    refine lv_aload_n hx hb dX12_goesOn_20 rfl (lv_at hl 1 rfl) ?_
    refine dg_get (C := RX12) (T := TX12) (N := 77) hx hb hts (fun w h => bw_mem (wU_X12 w h)) hown K hP sM_0 rfl 37 (by decide) (hts _ (bw_mem wB_416)) (fun _ h9 => h9) (v := .ref (o + 22)) (show S_2.1 0 37 = .ref (o + 22) from dg_I.rel (d := 22) I_2 sM_0 (by decide +kernel)) dX12_goesOn_21 ?_
    refine lv_iload_n hx hb dX12_goesOn_24 rfl (lv_at hl 0 rfl) ?_
    have hin_6 : vp_in x_5 20 := (dk_inv (by omega) (by omega))
    refine dg_iald hx hb K hP sM_22 hin_6 dX12_goesOn_25 (fun x_7 ex_7 => ?_)
    have b_x_7 := dk_all_at (dg_I.row (lo := 0) (hi := 6) I_2 sM_22 (by decide +kernel)) hin_6 ex_7
    refine lv_istore_n (lv' := [(2, .int x_7), (1, .int x_5), (0, .ref (o + 0))]) hx hb dX12_goesOn_26 rfl hl (by decide) rfl (fun ls hl => ?_)
    refine lv_iload_n hx hb dX12_goesOn_27 rfl (lv_at hl 0 rfl) ?_
    refine dg_calli hS hA1 hA (va_runS (As := [.int x_7]) (rest := []) F (c_m_isTest l g D o S_2 x_7 I_2 H.size) (va_cwS 1 hts (bw_S wB_424 wB_425 wB_297 wB_423) rfl rfl rfl (by decide +kernel) ⟨Nat.le_of_ble_eq_true rfl, Nat.le_of_ble_eq_true rfl⟩) (dg_preS K ST hP hS hA1 hA) rfl rfl hl.1 rfl (lv_room (Nat.le_of_ble_eq_true rfl)) dX12_goesOn_28 ⟨Nat.le_of_ble_eq_true rfl, Nat.le_of_ble_eq_true rfl⟩) (fun x_8 S_9 hw_9 H locs hP hS => ?_)
    rw [hw_9.1] at hP
    obtain ⟨hq_9, w_9_0, w_9_1, -⟩ := hw_9
    have w_9_0 : 0 ≤ (x_8).toInt ∧ (x_8).toInt ≤ 1 := w_9_0
    have w_9_1 : (x_8).toInt = 1 ↔ ((x_7).toInt = 1 ∨ (x_7).toInt = 5 ∨ (x_7).toInt = 6) := w_9_1
    refine lv_istore_n (lv' := [(3, .int x_8), (2, .int x_7), (1, .int x_5), (0, .ref (o + 0))]) hx hb dX12_goesOn_31 rfl hl (by decide) rfl (fun ls hl => ?_)
    refine lv_aload_n hx hb dX12_goesOn_32 rfl (lv_at hl 3 rfl) ?_
    refine dg_get (C := RX12) (T := TX12) (N := 77) hx hb hts (fun w h => bw_mem (wU_X12 w h)) hown K hP sM_0 rfl 38 (by decide) (hts _ (bw_mem wB_417)) (fun _ h9 => h9) (v := .ref (o + 23)) (show S_2.1 0 38 = .ref (o + 23) from dg_I.rel (d := 23) I_2 sM_0 (by decide +kernel)) dX12_goesOn_33 ?_
    refine lv_iload_n hx hb dX12_goesOn_36 rfl (lv_at hl 2 rfl) ?_
    have hin_10 : vp_in x_5 20 := (dk_inv (by omega) (by omega))
    refine dg_iald hx hb K hP sM_23 hin_10 dX12_goesOn_37 (fun x_11 ex_11 => ?_)
    have b_x_11 := dk_all_at (dg_I.row (lo := 0) (hi := 2) I_2 sM_23 (by decide +kernel)) hin_10 ex_11
    obtain ⟨nt0, R0, TF0⟩ := TFM.start (P1M.keep P1 m_2 (by decide) (by decide) (by decide) (by decide) (by decide) (by decide) (by decide) (by decide) (by decide) (by decide) (by decide) (by decide) (by decide) (by decide) (by decide)) ((m_2.1 0 42 _ sM_0 (by decide)).trans f_dp) ((m_2.1 0 43 _ sM_0 (by decide)).trans f_on) ((m_2.1 0 45 _ sM_0 (by decide)).trans f_om) (fx := x_5) (by omega) ex_7.symm ex_11.symm
    obtain ⟨bg0, hbg0⟩ : ∃ b, b = decide ((S_2.2.1 24 (x_5 : Int32).toNatClampNeg).toInt = 1) := ⟨_, rfl⟩
    rw [← hbg0] at TF0
    clear hbg0
    have hM0 : MSv S (t_ix tb tn (sa : Int32).toNatClampNeg) true = (0, ((x_7).toInt, (x_11).toInt, bg0, nt0) :: R0, (on).toNatClampNeg, (t_ix tb tn (sa : Int32).toNatClampNeg), true) := (MSv.keep m_2 (by decide) (by decide) (by decide) (by decide) (by decide) (by decide) (by decide) (by decide)).trans TF0.ms
    replace w_9_1 := m_hid.mk w_9_1
    have hpv9 : (S.2.1 23 ((dp : Int32).toNatClampNeg - 1)).toInt = (x_11).toInt := by rw [show (dp : Int32).toNatClampNeg - 1 = (x_5 : Int32).toNatClampNeg from by have h8 := dk_clN dp; have h9 := dk_clN x_5; omega]; exact congrArg Int32.toInt ((congrFun (m_2.2 23 _ sM_23 (by decide)).1 _).symm.trans ex_11.symm)
    have hfv9 : (S.2.1 22 ((dp : Int32).toNatClampNeg - 1)).toInt = (x_7).toInt := by rw [show (dp : Int32).toNatClampNeg - 1 = (x_5 : Int32).toNatClampNeg from by have h8 := dk_clN dp; have h9 := dk_clN x_5; omega]; exact congrArg Int32.toInt ((congrFun (m_2.2 22 _ sM_22 (by decide)).1 _).symm.trans ex_7.symm)
    refine lv_iconst (v := 2) hx hb dX12_goesOn_38 (by decide +kernel) ?_
    have J_179 : ∀ (u9 : Unit), (m_hid ((x_11).toInt < 2 → g_so (T_kd tb tn) (T_vl tb tn) (t_ix tb tn (sa : Int32).toNatClampNeg) = false ∧ g_po (T_kd tb tn) (T_vl tb tn) (t_ix tb tn (sa : Int32).toNatClampNeg) = false)) → ∀ (H : Heap) (locs : List Loc), va_P D vwCl (dg_w g shM o rfM S_2) H → va_S A s.heap H locs → ∀ ls : Array Slot, lv_has ls 5 [(3, .int x_8), (2, .int x_7), (1, .int x_5), (0, .ref (o + 0))] → W p l e ({ frames := 3, cells := 0, slots := 0, locals := 77 } : Room) s m args below meth c H locs 0 0 Q9 (F0 m 188 ls []) := by
      intro u9 rel_0 H locs hP hS ls hl
      have hnop := rel_0
      refine lv_iload_n hx hb dX12_goesOn_188 rfl (lv_at hl 0 rfl) ?_
      have J_326 : ∀ (u9 : Unit), (m_hid ((x_8).toInt = 1 → (x_11).toInt = 0 → g_co (T_kd tb tn) (T_vl tb tn) (t_ix tb tn (sa : Int32).toNatClampNeg) = false)) → ∀ (H : Heap) (locs : List Loc), va_P D vwCl (dg_w g shM o rfM S_2) H → va_S A s.heap H locs → ∀ ls : Array Slot, lv_has ls 5 [(3, .int x_8), (2, .int x_7), (1, .int x_5), (0, .ref (o + 0))] → W p l e ({ frames := 3, cells := 0, slots := 0, locals := 77 } : Room) s m args below meth c H locs 0 0 Q9 (F0 m 285 ls []) := by
        intro u9 rel_0 H locs hP hS ls hl
        have hnco := rel_0
        refine lv_iload_n hx hb dX12_goesOn_285 rfl (lv_at hl 0 rfl) ?_
        have J_420 : ∀ (u9 : Unit), (m_hid ((x_8).toInt = 1 → g_o (T_kd tb tn) (T_vl tb tn) 22 (t_ix tb tn (sa : Int32).toNatClampNeg) = false ∧ g_o (T_kd tb tn) (T_vl tb tn) 21 (t_ix tb tn (sa : Int32).toNatClampNeg) = false)) → ∀ (H : Heap) (locs : List Loc), va_P D vwCl (dg_w g shM o rfM S_2) H → va_S A s.heap H locs → ∀ ls : Array Slot, lv_has ls 5 [(3, .int x_8), (2, .int x_7), (1, .int x_5), (0, .ref (o + 0))] → W p l e ({ frames := 3, cells := 0, slots := 0, locals := 77 } : Room) s m args below meth c H locs 0 0 Q9 (F0 m 400 ls []) := by
          intro u9 rel_0 H locs hP hS ls hl
          have hnao := rel_0
          have hts9 : (x_8).toInt = 1 := w_9_1.out.mpr (by have h9 := HB.1; omega)
          exact (by rcases HB.2 with ⟨q8, q9⟩ | q9 | q9; exact absurd (q9.symm.trans (hnco.out hts9 (by omega))) (by decide); exact absurd (q9.symm.trans (hnao.out hts9).1) (by decide); exact absurd (q9.symm.trans (hnao.out hts9).2) (by decide) : False).elim
        refine lv_if_eq (tgt := 400) hx hb dX12_goesOn_286 (by decide) (fun c_421 => ?_) (fun c_421 => ?_)
        · have jc_421 := dk_eqc (k := 0) (by decide +kernel) c_421
          clear w_9_1
          exact J_420 ()  (m_hid.mk (fun q9 => by exfalso; omega)) _ _ hP hS _ (lv_sub hl [0, 1, 2, 3] rfl)
        · have jc_421 := dk_neqc (k := 0) (by decide +kernel) c_421
          have jbc_421 : 1 ≤ (x_8).toInt := by omega
          clear jc_421
          have hts1 := m_hid.mk (w_9_1.out.mp (by omega))
          clear w_9_1
          refine lv_aload_n hx hb dX12_goesOn_289 rfl (lv_at hl 3 rfl) ?_
          refine lv_ldc2 hx hb hown (hts _ (bw_mem wB_347)) dX12_goesOn_290 ?_
          refine dg_calli hS hA1 hA (va_runV (As := [.long 6385252]) (rest := []) F (c_m_isWord l g D o S_2 6385252 sg ((m_2.1 0 3 _ sM_0 (by decide)).trans f_sg) (by omega) I_2 H.size) (cwV 1 hts (bw_V wB_322 wB_323 wB_324 wB_297 wB_321) rfl rfl rfl (by decide +kernel) ⟨Nat.le_of_ble_eq_true rfl, Nat.le_of_ble_eq_true rfl⟩) (dg_preV sM_0 rfl K ST hP hS hA1 hA) rfl rfl hl.1 rfl (lv_room (Nat.le_of_ble_eq_true rfl)) dX12_goesOn_293 ⟨Nat.le_of_ble_eq_true rfl, Nat.le_of_ble_eq_true rfl⟩) (fun x_422 S_423 hw_423 H locs hP hS => ?_)
          rw [hw_423.1] at hP
          obtain ⟨hq_423, w_423_0, w_423_1, -⟩ := hw_423
          try rw [hq_423] at w_423_1
          have w_423_0 : 0 ≤ (x_422).toInt ∧ (x_422).toInt ≤ 1 := w_423_0
          replace w_423_1 : ∀ w9 : Int64, S_2.1 0 7 = .long w9 → ((x_422).toInt = 1 ↔ ((sg).toInt = 1 ∧ w9.toInt = ((6385252 : Int64)).toInt)) := w_423_1
          have J_514 : ∀ (u9 : Unit), ((sg).toInt = 1) → (m_hid (g_o (T_kd tb tn) (T_vl tb tn) 22 (t_ix tb tn (sa : Int32).toNatClampNeg) = true ∨ g_o (T_kd tb tn) (T_vl tb tn) 21 (t_ix tb tn (sa : Int32).toNatClampNeg) = true)) → ∀ (H : Heap) (locs : List Loc), va_P D vwCl (dg_w g shM o rfM S_2) H → va_S A s.heap H locs → ∀ ls : Array Slot, lv_has ls 5 [(3, .int x_8), (2, .int x_7), (1, .int x_5), (0, .ref (o + 0))] → W p l e ({ frames := 3, cells := 0, slots := 0, locals := 77 } : Room) s m args below meth c H locs 0 0 Q9 (F0 m 309 ls []) := by
            intro u9 rel_0 rel_1 H locs hP hS ls hl
            clear w_423_1
            have hwd := rel_1
            refine lv_aload_n hx hb dX12_goesOn_309 rfl (lv_at hl 3 rfl) ?_
            refine dg_get (C := RX12) (T := TX12) (N := 77) hx hb hts (fun w h => bw_mem (wU_X12 w h)) hown K hP sM_0 rfl 38 (by decide) (hts _ (bw_mem wB_417)) (fun _ h9 => h9) (v := .ref (o + 23)) (show S_2.1 0 38 = .ref (o + 23) from dg_I.rel (d := 23) I_2 sM_0 (by decide +kernel)) dX12_goesOn_310 ?_
            refine lv_iload_n hx hb dX12_goesOn_313 rfl (lv_at hl 2 rfl) ?_
            have hin_515 : vp_in x_5 20 := (dk_inv (by omega) (by omega))
            refine dg_iald hx hb K hP sM_23 hin_515 dX12_goesOn_314 (fun y_516 ey_516 => ?_)
            obtain rfl : x_11 = y_516 := (ey_516.trans ex_11.symm).symm
            refine lv_if_ne (tgt := 327) hx hb dX12_goesOn_315 (by decide) (fun c_517 => ?_) (fun c_517 => ?_)
            · have jc_517 := dk_neqc (k := 0) (by decide +kernel) c_517
              have jbc_517 : 1 ≤ (x_11).toInt := by omega
              clear jc_517
              refine lv_aload_n hx hb dX12_goesOn_327 rfl (lv_at hl 3 rfl) ?_
              refine dg_get (C := RX12) (T := TX12) (N := 77) hx hb hts (fun w h => bw_mem (wU_X12 w h)) hown K hP sM_0 rfl 8 (by decide) (hts _ (bw_mem wB_303)) (fun _ h9 => h9) (v := .int y_3) f_y_3 dX12_goesOn_328 ?_
              refine lv_if_le (tgt := 336) hx hb dX12_goesOn_331 (by decide) (fun _ => ?_) (fun c => absurd (dk_lep (k := 0) (by decide +kernel) (by omega)) c)
              refine lv_aload_n hx hb dX12_goesOn_336 rfl (lv_at hl 3 rfl) ?_
              refine lv_ldc2 hx hb hown (hts _ (bw_mem wB_347)) dX12_goesOn_337 ?_
              refine dg_calli hS hA1 hA (va_runV (As := [.long 6385252]) (rest := []) F (c_m_isWord l g D o S_2 6385252 sg ((m_2.1 0 3 _ sM_0 (by decide)).trans f_sg) (by omega) I_2 H.size) (cwV 1 hts (bw_V wB_322 wB_323 wB_324 wB_297 wB_321) rfl rfl rfl (by decide +kernel) ⟨Nat.le_of_ble_eq_true rfl, Nat.le_of_ble_eq_true rfl⟩) (dg_preV sM_0 rfl K ST hP hS hA1 hA) rfl rfl hl.1 rfl (lv_room (Nat.le_of_ble_eq_true rfl)) dX12_goesOn_340 ⟨Nat.le_of_ble_eq_true rfl, Nat.le_of_ble_eq_true rfl⟩) (fun x_518 S_519 hw_519 H locs hP hS => ?_)
              rw [hw_519.1] at hP
              obtain ⟨hq_519, w_519_0, w_519_1, -⟩ := hw_519
              try rw [hq_519] at w_519_1
              have w_519_0 : 0 ≤ (x_518).toInt ∧ (x_518).toInt ≤ 1 := w_519_0
              replace w_519_1 : ∀ w9 : Int64, S_2.1 0 7 = .long w9 → ((x_518).toInt = 1 ↔ ((sg).toInt = 1 ∧ w9.toInt = ((6385252 : Int64)).toInt)) := w_519_1
              refine lv_istore (lv' := [(4, .int x_518), (3, .int x_8), (2, .int x_7), (1, .int x_5), (0, .ref (o + 0))]) hx hb dX12_goesOn_343 hl (by decide) rfl (fun ls hl => ?_)
              refine lv_aload_n hx hb dX12_goesOn_345 rfl (lv_at hl 4 rfl) ?_
              refine lv_iload hx hb dX12_goesOn_346 (lv_at hl 0 rfl) ?_
              refine lv_if_eq (tgt := 355) hx hb dX12_goesOn_348 (by decide) (fun c_520 => ?_) (fun c_520 => ?_)
              · have jc_520 := dk_eqc (k := 0) (by decide +kernel) c_520
                have qw_519_1 : g_o (T_kd tb tn) (T_vl tb tn) 22 (t_ix tb tn (sa : Int32).toNatClampNeg) = false := g_iff_f (TKM.isw (TKM.keep TK m_2 (by decide) (by decide) (by decide) (by decide) (by decide) (by decide) (by decide) (by decide)) ((m_2.1 0 3 _ sM_0 (by decide)).trans f_sg) ((m_2.1 0 4 _ sM_0 (by decide)).trans f_sa) hk5.out (j := 22) (C := 6385252) (by decide) (by decide +kernel) w_519_1) (by omega)
                clear w_519_1
                refine lv_iconst (v := 1) hx hb dX12_goesOn_355 (by decide +kernel) ?_
                have hz_521 : (1 : Int32).toInt = 1 := by decide +kernel
                refine dg_callv hS hA1 hA (va_runV (As := [.int 1]) (rest := []) F (c_m_joins l g D o S_2 1 (by decide +kernel) cd ((m_2.1 0 34 _ sM_0 (by decide)).trans f_cd) (by omega) om ((m_2.1 0 45 _ sM_0 (by decide)).trans f_om) (by omega) (by omega) (ZWM.keep ZW m_2 (by decide) (by decide) (by decide) (by decide)) (ZKM.keep ZK m_2 (by decide) (by decide)) (P1M.keep P1 m_2 (by decide) (by decide) (by decide) (by decide) (by decide) (by decide) (by decide) (by decide) (by decide) (by decide) (by decide) (by decide) (by decide) (by decide) (by decide)) I_2 H.size) (cwV 1 hts (bw_V wB_437 wB_438 wB_439 wB_297 wB_436) rfl rfl rfl (by decide +kernel) ⟨Nat.le_of_ble_eq_true rfl, Nat.le_of_ble_eq_true rfl⟩) (dg_preV sM_0 rfl K ST hP hS hA1 hA) rfl rfl hl.1 rfl (lv_room (Nat.le_of_ble_eq_true rfl)) dX12_goesOn_356 ⟨Nat.le_of_ble_eq_true rfl, Nat.le_of_ble_eq_true rfl⟩) (fun S_522 hw_522 H locs hP hS => ?_)
                obtain ⟨I_522, m_522, w_522_0, w_522_1, w_522_2, w_522_3, w_522_4, -⟩ := hw_522
                have M_522 := dg_sm.tr M_2 m_522 (by decide) (by decide)
                have hz_523 : (1 : Int32).toInt = 1 := by decide +kernel
                obtain ⟨y_524, y_525, f_y_524, f_y_525, w_522_0⟩ := w_522_0
                have w_522_0 : (y_524).toInt + (y_525).toInt = (cd).toInt + (om).toInt := w_522_0
                have b_y_524 : 0 ≤ (y_524).toInt ∧ (y_524).toInt ≤ 1600 := dg_I.intb (lo := 0) (hi := 1600) I_522 sM_0 (by decide +kernel) f_y_524
                have b_y_525 : 0 ≤ (y_525).toInt ∧ (y_525).toInt ≤ 500 := dg_I.intb (lo := 0) (hi := 500) I_522 sM_0 (by decide +kernel) f_y_525
                replace w_522_1 : TOPM S_522 (1 : Int32) := w_522_1
                obtain ⟨x_526, f_x_526, b_x_526⟩ := dg_I.int (i := 0) (k := 43) (lo := (-2147483648)) (hi := 2147483647) I_522 sM_0 (by decide +kernel)
                replace w_522_2 : JNM S_2 S_522 (1 : Int32) := w_522_2
                have TF_522 : TFM (x_7).toInt (x_11).toInt bg0 0 R0 ((on).toNatClampNeg - nt0) S_522 := (TFM.join TF0 (P1M.keep P1 m_2 (by decide) (by decide) (by decide) (by decide) (by decide) (by decide) (by decide) (by decide) (by decide) (by decide) (by decide) (by decide) (by decide) (by decide) (by decide)) ((m_2.1 0 42 _ sM_0 (by decide)).trans f_dp) ((m_2.1 0 43 _ sM_0 (by decide)).trans f_on) ((m_2.1 0 45 _ sM_0 (by decide)).trans f_om) w_522_2 w_522_1 m_522 (by decide) (by decide) (by decide) (by decide) (by decide) (by decide)).2 (by decide +kernel) (by decide +kernel)
                have hdm_526 := PSM.dims w_522_4 (((m_522.1 0 42 _ sM_0 (by decide)).trans (m_2.1 0 42 _ sM_0 (by decide))).trans f_dp) f_x_526 f_y_525
                refine lv_aload_n hx hb dX12_goesOn_359 rfl (lv_at hl 4 rfl) ?_
                refine lv_iload hx hb dX12_goesOn_360 (lv_at hl 0 rfl) ?_
                refine lv_if_eq (tgt := 370) hx hb dX12_goesOn_362 (by decide) (fun _ => ?_) (fun c => absurd (dk_eqp (k := 0) (by decide +kernel) (by omega)) c)
                refine lv_bipush (v := 42) hx hb dX12_goesOn_370 (by decide +kernel) ?_
                refine dg_callv hS hA1 hA (va_runV (As := [.int 42]) (rest := []) F (c_m_holdsBack l g D o S_522 42 y_525 f_y_525 (by omega) I_522 H.size) (cwV 1 hts (bw_V wB_427 wB_428 wB_429 wB_297 wB_426) rfl rfl rfl (by decide +kernel) ⟨Nat.le_of_ble_eq_true rfl, Nat.le_of_ble_eq_true rfl⟩) (dg_preV sM_0 rfl K ST hP hS hA1 hA) rfl rfl hl.1 rfl (lv_room (Nat.le_of_ble_eq_true rfl)) dX12_goesOn_372 ⟨Nat.le_of_ble_eq_true rfl, Nat.le_of_ble_eq_true rfl⟩) (fun S_528 hw_528 H locs hP hS => ?_)
                obtain ⟨I_528, m_528, w_528_0, w_528_1, -⟩ := hw_528
                have M_528 := dg_sm.tr M_522 m_528 (by decide) (by decide)
                have hz_529 : (42 : Int32).toInt = 42 := by decide +kernel
                obtain ⟨y_530, f_y_530, w_528_0⟩ := w_528_0
                have w_528_0 : (y_530).toInt = (y_525).toInt + 1 := w_528_0
                have b_y_530 : 0 ≤ (y_530).toInt ∧ (y_530).toInt ≤ 500 := dg_I.intb (lo := 0) (hi := 500) I_528 sM_0 (by decide +kernel) f_y_530
                replace w_528_1 : HBM S_522 S_528 (42 : Int32) := w_528_1
                have hz_531 : (42 : Int32).toInt = 42 := by decide +kernel
                have TF_528 : TFM (x_7).toInt (x_11).toInt bg0 0 R0 ((on).toNatClampNeg - nt0) S_528 := (by have h9 := TFM.hb TF_522 (((m_522.1 0 42 _ sM_0 (by decide)).trans (m_2.1 0 42 _ sM_0 (by decide))).trans f_dp) f_x_526 f_y_525 (by omega) m_528 w_528_1; rw [if_neg (by omega)] at h9; exact h9)
                refine lv_aload_n hx hb dX12_goesOn_375 rfl (lv_at hl 4 rfl) ?_
                refine dg_get (C := RX12) (T := TX12) (N := 77) hx hb hts (fun w h => bw_mem (wU_X12 w h)) hown K hP sM_0 rfl 38 (by decide) (hts _ (bw_mem wB_417)) (fun _ h9 => h9) (v := .ref (o + 23)) (show S_528.1 0 38 = .ref (o + 23) from dg_I.rel (d := 23) I_528 sM_0 (by decide +kernel)) dX12_goesOn_376 ?_
                refine lv_iload_n hx hb dX12_goesOn_379 rfl (lv_at hl 3 rfl) ?_
                refine lv_iconst (v := 0) hx hb dX12_goesOn_380 (by decide +kernel) ?_
                have hin_532 : vp_in x_5 20 := (dk_inv (by omega) (by omega))
                have hz_534 : (0 : Int32).toInt = 0 := by decide +kernel
                refine dg_iast hx hb K hP hS hA1 sM_23 hin_532 dX12_goesOn_381 (fun S_533 e_533 H locs hP hS => ?_)
                have I_533 := dg_I.ufu (lo := 0) (hi := 2) I_528 e_533 sM_23 (by decide +kernel) (show 0 ≤ ((0 : Int32)).toInt ∧ ((0 : Int32)).toInt ≤ 2 from (by decide +kernel))
                have M_533 := dg_sm.uf M_528 e_533 sM_23 (by decide)
                have hz_535 : (0 : Int32).toInt = 0 := by decide +kernel
                have hz_536 : (0 : Int32).toInt = 0 := by decide +kernel
                have TF_533 : TFM (x_7).toInt 0 bg0 0 R0 ((on).toNatClampNeg - nt0) S_533 := (by have h9 := (TFM.ph' TF_528 (((m_528.1 0 42 _ sM_0 (by decide)).trans ((m_522.1 0 42 _ sM_0 (by decide)).trans (m_2.1 0 42 _ sM_0 (by decide)))).trans f_dp) ((m_528.1 0 43 _ sM_0 (by decide)).trans f_x_526) f_y_530 (fx := x_5) (by omega) (by omega) e_533); rw [show (0 : Int32).toInt = 0 from by decide +kernel] at h9; exact h9)
                refine lv_aload_n hx hb dX12_goesOn_382 rfl (lv_at hl 4 rfl) ?_
                refine dg_get (C := RX12) (T := TX12) (N := 77) hx hb hts (fun w h => bw_mem (wU_X12 w h)) hown K hP sM_0 rfl 39 (by decide) (hts _ (bw_mem wB_418)) (fun _ h9 => h9) (v := .ref (o + 24)) (show S_533.1 0 39 = .ref (o + 24) from dg_I.rel (d := 24) I_533 sM_0 (by decide +kernel)) dX12_goesOn_383 ?_
                refine lv_iload_n hx hb dX12_goesOn_386 rfl (lv_at hl 3 rfl) ?_
                refine lv_iconst (v := 1) hx hb dX12_goesOn_387 (by decide +kernel) ?_
                have hin_537 : vp_in x_5 20 := (dk_inv (by omega) (by omega))
                have hz_539 : (1 : Int32).toInt = 1 := by decide +kernel
                refine dg_zast hx hb K hP hS hA1 sM_24 hin_537 (by decide +kernel) dX12_goesOn_388 (fun S_538 e_538 H locs hP hS => ?_)
                have I_538 := dg_I.ufu (lo := 0) (hi := 1) I_533 e_538 sM_24 (by decide +kernel) (show 0 ≤ ((1 : Int32)).toInt ∧ ((1 : Int32)).toInt ≤ 1 from (by decide +kernel))
                have M_538 := dg_sm.uf M_533 e_538 sM_24 (by decide)
                have P0_538 : P0M S_538 := P1M.andor w_522_4 (((m_522.1 0 42 _ sM_0 (by decide)).trans (m_2.1 0 42 _ sM_0 (by decide))).trans f_dp) f_x_526 f_y_525 w_522_1 m_528 w_528_1 (by omega) (fx := x_5) (by omega) e_533 e_538
                have hz_540 : (1 : Int32).toInt = 1 := by decide +kernel
                have TF_538 : TFM (x_7).toInt 0 true 0 R0 ((on).toNatClampNeg - nt0) S_538 := (by have h9 := (TFM.bg' TF_533 (((dg_uf_F e_533 0 42).trans ((m_528.1 0 42 _ sM_0 (by decide)).trans ((m_522.1 0 42 _ sM_0 (by decide)).trans (m_2.1 0 42 _ sM_0 (by decide))))).trans f_dp) (((dg_uf_F e_533 0 43).trans (m_528.1 0 43 _ sM_0 (by decide))).trans f_x_526) ((dg_uf_F e_533 0 45).trans f_y_530) (fx := x_5) (by omega) (by omega) e_538); rw [show decide ((1 : Int32).toInt = 1) = true from by decide +kernel] at h9; exact h9)
                refine lv_aload_n hx hb dX12_goesOn_389 rfl (lv_at hl 4 rfl) ?_
                refine dg_callv hS hA1 hA (va_runV (As := []) (rest := []) F (c_m_ahead l g D o S_538 tb tn se (((dg_uf_F e_538 0 5).trans ((dg_uf_F e_533 0 5).trans ((m_528.1 0 5 _ sM_0 (by decide)).trans ((m_522.1 0 5 _ sM_0 (by decide)).trans (m_2.1 0 5 _ sM_0 (by decide)))))).trans f_se) (by omega) sl (((dg_uf_F e_538 0 2).trans ((dg_uf_F e_533 0 2).trans ((m_528.1 0 2 _ sM_0 (by decide)).trans ((m_522.1 0 2 _ sM_0 (by decide)).trans (m_2.1 0 2 _ sM_0 (by decide)))))).trans f_sl) (by omega) (by omega) (TKM.keep (TKM.keep (TKM.keep (TKM.keep (TKM.keep TK m_2 (by decide) (by decide) (by decide) (by decide) (by decide) (by decide) (by decide) (by decide)) m_522 (by decide) (by decide) (by decide) (by decide) (by decide) (by decide) (by decide) (by decide)) m_528 (by decide) (by decide) (by decide) (by decide) (by decide) (by decide) (by decide) (by decide)) (dg_sm.uf (WF := []) (WA := [23]) dg_sm.rf e_533 sM_23 (by decide)) (by decide) (by decide) (by decide) (by decide) (by decide) (by decide) (by decide) (by decide)) (dg_sm.uf (WF := []) (WA := [24]) dg_sm.rf e_538 sM_24 (by decide)) (by decide) (by decide) (by decide) (by decide) (by decide) (by decide) (by decide) (by decide)).1 I_538 H.size) (cwV 0 hts (bw_V wB_318 wB_319 wB_320 wB_297 wB_317) rfl rfl rfl (by decide +kernel) ⟨Nat.le_of_ble_eq_true rfl, Nat.le_of_ble_eq_true rfl⟩) (dg_preV sM_0 rfl K ST hP hS hA1 hA) rfl rfl hl.1 rfl (lv_room (Nat.le_of_ble_eq_true rfl)) dX12_goesOn_390 ⟨Nat.le_of_ble_eq_true rfl, Nat.le_of_ble_eq_true rfl⟩) (fun S_541 hw_541 H locs hP hS => ?_)
                obtain ⟨I_541, m_541, w_541_0, w_541_1, -⟩ := hw_541
                have M_541 := dg_sm.tr M_538 m_541 (by decide) (by decide)
                obtain ⟨y_542, y_543, y_544, f_y_542, f_y_543, f_y_544, w_541_0⟩ := w_541_0
                have w_541_0 : (se).toInt ≤ (y_543).toInt ∧ (y_543).toInt ≤ (y_544).toInt ∧ (y_544).toInt ≤ (sl).toInt ∧ ((y_542).toInt ≠ 0 → (y_543).toInt + 1 ≤ (y_544).toInt) := w_541_0
                obtain ⟨w_541_0_0, w_541_0_1, w_541_0_2, w_541_0_3⟩ := w_541_0
                have lxh_w_541_0_3 : m_hid ((y_543).toInt ≤ (y_544).toInt ∧ (y_544).toInt ≤ (sl).toInt ∧ ((y_542).toInt ≠ 0 → (y_543).toInt + 1 ≤ (y_544).toInt)) := m_hid.mk ⟨w_541_0_1, w_541_0_2, w_541_0_3⟩
                have b_y_542 : 0 ≤ (y_542).toInt ∧ (y_542).toInt ≤ 3 := dg_I.intb (lo := 0) (hi := 3) I_541 sM_0 (by decide +kernel) f_y_542
                have b_y_543 : 0 ≤ (y_543).toInt ∧ (y_543).toInt ≤ 1600 := dg_I.intb (lo := 0) (hi := 1600) I_541 sM_0 (by decide +kernel) f_y_543
                have b_y_544 : 0 ≤ (y_544).toInt ∧ (y_544).toInt ≤ 1600 := dg_I.intb (lo := 0) (hi := 1600) I_541 sM_0 (by decide +kernel) f_y_544
                replace w_541_1 : TNX tb tn se S_541 := w_541_1
                obtain ⟨TK_541, nx_541, -⟩ := TKM.nx (TKM.keep (TKM.keep (TKM.keep (TKM.keep (TKM.keep TK m_2 (by decide) (by decide) (by decide) (by decide) (by decide) (by decide) (by decide) (by decide)) m_522 (by decide) (by decide) (by decide) (by decide) (by decide) (by decide) (by decide) (by decide)) m_528 (by decide) (by decide) (by decide) (by decide) (by decide) (by decide) (by decide) (by decide)) (dg_sm.uf (WF := []) (WA := [23]) dg_sm.rf e_533 sM_23 (by decide)) (by decide) (by decide) (by decide) (by decide) (by decide) (by decide) (by decide) (by decide)) (dg_sm.uf (WF := []) (WA := [24]) dg_sm.rf e_538 sM_24 (by decide)) (by decide) (by decide) (by decide) (by decide) (by decide) (by decide) (by decide) (by decide)) (((dg_uf_F e_538 0 4).trans ((dg_uf_F e_533 0 4).trans ((m_528.1 0 4 _ sM_0 (by decide)).trans ((m_522.1 0 4 _ sM_0 (by decide)).trans (m_2.1 0 4 _ sM_0 (by decide)))))).trans f_sa) (((dg_uf_F e_538 0 5).trans ((dg_uf_F e_533 0 5).trans ((m_528.1 0 5 _ sM_0 (by decide)).trans ((m_522.1 0 5 _ sM_0 (by decide)).trans (m_2.1 0 5 _ sM_0 (by decide)))))).trans f_se) w_541_1 m_541 (by decide) (by decide) f_y_543
                replace nx_541 := nx_541 (fun q9 => absurd ((TKM.zero (TKM.keep (TKM.keep (TKM.keep (TKM.keep (TKM.keep TK m_2 (by decide) (by decide) (by decide) (by decide) (by decide) (by decide) (by decide) (by decide)) m_522 (by decide) (by decide) (by decide) (by decide) (by decide) (by decide) (by decide) (by decide)) m_528 (by decide) (by decide) (by decide) (by decide) (by decide) (by decide) (by decide) (by decide)) (dg_sm.uf (WF := []) (WA := [23]) dg_sm.rf e_533 sM_23 (by decide)) (by decide) (by decide) (by decide) (by decide) (by decide) (by decide) (by decide) (by decide)) (dg_sm.uf (WF := []) (WA := [24]) dg_sm.rf e_538 sM_24 (by decide)) (by decide) (by decide) (by decide) (by decide) (by decide) (by decide) (by decide) (by decide)) (((dg_uf_F e_538 0 3).trans ((dg_uf_F e_533 0 3).trans ((m_528.1 0 3 _ sM_0 (by decide)).trans ((m_522.1 0 3 _ sM_0 (by decide)).trans (m_2.1 0 3 _ sM_0 (by decide)))))).trans f_sg) (((dg_uf_F e_538 0 4).trans ((dg_uf_F e_533 0 4).trans ((m_528.1 0 4 _ sM_0 (by decide)).trans ((m_522.1 0 4 _ sM_0 (by decide)).trans (m_2.1 0 4 _ sM_0 (by decide)))))).trans f_sa)).mpr q9) (by omega))
                refine lv_aload_n hx hb dX12_goesOn_393 rfl (lv_at hl 4 rfl) ?_
                refine lv_iconst (v := 0) hx hb dX12_goesOn_394 (by decide +kernel) ?_
                have hz_545 : (0 : Int32).toInt = 0 := by decide +kernel
                refine dg_put (ci := 12) (v := .int 0) (ty := tyX12 46) (C := RX12) (T := TX12) (N := 77) hx hb hts (fun w h => bw_mem (wU_X12 w h)) tyX12 tyX12_ok nmX12 hown K hP hS hA1 sM_0 rfl 46 (by decide) (hts _ (bw_mem wB_440)) (fun _ h9 => h9) rfl (by decide +kernel) (by decide +kernel) (by decide +kernel) dX12_goesOn_395 (fun S_546 e_546 H locs hP hS => ?_)
                have I_546 := dg_I.uFi (lo := 0) (hi := 1) I_541 e_546 sM_0 (by decide +kernel) (show 0 ≤ ((0 : Int32)).toInt ∧ ((0 : Int32)).toInt ≤ 1 from (by decide +kernel))
                have M_546 := dg_sm.uF M_541 e_546 sM_0 (by decide)
                refine lv_iconst (v := 1) hx hb dX12_goesOn_398 (by decide +kernel) ?_
                have hz_547 : (1 : Int32).toInt = 1 := by decide +kernel
                have hz_548 : (1 : Int32).toInt = 1 := by decide +kernel
                have hz_549 : (0 : Int32).toInt = 0 := by decide +kernel
                have hz_550 : (1 : Int32).toInt = 1 := by decide +kernel
                have hz_551 : (0 : Int32).toInt = 0 := by decide +kernel
                have hz_552 : (1 : Int32).toInt = 1 := by decide +kernel
                have hz_553 : (1 : Int32).toInt = 1 := by decide +kernel
                have hz_554 : (0 : Int32).toInt = 0 := by decide +kernel
                refine W.widen (k := 0) (n := 0) (Nat.le_of_ble_eq_true rfl) (Nat.le_of_ble_eq_true rfl) ?_
                rw [hQ9]
                exact dg_iret hx hb hr hlocks (by decide +kernel) hP hS ⟨I_546, M_546, (by decide +kernel), ⟨y_542, y_543, y_544, y_3, y_524, dp, y_530, 0, ((dg_uF_ne e_546 (fun z => absurd z.2 (by decide))).trans f_y_542), ((dg_uF_ne e_546 (fun z => absurd z.2 (by decide))).trans f_y_543), ((dg_uF_ne e_546 (fun z => absurd z.2 (by decide))).trans f_y_544), (((dg_uF_ne e_546 (fun z => absurd z.2 (by decide))).trans ((m_541.1 0 8 _ sM_0 (by decide)).trans ((dg_uf_F e_538 0 8).trans ((dg_uf_F e_533 0 8).trans ((m_528.1 0 8 _ sM_0 (by decide)).trans (m_522.1 0 8 _ sM_0 (by decide))))))).trans f_y_3), (((dg_uF_ne e_546 (fun z => absurd z.2 (by decide))).trans ((m_541.1 0 34 _ sM_0 (by decide)).trans ((dg_uf_F e_538 0 34).trans ((dg_uf_F e_533 0 34).trans (m_528.1 0 34 _ sM_0 (by decide)))))).trans f_y_524), (((dg_uF_ne e_546 (fun z => absurd z.2 (by decide))).trans ((m_541.1 0 42 _ sM_0 (by decide)).trans ((dg_uf_F e_538 0 42).trans ((dg_uf_F e_533 0 42).trans ((m_528.1 0 42 _ sM_0 (by decide)).trans ((m_522.1 0 42 _ sM_0 (by decide)).trans (m_2.1 0 42 _ sM_0 (by decide)))))))).trans f_dp), (((dg_uF_ne e_546 (fun z => absurd z.2 (by decide))).trans ((m_541.1 0 45 _ sM_0 (by decide)).trans ((dg_uf_F e_538 0 45).trans (dg_uf_F e_533 0 45)))).trans f_y_530), (dg_uF_at e_546), ⟨lxh_w_541_0_3.out, (by omega)⟩⟩, (fun k9 hk9 hk0 => POM.mk0 (P0M.keep (P0M.keep P0_538 m_541 (by decide) (by decide) (by decide) (by decide) (by decide) (by decide) (by decide) (by decide) (by decide) (by decide) (by decide) (by decide) (by decide) (by decide) (by decide)) (dg_sm.uF (WF := [(0, 46)]) (WA := []) dg_sm.rf e_546 sM_0 (by decide)) (by decide) (by decide) (by decide) (by decide) (by decide) (by decide) (by decide) (by decide) (by decide) (by decide) (by decide) (by decide) (by decide) (by decide) (by decide)) (dg_uF_at e_546) (by omega)), (GOK.ok f_sa (((dg_uF_ne e_546 (fun z => absurd z.2 (by decide))).trans ((m_541.1 0 8 _ sM_0 (by decide)).trans ((dg_uf_F e_538 0 8).trans ((dg_uf_F e_533 0 8).trans ((m_528.1 0 8 _ sM_0 (by decide)).trans (m_522.1 0 8 _ sM_0 (by decide))))))).trans f_y_3) ((dg_uF_ne e_546 (fun z => absurd z.2 (by decide))).trans f_y_543) (dg_uF_at e_546) (by omega) hM0 (TFM.keep (TFM.keep TF_538 m_541 (by decide) (by decide) (by decide) (by decide) (by decide) (by decide) (by decide) (by decide)) (dg_sm.uF (WF := [(0, 46)]) (WA := []) dg_sm.rf e_546 sM_0 (by decide)) (by decide) (by decide) (by decide) (by decide) (by decide) (by decide) (by decide) (by decide)) (m_st_t.trans (m_go_and (m_tst_iff.mpr hts1.out) hnop.out (by omega) hwd.out)) (by omega) (by decide +kernel) (by first | decide +kernel | exact decide_eq_true (by omega))), (TKM.keep TK_541 (dg_sm.uF (WF := [(0, 46)]) (WA := []) dg_sm.rf e_546 sM_0 (by decide)) (by decide) (by decide) (by decide) (by decide) (by decide) (by decide) (by decide) (by decide)), (ZWM.keep (ZWM.keep (ZWM.keep (ZWM.keep (ZWM.keep w_522_3 m_528 (by decide) (by decide) (by decide) (by decide)) (dg_sm.uf (WF := []) (WA := [23]) dg_sm.rf e_533 sM_23 (by decide)) (by decide) (by decide) (by decide) (by decide)) (dg_sm.uf (WF := []) (WA := [24]) dg_sm.rf e_538 sM_24 (by decide)) (by decide) (by decide) (by decide) (by decide)) m_541 (by decide) (by decide) (by decide) (by decide)) (dg_sm.uF (WF := [(0, 46)]) (WA := []) dg_sm.rf e_546 sM_0 (by decide)) (by decide) (by decide) (by decide) (by decide)), trivial⟩ dX12_goesOn_399
              · have jc_520 := dk_neqc (k := 0) (by decide +kernel) c_520
                have jbc_520 : 1 ≤ (x_518).toInt := by omega
                clear jc_520
                have qw_519_1 : g_o (T_kd tb tn) (T_vl tb tn) 22 (t_ix tb tn (sa : Int32).toNatClampNeg) = true := (TKM.isw (TKM.keep TK m_2 (by decide) (by decide) (by decide) (by decide) (by decide) (by decide) (by decide) (by decide)) ((m_2.1 0 3 _ sM_0 (by decide)).trans f_sg) ((m_2.1 0 4 _ sM_0 (by decide)).trans f_sa) hk5.out (j := 22) (C := 6385252) (by decide) (by decide +kernel) w_519_1).mp (by omega)
                obtain ⟨x_555, f_x_555⟩ := dg_I.long (i := 0) (k := 7) I_2 sM_0 (by decide +kernel)
                have w_519_1_r : (sg).toInt = 1 := by obtain ⟨w9, hw9⟩ : ∃ w9, S_2.1 0 7 = .long w9 := ⟨_, f_x_555⟩; exact ((w_519_1 w9 hw9).mp (by omega)).1
                clear w_519_1
                have hlx_2r := hlx_2 (by omega)
                clear hlx_2
                refine lv_iconst (v := 2) hx hb dX12_goesOn_351 (by decide +kernel) ?_
                refine lv_goto (tgt := 356) hx hb dX12_goesOn_352 (by decide) ?_
                have hz_556 : (2 : Int32).toInt = 2 := by decide +kernel
                refine dg_callv hS hA1 hA (va_runV (As := [.int 2]) (rest := []) F (c_m_joins l g D o S_2 2 (by decide +kernel) cd ((m_2.1 0 34 _ sM_0 (by decide)).trans f_cd) (by omega) om ((m_2.1 0 45 _ sM_0 (by decide)).trans f_om) (by omega) (by omega) (ZWM.keep ZW m_2 (by decide) (by decide) (by decide) (by decide)) (ZKM.keep ZK m_2 (by decide) (by decide)) (P1M.keep P1 m_2 (by decide) (by decide) (by decide) (by decide) (by decide) (by decide) (by decide) (by decide) (by decide) (by decide) (by decide) (by decide) (by decide) (by decide) (by decide)) I_2 H.size) (cwV 1 hts (bw_V wB_437 wB_438 wB_439 wB_297 wB_436) rfl rfl rfl (by decide +kernel) ⟨Nat.le_of_ble_eq_true rfl, Nat.le_of_ble_eq_true rfl⟩) (dg_preV sM_0 rfl K ST hP hS hA1 hA) rfl rfl hl.1 rfl (lv_room (Nat.le_of_ble_eq_true rfl)) dX12_goesOn_356 ⟨Nat.le_of_ble_eq_true rfl, Nat.le_of_ble_eq_true rfl⟩) (fun S_557 hw_557 H locs hP hS => ?_)
                obtain ⟨I_557, m_557, w_557_0, w_557_1, w_557_2, w_557_3, w_557_4, -⟩ := hw_557
                have M_557 := dg_sm.tr M_2 m_557 (by decide) (by decide)
                have hz_558 : (2 : Int32).toInt = 2 := by decide +kernel
                obtain ⟨y_559, y_560, f_y_559, f_y_560, w_557_0⟩ := w_557_0
                have w_557_0 : (y_559).toInt + (y_560).toInt = (cd).toInt + (om).toInt := w_557_0
                have b_y_559 : 0 ≤ (y_559).toInt ∧ (y_559).toInt ≤ 1600 := dg_I.intb (lo := 0) (hi := 1600) I_557 sM_0 (by decide +kernel) f_y_559
                have b_y_560 : 0 ≤ (y_560).toInt ∧ (y_560).toInt ≤ 500 := dg_I.intb (lo := 0) (hi := 500) I_557 sM_0 (by decide +kernel) f_y_560
                replace w_557_1 : TOPM S_557 (2 : Int32) := w_557_1
                obtain ⟨x_561, f_x_561, b_x_561⟩ := dg_I.int (i := 0) (k := 43) (lo := (-2147483648)) (hi := 2147483647) I_557 sM_0 (by decide +kernel)
                replace w_557_2 : JNM S_2 S_557 (2 : Int32) := w_557_2
                have TF_557 : TFM (x_7).toInt (x_11).toInt bg0 0 R0 ((on).toNatClampNeg - nt0) S_557 := (TFM.join TF0 (P1M.keep P1 m_2 (by decide) (by decide) (by decide) (by decide) (by decide) (by decide) (by decide) (by decide) (by decide) (by decide) (by decide) (by decide) (by decide) (by decide) (by decide)) ((m_2.1 0 42 _ sM_0 (by decide)).trans f_dp) ((m_2.1 0 43 _ sM_0 (by decide)).trans f_on) ((m_2.1 0 45 _ sM_0 (by decide)).trans f_om) w_557_2 w_557_1 m_557 (by decide) (by decide) (by decide) (by decide) (by decide) (by decide)).2 (by decide +kernel) (by decide +kernel)
                have hdm_561 := PSM.dims w_557_4 (((m_557.1 0 42 _ sM_0 (by decide)).trans (m_2.1 0 42 _ sM_0 (by decide))).trans f_dp) f_x_561 f_y_560
                refine lv_aload_n hx hb dX12_goesOn_359 rfl (lv_at hl 4 rfl) ?_
                refine lv_iload hx hb dX12_goesOn_360 (lv_at hl 0 rfl) ?_
                refine lv_if_eq (tgt := 370) hx hb dX12_goesOn_362 (by decide) (fun c => absurd c (fun z => absurd (dk_eqc (k := 0) (by decide +kernel) z) (by omega))) (fun _ => ?_)
                refine lv_bipush (v := 41) hx hb dX12_goesOn_365 (by decide +kernel) ?_
                refine lv_goto (tgt := 372) hx hb dX12_goesOn_367 (by decide) ?_
                refine dg_callv hS hA1 hA (va_runV (As := [.int 41]) (rest := []) F (c_m_holdsBack l g D o S_557 41 y_560 f_y_560 (by omega) I_557 H.size) (cwV 1 hts (bw_V wB_427 wB_428 wB_429 wB_297 wB_426) rfl rfl rfl (by decide +kernel) ⟨Nat.le_of_ble_eq_true rfl, Nat.le_of_ble_eq_true rfl⟩) (dg_preV sM_0 rfl K ST hP hS hA1 hA) rfl rfl hl.1 rfl (lv_room (Nat.le_of_ble_eq_true rfl)) dX12_goesOn_372 ⟨Nat.le_of_ble_eq_true rfl, Nat.le_of_ble_eq_true rfl⟩) (fun S_563 hw_563 H locs hP hS => ?_)
                obtain ⟨I_563, m_563, w_563_0, w_563_1, -⟩ := hw_563
                have M_563 := dg_sm.tr M_557 m_563 (by decide) (by decide)
                have hz_564 : (41 : Int32).toInt = 41 := by decide +kernel
                obtain ⟨y_565, f_y_565, w_563_0⟩ := w_563_0
                have w_563_0 : (y_565).toInt = (y_560).toInt + 1 := w_563_0
                have b_y_565 : 0 ≤ (y_565).toInt ∧ (y_565).toInt ≤ 500 := dg_I.intb (lo := 0) (hi := 500) I_563 sM_0 (by decide +kernel) f_y_565
                replace w_563_1 : HBM S_557 S_563 (41 : Int32) := w_563_1
                have hz_566 : (41 : Int32).toInt = 41 := by decide +kernel
                have TF_563 : TFM (x_7).toInt (x_11).toInt bg0 0 R0 ((on).toNatClampNeg - nt0) S_563 := (by have h9 := TFM.hb TF_557 (((m_557.1 0 42 _ sM_0 (by decide)).trans (m_2.1 0 42 _ sM_0 (by decide))).trans f_dp) f_x_561 f_y_560 (by omega) m_563 w_563_1; rw [if_neg (by omega)] at h9; exact h9)
                refine lv_aload_n hx hb dX12_goesOn_375 rfl (lv_at hl 4 rfl) ?_
                refine dg_get (C := RX12) (T := TX12) (N := 77) hx hb hts (fun w h => bw_mem (wU_X12 w h)) hown K hP sM_0 rfl 38 (by decide) (hts _ (bw_mem wB_417)) (fun _ h9 => h9) (v := .ref (o + 23)) (show S_563.1 0 38 = .ref (o + 23) from dg_I.rel (d := 23) I_563 sM_0 (by decide +kernel)) dX12_goesOn_376 ?_
                refine lv_iload_n hx hb dX12_goesOn_379 rfl (lv_at hl 3 rfl) ?_
                refine lv_iconst (v := 0) hx hb dX12_goesOn_380 (by decide +kernel) ?_
                have hin_567 : vp_in x_5 20 := (dk_inv (by omega) (by omega))
                have hz_569 : (0 : Int32).toInt = 0 := by decide +kernel
                refine dg_iast hx hb K hP hS hA1 sM_23 hin_567 dX12_goesOn_381 (fun S_568 e_568 H locs hP hS => ?_)
                have I_568 := dg_I.ufu (lo := 0) (hi := 2) I_563 e_568 sM_23 (by decide +kernel) (show 0 ≤ ((0 : Int32)).toInt ∧ ((0 : Int32)).toInt ≤ 2 from (by decide +kernel))
                have M_568 := dg_sm.uf M_563 e_568 sM_23 (by decide)
                have hz_570 : (0 : Int32).toInt = 0 := by decide +kernel
                have hz_571 : (0 : Int32).toInt = 0 := by decide +kernel
                have TF_568 : TFM (x_7).toInt 0 bg0 0 R0 ((on).toNatClampNeg - nt0) S_568 := (by have h9 := (TFM.ph' TF_563 (((m_563.1 0 42 _ sM_0 (by decide)).trans ((m_557.1 0 42 _ sM_0 (by decide)).trans (m_2.1 0 42 _ sM_0 (by decide)))).trans f_dp) ((m_563.1 0 43 _ sM_0 (by decide)).trans f_x_561) f_y_565 (fx := x_5) (by omega) (by omega) e_568); rw [show (0 : Int32).toInt = 0 from by decide +kernel] at h9; exact h9)
                refine lv_aload_n hx hb dX12_goesOn_382 rfl (lv_at hl 4 rfl) ?_
                refine dg_get (C := RX12) (T := TX12) (N := 77) hx hb hts (fun w h => bw_mem (wU_X12 w h)) hown K hP sM_0 rfl 39 (by decide) (hts _ (bw_mem wB_418)) (fun _ h9 => h9) (v := .ref (o + 24)) (show S_568.1 0 39 = .ref (o + 24) from dg_I.rel (d := 24) I_568 sM_0 (by decide +kernel)) dX12_goesOn_383 ?_
                refine lv_iload_n hx hb dX12_goesOn_386 rfl (lv_at hl 3 rfl) ?_
                refine lv_iconst (v := 1) hx hb dX12_goesOn_387 (by decide +kernel) ?_
                have hin_572 : vp_in x_5 20 := (dk_inv (by omega) (by omega))
                have hz_574 : (1 : Int32).toInt = 1 := by decide +kernel
                refine dg_zast hx hb K hP hS hA1 sM_24 hin_572 (by decide +kernel) dX12_goesOn_388 (fun S_573 e_573 H locs hP hS => ?_)
                have I_573 := dg_I.ufu (lo := 0) (hi := 1) I_568 e_573 sM_24 (by decide +kernel) (show 0 ≤ ((1 : Int32)).toInt ∧ ((1 : Int32)).toInt ≤ 1 from (by decide +kernel))
                have M_573 := dg_sm.uf M_568 e_573 sM_24 (by decide)
                have P0_573 : P0M S_573 := P1M.andor w_557_4 (((m_557.1 0 42 _ sM_0 (by decide)).trans (m_2.1 0 42 _ sM_0 (by decide))).trans f_dp) f_x_561 f_y_560 w_557_1 m_563 w_563_1 (by omega) (fx := x_5) (by omega) e_568 e_573
                have hz_575 : (1 : Int32).toInt = 1 := by decide +kernel
                have TF_573 : TFM (x_7).toInt 0 true 0 R0 ((on).toNatClampNeg - nt0) S_573 := (by have h9 := (TFM.bg' TF_568 (((dg_uf_F e_568 0 42).trans ((m_563.1 0 42 _ sM_0 (by decide)).trans ((m_557.1 0 42 _ sM_0 (by decide)).trans (m_2.1 0 42 _ sM_0 (by decide))))).trans f_dp) (((dg_uf_F e_568 0 43).trans (m_563.1 0 43 _ sM_0 (by decide))).trans f_x_561) ((dg_uf_F e_568 0 45).trans f_y_565) (fx := x_5) (by omega) (by omega) e_573); rw [show decide ((1 : Int32).toInt = 1) = true from by decide +kernel] at h9; exact h9)
                refine lv_aload_n hx hb dX12_goesOn_389 rfl (lv_at hl 4 rfl) ?_
                refine dg_callv hS hA1 hA (va_runV (As := []) (rest := []) F (c_m_ahead l g D o S_573 tb tn se (((dg_uf_F e_573 0 5).trans ((dg_uf_F e_568 0 5).trans ((m_563.1 0 5 _ sM_0 (by decide)).trans ((m_557.1 0 5 _ sM_0 (by decide)).trans (m_2.1 0 5 _ sM_0 (by decide)))))).trans f_se) (by omega) sl (((dg_uf_F e_573 0 2).trans ((dg_uf_F e_568 0 2).trans ((m_563.1 0 2 _ sM_0 (by decide)).trans ((m_557.1 0 2 _ sM_0 (by decide)).trans (m_2.1 0 2 _ sM_0 (by decide)))))).trans f_sl) (by omega) (by omega) (TKM.keep (TKM.keep (TKM.keep (TKM.keep (TKM.keep TK m_2 (by decide) (by decide) (by decide) (by decide) (by decide) (by decide) (by decide) (by decide)) m_557 (by decide) (by decide) (by decide) (by decide) (by decide) (by decide) (by decide) (by decide)) m_563 (by decide) (by decide) (by decide) (by decide) (by decide) (by decide) (by decide) (by decide)) (dg_sm.uf (WF := []) (WA := [23]) dg_sm.rf e_568 sM_23 (by decide)) (by decide) (by decide) (by decide) (by decide) (by decide) (by decide) (by decide) (by decide)) (dg_sm.uf (WF := []) (WA := [24]) dg_sm.rf e_573 sM_24 (by decide)) (by decide) (by decide) (by decide) (by decide) (by decide) (by decide) (by decide) (by decide)).1 I_573 H.size) (cwV 0 hts (bw_V wB_318 wB_319 wB_320 wB_297 wB_317) rfl rfl rfl (by decide +kernel) ⟨Nat.le_of_ble_eq_true rfl, Nat.le_of_ble_eq_true rfl⟩) (dg_preV sM_0 rfl K ST hP hS hA1 hA) rfl rfl hl.1 rfl (lv_room (Nat.le_of_ble_eq_true rfl)) dX12_goesOn_390 ⟨Nat.le_of_ble_eq_true rfl, Nat.le_of_ble_eq_true rfl⟩) (fun S_576 hw_576 H locs hP hS => ?_)
                obtain ⟨I_576, m_576, w_576_0, w_576_1, -⟩ := hw_576
                have M_576 := dg_sm.tr M_573 m_576 (by decide) (by decide)
                obtain ⟨y_577, y_578, y_579, f_y_577, f_y_578, f_y_579, w_576_0⟩ := w_576_0
                have w_576_0 : (se).toInt ≤ (y_578).toInt ∧ (y_578).toInt ≤ (y_579).toInt ∧ (y_579).toInt ≤ (sl).toInt ∧ ((y_577).toInt ≠ 0 → (y_578).toInt + 1 ≤ (y_579).toInt) := w_576_0
                obtain ⟨w_576_0_0, w_576_0_1, w_576_0_2, w_576_0_3⟩ := w_576_0
                have lxh_w_576_0_3 : m_hid ((y_578).toInt ≤ (y_579).toInt ∧ (y_579).toInt ≤ (sl).toInt ∧ ((y_577).toInt ≠ 0 → (y_578).toInt + 1 ≤ (y_579).toInt)) := m_hid.mk ⟨w_576_0_1, w_576_0_2, w_576_0_3⟩
                have b_y_577 : 0 ≤ (y_577).toInt ∧ (y_577).toInt ≤ 3 := dg_I.intb (lo := 0) (hi := 3) I_576 sM_0 (by decide +kernel) f_y_577
                have b_y_578 : 0 ≤ (y_578).toInt ∧ (y_578).toInt ≤ 1600 := dg_I.intb (lo := 0) (hi := 1600) I_576 sM_0 (by decide +kernel) f_y_578
                have b_y_579 : 0 ≤ (y_579).toInt ∧ (y_579).toInt ≤ 1600 := dg_I.intb (lo := 0) (hi := 1600) I_576 sM_0 (by decide +kernel) f_y_579
                replace w_576_1 : TNX tb tn se S_576 := w_576_1
                obtain ⟨TK_576, nx_576, -⟩ := TKM.nx (TKM.keep (TKM.keep (TKM.keep (TKM.keep (TKM.keep TK m_2 (by decide) (by decide) (by decide) (by decide) (by decide) (by decide) (by decide) (by decide)) m_557 (by decide) (by decide) (by decide) (by decide) (by decide) (by decide) (by decide) (by decide)) m_563 (by decide) (by decide) (by decide) (by decide) (by decide) (by decide) (by decide) (by decide)) (dg_sm.uf (WF := []) (WA := [23]) dg_sm.rf e_568 sM_23 (by decide)) (by decide) (by decide) (by decide) (by decide) (by decide) (by decide) (by decide) (by decide)) (dg_sm.uf (WF := []) (WA := [24]) dg_sm.rf e_573 sM_24 (by decide)) (by decide) (by decide) (by decide) (by decide) (by decide) (by decide) (by decide) (by decide)) (((dg_uf_F e_573 0 4).trans ((dg_uf_F e_568 0 4).trans ((m_563.1 0 4 _ sM_0 (by decide)).trans ((m_557.1 0 4 _ sM_0 (by decide)).trans (m_2.1 0 4 _ sM_0 (by decide)))))).trans f_sa) (((dg_uf_F e_573 0 5).trans ((dg_uf_F e_568 0 5).trans ((m_563.1 0 5 _ sM_0 (by decide)).trans ((m_557.1 0 5 _ sM_0 (by decide)).trans (m_2.1 0 5 _ sM_0 (by decide)))))).trans f_se) w_576_1 m_576 (by decide) (by decide) f_y_578
                replace nx_576 := nx_576 (fun q9 => absurd ((TKM.zero (TKM.keep (TKM.keep (TKM.keep (TKM.keep (TKM.keep TK m_2 (by decide) (by decide) (by decide) (by decide) (by decide) (by decide) (by decide) (by decide)) m_557 (by decide) (by decide) (by decide) (by decide) (by decide) (by decide) (by decide) (by decide)) m_563 (by decide) (by decide) (by decide) (by decide) (by decide) (by decide) (by decide) (by decide)) (dg_sm.uf (WF := []) (WA := [23]) dg_sm.rf e_568 sM_23 (by decide)) (by decide) (by decide) (by decide) (by decide) (by decide) (by decide) (by decide) (by decide)) (dg_sm.uf (WF := []) (WA := [24]) dg_sm.rf e_573 sM_24 (by decide)) (by decide) (by decide) (by decide) (by decide) (by decide) (by decide) (by decide) (by decide)) (((dg_uf_F e_573 0 3).trans ((dg_uf_F e_568 0 3).trans ((m_563.1 0 3 _ sM_0 (by decide)).trans ((m_557.1 0 3 _ sM_0 (by decide)).trans (m_2.1 0 3 _ sM_0 (by decide)))))).trans f_sg) (((dg_uf_F e_573 0 4).trans ((dg_uf_F e_568 0 4).trans ((m_563.1 0 4 _ sM_0 (by decide)).trans ((m_557.1 0 4 _ sM_0 (by decide)).trans (m_2.1 0 4 _ sM_0 (by decide)))))).trans f_sa)).mpr q9) (by omega))
                refine lv_aload_n hx hb dX12_goesOn_393 rfl (lv_at hl 4 rfl) ?_
                refine lv_iconst (v := 0) hx hb dX12_goesOn_394 (by decide +kernel) ?_
                have hz_580 : (0 : Int32).toInt = 0 := by decide +kernel
                refine dg_put (ci := 12) (v := .int 0) (ty := tyX12 46) (C := RX12) (T := TX12) (N := 77) hx hb hts (fun w h => bw_mem (wU_X12 w h)) tyX12 tyX12_ok nmX12 hown K hP hS hA1 sM_0 rfl 46 (by decide) (hts _ (bw_mem wB_440)) (fun _ h9 => h9) rfl (by decide +kernel) (by decide +kernel) (by decide +kernel) dX12_goesOn_395 (fun S_581 e_581 H locs hP hS => ?_)
                have I_581 := dg_I.uFi (lo := 0) (hi := 1) I_576 e_581 sM_0 (by decide +kernel) (show 0 ≤ ((0 : Int32)).toInt ∧ ((0 : Int32)).toInt ≤ 1 from (by decide +kernel))
                have M_581 := dg_sm.uF M_576 e_581 sM_0 (by decide)
                refine lv_iconst (v := 1) hx hb dX12_goesOn_398 (by decide +kernel) ?_
                have hz_582 : (1 : Int32).toInt = 1 := by decide +kernel
                have hz_583 : (1 : Int32).toInt = 1 := by decide +kernel
                have hz_584 : (0 : Int32).toInt = 0 := by decide +kernel
                have hz_585 : (1 : Int32).toInt = 1 := by decide +kernel
                have hz_586 : (0 : Int32).toInt = 0 := by decide +kernel
                have hz_587 : (1 : Int32).toInt = 1 := by decide +kernel
                have hz_588 : (1 : Int32).toInt = 1 := by decide +kernel
                have hz_589 : (0 : Int32).toInt = 0 := by decide +kernel
                refine W.widen (k := 0) (n := 0) (Nat.le_of_ble_eq_true rfl) (Nat.le_of_ble_eq_true rfl) ?_
                rw [hQ9]
                exact dg_iret hx hb hr hlocks (by decide +kernel) hP hS ⟨I_581, M_581, (by decide +kernel), ⟨y_577, y_578, y_579, y_3, y_559, dp, y_565, 0, ((dg_uF_ne e_581 (fun z => absurd z.2 (by decide))).trans f_y_577), ((dg_uF_ne e_581 (fun z => absurd z.2 (by decide))).trans f_y_578), ((dg_uF_ne e_581 (fun z => absurd z.2 (by decide))).trans f_y_579), (((dg_uF_ne e_581 (fun z => absurd z.2 (by decide))).trans ((m_576.1 0 8 _ sM_0 (by decide)).trans ((dg_uf_F e_573 0 8).trans ((dg_uf_F e_568 0 8).trans ((m_563.1 0 8 _ sM_0 (by decide)).trans (m_557.1 0 8 _ sM_0 (by decide))))))).trans f_y_3), (((dg_uF_ne e_581 (fun z => absurd z.2 (by decide))).trans ((m_576.1 0 34 _ sM_0 (by decide)).trans ((dg_uf_F e_573 0 34).trans ((dg_uf_F e_568 0 34).trans (m_563.1 0 34 _ sM_0 (by decide)))))).trans f_y_559), (((dg_uF_ne e_581 (fun z => absurd z.2 (by decide))).trans ((m_576.1 0 42 _ sM_0 (by decide)).trans ((dg_uf_F e_573 0 42).trans ((dg_uf_F e_568 0 42).trans ((m_563.1 0 42 _ sM_0 (by decide)).trans ((m_557.1 0 42 _ sM_0 (by decide)).trans (m_2.1 0 42 _ sM_0 (by decide)))))))).trans f_dp), (((dg_uF_ne e_581 (fun z => absurd z.2 (by decide))).trans ((m_576.1 0 45 _ sM_0 (by decide)).trans ((dg_uf_F e_573 0 45).trans (dg_uf_F e_568 0 45)))).trans f_y_565), (dg_uF_at e_581), ⟨lxh_w_576_0_3.out, (by omega)⟩⟩, (fun k9 hk9 hk0 => POM.mk0 (P0M.keep (P0M.keep P0_573 m_576 (by decide) (by decide) (by decide) (by decide) (by decide) (by decide) (by decide) (by decide) (by decide) (by decide) (by decide) (by decide) (by decide) (by decide) (by decide)) (dg_sm.uF (WF := [(0, 46)]) (WA := []) dg_sm.rf e_581 sM_0 (by decide)) (by decide) (by decide) (by decide) (by decide) (by decide) (by decide) (by decide) (by decide) (by decide) (by decide) (by decide) (by decide) (by decide) (by decide) (by decide)) (dg_uF_at e_581) (by omega)), (GOK.ok f_sa (((dg_uF_ne e_581 (fun z => absurd z.2 (by decide))).trans ((m_576.1 0 8 _ sM_0 (by decide)).trans ((dg_uf_F e_573 0 8).trans ((dg_uf_F e_568 0 8).trans ((m_563.1 0 8 _ sM_0 (by decide)).trans (m_557.1 0 8 _ sM_0 (by decide))))))).trans f_y_3) ((dg_uF_ne e_581 (fun z => absurd z.2 (by decide))).trans f_y_578) (dg_uF_at e_581) (by omega) hM0 (TFM.keep (TFM.keep TF_573 m_576 (by decide) (by decide) (by decide) (by decide) (by decide) (by decide) (by decide) (by decide)) (dg_sm.uF (WF := [(0, 46)]) (WA := []) dg_sm.rf e_581 sM_0 (by decide)) (by decide) (by decide) (by decide) (by decide) (by decide) (by decide) (by decide) (by decide)) (m_st_t.trans (m_go_and (m_tst_iff.mpr hts1.out) hnop.out (by omega) hwd.out)) (by omega) (by decide +kernel) (by first | decide +kernel | exact decide_eq_true (by omega))), (TKM.keep TK_576 (dg_sm.uF (WF := [(0, 46)]) (WA := []) dg_sm.rf e_581 sM_0 (by decide)) (by decide) (by decide) (by decide) (by decide) (by decide) (by decide) (by decide) (by decide)), (ZWM.keep (ZWM.keep (ZWM.keep (ZWM.keep (ZWM.keep w_557_3 m_563 (by decide) (by decide) (by decide) (by decide)) (dg_sm.uf (WF := []) (WA := [23]) dg_sm.rf e_568 sM_23 (by decide)) (by decide) (by decide) (by decide) (by decide)) (dg_sm.uf (WF := []) (WA := [24]) dg_sm.rf e_573 sM_24 (by decide)) (by decide) (by decide) (by decide) (by decide)) m_576 (by decide) (by decide) (by decide) (by decide)) (dg_sm.uF (WF := [(0, 46)]) (WA := []) dg_sm.rf e_581 sM_0 (by decide)) (by decide) (by decide) (by decide) (by decide)), trivial⟩ dX12_goesOn_399
            · have jc_517 := dk_eqc (k := 0) (by decide +kernel) c_517
              refine lv_aload_n hx hb dX12_goesOn_318 rfl (lv_at hl 3 rfl) ?_
              refine lv_iconst (v := 1) hx hb dX12_goesOn_319 (by decide +kernel) ?_
              refine lv_aload_n hx hb dX12_goesOn_320 rfl (lv_at hl 3 rfl) ?_
              refine dg_get (C := RX12) (T := TX12) (N := 77) hx hb hts (fun w h => bw_mem (wU_X12 w h)) hown K hP sM_0 rfl 4 (by decide) (hts _ (bw_mem wB_291)) (fun _ h9 => h9) (v := .int sa) ((m_2.1 0 4 _ sM_0 (by decide)).trans f_sa) dX12_goesOn_321 ?_
              have hz_590 : (1 : Int32).toInt = 1 := by decide +kernel
              refine dg_callv hS hA1 hA (va_runV (As := [.int 1, .int sa]) (rest := []) F (c_m_blame l g D o S_2 1 (by decide +kernel) sa y_3 f_y_3 (by omega) I_2 H.size) (cwV 2 hts (bw_V wB_306 wB_307 wB_308 wB_297 wB_305) rfl rfl rfl (by decide +kernel) ⟨Nat.le_of_ble_eq_true rfl, Nat.le_of_ble_eq_true rfl⟩) (dg_preV sM_0 rfl K ST hP hS hA1 hA) rfl rfl hl.1 rfl (lv_room (Nat.le_of_ble_eq_true rfl)) dX12_goesOn_324 ⟨Nat.le_of_ble_eq_true rfl, Nat.le_of_ble_eq_true rfl⟩) (fun S_591 hw_591 H locs hP hS => ?_)
              obtain ⟨I_591, m_591, w_591_0, -⟩ := hw_591
              have M_591 := dg_sm.tr M_2 m_591 (by decide) (by decide)
              have hz_592 : (1 : Int32).toInt = 1 := by decide +kernel
              obtain ⟨y_593, f_y_593, w_591_0⟩ := w_591_0
              have w_591_0 : ((y_3).toInt ≠ 0 → (y_593).toInt = (y_3).toInt) ∧ ((y_3).toInt = 0 → (y_593).toInt = ((1 : Int32)).toInt) := w_591_0
              obtain ⟨w_591_0_0, w_591_0_1⟩ := w_591_0
              clear w_591_0_0
              have w_591_0_1r := w_591_0_1 (by omega)
              clear w_591_0_1
              have b_y_593 : 0 ≤ (y_593).toInt ∧ (y_593).toInt ≤ 6 := dg_I.intb (lo := 0) (hi := 6) I_591 sM_0 (by decide +kernel) f_y_593
              have hbl_y_593 : 1 ≤ (y_593).toInt := by omega
              refine lv_aload_n hx hb dX12_goesOn_327 rfl (lv_at hl 3 rfl) ?_
              refine dg_get (C := RX12) (T := TX12) (N := 77) hx hb hts (fun w h => bw_mem (wU_X12 w h)) hown K hP sM_0 rfl 8 (by decide) (hts _ (bw_mem wB_303)) (fun _ h9 => h9) (v := .int y_593) f_y_593 dX12_goesOn_328 ?_
              refine lv_if_le (tgt := 336) hx hb dX12_goesOn_331 (by decide) (fun c => absurd c (fun z => absurd (dk_lec (k := 0) (by decide +kernel) z) (by omega))) (fun _ => ?_)
              refine lv_iconst (v := 0) hx hb dX12_goesOn_334 (by decide +kernel) ?_
              have hz_594 : (0 : Int32).toInt = 0 := by decide +kernel
              have hz_595 : (0 : Int32).toInt = 0 := by decide +kernel
              have hz_596 : (0 : Int32).toInt = 0 := by decide +kernel
              have hz_597 : (0 : Int32).toInt = 0 := by decide +kernel
              have hz_598 : (0 : Int32).toInt = 0 := by decide +kernel
              refine W.widen (k := 0) (n := 0) (Nat.le_of_ble_eq_true rfl) (Nat.le_of_ble_eq_true rfl) ?_
              rw [hQ9]
              exact dg_iret hx hb hr hlocks (by decide +kernel) hP hS ⟨I_591, M_591, (by decide +kernel), ⟨sg, sa, se, y_593, cd, dp, om, oo, (((m_591.1 0 3 _ sM_0 (by decide)).trans (m_2.1 0 3 _ sM_0 (by decide))).trans f_sg), (((m_591.1 0 4 _ sM_0 (by decide)).trans (m_2.1 0 4 _ sM_0 (by decide))).trans f_sa), (((m_591.1 0 5 _ sM_0 (by decide)).trans (m_2.1 0 5 _ sM_0 (by decide))).trans f_se), f_y_593, (((m_591.1 0 34 _ sM_0 (by decide)).trans (m_2.1 0 34 _ sM_0 (by decide))).trans f_cd), (((m_591.1 0 42 _ sM_0 (by decide)).trans (m_2.1 0 42 _ sM_0 (by decide))).trans f_dp), (((m_591.1 0 45 _ sM_0 (by decide)).trans (m_2.1 0 45 _ sM_0 (by decide))).trans f_om), (((m_591.1 0 46 _ sM_0 (by decide)).trans (m_2.1 0 46 _ sM_0 (by decide))).trans f_oo), ⟨lxh_hlx_2.out, (by omega)⟩⟩, (fun k9 hk9 hk0 => by have q9 := (f_y_593).symm.trans hk9; cases q9; omega), (GOK.no f_sa f_fk f_y_593 (by omega) (fun h0 => Or.inl (by rw [hM0]; exact m_st_t.trans (m_go_bad hnop.out (Or.inl ⟨(m_tst_iff.mpr hts1.out), by omega, by rcases hwd.out with q9 | q9 <;> exact g_co_w q9⟩))))), (TKM.keep (TKM.keep TK m_2 (by decide) (by decide) (by decide) (by decide) (by decide) (by decide) (by decide) (by decide)) m_591 (by decide) (by decide) (by decide) (by decide) (by decide) (by decide) (by decide) (by decide)), (ZWM.keep (ZWM.keep ZW m_2 (by decide) (by decide) (by decide) (by decide)) m_591 (by decide) (by decide) (by decide) (by decide)), trivial⟩ dX12_goesOn_335
          refine lv_if_ne (tgt := 309) hx hb dX12_goesOn_296 (by decide) (fun c_599 => ?_) (fun c_599 => ?_)
          · have jc_599 := dk_neqc (k := 0) (by decide +kernel) c_599
            have jbc_599 : 1 ≤ (x_422).toInt := by omega
            clear jc_599
            have qw_423_1 : g_o (T_kd tb tn) (T_vl tb tn) 22 (t_ix tb tn (sa : Int32).toNatClampNeg) = true := (TKM.isw (TKM.keep TK m_2 (by decide) (by decide) (by decide) (by decide) (by decide) (by decide) (by decide) (by decide)) ((m_2.1 0 3 _ sM_0 (by decide)).trans f_sg) ((m_2.1 0 4 _ sM_0 (by decide)).trans f_sa) hk5.out (j := 22) (C := 6385252) (by decide) (by decide +kernel) w_423_1).mp (by omega)
            obtain ⟨x_600, f_x_600⟩ := dg_I.long (i := 0) (k := 7) I_2 sM_0 (by decide +kernel)
            have w_423_1_r : (sg).toInt = 1 := by obtain ⟨w9, hw9⟩ : ∃ w9, S_2.1 0 7 = .long w9 := ⟨_, f_x_600⟩; exact ((w_423_1 w9 hw9).mp (by omega)).1
            clear w_423_1
            have hlx_2r := hlx_2 (by omega)
            clear hlx_2
            exact J_514 ()  (by omega) (m_hid.mk (Or.inl qw_423_1)) _ _ hP hS _ (lv_sub hl [0, 1, 2, 3] rfl)
          · have jc_599 := dk_eqc (k := 0) (by decide +kernel) c_599
            have qw_423_1 : g_o (T_kd tb tn) (T_vl tb tn) 22 (t_ix tb tn (sa : Int32).toNatClampNeg) = false := g_iff_f (TKM.isw (TKM.keep TK m_2 (by decide) (by decide) (by decide) (by decide) (by decide) (by decide) (by decide) (by decide)) ((m_2.1 0 3 _ sM_0 (by decide)).trans f_sg) ((m_2.1 0 4 _ sM_0 (by decide)).trans f_sa) hk5.out (j := 22) (C := 6385252) (by decide) (by decide +kernel) w_423_1) (by omega)
            clear w_423_1
            refine lv_aload_n hx hb dX12_goesOn_299 rfl (lv_at hl 3 rfl) ?_
            refine lv_ldc2 hx hb hown (hts _ (bw_mem wB_346)) dX12_goesOn_300 ?_
            refine dg_calli hS hA1 hA (va_runV (As := [.long 28530]) (rest := []) F (c_m_isWord l g D o S_2 28530 sg ((m_2.1 0 3 _ sM_0 (by decide)).trans f_sg) (by omega) I_2 H.size) (cwV 1 hts (bw_V wB_322 wB_323 wB_324 wB_297 wB_321) rfl rfl rfl (by decide +kernel) ⟨Nat.le_of_ble_eq_true rfl, Nat.le_of_ble_eq_true rfl⟩) (dg_preV sM_0 rfl K ST hP hS hA1 hA) rfl rfl hl.1 rfl (lv_room (Nat.le_of_ble_eq_true rfl)) dX12_goesOn_303 ⟨Nat.le_of_ble_eq_true rfl, Nat.le_of_ble_eq_true rfl⟩) (fun x_601 S_602 hw_602 H locs hP hS => ?_)
            rw [hw_602.1] at hP
            obtain ⟨hq_602, w_602_0, w_602_1, -⟩ := hw_602
            try rw [hq_602] at w_602_1
            have w_602_0 : 0 ≤ (x_601).toInt ∧ (x_601).toInt ≤ 1 := w_602_0
            replace w_602_1 : ∀ w9 : Int64, S_2.1 0 7 = .long w9 → ((x_601).toInt = 1 ↔ ((sg).toInt = 1 ∧ w9.toInt = ((28530 : Int64)).toInt)) := w_602_1
            refine lv_if_eq (tgt := 400) hx hb dX12_goesOn_306 (by decide) (fun c_603 => ?_) (fun c_603 => ?_)
            · have jc_603 := dk_eqc (k := 0) (by decide +kernel) c_603
              have qw_602_1 : g_o (T_kd tb tn) (T_vl tb tn) 21 (t_ix tb tn (sa : Int32).toNatClampNeg) = false := g_iff_f (TKM.isw (TKM.keep TK m_2 (by decide) (by decide) (by decide) (by decide) (by decide) (by decide) (by decide) (by decide)) ((m_2.1 0 3 _ sM_0 (by decide)).trans f_sg) ((m_2.1 0 4 _ sM_0 (by decide)).trans f_sa) hk5.out (j := 21) (C := 28530) (by decide) (by decide +kernel) w_602_1) (by omega)
              clear w_602_1
              exact J_420 ()  (m_hid.mk (fun _ => ⟨qw_423_1, qw_602_1⟩)) _ _ hP hS _ (lv_sub hl [0, 1, 2, 3] rfl)
            · have jc_603 := dk_neqc (k := 0) (by decide +kernel) c_603
              have jbc_603 : 1 ≤ (x_601).toInt := by omega
              clear jc_603
              have qw_602_1 : g_o (T_kd tb tn) (T_vl tb tn) 21 (t_ix tb tn (sa : Int32).toNatClampNeg) = true := (TKM.isw (TKM.keep TK m_2 (by decide) (by decide) (by decide) (by decide) (by decide) (by decide) (by decide) (by decide)) ((m_2.1 0 3 _ sM_0 (by decide)).trans f_sg) ((m_2.1 0 4 _ sM_0 (by decide)).trans f_sa) hk5.out (j := 21) (C := 28530) (by decide) (by decide +kernel) w_602_1).mp (by omega)
              obtain ⟨x_604, f_x_604⟩ := dg_I.long (i := 0) (k := 7) I_2 sM_0 (by decide +kernel)
              have w_602_1_r : (sg).toInt = 1 := by obtain ⟨w9, hw9⟩ : ∃ w9, S_2.1 0 7 = .long w9 := ⟨_, f_x_604⟩; exact ((w_602_1 w9 hw9).mp (by omega)).1
              clear w_602_1
              have hlx_2r := hlx_2 (by omega)
              clear hlx_2
              exact J_514 ()  (by omega) (m_hid.mk (Or.inr qw_602_1)) _ _ hP hS _ (lv_sub hl [0, 1, 2, 3] rfl)
      refine lv_if_eq (tgt := 285) hx hb dX12_goesOn_189 (by decide) (fun c_605 => ?_) (fun c_605 => ?_)
      · have jc_605 := dk_eqc (k := 0) (by decide +kernel) c_605
        clear w_9_1
        exact J_326 ()  (m_hid.mk (fun q8 q9 => by exfalso; omega)) _ _ hP hS _ (lv_sub hl [0, 1, 2, 3] rfl)
      · have jc_605 := dk_neqc (k := 0) (by decide +kernel) c_605
        have jbc_605 : 1 ≤ (x_8).toInt := by omega
        clear jc_605
        have hts1 := m_hid.mk (w_9_1.out.mp (by omega))
        clear w_9_1
        refine lv_aload_n hx hb dX12_goesOn_192 rfl (lv_at hl 3 rfl) ?_
        refine dg_get (C := RX12) (T := TX12) (N := 77) hx hb hts (fun w h => bw_mem (wU_X12 w h)) hown K hP sM_0 rfl 38 (by decide) (hts _ (bw_mem wB_417)) (fun _ h9 => h9) (v := .ref (o + 23)) (show S_2.1 0 38 = .ref (o + 23) from dg_I.rel (d := 23) I_2 sM_0 (by decide +kernel)) dX12_goesOn_193 ?_
        refine lv_iload_n hx hb dX12_goesOn_196 rfl (lv_at hl 2 rfl) ?_
        have hin_606 : vp_in x_5 20 := (dk_inv (by omega) (by omega))
        refine dg_iald hx hb K hP sM_23 hin_606 dX12_goesOn_197 (fun y_607 ey_607 => ?_)
        obtain rfl : x_11 = y_607 := (ey_607.trans ex_11.symm).symm
        refine lv_if_ne (tgt := 285) hx hb dX12_goesOn_198 (by decide) (fun c_608 => ?_) (fun c_608 => ?_)
        · have jc_608 := dk_neqc (k := 0) (by decide +kernel) c_608
          have jbc_608 : 1 ≤ (x_11).toInt := by omega
          clear jc_608
          exact J_326 ()  (m_hid.mk (fun q8 q9 => by exfalso; omega)) _ _ hP hS _ (lv_sub hl [0, 1, 2, 3] rfl)
        · have jc_608 := dk_eqc (k := 0) (by decide +kernel) c_608
          refine lv_aload_n hx hb dX12_goesOn_201 rfl (lv_at hl 3 rfl) ?_
          refine lv_bipush (v := 60) hx hb dX12_goesOn_202 (by decide +kernel) ?_
          refine dg_calli hS hA1 hA (va_runV (As := [.int 60]) (rest := []) F (c_m_isSign l g D o S_2 60 sg ((m_2.1 0 3 _ sM_0 (by decide)).trans f_sg) (by omega) va ((m_2.1 0 6 _ sM_0 (by decide)).trans f_va) (by omega) I_2 H.size) (cwV 1 hts (bw_V wB_314 wB_315 wB_316 wB_297 wB_313) rfl rfl rfl (by decide +kernel) ⟨Nat.le_of_ble_eq_true rfl, Nat.le_of_ble_eq_true rfl⟩) (dg_preV sM_0 rfl K ST hP hS hA1 hA) rfl rfl hl.1 rfl (lv_room (Nat.le_of_ble_eq_true rfl)) dX12_goesOn_204 ⟨Nat.le_of_ble_eq_true rfl, Nat.le_of_ble_eq_true rfl⟩) (fun x_609 S_610 hw_610 H locs hP hS => ?_)
          rw [hw_610.1] at hP
          obtain ⟨hq_610, w_610_0, w_610_1, -⟩ := hw_610
          have hz_611 : (60 : Int32).toInt = 60 := by decide +kernel
          have w_610_0 : 0 ≤ (x_609).toInt ∧ (x_609).toInt ≤ 1 := w_610_0
          have w_610_1 : (x_609).toInt = 1 ↔ ((sg).toInt = 3 ∧ (va).toInt = ((60 : Int32)).toInt) := w_610_1
          have J_658 : ∀ (u9 : Unit), ((sg).toInt = 3) → (m_hid (g_co (T_kd tb tn) (T_vl tb tn) (t_ix tb tn (sa : Int32).toNatClampNeg) = true)) → ∀ (H : Heap) (locs : List Loc), va_P D vwCl (dg_w g shM o rfM S_2) H → va_S A s.heap H locs → ∀ ls : Array Slot, lv_has ls 5 [(3, .int x_8), (2, .int x_7), (1, .int x_5), (0, .ref (o + 0))] → W p l e ({ frames := 3, cells := 0, slots := 0, locals := 77 } : Room) s m args below meth c H locs 0 0 Q9 (F0 m 228 ls []) := by
            intro u9 rel_0 rel_1 H locs hP hS ls hl
            clear w_610_1
            have hcmp := rel_1
            refine lv_aload_n hx hb dX12_goesOn_228 rfl (lv_at hl 3 rfl) ?_
            refine lv_iconst (v := 5) hx hb dX12_goesOn_229 (by decide +kernel) ?_
            have hz_659 : (5 : Int32).toInt = 5 := by decide +kernel
            refine dg_callv hS hA1 hA (va_runV (As := [.int 5]) (rest := []) F (c_m_joins l g D o S_2 5 (by decide +kernel) cd ((m_2.1 0 34 _ sM_0 (by decide)).trans f_cd) (by omega) om ((m_2.1 0 45 _ sM_0 (by decide)).trans f_om) (by omega) (by omega) (ZWM.keep ZW m_2 (by decide) (by decide) (by decide) (by decide)) (ZKM.keep ZK m_2 (by decide) (by decide)) (P1M.keep P1 m_2 (by decide) (by decide) (by decide) (by decide) (by decide) (by decide) (by decide) (by decide) (by decide) (by decide) (by decide) (by decide) (by decide) (by decide) (by decide)) I_2 H.size) (cwV 1 hts (bw_V wB_437 wB_438 wB_439 wB_297 wB_436) rfl rfl rfl (by decide +kernel) ⟨Nat.le_of_ble_eq_true rfl, Nat.le_of_ble_eq_true rfl⟩) (dg_preV sM_0 rfl K ST hP hS hA1 hA) rfl rfl hl.1 rfl (lv_room (Nat.le_of_ble_eq_true rfl)) dX12_goesOn_230 ⟨Nat.le_of_ble_eq_true rfl, Nat.le_of_ble_eq_true rfl⟩) (fun S_660 hw_660 H locs hP hS => ?_)
            obtain ⟨I_660, m_660, w_660_0, w_660_1, w_660_2, w_660_3, w_660_4, -⟩ := hw_660
            have M_660 := dg_sm.tr M_2 m_660 (by decide) (by decide)
            have hz_661 : (5 : Int32).toInt = 5 := by decide +kernel
            obtain ⟨y_662, y_663, f_y_662, f_y_663, w_660_0⟩ := w_660_0
            have w_660_0 : (y_662).toInt + (y_663).toInt = (cd).toInt + (om).toInt := w_660_0
            have b_y_662 : 0 ≤ (y_662).toInt ∧ (y_662).toInt ≤ 1600 := dg_I.intb (lo := 0) (hi := 1600) I_660 sM_0 (by decide +kernel) f_y_662
            have b_y_663 : 0 ≤ (y_663).toInt ∧ (y_663).toInt ≤ 500 := dg_I.intb (lo := 0) (hi := 500) I_660 sM_0 (by decide +kernel) f_y_663
            replace w_660_1 : TOPM S_660 (5 : Int32) := w_660_1
            obtain ⟨x_664, f_x_664, b_x_664⟩ := dg_I.int (i := 0) (k := 43) (lo := (-2147483648)) (hi := 2147483647) I_660 sM_0 (by decide +kernel)
            replace w_660_2 : JNM S_2 S_660 (5 : Int32) := w_660_2
            have TF_660 : TFM (x_7).toInt (x_11).toInt bg0 nt0 R0 (on).toNatClampNeg S_660 := (TFM.join TF0 (P1M.keep P1 m_2 (by decide) (by decide) (by decide) (by decide) (by decide) (by decide) (by decide) (by decide) (by decide) (by decide) (by decide) (by decide) (by decide) (by decide) (by decide)) ((m_2.1 0 42 _ sM_0 (by decide)).trans f_dp) ((m_2.1 0 43 _ sM_0 (by decide)).trans f_on) ((m_2.1 0 45 _ sM_0 (by decide)).trans f_om) w_660_2 w_660_1 m_660 (by decide) (by decide) (by decide) (by decide) (by decide) (by decide)).1 (by decide +kernel)
            have hdm_664 := PSM.dims w_660_4 (((m_660.1 0 42 _ sM_0 (by decide)).trans (m_2.1 0 42 _ sM_0 (by decide))).trans f_dp) f_x_664 f_y_663
            refine lv_aload_n hx hb dX12_goesOn_233 rfl (lv_at hl 3 rfl) ?_
            refine lv_aload_n hx hb dX12_goesOn_234 rfl (lv_at hl 3 rfl) ?_
            refine lv_bipush (v := 60) hx hb dX12_goesOn_235 (by decide +kernel) ?_
            refine dg_calli hS hA1 hA (va_runV (As := [.int 60]) (rest := [.ref (o + 0)]) F (c_m_isSign l g D o S_660 60 sg (((m_660.1 0 3 _ sM_0 (by decide)).trans (m_2.1 0 3 _ sM_0 (by decide))).trans f_sg) (by omega) va (((m_660.1 0 6 _ sM_0 (by decide)).trans (m_2.1 0 6 _ sM_0 (by decide))).trans f_va) (by omega) I_660 H.size) (cwV 1 hts (bw_V wB_314 wB_315 wB_316 wB_297 wB_313) rfl rfl rfl (by decide +kernel) ⟨Nat.le_of_ble_eq_true rfl, Nat.le_of_ble_eq_true rfl⟩) (dg_preV sM_0 rfl K ST hP hS hA1 hA) rfl rfl hl.1 rfl (lv_room (Nat.le_of_ble_eq_true rfl)) dX12_goesOn_237 ⟨Nat.le_of_ble_eq_true rfl, Nat.le_of_ble_eq_true rfl⟩) (fun x_666 S_667 hw_667 H locs hP hS => ?_)
            rw [hw_667.1] at hP
            obtain ⟨hq_667, w_667_0, w_667_1, -⟩ := hw_667
            have hz_668 : (60 : Int32).toInt = 60 := by decide +kernel
            have w_667_0 : 0 ≤ (x_666).toInt ∧ (x_666).toInt ≤ 1 := w_667_0
            have w_667_1 : (x_666).toInt = 1 ↔ ((sg).toInt = 3 ∧ (va).toInt = ((60 : Int32)).toInt) := w_667_1
            have J_696 : ∀ (x_674 : Int32), (38 ≤ (x_674).toInt ∧ (x_674).toInt ≤ 40) → ∀ (H : Heap) (locs : List Loc), va_P D vwCl (dg_w g shM o rfM S_660) H → va_S A s.heap H locs → ∀ ls : Array Slot, lv_has ls 5 [(3, .int x_8), (2, .int x_7), (1, .int x_5), (0, .ref (o + 0))] → W p l e ({ frames := 3, cells := 0, slots := 0, locals := 77 } : Room) s m args below meth c H locs 0 0 Q9 (F0 m 264 ls [.int x_674, .ref (o + 0)]) := by
              intro x_674 b_x_674 H locs hP hS ls hl
              clear w_667_1
              refine dg_callv hS hA1 hA (va_runV (As := [.int x_674]) (rest := []) F (c_m_holdsBack l g D o S_660 x_674 y_663 f_y_663 (by omega) I_660 H.size) (cwV 1 hts (bw_V wB_427 wB_428 wB_429 wB_297 wB_426) rfl rfl rfl (by decide +kernel) ⟨Nat.le_of_ble_eq_true rfl, Nat.le_of_ble_eq_true rfl⟩) (dg_preV sM_0 rfl K ST hP hS hA1 hA) rfl rfl hl.1 rfl (lv_room (Nat.le_of_ble_eq_true rfl)) dX12_goesOn_264 ⟨Nat.le_of_ble_eq_true rfl, Nat.le_of_ble_eq_true rfl⟩) (fun S_697 hw_697 H locs hP hS => ?_)
              obtain ⟨I_697, m_697, w_697_0, w_697_1, -⟩ := hw_697
              have M_697 := dg_sm.tr M_660 m_697 (by decide) (by decide)
              obtain ⟨y_698, f_y_698, w_697_0⟩ := w_697_0
              have w_697_0 : (y_698).toInt = (y_663).toInt + 1 := w_697_0
              have b_y_698 : 0 ≤ (y_698).toInt ∧ (y_698).toInt ≤ 500 := dg_I.intb (lo := 0) (hi := 500) I_697 sM_0 (by decide +kernel) f_y_698
              replace w_697_1 : HBM S_660 S_697 x_674 := w_697_1
              have TF_697 : TFM (x_7).toInt (x_11).toInt bg0 nt0 R0 (on).toNatClampNeg S_697 := (by have h9 := TFM.hb TF_660 (((m_660.1 0 42 _ sM_0 (by decide)).trans (m_2.1 0 42 _ sM_0 (by decide))).trans f_dp) f_x_664 f_y_663 (by omega) m_697 w_697_1; rw [if_neg (by omega)] at h9; exact h9)
              have hts2 := hts1.out
              refine lv_aload_n hx hb dX12_goesOn_267 rfl (lv_at hl 3 rfl) ?_
              refine dg_get (C := RX12) (T := TX12) (N := 77) hx hb hts (fun w h => bw_mem (wU_X12 w h)) hown K hP sM_0 rfl 38 (by decide) (hts _ (bw_mem wB_417)) (fun _ h9 => h9) (v := .ref (o + 23)) (show S_697.1 0 38 = .ref (o + 23) from dg_I.rel (d := 23) I_697 sM_0 (by decide +kernel)) dX12_goesOn_268 ?_
              refine lv_iload_n hx hb dX12_goesOn_271 rfl (lv_at hl 2 rfl) ?_
              refine lv_iconst (v := 1) hx hb dX12_goesOn_272 (by decide +kernel) ?_
              have hin_699 : vp_in x_5 20 := (dk_inv (by omega) (by omega))
              have hz_701 : (1 : Int32).toInt = 1 := by decide +kernel
              refine dg_iast hx hb K hP hS hA1 sM_23 hin_699 dX12_goesOn_273 (fun S_700 e_700 H locs hP hS => ?_)
              have I_700 := dg_I.ufu (lo := 0) (hi := 2) I_697 e_700 sM_23 (by decide +kernel) (show 0 ≤ ((1 : Int32)).toInt ∧ ((1 : Int32)).toInt ≤ 2 from (by decide +kernel))
              have M_700 := dg_sm.uf M_697 e_700 sM_23 (by decide)
              have hz_702 : (1 : Int32).toInt = 1 := by decide +kernel
              have P0_700 : P0M S_700 := P1M.cmp w_660_4 (((m_660.1 0 42 _ sM_0 (by decide)).trans (m_2.1 0 42 _ sM_0 (by decide))).trans f_dp) f_x_664 f_y_663 w_660_1 (by omega) m_697 w_697_1 (by omega) (fx := x_5) (by omega) ((congrFun (m_660.2 22 _ sM_22 (by decide)).1 _).trans ex_7.symm) (by unfold dk_ts; omega) (by rw [((congrFun (m_660.2 23 _ sM_23 (by decide)).1 _).trans ex_11.symm)]; omega) e_700 (by omega)
              have hz_703 : (1 : Int32).toInt = 1 := by decide +kernel
              have TF_700 : TFM (x_7).toInt 1 bg0 nt0 R0 (on).toNatClampNeg S_700 := (by have h9 := (TFM.ph' TF_697 (((m_697.1 0 42 _ sM_0 (by decide)).trans ((m_660.1 0 42 _ sM_0 (by decide)).trans (m_2.1 0 42 _ sM_0 (by decide)))).trans f_dp) ((m_697.1 0 43 _ sM_0 (by decide)).trans f_x_664) f_y_698 (fx := x_5) (by omega) (by omega) e_700); rw [show (1 : Int32).toInt = 1 from by decide +kernel] at h9; exact h9)
              clear hts2
              refine lv_aload_n hx hb dX12_goesOn_274 rfl (lv_at hl 3 rfl) ?_
              refine dg_callv hS hA1 hA (va_runV (As := []) (rest := []) F (c_m_ahead l g D o S_700 tb tn se (((dg_uf_F e_700 0 5).trans ((m_697.1 0 5 _ sM_0 (by decide)).trans ((m_660.1 0 5 _ sM_0 (by decide)).trans (m_2.1 0 5 _ sM_0 (by decide))))).trans f_se) (by omega) sl (((dg_uf_F e_700 0 2).trans ((m_697.1 0 2 _ sM_0 (by decide)).trans ((m_660.1 0 2 _ sM_0 (by decide)).trans (m_2.1 0 2 _ sM_0 (by decide))))).trans f_sl) (by omega) (by omega) (TKM.keep (TKM.keep (TKM.keep (TKM.keep TK m_2 (by decide) (by decide) (by decide) (by decide) (by decide) (by decide) (by decide) (by decide)) m_660 (by decide) (by decide) (by decide) (by decide) (by decide) (by decide) (by decide) (by decide)) m_697 (by decide) (by decide) (by decide) (by decide) (by decide) (by decide) (by decide) (by decide)) (dg_sm.uf (WF := []) (WA := [23]) dg_sm.rf e_700 sM_23 (by decide)) (by decide) (by decide) (by decide) (by decide) (by decide) (by decide) (by decide) (by decide)).1 I_700 H.size) (cwV 0 hts (bw_V wB_318 wB_319 wB_320 wB_297 wB_317) rfl rfl rfl (by decide +kernel) ⟨Nat.le_of_ble_eq_true rfl, Nat.le_of_ble_eq_true rfl⟩) (dg_preV sM_0 rfl K ST hP hS hA1 hA) rfl rfl hl.1 rfl (lv_room (Nat.le_of_ble_eq_true rfl)) dX12_goesOn_275 ⟨Nat.le_of_ble_eq_true rfl, Nat.le_of_ble_eq_true rfl⟩) (fun S_704 hw_704 H locs hP hS => ?_)
              obtain ⟨I_704, m_704, w_704_0, w_704_1, -⟩ := hw_704
              have M_704 := dg_sm.tr M_700 m_704 (by decide) (by decide)
              obtain ⟨y_705, y_706, y_707, f_y_705, f_y_706, f_y_707, w_704_0⟩ := w_704_0
              have w_704_0 : (se).toInt ≤ (y_706).toInt ∧ (y_706).toInt ≤ (y_707).toInt ∧ (y_707).toInt ≤ (sl).toInt ∧ ((y_705).toInt ≠ 0 → (y_706).toInt + 1 ≤ (y_707).toInt) := w_704_0
              obtain ⟨w_704_0_0, w_704_0_1, w_704_0_2, w_704_0_3⟩ := w_704_0
              have lxh_w_704_0_3 : m_hid ((y_706).toInt ≤ (y_707).toInt ∧ (y_707).toInt ≤ (sl).toInt ∧ ((y_705).toInt ≠ 0 → (y_706).toInt + 1 ≤ (y_707).toInt)) := m_hid.mk ⟨w_704_0_1, w_704_0_2, w_704_0_3⟩
              have b_y_705 : 0 ≤ (y_705).toInt ∧ (y_705).toInt ≤ 3 := dg_I.intb (lo := 0) (hi := 3) I_704 sM_0 (by decide +kernel) f_y_705
              have b_y_706 : 0 ≤ (y_706).toInt ∧ (y_706).toInt ≤ 1600 := dg_I.intb (lo := 0) (hi := 1600) I_704 sM_0 (by decide +kernel) f_y_706
              have b_y_707 : 0 ≤ (y_707).toInt ∧ (y_707).toInt ≤ 1600 := dg_I.intb (lo := 0) (hi := 1600) I_704 sM_0 (by decide +kernel) f_y_707
              replace w_704_1 : TNX tb tn se S_704 := w_704_1
              obtain ⟨TK_704, nx_704, -⟩ := TKM.nx (TKM.keep (TKM.keep (TKM.keep (TKM.keep TK m_2 (by decide) (by decide) (by decide) (by decide) (by decide) (by decide) (by decide) (by decide)) m_660 (by decide) (by decide) (by decide) (by decide) (by decide) (by decide) (by decide) (by decide)) m_697 (by decide) (by decide) (by decide) (by decide) (by decide) (by decide) (by decide) (by decide)) (dg_sm.uf (WF := []) (WA := [23]) dg_sm.rf e_700 sM_23 (by decide)) (by decide) (by decide) (by decide) (by decide) (by decide) (by decide) (by decide) (by decide)) (((dg_uf_F e_700 0 4).trans ((m_697.1 0 4 _ sM_0 (by decide)).trans ((m_660.1 0 4 _ sM_0 (by decide)).trans (m_2.1 0 4 _ sM_0 (by decide))))).trans f_sa) (((dg_uf_F e_700 0 5).trans ((m_697.1 0 5 _ sM_0 (by decide)).trans ((m_660.1 0 5 _ sM_0 (by decide)).trans (m_2.1 0 5 _ sM_0 (by decide))))).trans f_se) w_704_1 m_704 (by decide) (by decide) f_y_706
              replace nx_704 := nx_704 (fun q9 => absurd ((TKM.zero (TKM.keep (TKM.keep (TKM.keep (TKM.keep TK m_2 (by decide) (by decide) (by decide) (by decide) (by decide) (by decide) (by decide) (by decide)) m_660 (by decide) (by decide) (by decide) (by decide) (by decide) (by decide) (by decide) (by decide)) m_697 (by decide) (by decide) (by decide) (by decide) (by decide) (by decide) (by decide) (by decide)) (dg_sm.uf (WF := []) (WA := [23]) dg_sm.rf e_700 sM_23 (by decide)) (by decide) (by decide) (by decide) (by decide) (by decide) (by decide) (by decide) (by decide)) (((dg_uf_F e_700 0 3).trans ((m_697.1 0 3 _ sM_0 (by decide)).trans ((m_660.1 0 3 _ sM_0 (by decide)).trans (m_2.1 0 3 _ sM_0 (by decide))))).trans f_sg) (((dg_uf_F e_700 0 4).trans ((m_697.1 0 4 _ sM_0 (by decide)).trans ((m_660.1 0 4 _ sM_0 (by decide)).trans (m_2.1 0 4 _ sM_0 (by decide))))).trans f_sa)).mpr q9) (by omega))
              refine lv_aload_n hx hb dX12_goesOn_278 rfl (lv_at hl 3 rfl) ?_
              refine lv_iconst (v := 0) hx hb dX12_goesOn_279 (by decide +kernel) ?_
              have hz_708 : (0 : Int32).toInt = 0 := by decide +kernel
              refine dg_put (ci := 12) (v := .int 0) (ty := tyX12 46) (C := RX12) (T := TX12) (N := 77) hx hb hts (fun w h => bw_mem (wU_X12 w h)) tyX12 tyX12_ok nmX12 hown K hP hS hA1 sM_0 rfl 46 (by decide) (hts _ (bw_mem wB_440)) (fun _ h9 => h9) rfl (by decide +kernel) (by decide +kernel) (by decide +kernel) dX12_goesOn_280 (fun S_709 e_709 H locs hP hS => ?_)
              have I_709 := dg_I.uFi (lo := 0) (hi := 1) I_704 e_709 sM_0 (by decide +kernel) (show 0 ≤ ((0 : Int32)).toInt ∧ ((0 : Int32)).toInt ≤ 1 from (by decide +kernel))
              have M_709 := dg_sm.uF M_704 e_709 sM_0 (by decide)
              refine lv_iconst (v := 1) hx hb dX12_goesOn_283 (by decide +kernel) ?_
              have hz_710 : (1 : Int32).toInt = 1 := by decide +kernel
              have hz_711 : (1 : Int32).toInt = 1 := by decide +kernel
              have hz_712 : (0 : Int32).toInt = 0 := by decide +kernel
              have hz_713 : (1 : Int32).toInt = 1 := by decide +kernel
              have hz_714 : (0 : Int32).toInt = 0 := by decide +kernel
              have hz_715 : (1 : Int32).toInt = 1 := by decide +kernel
              have hz_716 : (1 : Int32).toInt = 1 := by decide +kernel
              have hz_717 : (0 : Int32).toInt = 0 := by decide +kernel
              refine W.widen (k := 0) (n := 0) (Nat.le_of_ble_eq_true rfl) (Nat.le_of_ble_eq_true rfl) ?_
              rw [hQ9]
              exact dg_iret hx hb hr hlocks (by decide +kernel) hP hS ⟨I_709, M_709, (by decide +kernel), ⟨y_705, y_706, y_707, y_3, y_662, dp, y_698, 0, ((dg_uF_ne e_709 (fun z => absurd z.2 (by decide))).trans f_y_705), ((dg_uF_ne e_709 (fun z => absurd z.2 (by decide))).trans f_y_706), ((dg_uF_ne e_709 (fun z => absurd z.2 (by decide))).trans f_y_707), (((dg_uF_ne e_709 (fun z => absurd z.2 (by decide))).trans ((m_704.1 0 8 _ sM_0 (by decide)).trans ((dg_uf_F e_700 0 8).trans ((m_697.1 0 8 _ sM_0 (by decide)).trans (m_660.1 0 8 _ sM_0 (by decide)))))).trans f_y_3), (((dg_uF_ne e_709 (fun z => absurd z.2 (by decide))).trans ((m_704.1 0 34 _ sM_0 (by decide)).trans ((dg_uf_F e_700 0 34).trans (m_697.1 0 34 _ sM_0 (by decide))))).trans f_y_662), (((dg_uF_ne e_709 (fun z => absurd z.2 (by decide))).trans ((m_704.1 0 42 _ sM_0 (by decide)).trans ((dg_uf_F e_700 0 42).trans ((m_697.1 0 42 _ sM_0 (by decide)).trans ((m_660.1 0 42 _ sM_0 (by decide)).trans (m_2.1 0 42 _ sM_0 (by decide))))))).trans f_dp), (((dg_uF_ne e_709 (fun z => absurd z.2 (by decide))).trans ((m_704.1 0 45 _ sM_0 (by decide)).trans (dg_uf_F e_700 0 45))).trans f_y_698), (dg_uF_at e_709), ⟨lxh_w_704_0_3.out, (by omega)⟩⟩, (fun k9 hk9 hk0 => POM.mk0 (P0M.keep (P0M.keep P0_700 m_704 (by decide) (by decide) (by decide) (by decide) (by decide) (by decide) (by decide) (by decide) (by decide) (by decide) (by decide) (by decide) (by decide) (by decide) (by decide)) (dg_sm.uF (WF := [(0, 46)]) (WA := []) dg_sm.rf e_709 sM_0 (by decide)) (by decide) (by decide) (by decide) (by decide) (by decide) (by decide) (by decide) (by decide) (by decide) (by decide) (by decide) (by decide) (by decide) (by decide) (by decide)) (dg_uF_at e_709) (by omega)), (GOK.ok f_sa (((dg_uF_ne e_709 (fun z => absurd z.2 (by decide))).trans ((m_704.1 0 8 _ sM_0 (by decide)).trans ((dg_uf_F e_700 0 8).trans ((m_697.1 0 8 _ sM_0 (by decide)).trans (m_660.1 0 8 _ sM_0 (by decide)))))).trans f_y_3) ((dg_uF_ne e_709 (fun z => absurd z.2 (by decide))).trans f_y_706) (dg_uF_at e_709) (by omega) hM0 (TFM.keep (TFM.keep TF_700 m_704 (by decide) (by decide) (by decide) (by decide) (by decide) (by decide) (by decide) (by decide)) (dg_sm.uF (WF := [(0, 46)]) (WA := []) dg_sm.rf e_709 sM_0 (by decide)) (by decide) (by decide) (by decide) (by decide) (by decide) (by decide) (by decide) (by decide)) (m_st_t.trans (m_go_cmp (m_tst_iff.mpr hts1.out) (by omega) (hnop.out (by omega)) hcmp.out)) (by omega) (by decide +kernel) (by first | decide +kernel | exact decide_eq_true (by omega))), (TKM.keep TK_704 (dg_sm.uF (WF := [(0, 46)]) (WA := []) dg_sm.rf e_709 sM_0 (by decide)) (by decide) (by decide) (by decide) (by decide) (by decide) (by decide) (by decide) (by decide)), (ZWM.keep (ZWM.keep (ZWM.keep (ZWM.keep w_660_3 m_697 (by decide) (by decide) (by decide) (by decide)) (dg_sm.uf (WF := []) (WA := [23]) dg_sm.rf e_700 sM_23 (by decide)) (by decide) (by decide) (by decide) (by decide)) m_704 (by decide) (by decide) (by decide) (by decide)) (dg_sm.uF (WF := [(0, 46)]) (WA := []) dg_sm.rf e_709 sM_0 (by decide)) (by decide) (by decide) (by decide) (by decide)), trivial⟩ dX12_goesOn_284
            refine lv_if_eq (tgt := 248) hx hb dX12_goesOn_240 (by decide) (fun c_718 => ?_) (fun c_718 => ?_)
            · have jc_718 := dk_eqc (k := 0) (by decide +kernel) c_718
              clear w_667_1
              refine lv_aload_n hx hb dX12_goesOn_248 rfl (lv_at hl 3 rfl) ?_
              refine lv_bipush (v := 62) hx hb dX12_goesOn_249 (by decide +kernel) ?_
              refine dg_calli hS hA1 hA (va_runV (As := [.int 62]) (rest := [.ref (o + 0)]) F (c_m_isSign l g D o S_660 62 sg (((m_660.1 0 3 _ sM_0 (by decide)).trans (m_2.1 0 3 _ sM_0 (by decide))).trans f_sg) (by omega) va (((m_660.1 0 6 _ sM_0 (by decide)).trans (m_2.1 0 6 _ sM_0 (by decide))).trans f_va) (by omega) I_660 H.size) (cwV 1 hts (bw_V wB_314 wB_315 wB_316 wB_297 wB_313) rfl rfl rfl (by decide +kernel) ⟨Nat.le_of_ble_eq_true rfl, Nat.le_of_ble_eq_true rfl⟩) (dg_preV sM_0 rfl K ST hP hS hA1 hA) rfl rfl hl.1 rfl (lv_room (Nat.le_of_ble_eq_true rfl)) dX12_goesOn_251 ⟨Nat.le_of_ble_eq_true rfl, Nat.le_of_ble_eq_true rfl⟩) (fun x_719 S_720 hw_720 H locs hP hS => ?_)
              rw [hw_720.1] at hP
              obtain ⟨hq_720, w_720_0, w_720_1, -⟩ := hw_720
              have hz_721 : (62 : Int32).toInt = 62 := by decide +kernel
              have w_720_0 : 0 ≤ (x_719).toInt ∧ (x_719).toInt ≤ 1 := w_720_0
              have w_720_1 : (x_719).toInt = 1 ↔ ((sg).toInt = 3 ∧ (va).toInt = ((62 : Int32)).toInt) := w_720_1
              refine lv_if_eq (tgt := 262) hx hb dX12_goesOn_254 (by decide) (fun c_722 => ?_) (fun c_722 => ?_)
              · have jc_722 := dk_eqc (k := 0) (by decide +kernel) c_722
                clear w_720_1
                refine lv_bipush (v := 40) hx hb dX12_goesOn_262 (by decide +kernel) ?_
                have hz_723 : (40 : Int32).toInt = 40 := by decide +kernel
                exact J_696 40 (by decide +kernel) _ _ hP hS _ (lv_sub hl [0, 1, 2, 3] rfl)
              · have jc_722 := dk_neqc (k := 0) (by decide +kernel) c_722
                have jbc_722 : 1 ≤ (x_719).toInt := by omega
                clear jc_722
                have w_720_1_r := w_720_1.mp (by omega)
                obtain ⟨w_720_1_r1, w_720_1_r2⟩ := w_720_1_r
                clear w_720_1
                have hlx_2r := hlx_2 (by omega)
                clear hlx_2
                refine lv_bipush (v := 39) hx hb dX12_goesOn_257 (by decide +kernel) ?_
                refine lv_goto (tgt := 264) hx hb dX12_goesOn_259 (by decide) ?_
                have hz_724 : (39 : Int32).toInt = 39 := by decide +kernel
                exact J_696 39 (by decide +kernel) _ _ hP hS _ (lv_sub hl [0, 1, 2, 3] rfl)
            · have jc_718 := dk_neqc (k := 0) (by decide +kernel) c_718
              have jbc_718 : 1 ≤ (x_666).toInt := by omega
              clear jc_718
              have w_667_1_r := w_667_1.mp (by omega)
              obtain ⟨w_667_1_r1, w_667_1_r2⟩ := w_667_1_r
              clear w_667_1
              have hlx_2r := hlx_2 (by omega)
              clear hlx_2
              refine lv_bipush (v := 38) hx hb dX12_goesOn_243 (by decide +kernel) ?_
              refine lv_goto (tgt := 264) hx hb dX12_goesOn_245 (by decide) ?_
              have hz_725 : (38 : Int32).toInt = 38 := by decide +kernel
              exact J_696 38 (by decide +kernel) _ _ hP hS _ (lv_sub hl [0, 1, 2, 3] rfl)
          refine lv_if_ne (tgt := 228) hx hb dX12_goesOn_207 (by decide) (fun c_726 => ?_) (fun c_726 => ?_)
          · have jc_726 := dk_neqc (k := 0) (by decide +kernel) c_726
            have jbc_726 : 1 ≤ (x_609).toInt := by omega
            clear jc_726
            have qw_610_1 : g_s (T_kd tb tn) (T_vl tb tn) 60 (t_ix tb tn (sa : Int32).toNatClampNeg) = true := (TKM.iss (TKM.keep TK m_2 (by decide) (by decide) (by decide) (by decide) (by decide) (by decide) (by decide) (by decide)) ((m_2.1 0 3 _ sM_0 (by decide)).trans f_sg) ((m_2.1 0 4 _ sM_0 (by decide)).trans f_sa) ((m_2.1 0 6 _ sM_0 (by decide)).trans f_va) hk5.out (c := 60) (by have h9 := w_610_1; rw [show (60 : Int32).toInt = 60 from by decide +kernel] at h9; exact h9)).mp (by omega)
            have w_610_1_r := w_610_1.mp (by omega)
            obtain ⟨w_610_1_r1, w_610_1_r2⟩ := w_610_1_r
            clear w_610_1
            have hlx_2r := hlx_2 (by omega)
            clear hlx_2
            exact J_658 ()  (by omega) (m_hid.mk (g_co_1 qw_610_1)) _ _ hP hS _ (lv_sub hl [0, 1, 2, 3] rfl)
          · have jc_726 := dk_eqc (k := 0) (by decide +kernel) c_726
            have qw_610_1 : g_s (T_kd tb tn) (T_vl tb tn) 60 (t_ix tb tn (sa : Int32).toNatClampNeg) = false := g_iff_f (TKM.iss (TKM.keep TK m_2 (by decide) (by decide) (by decide) (by decide) (by decide) (by decide) (by decide) (by decide)) ((m_2.1 0 3 _ sM_0 (by decide)).trans f_sg) ((m_2.1 0 4 _ sM_0 (by decide)).trans f_sa) ((m_2.1 0 6 _ sM_0 (by decide)).trans f_va) hk5.out (c := 60) (by have h9 := w_610_1; rw [show (60 : Int32).toInt = 60 from by decide +kernel] at h9; exact h9)) (by omega)
            clear w_610_1
            refine lv_aload_n hx hb dX12_goesOn_210 rfl (lv_at hl 3 rfl) ?_
            refine lv_bipush (v := 62) hx hb dX12_goesOn_211 (by decide +kernel) ?_
            refine dg_calli hS hA1 hA (va_runV (As := [.int 62]) (rest := []) F (c_m_isSign l g D o S_2 62 sg ((m_2.1 0 3 _ sM_0 (by decide)).trans f_sg) (by omega) va ((m_2.1 0 6 _ sM_0 (by decide)).trans f_va) (by omega) I_2 H.size) (cwV 1 hts (bw_V wB_314 wB_315 wB_316 wB_297 wB_313) rfl rfl rfl (by decide +kernel) ⟨Nat.le_of_ble_eq_true rfl, Nat.le_of_ble_eq_true rfl⟩) (dg_preV sM_0 rfl K ST hP hS hA1 hA) rfl rfl hl.1 rfl (lv_room (Nat.le_of_ble_eq_true rfl)) dX12_goesOn_213 ⟨Nat.le_of_ble_eq_true rfl, Nat.le_of_ble_eq_true rfl⟩) (fun x_727 S_728 hw_728 H locs hP hS => ?_)
            rw [hw_728.1] at hP
            obtain ⟨hq_728, w_728_0, w_728_1, -⟩ := hw_728
            have hz_729 : (62 : Int32).toInt = 62 := by decide +kernel
            have w_728_0 : 0 ≤ (x_727).toInt ∧ (x_727).toInt ≤ 1 := w_728_0
            have w_728_1 : (x_727).toInt = 1 ↔ ((sg).toInt = 3 ∧ (va).toInt = ((62 : Int32)).toInt) := w_728_1
            refine lv_if_ne (tgt := 228) hx hb dX12_goesOn_216 (by decide) (fun c_730 => ?_) (fun c_730 => ?_)
            · have jc_730 := dk_neqc (k := 0) (by decide +kernel) c_730
              have jbc_730 : 1 ≤ (x_727).toInt := by omega
              clear jc_730
              have qw_728_1 : g_s (T_kd tb tn) (T_vl tb tn) 62 (t_ix tb tn (sa : Int32).toNatClampNeg) = true := (TKM.iss (TKM.keep TK m_2 (by decide) (by decide) (by decide) (by decide) (by decide) (by decide) (by decide) (by decide)) ((m_2.1 0 3 _ sM_0 (by decide)).trans f_sg) ((m_2.1 0 4 _ sM_0 (by decide)).trans f_sa) ((m_2.1 0 6 _ sM_0 (by decide)).trans f_va) hk5.out (c := 62) (by have h9 := w_728_1; rw [show (62 : Int32).toInt = 62 from by decide +kernel] at h9; exact h9)).mp (by omega)
              have w_728_1_r := w_728_1.mp (by omega)
              obtain ⟨w_728_1_r1, w_728_1_r2⟩ := w_728_1_r
              clear w_728_1
              have hlx_2r := hlx_2 (by omega)
              clear hlx_2
              exact J_658 ()  (by omega) (m_hid.mk (g_co_2 qw_728_1)) _ _ hP hS _ (lv_sub hl [0, 1, 2, 3] rfl)
            · have jc_730 := dk_eqc (k := 0) (by decide +kernel) c_730
              have qw_728_1 : g_s (T_kd tb tn) (T_vl tb tn) 62 (t_ix tb tn (sa : Int32).toNatClampNeg) = false := g_iff_f (TKM.iss (TKM.keep TK m_2 (by decide) (by decide) (by decide) (by decide) (by decide) (by decide) (by decide) (by decide)) ((m_2.1 0 3 _ sM_0 (by decide)).trans f_sg) ((m_2.1 0 4 _ sM_0 (by decide)).trans f_sa) ((m_2.1 0 6 _ sM_0 (by decide)).trans f_va) hk5.out (c := 62) (by have h9 := w_728_1; rw [show (62 : Int32).toInt = 62 from by decide +kernel] at h9; exact h9)) (by omega)
              clear w_728_1
              refine lv_aload_n hx hb dX12_goesOn_219 rfl (lv_at hl 3 rfl) ?_
              refine lv_bipush (v := 61) hx hb dX12_goesOn_220 (by decide +kernel) ?_
              refine dg_calli hS hA1 hA (va_runV (As := [.int 61]) (rest := []) F (c_m_isSign l g D o S_2 61 sg ((m_2.1 0 3 _ sM_0 (by decide)).trans f_sg) (by omega) va ((m_2.1 0 6 _ sM_0 (by decide)).trans f_va) (by omega) I_2 H.size) (cwV 1 hts (bw_V wB_314 wB_315 wB_316 wB_297 wB_313) rfl rfl rfl (by decide +kernel) ⟨Nat.le_of_ble_eq_true rfl, Nat.le_of_ble_eq_true rfl⟩) (dg_preV sM_0 rfl K ST hP hS hA1 hA) rfl rfl hl.1 rfl (lv_room (Nat.le_of_ble_eq_true rfl)) dX12_goesOn_222 ⟨Nat.le_of_ble_eq_true rfl, Nat.le_of_ble_eq_true rfl⟩) (fun x_731 S_732 hw_732 H locs hP hS => ?_)
              rw [hw_732.1] at hP
              obtain ⟨hq_732, w_732_0, w_732_1, -⟩ := hw_732
              have hz_733 : (61 : Int32).toInt = 61 := by decide +kernel
              have w_732_0 : 0 ≤ (x_731).toInt ∧ (x_731).toInt ≤ 1 := w_732_0
              have w_732_1 : (x_731).toInt = 1 ↔ ((sg).toInt = 3 ∧ (va).toInt = ((61 : Int32)).toInt) := w_732_1
              refine lv_if_eq (tgt := 285) hx hb dX12_goesOn_225 (by decide) (fun c_734 => ?_) (fun c_734 => ?_)
              · have jc_734 := dk_eqc (k := 0) (by decide +kernel) c_734
                have qw_732_1 : g_s (T_kd tb tn) (T_vl tb tn) 61 (t_ix tb tn (sa : Int32).toNatClampNeg) = false := g_iff_f (TKM.iss (TKM.keep TK m_2 (by decide) (by decide) (by decide) (by decide) (by decide) (by decide) (by decide) (by decide)) ((m_2.1 0 3 _ sM_0 (by decide)).trans f_sg) ((m_2.1 0 4 _ sM_0 (by decide)).trans f_sa) ((m_2.1 0 6 _ sM_0 (by decide)).trans f_va) hk5.out (c := 61) (by have h9 := w_732_1; rw [show (61 : Int32).toInt = 61 from by decide +kernel] at h9; exact h9)) (by omega)
                clear w_732_1
                exact J_326 ()  (m_hid.mk (fun _ _ => g_co_f qw_610_1 qw_728_1 qw_732_1)) _ _ hP hS _ (lv_sub hl [0, 1, 2, 3] rfl)
              · have jc_734 := dk_neqc (k := 0) (by decide +kernel) c_734
                have jbc_734 : 1 ≤ (x_731).toInt := by omega
                clear jc_734
                have qw_732_1 : g_s (T_kd tb tn) (T_vl tb tn) 61 (t_ix tb tn (sa : Int32).toNatClampNeg) = true := (TKM.iss (TKM.keep TK m_2 (by decide) (by decide) (by decide) (by decide) (by decide) (by decide) (by decide) (by decide)) ((m_2.1 0 3 _ sM_0 (by decide)).trans f_sg) ((m_2.1 0 4 _ sM_0 (by decide)).trans f_sa) ((m_2.1 0 6 _ sM_0 (by decide)).trans f_va) hk5.out (c := 61) (by have h9 := w_732_1; rw [show (61 : Int32).toInt = 61 from by decide +kernel] at h9; exact h9)).mp (by omega)
                have w_732_1_r := w_732_1.mp (by omega)
                obtain ⟨w_732_1_r1, w_732_1_r2⟩ := w_732_1_r
                clear w_732_1
                have hlx_2r := hlx_2 (by omega)
                clear hlx_2
                exact J_658 ()  (by omega) (m_hid.mk (g_co_3 qw_732_1)) _ _ hP hS _ (lv_sub hl [0, 1, 2, 3] rfl)
    refine lv_icmp_ge (tgt := 188) hx hb dX12_goesOn_39 (by decide) (fun c_735 => ?_) (fun c_735 => ?_)
    · have jc_735 := dk_gec (k := 2) (by decide +kernel) c_735
      exact J_179 ()  (m_hid.mk (fun q9 => by exfalso; omega)) _ _ hP hS _ (lv_sub hl [0, 1, 2, 3] rfl)
    · have jc_735 := dk_ngec (k := 2) (by decide +kernel) c_735
      refine lv_aload_n hx hb dX12_goesOn_42 rfl (lv_at hl 3 rfl) ?_
      refine lv_bipush (v := 43) hx hb dX12_goesOn_43 (by decide +kernel) ?_
      refine dg_calli hS hA1 hA (va_runV (As := [.int 43]) (rest := []) F (c_m_isSign l g D o S_2 43 sg ((m_2.1 0 3 _ sM_0 (by decide)).trans f_sg) (by omega) va ((m_2.1 0 6 _ sM_0 (by decide)).trans f_va) (by omega) I_2 H.size) (cwV 1 hts (bw_V wB_314 wB_315 wB_316 wB_297 wB_313) rfl rfl rfl (by decide +kernel) ⟨Nat.le_of_ble_eq_true rfl, Nat.le_of_ble_eq_true rfl⟩) (dg_preV sM_0 rfl K ST hP hS hA1 hA) rfl rfl hl.1 rfl (lv_room (Nat.le_of_ble_eq_true rfl)) dX12_goesOn_45 ⟨Nat.le_of_ble_eq_true rfl, Nat.le_of_ble_eq_true rfl⟩) (fun x_736 S_737 hw_737 H locs hP hS => ?_)
      rw [hw_737.1] at hP
      obtain ⟨hq_737, w_737_0, w_737_1, -⟩ := hw_737
      have hz_738 : (43 : Int32).toInt = 43 := by decide +kernel
      have w_737_0 : 0 ≤ (x_736).toInt ∧ (x_736).toInt ≤ 1 := w_737_0
      have w_737_1 : (x_736).toInt = 1 ↔ ((sg).toInt = 3 ∧ (va).toInt = ((43 : Int32)).toInt) := w_737_1
      have J_756 : ∀ (u9 : Unit), ((sg).toInt = 3) → ((va).toInt = 43 ∨ (va).toInt = 45 ∨ (va).toInt = 42 ∨ (va).toInt = 47 ∨ (va).toInt = 37) → (m_hid (g_so (T_kd tb tn) (T_vl tb tn) (t_ix tb tn (sa : Int32).toNatClampNeg) = true ∨ g_po (T_kd tb tn) (T_vl tb tn) (t_ix tb tn (sa : Int32).toNatClampNeg) = true)) → ∀ (H : Heap) (locs : List Loc), va_P D vwCl (dg_w g shM o rfM S_2) H → va_S A s.heap H locs → ∀ ls : Array Slot, lv_has ls 5 [(3, .int x_8), (2, .int x_7), (1, .int x_5), (0, .ref (o + 0))] → W p l e ({ frames := 3, cells := 0, slots := 0, locals := 77 } : Room) s m args below meth c H locs 0 0 Q9 (F0 m 87 ls []) := by
        intro u9 rel_0 rel_1 rel_2 H locs hP hS ls hl
        clear w_737_1
        have hop := rel_2
        have hlx_2r := hlx_2 (by omega)
        clear hlx_2
        exact absurd ⟨by omega, hop.out⟩ HnA
      refine lv_if_ne (tgt := 87) hx hb dX12_goesOn_48 (by decide) (fun c_757 => ?_) (fun c_757 => ?_)
      · have jc_757 := dk_neqc (k := 0) (by decide +kernel) c_757
        have jbc_757 : 1 ≤ (x_736).toInt := by omega
        clear jc_757
        have qw_737_1 : g_s (T_kd tb tn) (T_vl tb tn) 43 (t_ix tb tn (sa : Int32).toNatClampNeg) = true := (TKM.iss (TKM.keep TK m_2 (by decide) (by decide) (by decide) (by decide) (by decide) (by decide) (by decide) (by decide)) ((m_2.1 0 3 _ sM_0 (by decide)).trans f_sg) ((m_2.1 0 4 _ sM_0 (by decide)).trans f_sa) ((m_2.1 0 6 _ sM_0 (by decide)).trans f_va) hk5.out (c := 43) (by have h9 := w_737_1; rw [show (43 : Int32).toInt = 43 from by decide +kernel] at h9; exact h9)).mp (by omega)
        have w_737_1_r := w_737_1.mp (by omega)
        obtain ⟨w_737_1_r1, w_737_1_r2⟩ := w_737_1_r
        clear w_737_1
        have hlx_2r := hlx_2 (by omega)
        clear hlx_2
        exact J_756 ()  (by omega) (by omega) (m_hid.mk (g_so_1 qw_737_1)) _ _ hP hS _ (lv_sub hl [0, 1, 2, 3] rfl)
      · have jc_757 := dk_eqc (k := 0) (by decide +kernel) c_757
        have qw_737_1 : g_s (T_kd tb tn) (T_vl tb tn) 43 (t_ix tb tn (sa : Int32).toNatClampNeg) = false := g_iff_f (TKM.iss (TKM.keep TK m_2 (by decide) (by decide) (by decide) (by decide) (by decide) (by decide) (by decide) (by decide)) ((m_2.1 0 3 _ sM_0 (by decide)).trans f_sg) ((m_2.1 0 4 _ sM_0 (by decide)).trans f_sa) ((m_2.1 0 6 _ sM_0 (by decide)).trans f_va) hk5.out (c := 43) (by have h9 := w_737_1; rw [show (43 : Int32).toInt = 43 from by decide +kernel] at h9; exact h9)) (by omega)
        clear w_737_1
        refine lv_aload_n hx hb dX12_goesOn_51 rfl (lv_at hl 3 rfl) ?_
        refine lv_bipush (v := 45) hx hb dX12_goesOn_52 (by decide +kernel) ?_
        refine dg_calli hS hA1 hA (va_runV (As := [.int 45]) (rest := []) F (c_m_isSign l g D o S_2 45 sg ((m_2.1 0 3 _ sM_0 (by decide)).trans f_sg) (by omega) va ((m_2.1 0 6 _ sM_0 (by decide)).trans f_va) (by omega) I_2 H.size) (cwV 1 hts (bw_V wB_314 wB_315 wB_316 wB_297 wB_313) rfl rfl rfl (by decide +kernel) ⟨Nat.le_of_ble_eq_true rfl, Nat.le_of_ble_eq_true rfl⟩) (dg_preV sM_0 rfl K ST hP hS hA1 hA) rfl rfl hl.1 rfl (lv_room (Nat.le_of_ble_eq_true rfl)) dX12_goesOn_54 ⟨Nat.le_of_ble_eq_true rfl, Nat.le_of_ble_eq_true rfl⟩) (fun x_758 S_759 hw_759 H locs hP hS => ?_)
        rw [hw_759.1] at hP
        obtain ⟨hq_759, w_759_0, w_759_1, -⟩ := hw_759
        have hz_760 : (45 : Int32).toInt = 45 := by decide +kernel
        have w_759_0 : 0 ≤ (x_758).toInt ∧ (x_758).toInt ≤ 1 := w_759_0
        have w_759_1 : (x_758).toInt = 1 ↔ ((sg).toInt = 3 ∧ (va).toInt = ((45 : Int32)).toInt) := w_759_1
        refine lv_if_ne (tgt := 87) hx hb dX12_goesOn_57 (by decide) (fun c_761 => ?_) (fun c_761 => ?_)
        · have jc_761 := dk_neqc (k := 0) (by decide +kernel) c_761
          have jbc_761 : 1 ≤ (x_758).toInt := by omega
          clear jc_761
          have qw_759_1 : g_s (T_kd tb tn) (T_vl tb tn) 45 (t_ix tb tn (sa : Int32).toNatClampNeg) = true := (TKM.iss (TKM.keep TK m_2 (by decide) (by decide) (by decide) (by decide) (by decide) (by decide) (by decide) (by decide)) ((m_2.1 0 3 _ sM_0 (by decide)).trans f_sg) ((m_2.1 0 4 _ sM_0 (by decide)).trans f_sa) ((m_2.1 0 6 _ sM_0 (by decide)).trans f_va) hk5.out (c := 45) (by have h9 := w_759_1; rw [show (45 : Int32).toInt = 45 from by decide +kernel] at h9; exact h9)).mp (by omega)
          have w_759_1_r := w_759_1.mp (by omega)
          obtain ⟨w_759_1_r1, w_759_1_r2⟩ := w_759_1_r
          clear w_759_1
          have hlx_2r := hlx_2 (by omega)
          clear hlx_2
          exact J_756 ()  (by omega) (by omega) (m_hid.mk (g_so_2 qw_759_1)) _ _ hP hS _ (lv_sub hl [0, 1, 2, 3] rfl)
        · have jc_761 := dk_eqc (k := 0) (by decide +kernel) c_761
          have qw_759_1 : g_s (T_kd tb tn) (T_vl tb tn) 45 (t_ix tb tn (sa : Int32).toNatClampNeg) = false := g_iff_f (TKM.iss (TKM.keep TK m_2 (by decide) (by decide) (by decide) (by decide) (by decide) (by decide) (by decide) (by decide)) ((m_2.1 0 3 _ sM_0 (by decide)).trans f_sg) ((m_2.1 0 4 _ sM_0 (by decide)).trans f_sa) ((m_2.1 0 6 _ sM_0 (by decide)).trans f_va) hk5.out (c := 45) (by have h9 := w_759_1; rw [show (45 : Int32).toInt = 45 from by decide +kernel] at h9; exact h9)) (by omega)
          clear w_759_1
          refine lv_aload_n hx hb dX12_goesOn_60 rfl (lv_at hl 3 rfl) ?_
          refine lv_bipush (v := 42) hx hb dX12_goesOn_61 (by decide +kernel) ?_
          refine dg_calli hS hA1 hA (va_runV (As := [.int 42]) (rest := []) F (c_m_isSign l g D o S_2 42 sg ((m_2.1 0 3 _ sM_0 (by decide)).trans f_sg) (by omega) va ((m_2.1 0 6 _ sM_0 (by decide)).trans f_va) (by omega) I_2 H.size) (cwV 1 hts (bw_V wB_314 wB_315 wB_316 wB_297 wB_313) rfl rfl rfl (by decide +kernel) ⟨Nat.le_of_ble_eq_true rfl, Nat.le_of_ble_eq_true rfl⟩) (dg_preV sM_0 rfl K ST hP hS hA1 hA) rfl rfl hl.1 rfl (lv_room (Nat.le_of_ble_eq_true rfl)) dX12_goesOn_63 ⟨Nat.le_of_ble_eq_true rfl, Nat.le_of_ble_eq_true rfl⟩) (fun x_762 S_763 hw_763 H locs hP hS => ?_)
          rw [hw_763.1] at hP
          obtain ⟨hq_763, w_763_0, w_763_1, -⟩ := hw_763
          have hz_764 : (42 : Int32).toInt = 42 := by decide +kernel
          have w_763_0 : 0 ≤ (x_762).toInt ∧ (x_762).toInt ≤ 1 := w_763_0
          have w_763_1 : (x_762).toInt = 1 ↔ ((sg).toInt = 3 ∧ (va).toInt = ((42 : Int32)).toInt) := w_763_1
          refine lv_if_ne (tgt := 87) hx hb dX12_goesOn_66 (by decide) (fun c_765 => ?_) (fun c_765 => ?_)
          · have jc_765 := dk_neqc (k := 0) (by decide +kernel) c_765
            have jbc_765 : 1 ≤ (x_762).toInt := by omega
            clear jc_765
            have qw_763_1 : g_s (T_kd tb tn) (T_vl tb tn) 42 (t_ix tb tn (sa : Int32).toNatClampNeg) = true := (TKM.iss (TKM.keep TK m_2 (by decide) (by decide) (by decide) (by decide) (by decide) (by decide) (by decide) (by decide)) ((m_2.1 0 3 _ sM_0 (by decide)).trans f_sg) ((m_2.1 0 4 _ sM_0 (by decide)).trans f_sa) ((m_2.1 0 6 _ sM_0 (by decide)).trans f_va) hk5.out (c := 42) (by have h9 := w_763_1; rw [show (42 : Int32).toInt = 42 from by decide +kernel] at h9; exact h9)).mp (by omega)
            have w_763_1_r := w_763_1.mp (by omega)
            obtain ⟨w_763_1_r1, w_763_1_r2⟩ := w_763_1_r
            clear w_763_1
            have hlx_2r := hlx_2 (by omega)
            clear hlx_2
            exact J_756 ()  (by omega) (by omega) (m_hid.mk (g_po_1 qw_763_1)) _ _ hP hS _ (lv_sub hl [0, 1, 2, 3] rfl)
          · have jc_765 := dk_eqc (k := 0) (by decide +kernel) c_765
            have qw_763_1 : g_s (T_kd tb tn) (T_vl tb tn) 42 (t_ix tb tn (sa : Int32).toNatClampNeg) = false := g_iff_f (TKM.iss (TKM.keep TK m_2 (by decide) (by decide) (by decide) (by decide) (by decide) (by decide) (by decide) (by decide)) ((m_2.1 0 3 _ sM_0 (by decide)).trans f_sg) ((m_2.1 0 4 _ sM_0 (by decide)).trans f_sa) ((m_2.1 0 6 _ sM_0 (by decide)).trans f_va) hk5.out (c := 42) (by have h9 := w_763_1; rw [show (42 : Int32).toInt = 42 from by decide +kernel] at h9; exact h9)) (by omega)
            clear w_763_1
            refine lv_aload_n hx hb dX12_goesOn_69 rfl (lv_at hl 3 rfl) ?_
            refine lv_bipush (v := 47) hx hb dX12_goesOn_70 (by decide +kernel) ?_
            refine dg_calli hS hA1 hA (va_runV (As := [.int 47]) (rest := []) F (c_m_isSign l g D o S_2 47 sg ((m_2.1 0 3 _ sM_0 (by decide)).trans f_sg) (by omega) va ((m_2.1 0 6 _ sM_0 (by decide)).trans f_va) (by omega) I_2 H.size) (cwV 1 hts (bw_V wB_314 wB_315 wB_316 wB_297 wB_313) rfl rfl rfl (by decide +kernel) ⟨Nat.le_of_ble_eq_true rfl, Nat.le_of_ble_eq_true rfl⟩) (dg_preV sM_0 rfl K ST hP hS hA1 hA) rfl rfl hl.1 rfl (lv_room (Nat.le_of_ble_eq_true rfl)) dX12_goesOn_72 ⟨Nat.le_of_ble_eq_true rfl, Nat.le_of_ble_eq_true rfl⟩) (fun x_766 S_767 hw_767 H locs hP hS => ?_)
            rw [hw_767.1] at hP
            obtain ⟨hq_767, w_767_0, w_767_1, -⟩ := hw_767
            have hz_768 : (47 : Int32).toInt = 47 := by decide +kernel
            have w_767_0 : 0 ≤ (x_766).toInt ∧ (x_766).toInt ≤ 1 := w_767_0
            have w_767_1 : (x_766).toInt = 1 ↔ ((sg).toInt = 3 ∧ (va).toInt = ((47 : Int32)).toInt) := w_767_1
            refine lv_if_ne (tgt := 87) hx hb dX12_goesOn_75 (by decide) (fun c_769 => ?_) (fun c_769 => ?_)
            · have jc_769 := dk_neqc (k := 0) (by decide +kernel) c_769
              have jbc_769 : 1 ≤ (x_766).toInt := by omega
              clear jc_769
              have qw_767_1 : g_s (T_kd tb tn) (T_vl tb tn) 47 (t_ix tb tn (sa : Int32).toNatClampNeg) = true := (TKM.iss (TKM.keep TK m_2 (by decide) (by decide) (by decide) (by decide) (by decide) (by decide) (by decide) (by decide)) ((m_2.1 0 3 _ sM_0 (by decide)).trans f_sg) ((m_2.1 0 4 _ sM_0 (by decide)).trans f_sa) ((m_2.1 0 6 _ sM_0 (by decide)).trans f_va) hk5.out (c := 47) (by have h9 := w_767_1; rw [show (47 : Int32).toInt = 47 from by decide +kernel] at h9; exact h9)).mp (by omega)
              have w_767_1_r := w_767_1.mp (by omega)
              obtain ⟨w_767_1_r1, w_767_1_r2⟩ := w_767_1_r
              clear w_767_1
              have hlx_2r := hlx_2 (by omega)
              clear hlx_2
              exact J_756 ()  (by omega) (by omega) (m_hid.mk (g_po_2 qw_767_1)) _ _ hP hS _ (lv_sub hl [0, 1, 2, 3] rfl)
            · have jc_769 := dk_eqc (k := 0) (by decide +kernel) c_769
              have qw_767_1 : g_s (T_kd tb tn) (T_vl tb tn) 47 (t_ix tb tn (sa : Int32).toNatClampNeg) = false := g_iff_f (TKM.iss (TKM.keep TK m_2 (by decide) (by decide) (by decide) (by decide) (by decide) (by decide) (by decide) (by decide)) ((m_2.1 0 3 _ sM_0 (by decide)).trans f_sg) ((m_2.1 0 4 _ sM_0 (by decide)).trans f_sa) ((m_2.1 0 6 _ sM_0 (by decide)).trans f_va) hk5.out (c := 47) (by have h9 := w_767_1; rw [show (47 : Int32).toInt = 47 from by decide +kernel] at h9; exact h9)) (by omega)
              clear w_767_1
              refine lv_aload_n hx hb dX12_goesOn_78 rfl (lv_at hl 3 rfl) ?_
              refine lv_bipush (v := 37) hx hb dX12_goesOn_79 (by decide +kernel) ?_
              refine dg_calli hS hA1 hA (va_runV (As := [.int 37]) (rest := []) F (c_m_isSign l g D o S_2 37 sg ((m_2.1 0 3 _ sM_0 (by decide)).trans f_sg) (by omega) va ((m_2.1 0 6 _ sM_0 (by decide)).trans f_va) (by omega) I_2 H.size) (cwV 1 hts (bw_V wB_314 wB_315 wB_316 wB_297 wB_313) rfl rfl rfl (by decide +kernel) ⟨Nat.le_of_ble_eq_true rfl, Nat.le_of_ble_eq_true rfl⟩) (dg_preV sM_0 rfl K ST hP hS hA1 hA) rfl rfl hl.1 rfl (lv_room (Nat.le_of_ble_eq_true rfl)) dX12_goesOn_81 ⟨Nat.le_of_ble_eq_true rfl, Nat.le_of_ble_eq_true rfl⟩) (fun x_770 S_771 hw_771 H locs hP hS => ?_)
              rw [hw_771.1] at hP
              obtain ⟨hq_771, w_771_0, w_771_1, -⟩ := hw_771
              have hz_772 : (37 : Int32).toInt = 37 := by decide +kernel
              have w_771_0 : 0 ≤ (x_770).toInt ∧ (x_770).toInt ≤ 1 := w_771_0
              have w_771_1 : (x_770).toInt = 1 ↔ ((sg).toInt = 3 ∧ (va).toInt = ((37 : Int32)).toInt) := w_771_1
              refine lv_if_eq (tgt := 188) hx hb dX12_goesOn_84 (by decide) (fun c_773 => ?_) (fun c_773 => ?_)
              · have jc_773 := dk_eqc (k := 0) (by decide +kernel) c_773
                have qw_771_1 : g_s (T_kd tb tn) (T_vl tb tn) 37 (t_ix tb tn (sa : Int32).toNatClampNeg) = false := g_iff_f (TKM.iss (TKM.keep TK m_2 (by decide) (by decide) (by decide) (by decide) (by decide) (by decide) (by decide) (by decide)) ((m_2.1 0 3 _ sM_0 (by decide)).trans f_sg) ((m_2.1 0 4 _ sM_0 (by decide)).trans f_sa) ((m_2.1 0 6 _ sM_0 (by decide)).trans f_va) hk5.out (c := 37) (by have h9 := w_771_1; rw [show (37 : Int32).toInt = 37 from by decide +kernel] at h9; exact h9)) (by omega)
                clear w_771_1
                exact J_179 ()  (m_hid.mk (fun _ => ⟨g_so_f qw_737_1 qw_759_1, g_po_f qw_763_1 qw_767_1 qw_771_1⟩)) _ _ hP hS _ (lv_sub hl [0, 1, 2, 3] rfl)
              · have jc_773 := dk_neqc (k := 0) (by decide +kernel) c_773
                have jbc_773 : 1 ≤ (x_770).toInt := by omega
                clear jc_773
                have qw_771_1 : g_s (T_kd tb tn) (T_vl tb tn) 37 (t_ix tb tn (sa : Int32).toNatClampNeg) = true := (TKM.iss (TKM.keep TK m_2 (by decide) (by decide) (by decide) (by decide) (by decide) (by decide) (by decide) (by decide)) ((m_2.1 0 3 _ sM_0 (by decide)).trans f_sg) ((m_2.1 0 4 _ sM_0 (by decide)).trans f_sa) ((m_2.1 0 6 _ sM_0 (by decide)).trans f_va) hk5.out (c := 37) (by have h9 := w_771_1; rw [show (37 : Int32).toInt = 37 from by decide +kernel] at h9; exact h9)).mp (by omega)
                have w_771_1_r := w_771_1.mp (by omega)
                obtain ⟨w_771_1_r1, w_771_1_r2⟩ := w_771_1_r
                clear w_771_1
                have hlx_2r := hlx_2 (by omega)
                clear hlx_2
                exact J_756 ()  (by omega) (by omega) (m_hid.mk (g_po_3 qw_771_1)) _ _ hP hS _ (lv_sub hl [0, 1, 2, 3] rfl)
  · have jc_4 := dk_nlec (k := 0) (by decide +kernel) c_4
    refine lv_iconst (v := 0) hx hb dX12_goesOn_11 (by decide +kernel) ?_
    have hz_774 : (0 : Int32).toInt = 0 := by decide +kernel
    have hz_775 : (0 : Int32).toInt = 0 := by decide +kernel
    have hz_776 : (0 : Int32).toInt = 0 := by decide +kernel
    have hz_777 : (0 : Int32).toInt = 0 := by decide +kernel
    have hz_778 : (0 : Int32).toInt = 0 := by decide +kernel
    refine W.widen (k := 0) (n := 0) (Nat.le_of_ble_eq_true rfl) (Nat.le_of_ble_eq_true rfl) ?_
    rw [hQ9]
    exact dg_iret hx hb hr hlocks (by decide +kernel) hP hS ⟨I_2, M_2, (by decide +kernel), ⟨sg, sa, se, y_3, cd, dp, om, oo, ((m_2.1 0 3 _ sM_0 (by decide)).trans f_sg), ((m_2.1 0 4 _ sM_0 (by decide)).trans f_sa), ((m_2.1 0 5 _ sM_0 (by decide)).trans f_se), f_y_3, ((m_2.1 0 34 _ sM_0 (by decide)).trans f_cd), ((m_2.1 0 42 _ sM_0 (by decide)).trans f_dp), ((m_2.1 0 45 _ sM_0 (by decide)).trans f_om), ((m_2.1 0 46 _ sM_0 (by decide)).trans f_oo), ⟨lxh_hlx_2.out, (by omega)⟩⟩, (fun k9 hk9 hk0 => by have q9 := (f_y_3).symm.trans hk9; cases q9; omega), (GOK.no f_sa f_fk f_y_3 (by omega) (fun h0 => GO5 P1 f_dp f_on f_om (by omega))), (TKM.keep TK m_2 (by decide) (by decide) (by decide) (by decide) (by decide) (by decide) (by decide) (by decide)), (ZWM.keep ZW m_2 (by decide) (by decide) (by decide) (by decide)), trivial⟩ dX12_goesOn_12
