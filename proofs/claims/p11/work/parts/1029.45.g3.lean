/-! goesOn: what is left, and all -/
set_option maxHeartbeats 8000000 in
set_option maxRecDepth 100000 in
theorem c_m_goesOn_C (l : Launch) (g : Nat → ClassId) (D : va_G) (o : Nat) (S : dg_S) (tb : Nat → Int32) (tn : Nat) (S0 : dg_S) (sg : Int32) (f_sg : S.1 0 3 = .int sg) (b_sg : 0 ≤ (sg).toInt ∧ (sg).toInt ≤ 3) (sa : Int32) (f_sa : S.1 0 4 = .int sa) (b_sa : 0 ≤ (sa).toInt ∧ (sa).toInt ≤ 1600) (se : Int32) (f_se : S.1 0 5 = .int se) (b_se : 0 ≤ (se).toInt ∧ (se).toInt ≤ 1600) (sl : Int32) (f_sl : S.1 0 2 = .int sl) (b_sl : 0 ≤ (sl).toInt ∧ (sl).toInt ≤ 1600) (fk : Int32) (f_fk : S.1 0 8 = .int fk) (b_fk : 0 ≤ (fk).toInt ∧ (fk).toInt ≤ 6) (va : Int32) (f_va : S.1 0 6 = .int va) (b_va : 0 ≤ (va).toInt ∧ (va).toInt ≤ 9999) (cd : Int32) (f_cd : S.1 0 34 = .int cd) (b_cd : 0 ≤ (cd).toInt ∧ (cd).toInt ≤ 1600) (dp : Int32) (f_dp : S.1 0 42 = .int dp) (b_dp : 0 ≤ (dp).toInt ∧ (dp).toInt ≤ 20) (on : Int32) (f_on : S.1 0 43 = .int on) (om : Int32) (f_om : S.1 0 45 = .int om) (b_om : 0 ≤ (om).toInt ∧ (om).toInt ≤ 500) (oo : Int32) (f_oo : S.1 0 46 = .int oo) (b_oo : 1 ≤ (oo).toInt ∧ (oo).toInt ≤ 1) (lw : Int32) (f_lw : S.1 0 36 = .int lw) (b_lw : 0 ≤ (lw).toInt ∧ (lw).toInt ≤ 2) (hlx : (sa).toInt ≤ (se).toInt ∧ (se).toInt ≤ (sl).toInt ∧ ((sg).toInt ≠ 0 → (sa).toInt + 1 ≤ (se).toInt)) (hro : (cd).toInt + (om).toInt + (dp).toInt ≤ (sa).toInt) (TK : TKM tb tn S) (ZW : ZWM S) (ZK : ZKM S) (P1 : P1M S) (G8 : G8M S0 S) (HnA : ¬ ((S.2.1 23 ((dp : Int32).toNatClampNeg - 1)).toInt < 2 ∧ (g_so (T_kd tb tn) (T_vl tb tn) (t_ix tb tn (sa : Int32).toNatClampNeg) = true ∨ g_po (T_kd tb tn) (T_vl tb tn) (t_ix tb tn (sa : Int32).toNatClampNeg) = true))) (HnB : ¬ (((S.2.1 22 ((dp : Int32).toNatClampNeg - 1)).toInt = 1 ∨ (S.2.1 22 ((dp : Int32).toNatClampNeg - 1)).toInt = 5 ∨ (S.2.1 22 ((dp : Int32).toNatClampNeg - 1)).toInt = 6) ∧ (((S.2.1 23 ((dp : Int32).toNatClampNeg - 1)).toInt = 0 ∧ g_co (T_kd tb tn) (T_vl tb tn) (t_ix tb tn (sa : Int32).toNatClampNeg) = true) ∨ (g_o (T_kd tb tn) (T_vl tb tn) 22 (t_ix tb tn (sa : Int32).toNatClampNeg) = true ∨ g_o (T_kd tb tn) (T_vl tb tn) 21 (t_ix tb tn (sa : Int32).toNatClampNeg) = true)))) (I : CM o S) (sz : Nat) : Met l yX12_goesOn (bw yX12_goesOn cX12_goesOn 5 (some .boolean)) ({ frames := 3, cells := 0, slots := 0, locals := 77 } : Room) (dk_Pc g D (dg_w g shM o rfM S) sz [.ref (o + 0)]) (va_Qi (fun (r : Int32) S' => CM o S' ∧ dg_sm shM [(0, 3), (0, 4), (0, 5), (0, 6), (0, 7), (0, 8), (0, 9), (0, 12), (0, 34), (0, 42), (0, 43), (0, 45), (0, 46)] [18, 19, 22, 23, 24, 27] S S' ∧ (0 ≤ (r).toInt ∧ (r).toInt ≤ 1) ∧ (∃ y9_3 y9_4 y9_5 y9_8 y9_34 y9_42 y9_45 y9_46 : Int32, S'.1 0 3 = .int y9_3 ∧ S'.1 0 4 = .int y9_4 ∧ S'.1 0 5 = .int y9_5 ∧ S'.1 0 8 = .int y9_8 ∧ S'.1 0 34 = .int y9_34 ∧ S'.1 0 42 = .int y9_42 ∧ S'.1 0 45 = .int y9_45 ∧ S'.1 0 46 = .int y9_46 ∧ (((y9_4).toInt ≤ (y9_5).toInt ∧ (y9_5).toInt ≤ (sl).toInt ∧ ((y9_3).toInt ≠ 0 → (y9_4).toInt + 1 ≤ (y9_5).toInt)) ∧ (sa).toInt ≤ (y9_4).toInt ∧ ((fk).toInt ≠ 0 → (y9_8).toInt ≠ 0) ∧ (((y9_8).toInt = 0 → (r).toInt = 1 → (sa).toInt + 1 ≤ (y9_4).toInt) ∧ ((y9_8).toInt = 0 → (y9_34).toInt + (y9_45).toInt + (y9_42).toInt ≤ (y9_4).toInt)))) ∧ (∀ k9 : Int32, S'.1 0 8 = .int k9 → k9.toInt = 0 → POM S') ∧ (GOK tb tn (lw).toInt S S' r) ∧ (GON tb tn (lw).toInt S S' r) ∧ TKM tb tn S' ∧ ZWM S' ∧ G8M S0 S' ∧ True) (dg_B g D shM o rfM) (dg_A o shM.length sz)) 0 0 (dg_A o shM.length sz) := by
  refine dg_met (cc := cX12_goesOn) (maxL := 5) (ret := (some .boolean)) (dk_dq rfl) rfl (Nat.le_of_ble_eq_true rfl) ?_
  intro p e s m args below meth c A hAe harg hx hb hr hml hts hown hlocks hin hP K hS hA1 hA ST hsz ls hl
  rw [← hAe]
  have F : CallFix p m c cX12_goesOn 5 s args (bw yX12_goesOn cX12_goesOn 5 (some .boolean)) RX12 := ⟨hx, hb, hml, hown, hts⟩
  have hl : lv_has ls 5 [(0, .ref (o + 0))] := hl
  have M_0 : dg_sm shM [(0, 3), (0, 4), (0, 5), (0, 6), (0, 7), (0, 8), (0, 9), (0, 12), (0, 34), (0, 42), (0, 43), (0, 45), (0, 46)] [18, 19, 22, 23, 24, 27] S S := dg_sm.rf
  obtain ⟨Q9, hQ9⟩ : ∃ Q : State → Prop, Q = MQ below (va_Qi (fun (r : Int32) S' => CM o S' ∧ dg_sm shM [(0, 3), (0, 4), (0, 5), (0, 6), (0, 7), (0, 8), (0, 9), (0, 12), (0, 34), (0, 42), (0, 43), (0, 45), (0, 46)] [18, 19, 22, 23, 24, 27] S S' ∧ (0 ≤ (r).toInt ∧ (r).toInt ≤ 1) ∧ (∃ y9_3 y9_4 y9_5 y9_8 y9_34 y9_42 y9_45 y9_46 : Int32, S'.1 0 3 = .int y9_3 ∧ S'.1 0 4 = .int y9_4 ∧ S'.1 0 5 = .int y9_5 ∧ S'.1 0 8 = .int y9_8 ∧ S'.1 0 34 = .int y9_34 ∧ S'.1 0 42 = .int y9_42 ∧ S'.1 0 45 = .int y9_45 ∧ S'.1 0 46 = .int y9_46 ∧ (((y9_4).toInt ≤ (y9_5).toInt ∧ (y9_5).toInt ≤ (sl).toInt ∧ ((y9_3).toInt ≠ 0 → (y9_4).toInt + 1 ≤ (y9_5).toInt)) ∧ (sa).toInt ≤ (y9_4).toInt ∧ ((fk).toInt ≠ 0 → (y9_8).toInt ≠ 0) ∧ (((y9_8).toInt = 0 → (r).toInt = 1 → (sa).toInt + 1 ≤ (y9_4).toInt) ∧ ((y9_8).toInt = 0 → (y9_34).toInt + (y9_45).toInt + (y9_42).toInt ≤ (y9_4).toInt)))) ∧ (∀ k9 : Int32, S'.1 0 8 = .int k9 → k9.toInt = 0 → POM S') ∧ (GOK tb tn (lw).toInt S S' r) ∧ (GON tb tn (lw).toInt S S' r) ∧ TKM tb tn S' ∧ ZWM S' ∧ G8M S0 S' ∧ True) (dg_B g D shM o rfM) A) args s 0 0 A := ⟨_, rfl⟩
  rw [← hQ9]
  obtain ⟨hlx_0, hlx_1, hlx_2⟩ := hlx
  have lxh_hlx_2 : m_hid ((sa).toInt ≤ (se).toInt ∧ (se).toInt ≤ (sl).toInt ∧ ((sg).toInt ≠ 0 → (sa).toInt + 1 ≤ (se).toInt)) := m_hid.mk ⟨hlx_0, hlx_1, hlx_2⟩
  have hdm_0 := PSM.dims P1 f_dp f_on f_om
  refine lv_aload_n hx hb dX12_goesOn_0 rfl (lv_at hl 0 rfl) ?_
  refine dg_callv hS hA1 hA (va_runV (As := []) (rest := []) F (c_m_lex l g D o S tb tn fk f_fk (by omega) sa f_sa (by omega) TK I s.heap.size) (cwV 0 hts (bw_V wB_310 wB_311 wB_312 wB_297 wB_309) rfl rfl rfl (by decide +kernel) ⟨Nat.le_of_ble_eq_true rfl, Nat.le_of_ble_eq_true rfl⟩) (dg_preV sM_0 rfl K ST hP hS hA1 hA) rfl rfl hl.1 rfl (lv_room (Nat.le_of_ble_eq_true rfl)) dX12_goesOn_1 ⟨Nat.le_of_ble_eq_true rfl, Nat.le_of_ble_eq_true rfl⟩) (fun S_2 hw_2 H locs hP hS => ?_)
  obtain ⟨I_2, m_2, w_2_0, -⟩ := hw_2
  have M_2 := dg_sm.tr M_0 m_2 (dk_dq rfl) (dk_dq rfl)
  obtain ⟨y_3, f_y_3, w_2_0⟩ := w_2_0
  have w_2_0 : ((fk).toInt ≠ 0 → (y_3).toInt = (fk).toInt) ∧ ((fk).toInt = 0 → ((y_3).toInt = 0 ↔ (T_kd tb tn (t_ix tb tn (sa : Int32).toNatClampNeg)).toInt ≠ 5)) := w_2_0
  obtain ⟨w_2_0_0, w_2_0_1⟩ := w_2_0
  have b_y_3 : 0 ≤ (y_3).toInt ∧ (y_3).toInt ≤ 6 := dg_I.intb (lo := 0) (hi := 6) I_2 sM_0 (by decide +kernel) f_y_3
  refine lv_aload_n hx hb dX12_goesOn_4 rfl (lv_at hl 0 rfl) ?_
  refine dg_get (C := RX12) (T := TX12) (N := 77) hx hb hts (fun w h => bw_mem (wU_X12 w h)) hown K hP sM_0 rfl 8 (dk_dq rfl) (hts _ (bw_mem wB_303)) (fun _ h9 => h9) (v := .int y_3) f_y_3 dX12_goesOn_5 ?_
  refine lv_if_le (tgt := 13) hx hb dX12_goesOn_8 (dk_dq rfl) (fun c_4 => ?_) (fun c_4 => ?_)
  · as_aux_lemma =>
      have jc_4 := dk_lec (k := 0) (by decide +kernel) c_4
      have w_2_0_0c : (fk).toInt = 0 := by omega
      clear w_2_0_0
      have w_2_0_1r := w_2_0_1 (by omega)
      clear w_2_0_1
      have hk5 := m_hid.mk (show (T_kd tb tn (t_ix tb tn (sa : Int32).toNatClampNeg)).toInt ≠ 5 from by omega)
      clear w_2_0_1r
      refine lv_aload_n hx hb dX12_goesOn_13 rfl (lv_at hl 0 rfl) ?_
      refine dg_get (C := RX12) (T := TX12) (N := 77) hx hb hts (fun w h => bw_mem (wU_X12 w h)) hown K hP sM_0 rfl 42 (dk_dq rfl) (hts _ (bw_mem wB_406)) (fun _ h9 => h9) (v := .int dp) ((m_2.1 0 42 _ sM_0 (dk_dq rfl)).trans f_dp) dX12_goesOn_14 ?_
      refine lv_iconst (v := 1) hx hb dX12_goesOn_17 (by decide +kernel) ?_
      refine lv_isub hx hb dX12_goesOn_18 ?_
      refine lv_topi (fun x_5 ex_5 => ?_)
      have jx_5 : (x_5).toInt = (dp).toInt - 1 := by rw [ex_5]; exact dk_subT2 rfl (by decide +kernel) (by omega)
      refine lv_istore_n (lv' := [(1, .int x_5), (0, .ref (o + 0))]) hx hb dX12_goesOn_19 rfl hl (dk_dq rfl) rfl (fun ls hl => ?_)
      refine lv_aload_n hx hb dX12_goesOn_20 rfl (lv_at hl 1 rfl) ?_
      refine dg_get (C := RX12) (T := TX12) (N := 77) hx hb hts (fun w h => bw_mem (wU_X12 w h)) hown K hP sM_0 rfl 37 (dk_dq rfl) (hts _ (bw_mem wB_416)) (fun _ h9 => h9) (v := .ref (o + 22)) (show S_2.1 0 37 = .ref (o + 22) from dg_I.rel (d := 22) I_2 sM_0 (by decide +kernel)) dX12_goesOn_21 ?_
      refine lv_iload_n hx hb dX12_goesOn_24 rfl (lv_at hl 0 rfl) ?_
      have hin_6 : vp_in x_5 20 := (dk_inv2 (by omega))
      refine dg_iald hx hb K hP sM_22 hin_6 dX12_goesOn_25 (fun x_7 ex_7 => ?_)
      have b_x_7 := dk_all_at (dg_I.row (lo := 0) (hi := 6) I_2 sM_22 (by decide +kernel)) hin_6 ex_7
      refine lv_istore_n (lv' := [(2, .int x_7), (1, .int x_5), (0, .ref (o + 0))]) hx hb dX12_goesOn_26 rfl hl (dk_dq rfl) rfl (fun ls hl => ?_)
      refine lv_iload_n hx hb dX12_goesOn_27 rfl (lv_at hl 0 rfl) ?_
      refine dg_calli hS hA1 hA (va_runS (As := [.int x_7]) (rest := []) F (c_m_isTest l g D o S_2 x_7 I_2 H.size) (va_cwS 1 hts (bw_S wB_424 wB_425 wB_297 wB_423) rfl rfl rfl (by decide +kernel) ⟨Nat.le_of_ble_eq_true rfl, Nat.le_of_ble_eq_true rfl⟩) (dg_preS K ST hP hS hA1 hA) rfl rfl hl.1 rfl (lv_room (Nat.le_of_ble_eq_true rfl)) dX12_goesOn_28 ⟨Nat.le_of_ble_eq_true rfl, Nat.le_of_ble_eq_true rfl⟩) (fun x_8 S_9 hw_9 H locs hP hS => ?_)
      rw [hw_9.1] at hP
      obtain ⟨hq_9, w_9_0, w_9_1, -⟩ := hw_9
      have w_9_0 : 0 ≤ (x_8).toInt ∧ (x_8).toInt ≤ 1 := w_9_0
      have w_9_1 : (x_8).toInt = 1 ↔ ((x_7).toInt = 1 ∨ (x_7).toInt = 5 ∨ (x_7).toInt = 6) := w_9_1
      refine lv_istore_n (lv' := [(3, .int x_8), (2, .int x_7), (1, .int x_5), (0, .ref (o + 0))]) hx hb dX12_goesOn_31 rfl hl (dk_dq rfl) rfl (fun ls hl => ?_)
      refine lv_aload_n hx hb dX12_goesOn_32 rfl (lv_at hl 3 rfl) ?_
      refine dg_get (C := RX12) (T := TX12) (N := 77) hx hb hts (fun w h => bw_mem (wU_X12 w h)) hown K hP sM_0 rfl 38 (dk_dq rfl) (hts _ (bw_mem wB_417)) (fun _ h9 => h9) (v := .ref (o + 23)) (show S_2.1 0 38 = .ref (o + 23) from dg_I.rel (d := 23) I_2 sM_0 (by decide +kernel)) dX12_goesOn_33 ?_
      refine lv_iload_n hx hb dX12_goesOn_36 rfl (lv_at hl 2 rfl) ?_
      have hin_10 : vp_in x_5 20 := (dk_inv2 (by omega))
      refine dg_iald hx hb K hP sM_23 hin_10 dX12_goesOn_37 (fun x_11 ex_11 => ?_)
      have b_x_11 := dk_all_at (dg_I.row (lo := 0) (hi := 2) I_2 sM_23 (by decide +kernel)) hin_10 ex_11
      obtain ⟨nt0, R0, TF0⟩ := TFM.start (P1M.keep P1 m_2 (dk_dq rfl) (dk_dq rfl) (dk_dq rfl) (dk_dq rfl) (dk_dq rfl) (dk_dq rfl) (dk_dq rfl) (dk_dq rfl) (dk_dq rfl) (dk_dq rfl) (dk_dq rfl) (dk_dq rfl) (dk_dq rfl) (dk_dq rfl) (dk_dq rfl)) ((m_2.1 0 42 _ sM_0 (dk_dq rfl)).trans f_dp) ((m_2.1 0 43 _ sM_0 (dk_dq rfl)).trans f_on) ((m_2.1 0 45 _ sM_0 (dk_dq rfl)).trans f_om) (fx := x_5) (by omega) ex_7.symm ex_11.symm
      obtain ⟨bg0, hbg0⟩ : ∃ b, b = decide ((S_2.2.1 24 (x_5 : Int32).toNatClampNeg).toInt = 1) := ⟨_, rfl⟩
      rw [← hbg0] at TF0
      clear hbg0
      have hM0 : MSv S (t_ix tb tn (sa : Int32).toNatClampNeg) true = (0, ((x_7).toInt, (x_11).toInt, bg0, nt0) :: R0, (on).toNatClampNeg, (t_ix tb tn (sa : Int32).toNatClampNeg), true) := (MSv.keep m_2 (dk_dq rfl) (dk_dq rfl) (dk_dq rfl) (dk_dq rfl) (dk_dq rfl) (dk_dq rfl) (dk_dq rfl) (dk_dq rfl)).trans TF0.ms
      replace w_9_1 := m_hid.mk w_9_1
      have hpv9 : (S.2.1 23 ((dp : Int32).toNatClampNeg - 1)).toInt = (x_11).toInt := by rw [show (dp : Int32).toNatClampNeg - 1 = (x_5 : Int32).toNatClampNeg from by have h8 := dk_clN dp; have h9 := dk_clN x_5; omega]; exact congrArg Int32.toInt ((congrFun (m_2.2 23 _ sM_23 (dk_dq rfl)).1 _).symm.trans ex_11.symm)
      have hfv9 : (S.2.1 22 ((dp : Int32).toNatClampNeg - 1)).toInt = (x_7).toInt := by rw [show (dp : Int32).toNatClampNeg - 1 = (x_5 : Int32).toNatClampNeg from by have h8 := dk_clN dp; have h9 := dk_clN x_5; omega]; exact congrArg Int32.toInt ((congrFun (m_2.2 22 _ sM_22 (dk_dq rfl)).1 _).symm.trans ex_7.symm)
      obtain ⟨l0, p0, X0, XF0⟩ := XFM.start TF0 ((m_2.1 0 42 _ sM_0 (dk_dq rfl)).trans f_dp) ((m_2.1 0 43 _ sM_0 (dk_dq rfl)).trans f_on) ((m_2.1 0 45 _ sM_0 (dk_dq rfl)).trans f_om)
      have hcn0 : m_hid (n_cn l0 = nt0) := m_hid.mk (XFM.cn XF0 TF0 ((m_2.1 0 42 _ sM_0 (dk_dq rfl)).trans f_dp) ((m_2.1 0 43 _ sM_0 (dk_dq rfl)).trans f_on) ((m_2.1 0 45 _ sM_0 (dk_dq rfl)).trans f_om))
      have hN0 : ∀ out, NSv S (t_ix tb tn (sa : Int32).toNatClampNeg) true out = (0, ((x_7).toInt, (x_11).toInt, bg0, l0, n_np (x_7).toInt p0) :: n_Z R0 X0, (on).toNatClampNeg, (t_ix tb tn (sa : Int32).toNatClampNeg), true, out) := fun out => (NSv.keep m_2 (dk_dq rfl) (dk_dq rfl) (dk_dq rfl) (dk_dq rfl) (dk_dq rfl) (dk_dq rfl) (dk_dq rfl) (dk_dq rfl) (dk_dq rfl)).trans (NSv.ms TF0 XF0)
      as_aux_lemma =>
        refine lv_iconst (v := 2) hx hb dX12_goesOn_38 (by decide +kernel) ?_
        have J_290 : ∀ (u9 : Unit), (m_hid ((x_11).toInt < 2 → g_so (T_kd tb tn) (T_vl tb tn) (t_ix tb tn (sa : Int32).toNatClampNeg) = false ∧ g_po (T_kd tb tn) (T_vl tb tn) (t_ix tb tn (sa : Int32).toNatClampNeg) = false)) → ∀ (H : Heap) (locs : List Loc), va_P D vwCl (dg_w g shM o rfM S_2) H → va_S A s.heap H locs → ∀ ls : Array Slot, lv_has ls 5 [(3, .int x_8), (2, .int x_7), (1, .int x_5), (0, .ref (o + 0))] → W p l e ({ frames := 3, cells := 0, slots := 0, locals := 77 } : Room) s m args below meth c H locs 0 0 Q9 (F0 m 188 ls []) := by
          as_aux_lemma =>
            intro u9 rel_0 H locs hP hS ls hl
            have hnop := rel_0
            refine lv_iload_n hx hb dX12_goesOn_188 rfl (lv_at hl 0 rfl) ?_
            have J_548 : ∀ (u9 : Unit), (m_hid ((x_8).toInt = 1 → (x_11).toInt = 0 → g_co (T_kd tb tn) (T_vl tb tn) (t_ix tb tn (sa : Int32).toNatClampNeg) = false)) → ∀ (H : Heap) (locs : List Loc), va_P D vwCl (dg_w g shM o rfM S_2) H → va_S A s.heap H locs → ∀ ls : Array Slot, lv_has ls 5 [(3, .int x_8), (2, .int x_7), (1, .int x_5), (0, .ref (o + 0))] → W p l e ({ frames := 3, cells := 0, slots := 0, locals := 77 } : Room) s m args below meth c H locs 0 0 Q9 (F0 m 285 ls []) := by
              as_aux_lemma =>
                intro u9 rel_0 H locs hP hS ls hl
                have hnco := rel_0
                refine lv_iload_n hx hb dX12_goesOn_285 rfl (lv_at hl 0 rfl) ?_
                have J_790 : ∀ (u9 : Unit), (m_hid ((x_8).toInt = 1 → g_o (T_kd tb tn) (T_vl tb tn) 22 (t_ix tb tn (sa : Int32).toNatClampNeg) = false ∧ g_o (T_kd tb tn) (T_vl tb tn) 21 (t_ix tb tn (sa : Int32).toNatClampNeg) = false)) → ∀ (H : Heap) (locs : List Loc), va_P D vwCl (dg_w g shM o rfM S_2) H → va_S A s.heap H locs → ∀ ls : Array Slot, lv_has ls 5 [(3, .int x_8), (2, .int x_7), (1, .int x_5), (0, .ref (o + 0))] → W p l e ({ frames := 3, cells := 0, slots := 0, locals := 77 } : Room) s m args below meth c H locs 0 0 Q9 (F0 m 400 ls []) := by
                  as_aux_lemma =>
                    intro u9 rel_0 H locs hP hS ls hl
                    have hnao := rel_0
                    refine lv_iload_n hx hb dX12_goesOn_400 rfl (lv_at hl 0 rfl) ?_
                    have J_1023 : ∀ (u9 : Unit), (m_hid (¬ ((x_8).toInt = 1 ∧ (x_11).toInt = 0))) → ∀ (H : Heap) (locs : List Loc), va_P D vwCl (dg_w g shM o rfM S_2) H → va_S A s.heap H locs → ∀ ls : Array Slot, lv_has ls 5 [(3, .int x_8), (2, .int x_7), (1, .int x_5), (0, .ref (o + 0))] → W p l e ({ frames := 3, cells := 0, slots := 0, locals := 77 } : Room) s m args below meth c H locs 0 0 Q9 (F0 m 422 ls []) := by
                      as_aux_lemma =>
                        intro u9 rel_0 H locs hP hS ls hl
                        have h422 := rel_0
                        refine lv_iload_n hx hb dX12_goesOn_422 rfl (lv_at hl 1 rfl) ?_
                        refine lv_iconst (v := 2) hx hb dX12_goesOn_423 (by decide +kernel) ?_
                        refine lv_icmp_ge (tgt := 441) hx hb dX12_goesOn_424 (dk_dq rfl) (fun c_1024 => ?_) (fun c_1024 => ?_)
                        · as_aux_lemma =>
                            have jc_1024 := dk_gec (k := 2) (by decide +kernel) c_1024
                            refine lv_iload_n hx hb dX12_goesOn_441 rfl (lv_at hl 1 rfl) ?_
                            refine lv_iconst (v := 3) hx hb dX12_goesOn_442 (by decide +kernel) ?_
                            have J_1180 : ∀ (u9 : Unit), ((x_7 : Int32).toInt = 3 ∨ (x_7 : Int32).toInt = 6) → ∀ (H : Heap) (locs : List Loc), va_P D vwCl (dg_w g shM o rfM S_2) H → va_S A s.heap H locs → ∀ ls : Array Slot, lv_has ls 5 [(3, .int x_8), (2, .int x_7), (1, .int x_5), (0, .ref (o + 0))] → W p l e ({ frames := 3, cells := 0, slots := 0, locals := 77 } : Room) s m args below meth c H locs 0 0 Q9 (F0 m 452 ls []) := by
                              as_aux_lemma =>
                                intro u9 rel_0 H locs hP hS ls hl
                                refine lv_aload_n hx hb dX12_goesOn_452 rfl (lv_at hl 3 rfl) ?_
                                refine lv_bipush (v := 44) hx hb dX12_goesOn_453 (by decide +kernel) ?_
                                refine dg_calli hS hA1 hA (va_runV (As := [.int 44]) (rest := []) F (c_m_isSign l g D o S_2 44 sg ((m_2.1 0 3 _ sM_0 (dk_dq rfl)).trans f_sg) (by omega) va ((m_2.1 0 6 _ sM_0 (dk_dq rfl)).trans f_va) (by omega) I_2 H.size) (cwV 1 hts (bw_V wB_314 wB_315 wB_316 wB_297 wB_313) rfl rfl rfl (by decide +kernel) ⟨Nat.le_of_ble_eq_true rfl, Nat.le_of_ble_eq_true rfl⟩) (dg_preV sM_0 rfl K ST hP hS hA1 hA) rfl rfl hl.1 rfl (lv_room (Nat.le_of_ble_eq_true rfl)) dX12_goesOn_455 ⟨Nat.le_of_ble_eq_true rfl, Nat.le_of_ble_eq_true rfl⟩) (fun x_1181 S_1182 hw_1182 H locs hP hS => ?_)
                                rw [hw_1182.1] at hP
                                obtain ⟨hq_1182, w_1182_0, w_1182_1, -⟩ := hw_1182
                                have hz_1183 : (44 : Int32).toInt = 44 := by decide +kernel
                                have w_1182_0 : 0 ≤ (x_1181).toInt ∧ (x_1181).toInt ≤ 1 := w_1182_0
                                have w_1182_1 : (x_1181).toInt = 1 ↔ ((sg).toInt = 3 ∧ (va).toInt = ((44 : Int32)).toInt) := w_1182_1
                                refine lv_if_ne (tgt := 470) hx hb dX12_goesOn_458 (dk_dq rfl) (fun c_1184 => ?_) (fun c_1184 => ?_)
                                · as_aux_lemma =>
                                    have jc_1184 := dk_neqc (k := 0) (by decide +kernel) c_1184
                                    have jbc_1184 : 1 ≤ (x_1181).toInt := by omega
                                    clear jc_1184
                                    have qw_1182_1 : g_s (T_kd tb tn) (T_vl tb tn) 44 (t_ix tb tn (sa : Int32).toNatClampNeg) = true := (TKM.iss (TKM.keep TK m_2 (dk_dq rfl) (dk_dq rfl) (dk_dq rfl) (dk_dq rfl) (dk_dq rfl) (dk_dq rfl) (dk_dq rfl) (dk_dq rfl)) ((m_2.1 0 3 _ sM_0 (dk_dq rfl)).trans f_sg) ((m_2.1 0 4 _ sM_0 (dk_dq rfl)).trans f_sa) ((m_2.1 0 6 _ sM_0 (dk_dq rfl)).trans f_va) hk5.out (c := 44) (by have h9 := w_1182_1; rw [show (44 : Int32).toInt = 44 from by decide +kernel] at h9; exact h9)).mp (by omega)
                                    have w_1182_1_r := w_1182_1.mp (by omega)
                                    obtain ⟨w_1182_1_r1, w_1182_1_r2⟩ := w_1182_1_r
                                    clear w_1182_1
                                    have hlx_2r := hlx_2 (by omega)
                                    clear hlx_2
                                    refine lv_aload_n hx hb dX12_goesOn_470 rfl (lv_at hl 3 rfl) ?_
                                    refine dg_get (C := RX12) (T := TX12) (N := 77) hx hb hts (fun w h => bw_mem (wU_X12 w h)) hown K hP sM_0 rfl 8 (dk_dq rfl) (hts _ (bw_mem wB_303)) (fun _ h9 => h9) (v := .int y_3) f_y_3 dX12_goesOn_471 ?_
                                    refine lv_if_le (tgt := 479) hx hb dX12_goesOn_474 (dk_dq rfl) (fun _ => ?_) (fun c => absurd (dk_lep (k := 0) (by decide +kernel) (by omega)) c)
                                    refine lv_aload_n hx hb dX12_goesOn_479 rfl (lv_at hl 3 rfl) ?_
                                    refine lv_iconst (v := 1) hx hb dX12_goesOn_480 (by decide +kernel) ?_
                                    have hz_1185 : (1 : Int32).toInt = 1 := by decide +kernel
                                    refine dg_callv hS hA1 hA (va_runV (As := [.int 1]) (rest := []) F (c_m_joins l g D o S_2 1 (by decide +kernel) S0 cd ((m_2.1 0 34 _ sM_0 (dk_dq rfl)).trans f_cd) (by omega) om ((m_2.1 0 45 _ sM_0 (dk_dq rfl)).trans f_om) (by omega) (by omega) (ZWM.keep ZW m_2 (dk_dq rfl) (dk_dq rfl) (dk_dq rfl) (dk_dq rfl)) (ZKM.keep ZK m_2 (dk_dq rfl) (dk_dq rfl)) (P1M.keep P1 m_2 (dk_dq rfl) (dk_dq rfl) (dk_dq rfl) (dk_dq rfl) (dk_dq rfl) (dk_dq rfl) (dk_dq rfl) (dk_dq rfl) (dk_dq rfl) (dk_dq rfl) (dk_dq rfl) (dk_dq rfl) (dk_dq rfl) (dk_dq rfl) (dk_dq rfl)) (G8M.keep G8 m_2 (dk_dq rfl) (dk_dq rfl) (dk_dq rfl)) I_2 H.size) (cwV 1 hts (bw_V wB_437 wB_438 wB_439 wB_297 wB_436) rfl rfl rfl (by decide +kernel) ⟨Nat.le_of_ble_eq_true rfl, Nat.le_of_ble_eq_true rfl⟩) (dg_preV sM_0 rfl K ST hP hS hA1 hA) rfl rfl hl.1 rfl (lv_room (Nat.le_of_ble_eq_true rfl)) dX12_goesOn_481 ⟨Nat.le_of_ble_eq_true rfl, Nat.le_of_ble_eq_true rfl⟩) (fun S_1186 hw_1186 H locs hP hS => ?_)
                                    obtain ⟨I_1186, m_1186, w_1186_0, w_1186_1, w_1186_2, w_1186_3, w_1186_4, w_1186_5, w_1186_6, -⟩ := hw_1186
                                    have M_1186 := dg_sm.tr M_2 m_1186 (dk_dq rfl) (dk_dq rfl)
                                    have hz_1187 : (1 : Int32).toInt = 1 := by decide +kernel
                                    obtain ⟨y_1188, y_1189, f_y_1188, f_y_1189, w_1186_0⟩ := w_1186_0
                                    have w_1186_0 : (y_1188).toInt + (y_1189).toInt = (cd).toInt + (om).toInt := w_1186_0
                                    have b_y_1188 : 0 ≤ (y_1188).toInt ∧ (y_1188).toInt ≤ 1600 := dg_I.intb (lo := 0) (hi := 1600) I_1186 sM_0 (by decide +kernel) f_y_1188
                                    have b_y_1189 : 0 ≤ (y_1189).toInt ∧ (y_1189).toInt ≤ 500 := dg_I.intb (lo := 0) (hi := 500) I_1186 sM_0 (by decide +kernel) f_y_1189
                                    replace w_1186_1 : TOPM S_1186 (1 : Int32) := w_1186_1
                                    obtain ⟨x_1190, f_x_1190, b_x_1190⟩ := dg_I.int (i := 0) (k := 43) (lo := (-2147483648)) (hi := 2147483647) I_1186 sM_0 (by decide +kernel)
                                    replace w_1186_2 : JNM S_2 S_1186 (1 : Int32) := w_1186_2
                                    have TF_1186 : TFM (x_7).toInt (x_11).toInt bg0 0 R0 ((on).toNatClampNeg - nt0) S_1186 := (TFM.join TF0 (P1M.keep P1 m_2 (dk_dq rfl) (dk_dq rfl) (dk_dq rfl) (dk_dq rfl) (dk_dq rfl) (dk_dq rfl) (dk_dq rfl) (dk_dq rfl) (dk_dq rfl) (dk_dq rfl) (dk_dq rfl) (dk_dq rfl) (dk_dq rfl) (dk_dq rfl) (dk_dq rfl)) ((m_2.1 0 42 _ sM_0 (dk_dq rfl)).trans f_dp) ((m_2.1 0 43 _ sM_0 (dk_dq rfl)).trans f_on) ((m_2.1 0 45 _ sM_0 (dk_dq rfl)).trans f_om) w_1186_2 w_1186_1 m_1186 (dk_dq rfl) (dk_dq rfl) (dk_dq rfl) (dk_dq rfl) (dk_dq rfl) (dk_dq rfl)).2 (by decide +kernel) (by decide +kernel)
                                    replace w_1186_3 : JXM S_2 S_1186 := w_1186_3
                                    have XJ_1186 := XFM.join XF0 TF0 ((m_2.1 0 42 _ sM_0 (dk_dq rfl)).trans f_dp) ((m_2.1 0 43 _ sM_0 (dk_dq rfl)).trans f_on) ((m_2.1 0 45 _ sM_0 (dk_dq rfl)).trans f_om) w_1186_2 w_1186_3 w_1186_1 m_1186 (dk_dq rfl) (dk_dq rfl) (dk_dq rfl) (dk_dq rfl)
                                    rw [show (1 : Int32).toInt = 1 from by decide +kernel] at XJ_1186
                                    rw [n_hi_1.1, n_hi_1.2] at XJ_1186
                                    have XF_1186 : XFM [] p0 X0 S_1186 := XJ_1186.1
                                    have qa_1186 : q_am S S_1186 ((l0).map d_st) := (q_am.fs XJ_1186.2 (m_2.1 0 34 _ sM_0 (dk_dq rfl)) (m_2.1 0 35 _ sM_0 (dk_dq rfl)) (m_2.2 18 _ sM_18 (dk_dq rfl)).1 (m_2.2 19 _ sM_19 (dk_dq rfl)).1)
                                    have hdm_1190 := PSM.dims w_1186_5 (((m_1186.1 0 42 _ sM_0 (dk_dq rfl)).trans (m_2.1 0 42 _ sM_0 (dk_dq rfl))).trans f_dp) f_x_1190 f_y_1189
                                    refine lv_aload_n hx hb dX12_goesOn_484 rfl (lv_at hl 3 rfl) ?_
                                    refine dg_get (C := RX12) (T := TX12) (N := 77) hx hb hts (fun w h => bw_mem (wU_X12 w h)) hown K hP sM_0 rfl 37 (dk_dq rfl) (hts _ (bw_mem wB_416)) (fun _ h9 => h9) (v := .ref (o + 22)) (show S_1186.1 0 37 = .ref (o + 22) from dg_I.rel (d := 22) I_1186 sM_0 (by decide +kernel)) dX12_goesOn_485 ?_
                                    refine lv_iload_n hx hb dX12_goesOn_488 rfl (lv_at hl 2 rfl) ?_
                                    refine lv_iload_n hx hb dX12_goesOn_489 rfl (lv_at hl 1 rfl) ?_
                                    refine lv_iconst (v := 3) hx hb dX12_goesOn_490 (by decide +kernel) ?_
                                    refine lv_icmp_ne (tgt := 498) hx hb dX12_goesOn_491 (dk_dq rfl) (fun c_1192 => ?_) (fun c_1192 => ?_)
                                    · as_aux_lemma =>
                                        have jc_1192 := dk_neqc (k := 3) (by decide +kernel) c_1192
                                        have jbc_1192 : 6 ≤ (x_7).toInt := by omega
                                        clear jc_1192
                                        refine lv_iconst (v := 3) hx hb dX12_goesOn_498 (by decide +kernel) ?_
                                        have hin_1193 : vp_in x_5 20 := (dk_inv2 (by omega))
                                        have hz_1195 : (3 : Int32).toInt = 3 := by decide +kernel
                                        refine dg_iast hx hb K hP hS hA1 sM_22 hin_1193 dX12_goesOn_499 (fun S_1194 e_1194 H locs hP hS => ?_)
                                        have I_1194 := dg_I.ufu (lo := 0) (hi := 6) I_1186 e_1194 sM_22 (by decide +kernel) (show 0 ≤ ((3 : Int32)).toInt ∧ ((3 : Int32)).toInt ≤ 6 from (by decide +kernel))
                                        have M_1194 := dg_sm.uf M_1186 e_1194 sM_22 (dk_dq rfl)
                                        have hz_1196 : (3 : Int32).toInt = 3 := by decide +kernel
                                        have hz_1197 : (3 : Int32).toInt = 3 := by decide +kernel
                                        have TF_1194 : TFM 3 (x_11).toInt bg0 0 R0 ((on).toNatClampNeg - nt0) S_1194 := (by have h9 := (TFM.fr' TF_1186 (((m_1186.1 0 42 _ sM_0 (dk_dq rfl)).trans (m_2.1 0 42 _ sM_0 (dk_dq rfl))).trans f_dp) f_x_1190 f_y_1189 (fx := x_5) (by omega) (by omega) e_1194); rw [show (3 : Int32).toInt = 3 from by decide +kernel] at h9; exact h9)
                                        refine lv_aload_n hx hb dX12_goesOn_500 rfl (lv_at hl 3 rfl) ?_
                                        refine dg_get (C := RX12) (T := TX12) (N := 77) hx hb hts (fun w h => bw_mem (wU_X12 w h)) hown K hP sM_0 rfl 38 (dk_dq rfl) (hts _ (bw_mem wB_417)) (fun _ h9 => h9) (v := .ref (o + 23)) (show S_1194.1 0 38 = .ref (o + 23) from dg_I.rel (d := 23) I_1194 sM_0 (by decide +kernel)) dX12_goesOn_501 ?_
                                        refine lv_iload_n hx hb dX12_goesOn_504 rfl (lv_at hl 2 rfl) ?_
                                        refine lv_iconst (v := 0) hx hb dX12_goesOn_505 (by decide +kernel) ?_
                                        have hin_1198 : vp_in x_5 20 := (dk_inv2 (by omega))
                                        have hz_1200 : (0 : Int32).toInt = 0 := by decide +kernel
                                        refine dg_iast hx hb K hP hS hA1 sM_23 hin_1198 dX12_goesOn_506 (fun S_1199 e_1199 H locs hP hS => ?_)
                                        have I_1199 := dg_I.ufu (lo := 0) (hi := 2) I_1194 e_1199 sM_23 (by decide +kernel) (show 0 ≤ ((0 : Int32)).toInt ∧ ((0 : Int32)).toInt ≤ 2 from (by decide +kernel))
                                        have M_1199 := dg_sm.uf M_1194 e_1199 sM_23 (dk_dq rfl)
                                        have hz_1201 : (0 : Int32).toInt = 0 := by decide +kernel
                                        have P0_1199 : P0M S_1199 := P1M.comma w_1186_5 (((m_1186.1 0 42 _ sM_0 (dk_dq rfl)).trans (m_2.1 0 42 _ sM_0 (dk_dq rfl))).trans f_dp) f_x_1190 f_y_1189 w_1186_1 (by omega) (fx := x_5) (by omega) ((congrFun (m_1186.2 22 _ sM_22 (dk_dq rfl)).1 _).trans ex_7.symm) (by omega) e_1194 e_1199
                                        have hz_1202 : (0 : Int32).toInt = 0 := by decide +kernel
                                        have TF_1199 : TFM 3 0 bg0 0 R0 ((on).toNatClampNeg - nt0) S_1199 := (by have h9 := (TFM.ph' TF_1194 (((dg_uf_F e_1194 0 42).trans ((m_1186.1 0 42 _ sM_0 (dk_dq rfl)).trans (m_2.1 0 42 _ sM_0 (dk_dq rfl)))).trans f_dp) ((dg_uf_F e_1194 0 43).trans f_x_1190) ((dg_uf_F e_1194 0 45).trans f_y_1189) (fx := x_5) (by omega) (by omega) e_1199); rw [show (0 : Int32).toInt = 0 from by decide +kernel] at h9; exact h9)
                                        refine lv_aload_n hx hb dX12_goesOn_507 rfl (lv_at hl 3 rfl) ?_
                                        refine dg_callv hS hA1 hA (va_runV (As := []) (rest := []) F (c_m_ahead l g D o S_1199 tb tn se (((dg_uf_F e_1199 0 5).trans ((dg_uf_F e_1194 0 5).trans ((m_1186.1 0 5 _ sM_0 (dk_dq rfl)).trans (m_2.1 0 5 _ sM_0 (dk_dq rfl))))).trans f_se) (by omega) sl (((dg_uf_F e_1199 0 2).trans ((dg_uf_F e_1194 0 2).trans ((m_1186.1 0 2 _ sM_0 (dk_dq rfl)).trans (m_2.1 0 2 _ sM_0 (dk_dq rfl))))).trans f_sl) (by omega) (by omega) (TKM.keep (TKM.keep (TKM.keep (TKM.keep TK m_2 (dk_dq rfl) (dk_dq rfl) (dk_dq rfl) (dk_dq rfl) (dk_dq rfl) (dk_dq rfl) (dk_dq rfl) (dk_dq rfl)) m_1186 (dk_dq rfl) (dk_dq rfl) (dk_dq rfl) (dk_dq rfl) (dk_dq rfl) (dk_dq rfl) (dk_dq rfl) (dk_dq rfl)) (dg_sm.uf (WF := []) (WA := [22]) dg_sm.rf e_1194 sM_22 (dk_dq rfl)) (dk_dq rfl) (dk_dq rfl) (dk_dq rfl) (dk_dq rfl) (dk_dq rfl) (dk_dq rfl) (dk_dq rfl) (dk_dq rfl)) (dg_sm.uf (WF := []) (WA := [23]) dg_sm.rf e_1199 sM_23 (dk_dq rfl)) (dk_dq rfl) (dk_dq rfl) (dk_dq rfl) (dk_dq rfl) (dk_dq rfl) (dk_dq rfl) (dk_dq rfl) (dk_dq rfl)).1 I_1199 H.size) (cwV 0 hts (bw_V wB_318 wB_319 wB_320 wB_297 wB_317) rfl rfl rfl (by decide +kernel) ⟨Nat.le_of_ble_eq_true rfl, Nat.le_of_ble_eq_true rfl⟩) (dg_preV sM_0 rfl K ST hP hS hA1 hA) rfl rfl hl.1 rfl (lv_room (Nat.le_of_ble_eq_true rfl)) dX12_goesOn_508 ⟨Nat.le_of_ble_eq_true rfl, Nat.le_of_ble_eq_true rfl⟩) (fun S_1203 hw_1203 H locs hP hS => ?_)
                                        obtain ⟨I_1203, m_1203, w_1203_0, w_1203_1, -⟩ := hw_1203
                                        have M_1203 := dg_sm.tr M_1199 m_1203 (dk_dq rfl) (dk_dq rfl)
                                        obtain ⟨y_1204, y_1205, y_1206, f_y_1204, f_y_1205, f_y_1206, w_1203_0⟩ := w_1203_0
                                        have w_1203_0 : (se).toInt ≤ (y_1205).toInt ∧ (y_1205).toInt ≤ (y_1206).toInt ∧ (y_1206).toInt ≤ (sl).toInt ∧ ((y_1204).toInt ≠ 0 → (y_1205).toInt + 1 ≤ (y_1206).toInt) := w_1203_0
                                        obtain ⟨w_1203_0_0, w_1203_0_1, w_1203_0_2, w_1203_0_3⟩ := w_1203_0
                                        have lxh_w_1203_0_3 : m_hid ((y_1205).toInt ≤ (y_1206).toInt ∧ (y_1206).toInt ≤ (sl).toInt ∧ ((y_1204).toInt ≠ 0 → (y_1205).toInt + 1 ≤ (y_1206).toInt)) := m_hid.mk ⟨w_1203_0_1, w_1203_0_2, w_1203_0_3⟩
                                        have b_y_1204 : 0 ≤ (y_1204).toInt ∧ (y_1204).toInt ≤ 3 := dg_I.intb (lo := 0) (hi := 3) I_1203 sM_0 (by decide +kernel) f_y_1204
                                        have b_y_1205 : 0 ≤ (y_1205).toInt ∧ (y_1205).toInt ≤ 1600 := dg_I.intb (lo := 0) (hi := 1600) I_1203 sM_0 (by decide +kernel) f_y_1205
                                        have b_y_1206 : 0 ≤ (y_1206).toInt ∧ (y_1206).toInt ≤ 1600 := dg_I.intb (lo := 0) (hi := 1600) I_1203 sM_0 (by decide +kernel) f_y_1206
                                        replace w_1203_1 : TNX tb tn se S_1203 := w_1203_1
                                        obtain ⟨TK_1203, nx_1203, -⟩ := TKM.nx (TKM.keep (TKM.keep (TKM.keep (TKM.keep TK m_2 (dk_dq rfl) (dk_dq rfl) (dk_dq rfl) (dk_dq rfl) (dk_dq rfl) (dk_dq rfl) (dk_dq rfl) (dk_dq rfl)) m_1186 (dk_dq rfl) (dk_dq rfl) (dk_dq rfl) (dk_dq rfl) (dk_dq rfl) (dk_dq rfl) (dk_dq rfl) (dk_dq rfl)) (dg_sm.uf (WF := []) (WA := [22]) dg_sm.rf e_1194 sM_22 (dk_dq rfl)) (dk_dq rfl) (dk_dq rfl) (dk_dq rfl) (dk_dq rfl) (dk_dq rfl) (dk_dq rfl) (dk_dq rfl) (dk_dq rfl)) (dg_sm.uf (WF := []) (WA := [23]) dg_sm.rf e_1199 sM_23 (dk_dq rfl)) (dk_dq rfl) (dk_dq rfl) (dk_dq rfl) (dk_dq rfl) (dk_dq rfl) (dk_dq rfl) (dk_dq rfl) (dk_dq rfl)) (((dg_uf_F e_1199 0 4).trans ((dg_uf_F e_1194 0 4).trans ((m_1186.1 0 4 _ sM_0 (dk_dq rfl)).trans (m_2.1 0 4 _ sM_0 (dk_dq rfl))))).trans f_sa) (((dg_uf_F e_1199 0 5).trans ((dg_uf_F e_1194 0 5).trans ((m_1186.1 0 5 _ sM_0 (dk_dq rfl)).trans (m_2.1 0 5 _ sM_0 (dk_dq rfl))))).trans f_se) w_1203_1 m_1203 (dk_dq rfl) (dk_dq rfl) f_y_1205
                                        replace nx_1203 := nx_1203 (fun q9 => absurd ((TKM.zero (TKM.keep (TKM.keep (TKM.keep (TKM.keep TK m_2 (dk_dq rfl) (dk_dq rfl) (dk_dq rfl) (dk_dq rfl) (dk_dq rfl) (dk_dq rfl) (dk_dq rfl) (dk_dq rfl)) m_1186 (dk_dq rfl) (dk_dq rfl) (dk_dq rfl) (dk_dq rfl) (dk_dq rfl) (dk_dq rfl) (dk_dq rfl) (dk_dq rfl)) (dg_sm.uf (WF := []) (WA := [22]) dg_sm.rf e_1194 sM_22 (dk_dq rfl)) (dk_dq rfl) (dk_dq rfl) (dk_dq rfl) (dk_dq rfl) (dk_dq rfl) (dk_dq rfl) (dk_dq rfl) (dk_dq rfl)) (dg_sm.uf (WF := []) (WA := [23]) dg_sm.rf e_1199 sM_23 (dk_dq rfl)) (dk_dq rfl) (dk_dq rfl) (dk_dq rfl) (dk_dq rfl) (dk_dq rfl) (dk_dq rfl) (dk_dq rfl) (dk_dq rfl)) (((dg_uf_F e_1199 0 3).trans ((dg_uf_F e_1194 0 3).trans ((m_1186.1 0 3 _ sM_0 (dk_dq rfl)).trans (m_2.1 0 3 _ sM_0 (dk_dq rfl))))).trans f_sg) (((dg_uf_F e_1199 0 4).trans ((dg_uf_F e_1194 0 4).trans ((m_1186.1 0 4 _ sM_0 (dk_dq rfl)).trans (m_2.1 0 4 _ sM_0 (dk_dq rfl))))).trans f_sa)).mpr q9) (by omega))
                                        refine lv_aload_n hx hb dX12_goesOn_511 rfl (lv_at hl 3 rfl) ?_
                                        as_aux_lemma =>
                                          refine lv_iconst (v := 0) hx hb dX12_goesOn_512 (by decide +kernel) ?_
                                          have hz_1207 : (0 : Int32).toInt = 0 := by decide +kernel
                                          refine dg_put (ci := 12) (v := .int 0) (ty := tyX12 46) (C := RX12) (T := TX12) (N := 77) hx hb hts (fun w h => bw_mem (wU_X12 w h)) tyX12 tyX12_ok nmX12 hown K hP hS hA1 sM_0 rfl 46 (dk_dq rfl) (hts _ (bw_mem wB_440)) (fun _ h9 => h9) rfl (by decide +kernel) (by decide +kernel) (by decide +kernel) dX12_goesOn_513 (fun S_1208 e_1208 H locs hP hS => ?_)
                                          have I_1208 := dg_I.uFi (lo := 0) (hi := 1) I_1203 e_1208 sM_0 (by decide +kernel) (show 0 ≤ ((0 : Int32)).toInt ∧ ((0 : Int32)).toInt ≤ 1 from (by decide +kernel))
                                          have M_1208 := dg_sm.uF M_1203 e_1208 sM_0 (dk_dq rfl)
                                          refine lv_iconst (v := 1) hx hb dX12_goesOn_516 (by decide +kernel) ?_
                                          have hz_1209 : (1 : Int32).toInt = 1 := by decide +kernel
                                          have hz_1210 : (1 : Int32).toInt = 1 := by decide +kernel
                                          have hz_1211 : (0 : Int32).toInt = 0 := by decide +kernel
                                          have hz_1212 : (1 : Int32).toInt = 1 := by decide +kernel
                                          have hz_1213 : (0 : Int32).toInt = 0 := by decide +kernel
                                          have hz_1214 : (1 : Int32).toInt = 1 := by decide +kernel
                                          have hz_1215 : (1 : Int32).toInt = 1 := by decide +kernel
                                          have hz_1216 : (0 : Int32).toInt = 0 := by decide +kernel
                                          have hz_1217 : (1 : Int32).toInt = 1 := by decide +kernel
                                          have hz_1218 : (1 : Int32).toInt = 1 := by decide +kernel
                                          have hz_1219 : (0 : Int32).toInt = 0 := by decide +kernel
                                          refine W.widen (k := 0) (n := 0) (Nat.le_of_ble_eq_true rfl) (Nat.le_of_ble_eq_true rfl) ?_
                                          rw [hQ9]
                                          exact dg_iret hx hb hr hlocks (by decide +kernel) hP hS ⟨I_1208, M_1208, (by decide +kernel), ⟨y_1204, y_1205, y_1206, y_3, y_1188, dp, y_1189, 0, ((dg_uF_ne e_1208 (fun z => absurd z.2 (dk_dq rfl))).trans f_y_1204), ((dg_uF_ne e_1208 (fun z => absurd z.2 (dk_dq rfl))).trans f_y_1205), ((dg_uF_ne e_1208 (fun z => absurd z.2 (dk_dq rfl))).trans f_y_1206), (((dg_uF_ne e_1208 (fun z => absurd z.2 (dk_dq rfl))).trans ((m_1203.1 0 8 _ sM_0 (dk_dq rfl)).trans ((dg_uf_F e_1199 0 8).trans ((dg_uf_F e_1194 0 8).trans (m_1186.1 0 8 _ sM_0 (dk_dq rfl)))))).trans f_y_3), (((dg_uF_ne e_1208 (fun z => absurd z.2 (dk_dq rfl))).trans ((m_1203.1 0 34 _ sM_0 (dk_dq rfl)).trans ((dg_uf_F e_1199 0 34).trans (dg_uf_F e_1194 0 34)))).trans f_y_1188), (((dg_uF_ne e_1208 (fun z => absurd z.2 (dk_dq rfl))).trans ((m_1203.1 0 42 _ sM_0 (dk_dq rfl)).trans ((dg_uf_F e_1199 0 42).trans ((dg_uf_F e_1194 0 42).trans ((m_1186.1 0 42 _ sM_0 (dk_dq rfl)).trans (m_2.1 0 42 _ sM_0 (dk_dq rfl))))))).trans f_dp), (((dg_uF_ne e_1208 (fun z => absurd z.2 (dk_dq rfl))).trans ((m_1203.1 0 45 _ sM_0 (dk_dq rfl)).trans ((dg_uf_F e_1199 0 45).trans (dg_uf_F e_1194 0 45)))).trans f_y_1189), (dg_uF_at e_1208), ⟨lxh_w_1203_0_3.out, (by omega)⟩⟩, (fun k9 hk9 hk0 => POM.mk0 (P0M.keep (P0M.keep P0_1199 m_1203 (dk_dq rfl) (dk_dq rfl) (dk_dq rfl) (dk_dq rfl) (dk_dq rfl) (dk_dq rfl) (dk_dq rfl) (dk_dq rfl) (dk_dq rfl) (dk_dq rfl) (dk_dq rfl) (dk_dq rfl) (dk_dq rfl) (dk_dq rfl) (dk_dq rfl)) (dg_sm.uF (WF := [(0, 46)]) (WA := []) dg_sm.rf e_1208 sM_0 (dk_dq rfl)) (dk_dq rfl) (dk_dq rfl) (dk_dq rfl) (dk_dq rfl) (dk_dq rfl) (dk_dq rfl) (dk_dq rfl) (dk_dq rfl) (dk_dq rfl) (dk_dq rfl) (dk_dq rfl) (dk_dq rfl) (dk_dq rfl) (dk_dq rfl) (dk_dq rfl)) (dg_uF_at e_1208) (by omega)), (GOK.ok f_sa (((dg_uF_ne e_1208 (fun z => absurd z.2 (dk_dq rfl))).trans ((m_1203.1 0 8 _ sM_0 (dk_dq rfl)).trans ((dg_uf_F e_1199 0 8).trans ((dg_uf_F e_1194 0 8).trans (m_1186.1 0 8 _ sM_0 (dk_dq rfl)))))).trans f_y_3) ((dg_uF_ne e_1208 (fun z => absurd z.2 (dk_dq rfl))).trans f_y_1205) (dg_uF_at e_1208) (by omega) hM0 (TFM.keep (TFM.keep TF_1199 m_1203 (dk_dq rfl) (dk_dq rfl) (dk_dq rfl) (dk_dq rfl) (dk_dq rfl) (dk_dq rfl) (dk_dq rfl) (dk_dq rfl)) (dg_sm.uF (WF := [(0, 46)]) (WA := []) dg_sm.rf e_1208 sM_0 (dk_dq rfl)) (dk_dq rfl) (dk_dq rfl) (dk_dq rfl) (dk_dq rfl) (dk_dq rfl) (dk_dq rfl) (dk_dq rfl) (dk_dq rfl)) (m_st_t.trans ((m_go_com hnop.out (by by_cases q8 : (x_7).toInt = 3; exact Or.inl q8; exact Or.inr ⟨by omega, (by have h9 := h422.out; have h8 := (w_9_1.out.mpr (Or.inr (Or.inr (by omega)))); omega), (hnao.out (w_9_1.out.mpr (Or.inr (Or.inr (by omega))))).1, (hnao.out (w_9_1.out.mpr (Or.inr (Or.inr (by omega))))).2⟩) qw_1182_1).trans (by rw [if_neg (by omega)]))) (by omega) (by decide +kernel) (by first | decide +kernel | exact decide_eq_true (by omega))), (GON.ok f_sa ((dg_uF_ne e_1208 (fun z => absurd z.2 (dk_dq rfl))).trans f_y_1205) (dg_uF_at e_1208) hN0 (TFM.keep (TFM.keep TF_1199 m_1203 (dk_dq rfl) (dk_dq rfl) (dk_dq rfl) (dk_dq rfl) (dk_dq rfl) (dk_dq rfl) (dk_dq rfl) (dk_dq rfl)) (dg_sm.uF (WF := [(0, 46)]) (WA := []) dg_sm.rf e_1208 sM_0 (dk_dq rfl)) (dk_dq rfl) (dk_dq rfl) (dk_dq rfl) (dk_dq rfl) (dk_dq rfl) (dk_dq rfl) (dk_dq rfl) (dk_dq rfl)) (XFM.keep (XFM.keep (XFM.keep (XFM.keep XF_1186 (dg_sm.uf (WF := []) (WA := [22]) dg_sm.rf e_1194 sM_22 (dk_dq rfl)) (dk_dq rfl) (dk_dq rfl) (dk_dq rfl) (dk_dq rfl) (dk_dq rfl)) (dg_sm.uf (WF := []) (WA := [23]) dg_sm.rf e_1199 sM_23 (dk_dq rfl)) (dk_dq rfl) (dk_dq rfl) (dk_dq rfl) (dk_dq rfl) (dk_dq rfl)) m_1203 (dk_dq rfl) (dk_dq rfl) (dk_dq rfl) (dk_dq rfl) (dk_dq rfl)) (dg_sm.uF (WF := [(0, 46)]) (WA := []) dg_sm.rf e_1208 sM_0 (dk_dq rfl)) (dk_dq rfl) (dk_dq rfl) (dk_dq rfl) (dk_dq rfl) (dk_dq rfl)) (q_am.mv qa_1186 ((dg_uF_ne e_1208 (fun z => absurd z.2 (dk_dq rfl))).trans ((m_1203.1 0 34 _ sM_0 (dk_dq rfl)).trans ((dg_uf_F e_1199 0 34).trans (dg_uf_F e_1194 0 34)))) ((dg_uF_ne e_1208 (fun z => absurd z.2 (dk_dq rfl))).trans ((m_1203.1 0 35 _ sM_0 (dk_dq rfl)).trans ((dg_uf_F e_1199 0 35).trans (dg_uf_F e_1194 0 35)))) ((dg_uF_f e_1208 18).trans ((m_1203.2 18 _ sM_18 (dk_dq rfl)).1.trans ((dg_uf_ne e_1199 (dk_dq rfl)).trans (dg_uf_ne e_1194 (dk_dq rfl))))) ((dg_uF_f e_1208 19).trans ((m_1203.2 19 _ sM_19 (dk_dq rfl)).1.trans ((dg_uf_ne e_1199 (dk_dq rfl)).trans (dg_uf_ne e_1194 (dk_dq rfl)))))) (fun out => by rw [n_go_com hnop.out (by by_cases q8 : (x_7).toInt = 3; exact Or.inl q8; exact Or.inr ⟨by omega, (by have h9 := h422.out; have h8 := (w_9_1.out.mpr (Or.inr (Or.inr (by omega)))); omega), (hnao.out (w_9_1.out.mpr (Or.inr (Or.inr (by omega))))).1, (hnao.out (w_9_1.out.mpr (Or.inr (Or.inr (by omega))))).2⟩) qw_1182_1, if_neg (show ¬ (x_7).toInt = 3 from by omega), hcn0.out, show n_np (x_7).toInt p0 = n_np 3 p0 from by unfold n_np; rw [if_pos (by omega), if_pos (by omega)]]) (by omega) (by decide +kernel) (by first | decide +kernel | exact decide_eq_true (by omega))), (TKM.keep TK_1203 (dg_sm.uF (WF := [(0, 46)]) (WA := []) dg_sm.rf e_1208 sM_0 (dk_dq rfl)) (dk_dq rfl) (dk_dq rfl) (dk_dq rfl) (dk_dq rfl) (dk_dq rfl) (dk_dq rfl) (dk_dq rfl) (dk_dq rfl)), (ZWM.keep (ZWM.keep (ZWM.keep (ZWM.keep w_1186_4 (dg_sm.uf (WF := []) (WA := [22]) dg_sm.rf e_1194 sM_22 (dk_dq rfl)) (dk_dq rfl) (dk_dq rfl) (dk_dq rfl) (dk_dq rfl)) (dg_sm.uf (WF := []) (WA := [23]) dg_sm.rf e_1199 sM_23 (dk_dq rfl)) (dk_dq rfl) (dk_dq rfl) (dk_dq rfl) (dk_dq rfl)) m_1203 (dk_dq rfl) (dk_dq rfl) (dk_dq rfl) (dk_dq rfl)) (dg_sm.uF (WF := [(0, 46)]) (WA := []) dg_sm.rf e_1208 sM_0 (dk_dq rfl)) (dk_dq rfl) (dk_dq rfl) (dk_dq rfl) (dk_dq rfl)), (G8M.keep (G8M.keep (G8M.keep (G8M.keep w_1186_6 (dg_sm.uf (WF := []) (WA := [22]) dg_sm.rf e_1194 sM_22 (dk_dq rfl)) (dk_dq rfl) (dk_dq rfl) (dk_dq rfl)) (dg_sm.uf (WF := []) (WA := [23]) dg_sm.rf e_1199 sM_23 (dk_dq rfl)) (dk_dq rfl) (dk_dq rfl) (dk_dq rfl)) m_1203 (dk_dq rfl) (dk_dq rfl) (dk_dq rfl)) (dg_sm.uF (WF := [(0, 46)]) (WA := []) dg_sm.rf e_1208 sM_0 (dk_dq rfl)) (dk_dq rfl) (dk_dq rfl) (dk_dq rfl)), trivial⟩ dX12_goesOn_517
                                    · as_aux_lemma =>
                                        have jc_1192 := dk_eqc (k := 3) (by decide +kernel) c_1192
                                        refine lv_iconst (v := 4) hx hb dX12_goesOn_494 (by decide +kernel) ?_
                                        refine lv_goto (tgt := 499) hx hb dX12_goesOn_495 (dk_dq rfl) ?_
                                        have hin_1220 : vp_in x_5 20 := (dk_inv2 (by omega))
                                        have hz_1222 : (4 : Int32).toInt = 4 := by decide +kernel
                                        refine dg_iast hx hb K hP hS hA1 sM_22 hin_1220 dX12_goesOn_499 (fun S_1221 e_1221 H locs hP hS => ?_)
                                        have I_1221 := dg_I.ufu (lo := 0) (hi := 6) I_1186 e_1221 sM_22 (by decide +kernel) (show 0 ≤ ((4 : Int32)).toInt ∧ ((4 : Int32)).toInt ≤ 6 from (by decide +kernel))
                                        have M_1221 := dg_sm.uf M_1186 e_1221 sM_22 (dk_dq rfl)
                                        have hz_1223 : (4 : Int32).toInt = 4 := by decide +kernel
                                        have hz_1224 : (4 : Int32).toInt = 4 := by decide +kernel
                                        have TF_1221 : TFM 4 (x_11).toInt bg0 0 R0 ((on).toNatClampNeg - nt0) S_1221 := (by have h9 := (TFM.fr' TF_1186 (((m_1186.1 0 42 _ sM_0 (dk_dq rfl)).trans (m_2.1 0 42 _ sM_0 (dk_dq rfl))).trans f_dp) f_x_1190 f_y_1189 (fx := x_5) (by omega) (by omega) e_1221); rw [show (4 : Int32).toInt = 4 from by decide +kernel] at h9; exact h9)
                                        refine lv_aload_n hx hb dX12_goesOn_500 rfl (lv_at hl 3 rfl) ?_
                                        refine dg_get (C := RX12) (T := TX12) (N := 77) hx hb hts (fun w h => bw_mem (wU_X12 w h)) hown K hP sM_0 rfl 38 (dk_dq rfl) (hts _ (bw_mem wB_417)) (fun _ h9 => h9) (v := .ref (o + 23)) (show S_1221.1 0 38 = .ref (o + 23) from dg_I.rel (d := 23) I_1221 sM_0 (by decide +kernel)) dX12_goesOn_501 ?_
                                        refine lv_iload_n hx hb dX12_goesOn_504 rfl (lv_at hl 2 rfl) ?_
                                        refine lv_iconst (v := 0) hx hb dX12_goesOn_505 (by decide +kernel) ?_
                                        have hin_1225 : vp_in x_5 20 := (dk_inv2 (by omega))
                                        have hz_1227 : (0 : Int32).toInt = 0 := by decide +kernel
                                        refine dg_iast hx hb K hP hS hA1 sM_23 hin_1225 dX12_goesOn_506 (fun S_1226 e_1226 H locs hP hS => ?_)
                                        have I_1226 := dg_I.ufu (lo := 0) (hi := 2) I_1221 e_1226 sM_23 (by decide +kernel) (show 0 ≤ ((0 : Int32)).toInt ∧ ((0 : Int32)).toInt ≤ 2 from (by decide +kernel))
                                        have M_1226 := dg_sm.uf M_1221 e_1226 sM_23 (dk_dq rfl)
                                        have hz_1228 : (0 : Int32).toInt = 0 := by decide +kernel
                                        have P0_1226 : P0M S_1226 := P1M.comma w_1186_5 (((m_1186.1 0 42 _ sM_0 (dk_dq rfl)).trans (m_2.1 0 42 _ sM_0 (dk_dq rfl))).trans f_dp) f_x_1190 f_y_1189 w_1186_1 (by omega) (fx := x_5) (by omega) ((congrFun (m_1186.2 22 _ sM_22 (dk_dq rfl)).1 _).trans ex_7.symm) (by omega) e_1221 e_1226
                                        have hz_1229 : (0 : Int32).toInt = 0 := by decide +kernel
                                        have TF_1226 : TFM 4 0 bg0 0 R0 ((on).toNatClampNeg - nt0) S_1226 := (by have h9 := (TFM.ph' TF_1221 (((dg_uf_F e_1221 0 42).trans ((m_1186.1 0 42 _ sM_0 (dk_dq rfl)).trans (m_2.1 0 42 _ sM_0 (dk_dq rfl)))).trans f_dp) ((dg_uf_F e_1221 0 43).trans f_x_1190) ((dg_uf_F e_1221 0 45).trans f_y_1189) (fx := x_5) (by omega) (by omega) e_1226); rw [show (0 : Int32).toInt = 0 from by decide +kernel] at h9; exact h9)
                                        refine lv_aload_n hx hb dX12_goesOn_507 rfl (lv_at hl 3 rfl) ?_
                                        refine dg_callv hS hA1 hA (va_runV (As := []) (rest := []) F (c_m_ahead l g D o S_1226 tb tn se (((dg_uf_F e_1226 0 5).trans ((dg_uf_F e_1221 0 5).trans ((m_1186.1 0 5 _ sM_0 (dk_dq rfl)).trans (m_2.1 0 5 _ sM_0 (dk_dq rfl))))).trans f_se) (by omega) sl (((dg_uf_F e_1226 0 2).trans ((dg_uf_F e_1221 0 2).trans ((m_1186.1 0 2 _ sM_0 (dk_dq rfl)).trans (m_2.1 0 2 _ sM_0 (dk_dq rfl))))).trans f_sl) (by omega) (by omega) (TKM.keep (TKM.keep (TKM.keep (TKM.keep TK m_2 (dk_dq rfl) (dk_dq rfl) (dk_dq rfl) (dk_dq rfl) (dk_dq rfl) (dk_dq rfl) (dk_dq rfl) (dk_dq rfl)) m_1186 (dk_dq rfl) (dk_dq rfl) (dk_dq rfl) (dk_dq rfl) (dk_dq rfl) (dk_dq rfl) (dk_dq rfl) (dk_dq rfl)) (dg_sm.uf (WF := []) (WA := [22]) dg_sm.rf e_1221 sM_22 (dk_dq rfl)) (dk_dq rfl) (dk_dq rfl) (dk_dq rfl) (dk_dq rfl) (dk_dq rfl) (dk_dq rfl) (dk_dq rfl) (dk_dq rfl)) (dg_sm.uf (WF := []) (WA := [23]) dg_sm.rf e_1226 sM_23 (dk_dq rfl)) (dk_dq rfl) (dk_dq rfl) (dk_dq rfl) (dk_dq rfl) (dk_dq rfl) (dk_dq rfl) (dk_dq rfl) (dk_dq rfl)).1 I_1226 H.size) (cwV 0 hts (bw_V wB_318 wB_319 wB_320 wB_297 wB_317) rfl rfl rfl (by decide +kernel) ⟨Nat.le_of_ble_eq_true rfl, Nat.le_of_ble_eq_true rfl⟩) (dg_preV sM_0 rfl K ST hP hS hA1 hA) rfl rfl hl.1 rfl (lv_room (Nat.le_of_ble_eq_true rfl)) dX12_goesOn_508 ⟨Nat.le_of_ble_eq_true rfl, Nat.le_of_ble_eq_true rfl⟩) (fun S_1230 hw_1230 H locs hP hS => ?_)
                                        obtain ⟨I_1230, m_1230, w_1230_0, w_1230_1, -⟩ := hw_1230
                                        have M_1230 := dg_sm.tr M_1226 m_1230 (dk_dq rfl) (dk_dq rfl)
                                        obtain ⟨y_1231, y_1232, y_1233, f_y_1231, f_y_1232, f_y_1233, w_1230_0⟩ := w_1230_0
                                        have w_1230_0 : (se).toInt ≤ (y_1232).toInt ∧ (y_1232).toInt ≤ (y_1233).toInt ∧ (y_1233).toInt ≤ (sl).toInt ∧ ((y_1231).toInt ≠ 0 → (y_1232).toInt + 1 ≤ (y_1233).toInt) := w_1230_0
                                        obtain ⟨w_1230_0_0, w_1230_0_1, w_1230_0_2, w_1230_0_3⟩ := w_1230_0
                                        have lxh_w_1230_0_3 : m_hid ((y_1232).toInt ≤ (y_1233).toInt ∧ (y_1233).toInt ≤ (sl).toInt ∧ ((y_1231).toInt ≠ 0 → (y_1232).toInt + 1 ≤ (y_1233).toInt)) := m_hid.mk ⟨w_1230_0_1, w_1230_0_2, w_1230_0_3⟩
                                        have b_y_1231 : 0 ≤ (y_1231).toInt ∧ (y_1231).toInt ≤ 3 := dg_I.intb (lo := 0) (hi := 3) I_1230 sM_0 (by decide +kernel) f_y_1231
                                        have b_y_1232 : 0 ≤ (y_1232).toInt ∧ (y_1232).toInt ≤ 1600 := dg_I.intb (lo := 0) (hi := 1600) I_1230 sM_0 (by decide +kernel) f_y_1232
                                        have b_y_1233 : 0 ≤ (y_1233).toInt ∧ (y_1233).toInt ≤ 1600 := dg_I.intb (lo := 0) (hi := 1600) I_1230 sM_0 (by decide +kernel) f_y_1233
                                        replace w_1230_1 : TNX tb tn se S_1230 := w_1230_1
                                        obtain ⟨TK_1230, nx_1230, -⟩ := TKM.nx (TKM.keep (TKM.keep (TKM.keep (TKM.keep TK m_2 (dk_dq rfl) (dk_dq rfl) (dk_dq rfl) (dk_dq rfl) (dk_dq rfl) (dk_dq rfl) (dk_dq rfl) (dk_dq rfl)) m_1186 (dk_dq rfl) (dk_dq rfl) (dk_dq rfl) (dk_dq rfl) (dk_dq rfl) (dk_dq rfl) (dk_dq rfl) (dk_dq rfl)) (dg_sm.uf (WF := []) (WA := [22]) dg_sm.rf e_1221 sM_22 (dk_dq rfl)) (dk_dq rfl) (dk_dq rfl) (dk_dq rfl) (dk_dq rfl) (dk_dq rfl) (dk_dq rfl) (dk_dq rfl) (dk_dq rfl)) (dg_sm.uf (WF := []) (WA := [23]) dg_sm.rf e_1226 sM_23 (dk_dq rfl)) (dk_dq rfl) (dk_dq rfl) (dk_dq rfl) (dk_dq rfl) (dk_dq rfl) (dk_dq rfl) (dk_dq rfl) (dk_dq rfl)) (((dg_uf_F e_1226 0 4).trans ((dg_uf_F e_1221 0 4).trans ((m_1186.1 0 4 _ sM_0 (dk_dq rfl)).trans (m_2.1 0 4 _ sM_0 (dk_dq rfl))))).trans f_sa) (((dg_uf_F e_1226 0 5).trans ((dg_uf_F e_1221 0 5).trans ((m_1186.1 0 5 _ sM_0 (dk_dq rfl)).trans (m_2.1 0 5 _ sM_0 (dk_dq rfl))))).trans f_se) w_1230_1 m_1230 (dk_dq rfl) (dk_dq rfl) f_y_1232
                                        replace nx_1230 := nx_1230 (fun q9 => absurd ((TKM.zero (TKM.keep (TKM.keep (TKM.keep (TKM.keep TK m_2 (dk_dq rfl) (dk_dq rfl) (dk_dq rfl) (dk_dq rfl) (dk_dq rfl) (dk_dq rfl) (dk_dq rfl) (dk_dq rfl)) m_1186 (dk_dq rfl) (dk_dq rfl) (dk_dq rfl) (dk_dq rfl) (dk_dq rfl) (dk_dq rfl) (dk_dq rfl) (dk_dq rfl)) (dg_sm.uf (WF := []) (WA := [22]) dg_sm.rf e_1221 sM_22 (dk_dq rfl)) (dk_dq rfl) (dk_dq rfl) (dk_dq rfl) (dk_dq rfl) (dk_dq rfl) (dk_dq rfl) (dk_dq rfl) (dk_dq rfl)) (dg_sm.uf (WF := []) (WA := [23]) dg_sm.rf e_1226 sM_23 (dk_dq rfl)) (dk_dq rfl) (dk_dq rfl) (dk_dq rfl) (dk_dq rfl) (dk_dq rfl) (dk_dq rfl) (dk_dq rfl) (dk_dq rfl)) (((dg_uf_F e_1226 0 3).trans ((dg_uf_F e_1221 0 3).trans ((m_1186.1 0 3 _ sM_0 (dk_dq rfl)).trans (m_2.1 0 3 _ sM_0 (dk_dq rfl))))).trans f_sg) (((dg_uf_F e_1226 0 4).trans ((dg_uf_F e_1221 0 4).trans ((m_1186.1 0 4 _ sM_0 (dk_dq rfl)).trans (m_2.1 0 4 _ sM_0 (dk_dq rfl))))).trans f_sa)).mpr q9) (by omega))
                                        refine lv_aload_n hx hb dX12_goesOn_511 rfl (lv_at hl 3 rfl) ?_
                                        refine lv_iconst (v := 0) hx hb dX12_goesOn_512 (by decide +kernel) ?_
                                        have hz_1234 : (0 : Int32).toInt = 0 := by decide +kernel
                                        as_aux_lemma =>
                                          refine dg_put (ci := 12) (v := .int 0) (ty := tyX12 46) (C := RX12) (T := TX12) (N := 77) hx hb hts (fun w h => bw_mem (wU_X12 w h)) tyX12 tyX12_ok nmX12 hown K hP hS hA1 sM_0 rfl 46 (dk_dq rfl) (hts _ (bw_mem wB_440)) (fun _ h9 => h9) rfl (by decide +kernel) (by decide +kernel) (by decide +kernel) dX12_goesOn_513 (fun S_1235 e_1235 H locs hP hS => ?_)
                                          have I_1235 := dg_I.uFi (lo := 0) (hi := 1) I_1230 e_1235 sM_0 (by decide +kernel) (show 0 ≤ ((0 : Int32)).toInt ∧ ((0 : Int32)).toInt ≤ 1 from (by decide +kernel))
                                          have M_1235 := dg_sm.uF M_1230 e_1235 sM_0 (dk_dq rfl)
                                          refine lv_iconst (v := 1) hx hb dX12_goesOn_516 (by decide +kernel) ?_
                                          have hz_1236 : (1 : Int32).toInt = 1 := by decide +kernel
                                          have hz_1237 : (1 : Int32).toInt = 1 := by decide +kernel
                                          have hz_1238 : (0 : Int32).toInt = 0 := by decide +kernel
                                          have hz_1239 : (1 : Int32).toInt = 1 := by decide +kernel
                                          have hz_1240 : (0 : Int32).toInt = 0 := by decide +kernel
                                          have hz_1241 : (1 : Int32).toInt = 1 := by decide +kernel
                                          have hz_1242 : (1 : Int32).toInt = 1 := by decide +kernel
                                          have hz_1243 : (0 : Int32).toInt = 0 := by decide +kernel
                                          have hz_1244 : (1 : Int32).toInt = 1 := by decide +kernel
                                          have hz_1245 : (1 : Int32).toInt = 1 := by decide +kernel
                                          have hz_1246 : (0 : Int32).toInt = 0 := by decide +kernel
                                          refine W.widen (k := 0) (n := 0) (Nat.le_of_ble_eq_true rfl) (Nat.le_of_ble_eq_true rfl) ?_
                                          rw [hQ9]
                                          exact dg_iret hx hb hr hlocks (by decide +kernel) hP hS ⟨I_1235, M_1235, (by decide +kernel), ⟨y_1231, y_1232, y_1233, y_3, y_1188, dp, y_1189, 0, ((dg_uF_ne e_1235 (fun z => absurd z.2 (dk_dq rfl))).trans f_y_1231), ((dg_uF_ne e_1235 (fun z => absurd z.2 (dk_dq rfl))).trans f_y_1232), ((dg_uF_ne e_1235 (fun z => absurd z.2 (dk_dq rfl))).trans f_y_1233), (((dg_uF_ne e_1235 (fun z => absurd z.2 (dk_dq rfl))).trans ((m_1230.1 0 8 _ sM_0 (dk_dq rfl)).trans ((dg_uf_F e_1226 0 8).trans ((dg_uf_F e_1221 0 8).trans (m_1186.1 0 8 _ sM_0 (dk_dq rfl)))))).trans f_y_3), (((dg_uF_ne e_1235 (fun z => absurd z.2 (dk_dq rfl))).trans ((m_1230.1 0 34 _ sM_0 (dk_dq rfl)).trans ((dg_uf_F e_1226 0 34).trans (dg_uf_F e_1221 0 34)))).trans f_y_1188), (((dg_uF_ne e_1235 (fun z => absurd z.2 (dk_dq rfl))).trans ((m_1230.1 0 42 _ sM_0 (dk_dq rfl)).trans ((dg_uf_F e_1226 0 42).trans ((dg_uf_F e_1221 0 42).trans ((m_1186.1 0 42 _ sM_0 (dk_dq rfl)).trans (m_2.1 0 42 _ sM_0 (dk_dq rfl))))))).trans f_dp), (((dg_uF_ne e_1235 (fun z => absurd z.2 (dk_dq rfl))).trans ((m_1230.1 0 45 _ sM_0 (dk_dq rfl)).trans ((dg_uf_F e_1226 0 45).trans (dg_uf_F e_1221 0 45)))).trans f_y_1189), (dg_uF_at e_1235), ⟨lxh_w_1230_0_3.out, (by omega)⟩⟩, (fun k9 hk9 hk0 => POM.mk0 (P0M.keep (P0M.keep P0_1226 m_1230 (dk_dq rfl) (dk_dq rfl) (dk_dq rfl) (dk_dq rfl) (dk_dq rfl) (dk_dq rfl) (dk_dq rfl) (dk_dq rfl) (dk_dq rfl) (dk_dq rfl) (dk_dq rfl) (dk_dq rfl) (dk_dq rfl) (dk_dq rfl) (dk_dq rfl)) (dg_sm.uF (WF := [(0, 46)]) (WA := []) dg_sm.rf e_1235 sM_0 (dk_dq rfl)) (dk_dq rfl) (dk_dq rfl) (dk_dq rfl) (dk_dq rfl) (dk_dq rfl) (dk_dq rfl) (dk_dq rfl) (dk_dq rfl) (dk_dq rfl) (dk_dq rfl) (dk_dq rfl) (dk_dq rfl) (dk_dq rfl) (dk_dq rfl) (dk_dq rfl)) (dg_uF_at e_1235) (by omega)), (GOK.ok f_sa (((dg_uF_ne e_1235 (fun z => absurd z.2 (dk_dq rfl))).trans ((m_1230.1 0 8 _ sM_0 (dk_dq rfl)).trans ((dg_uf_F e_1226 0 8).trans ((dg_uf_F e_1221 0 8).trans (m_1186.1 0 8 _ sM_0 (dk_dq rfl)))))).trans f_y_3) ((dg_uF_ne e_1235 (fun z => absurd z.2 (dk_dq rfl))).trans f_y_1232) (dg_uF_at e_1235) (by omega) hM0 (TFM.keep (TFM.keep TF_1226 m_1230 (dk_dq rfl) (dk_dq rfl) (dk_dq rfl) (dk_dq rfl) (dk_dq rfl) (dk_dq rfl) (dk_dq rfl) (dk_dq rfl)) (dg_sm.uF (WF := [(0, 46)]) (WA := []) dg_sm.rf e_1235 sM_0 (dk_dq rfl)) (dk_dq rfl) (dk_dq rfl) (dk_dq rfl) (dk_dq rfl) (dk_dq rfl) (dk_dq rfl) (dk_dq rfl) (dk_dq rfl)) (m_st_t.trans ((m_go_com hnop.out (by by_cases q8 : (x_7).toInt = 3; exact Or.inl q8; exact Or.inr ⟨by omega, (by have h9 := h422.out; have h8 := (w_9_1.out.mpr (Or.inr (Or.inr (by omega)))); omega), (hnao.out (w_9_1.out.mpr (Or.inr (Or.inr (by omega))))).1, (hnao.out (w_9_1.out.mpr (Or.inr (Or.inr (by omega))))).2⟩) qw_1182_1).trans (by rw [if_pos (by omega)]))) (by omega) (by decide +kernel) (by first | decide +kernel | exact decide_eq_true (by omega))), (GON.ok f_sa ((dg_uF_ne e_1235 (fun z => absurd z.2 (dk_dq rfl))).trans f_y_1232) (dg_uF_at e_1235) hN0 (TFM.keep (TFM.keep TF_1226 m_1230 (dk_dq rfl) (dk_dq rfl) (dk_dq rfl) (dk_dq rfl) (dk_dq rfl) (dk_dq rfl) (dk_dq rfl) (dk_dq rfl)) (dg_sm.uF (WF := [(0, 46)]) (WA := []) dg_sm.rf e_1235 sM_0 (dk_dq rfl)) (dk_dq rfl) (dk_dq rfl) (dk_dq rfl) (dk_dq rfl) (dk_dq rfl) (dk_dq rfl) (dk_dq rfl) (dk_dq rfl)) (XFM.keep (XFM.keep (XFM.keep (XFM.keep XF_1186 (dg_sm.uf (WF := []) (WA := [22]) dg_sm.rf e_1221 sM_22 (dk_dq rfl)) (dk_dq rfl) (dk_dq rfl) (dk_dq rfl) (dk_dq rfl) (dk_dq rfl)) (dg_sm.uf (WF := []) (WA := [23]) dg_sm.rf e_1226 sM_23 (dk_dq rfl)) (dk_dq rfl) (dk_dq rfl) (dk_dq rfl) (dk_dq rfl) (dk_dq rfl)) m_1230 (dk_dq rfl) (dk_dq rfl) (dk_dq rfl) (dk_dq rfl) (dk_dq rfl)) (dg_sm.uF (WF := [(0, 46)]) (WA := []) dg_sm.rf e_1235 sM_0 (dk_dq rfl)) (dk_dq rfl) (dk_dq rfl) (dk_dq rfl) (dk_dq rfl) (dk_dq rfl)) (q_am.mv qa_1186 ((dg_uF_ne e_1235 (fun z => absurd z.2 (dk_dq rfl))).trans ((m_1230.1 0 34 _ sM_0 (dk_dq rfl)).trans ((dg_uf_F e_1226 0 34).trans (dg_uf_F e_1221 0 34)))) ((dg_uF_ne e_1235 (fun z => absurd z.2 (dk_dq rfl))).trans ((m_1230.1 0 35 _ sM_0 (dk_dq rfl)).trans ((dg_uf_F e_1226 0 35).trans (dg_uf_F e_1221 0 35)))) ((dg_uF_f e_1235 18).trans ((m_1230.2 18 _ sM_18 (dk_dq rfl)).1.trans ((dg_uf_ne e_1226 (dk_dq rfl)).trans (dg_uf_ne e_1221 (dk_dq rfl))))) ((dg_uF_f e_1235 19).trans ((m_1230.2 19 _ sM_19 (dk_dq rfl)).1.trans ((dg_uf_ne e_1226 (dk_dq rfl)).trans (dg_uf_ne e_1221 (dk_dq rfl)))))) (fun out => by rw [n_go_com hnop.out (by by_cases q8 : (x_7).toInt = 3; exact Or.inl q8; exact Or.inr ⟨by omega, (by have h9 := h422.out; have h8 := (w_9_1.out.mpr (Or.inr (Or.inr (by omega)))); omega), (hnao.out (w_9_1.out.mpr (Or.inr (Or.inr (by omega))))).1, (hnao.out (w_9_1.out.mpr (Or.inr (Or.inr (by omega))))).2⟩) qw_1182_1, if_pos (show (x_7).toInt = 3 from by omega), hcn0.out, show n_np (x_7).toInt p0 = n_np 4 p0 from by unfold n_np; rw [if_pos (by omega), if_pos (by omega)]]) (by omega) (by decide +kernel) (by first | decide +kernel | exact decide_eq_true (by omega))), (TKM.keep TK_1230 (dg_sm.uF (WF := [(0, 46)]) (WA := []) dg_sm.rf e_1235 sM_0 (dk_dq rfl)) (dk_dq rfl) (dk_dq rfl) (dk_dq rfl) (dk_dq rfl) (dk_dq rfl) (dk_dq rfl) (dk_dq rfl) (dk_dq rfl)), (ZWM.keep (ZWM.keep (ZWM.keep (ZWM.keep w_1186_4 (dg_sm.uf (WF := []) (WA := [22]) dg_sm.rf e_1221 sM_22 (dk_dq rfl)) (dk_dq rfl) (dk_dq rfl) (dk_dq rfl) (dk_dq rfl)) (dg_sm.uf (WF := []) (WA := [23]) dg_sm.rf e_1226 sM_23 (dk_dq rfl)) (dk_dq rfl) (dk_dq rfl) (dk_dq rfl) (dk_dq rfl)) m_1230 (dk_dq rfl) (dk_dq rfl) (dk_dq rfl) (dk_dq rfl)) (dg_sm.uF (WF := [(0, 46)]) (WA := []) dg_sm.rf e_1235 sM_0 (dk_dq rfl)) (dk_dq rfl) (dk_dq rfl) (dk_dq rfl) (dk_dq rfl)), (G8M.keep (G8M.keep (G8M.keep (G8M.keep w_1186_6 (dg_sm.uf (WF := []) (WA := [22]) dg_sm.rf e_1221 sM_22 (dk_dq rfl)) (dk_dq rfl) (dk_dq rfl) (dk_dq rfl)) (dg_sm.uf (WF := []) (WA := [23]) dg_sm.rf e_1226 sM_23 (dk_dq rfl)) (dk_dq rfl) (dk_dq rfl) (dk_dq rfl)) m_1230 (dk_dq rfl) (dk_dq rfl) (dk_dq rfl)) (dg_sm.uF (WF := [(0, 46)]) (WA := []) dg_sm.rf e_1235 sM_0 (dk_dq rfl)) (dk_dq rfl) (dk_dq rfl) (dk_dq rfl)), trivial⟩ dX12_goesOn_517
                                · as_aux_lemma =>
                                    have jc_1184 := dk_eqc (k := 0) (by decide +kernel) c_1184
                                    have qw_1182_1 : g_s (T_kd tb tn) (T_vl tb tn) 44 (t_ix tb tn (sa : Int32).toNatClampNeg) = false := g_iff_f (TKM.iss (TKM.keep TK m_2 (dk_dq rfl) (dk_dq rfl) (dk_dq rfl) (dk_dq rfl) (dk_dq rfl) (dk_dq rfl) (dk_dq rfl) (dk_dq rfl)) ((m_2.1 0 3 _ sM_0 (dk_dq rfl)).trans f_sg) ((m_2.1 0 4 _ sM_0 (dk_dq rfl)).trans f_sa) ((m_2.1 0 6 _ sM_0 (dk_dq rfl)).trans f_va) hk5.out (c := 44) (by have h9 := w_1182_1; rw [show (44 : Int32).toInt = 44 from by decide +kernel] at h9; exact h9)) (by omega)
                                    clear w_1182_1
                                    refine lv_aload_n hx hb dX12_goesOn_461 rfl (lv_at hl 3 rfl) ?_
                                    refine lv_iconst (v := 1) hx hb dX12_goesOn_462 (by decide +kernel) ?_
                                    refine lv_aload_n hx hb dX12_goesOn_463 rfl (lv_at hl 3 rfl) ?_
                                    refine dg_get (C := RX12) (T := TX12) (N := 77) hx hb hts (fun w h => bw_mem (wU_X12 w h)) hown K hP sM_0 rfl 4 (dk_dq rfl) (hts _ (bw_mem wB_291)) (fun _ h9 => h9) (v := .int sa) ((m_2.1 0 4 _ sM_0 (dk_dq rfl)).trans f_sa) dX12_goesOn_464 ?_
                                    have hz_1247 : (1 : Int32).toInt = 1 := by decide +kernel
                                    refine dg_callv hS hA1 hA (va_runV (As := [.int 1, .int sa]) (rest := []) F (c_m_blame l g D o S_2 1 (by decide +kernel) sa y_3 f_y_3 (by omega) I_2 H.size) (cwV 2 hts (bw_V wB_306 wB_307 wB_308 wB_297 wB_305) rfl rfl rfl (by decide +kernel) ⟨Nat.le_of_ble_eq_true rfl, Nat.le_of_ble_eq_true rfl⟩) (dg_preV sM_0 rfl K ST hP hS hA1 hA) rfl rfl hl.1 rfl (lv_room (Nat.le_of_ble_eq_true rfl)) dX12_goesOn_467 ⟨Nat.le_of_ble_eq_true rfl, Nat.le_of_ble_eq_true rfl⟩) (fun S_1248 hw_1248 H locs hP hS => ?_)
                                    obtain ⟨I_1248, m_1248, w_1248_0, -⟩ := hw_1248
                                    have M_1248 := dg_sm.tr M_2 m_1248 (dk_dq rfl) (dk_dq rfl)
                                    have hz_1249 : (1 : Int32).toInt = 1 := by decide +kernel
                                    obtain ⟨y_1250, f_y_1250, w_1248_0⟩ := w_1248_0
                                    have w_1248_0 : ((y_3).toInt ≠ 0 → (y_1250).toInt = (y_3).toInt) ∧ ((y_3).toInt = 0 → (y_1250).toInt = ((1 : Int32)).toInt) := w_1248_0
                                    obtain ⟨w_1248_0_0, w_1248_0_1⟩ := w_1248_0
                                    clear w_1248_0_0
                                    have w_1248_0_1r := w_1248_0_1 (by omega)
                                    clear w_1248_0_1
                                    have b_y_1250 : 0 ≤ (y_1250).toInt ∧ (y_1250).toInt ≤ 6 := dg_I.intb (lo := 0) (hi := 6) I_1248 sM_0 (by decide +kernel) f_y_1250
                                    have hbl_y_1250 : 1 ≤ (y_1250).toInt := by omega
                                    refine lv_aload_n hx hb dX12_goesOn_470 rfl (lv_at hl 3 rfl) ?_
                                    refine dg_get (C := RX12) (T := TX12) (N := 77) hx hb hts (fun w h => bw_mem (wU_X12 w h)) hown K hP sM_0 rfl 8 (dk_dq rfl) (hts _ (bw_mem wB_303)) (fun _ h9 => h9) (v := .int y_1250) f_y_1250 dX12_goesOn_471 ?_
                                    refine lv_if_le (tgt := 479) hx hb dX12_goesOn_474 (dk_dq rfl) (fun c => absurd c (fun z => absurd (dk_lec (k := 0) (by decide +kernel) z) (by omega))) (fun _ => ?_)
                                    refine lv_iconst (v := 0) hx hb dX12_goesOn_477 (by decide +kernel) ?_
                                    have hz_1251 : (0 : Int32).toInt = 0 := by decide +kernel
                                    have hz_1252 : (0 : Int32).toInt = 0 := by decide +kernel
                                    have hz_1253 : (0 : Int32).toInt = 0 := by decide +kernel
                                    have hz_1254 : (0 : Int32).toInt = 0 := by decide +kernel
                                    have hz_1255 : (0 : Int32).toInt = 0 := by decide +kernel
                                    have hz_1256 : (0 : Int32).toInt = 0 := by decide +kernel
                                    have hz_1257 : (0 : Int32).toInt = 0 := by decide +kernel
                                    refine W.widen (k := 0) (n := 0) (Nat.le_of_ble_eq_true rfl) (Nat.le_of_ble_eq_true rfl) ?_
                                    rw [hQ9]
                                    exact dg_iret hx hb hr hlocks (by decide +kernel) hP hS ⟨I_1248, M_1248, (by decide +kernel), ⟨sg, sa, se, y_1250, cd, dp, om, oo, (((m_1248.1 0 3 _ sM_0 (dk_dq rfl)).trans (m_2.1 0 3 _ sM_0 (dk_dq rfl))).trans f_sg), (((m_1248.1 0 4 _ sM_0 (dk_dq rfl)).trans (m_2.1 0 4 _ sM_0 (dk_dq rfl))).trans f_sa), (((m_1248.1 0 5 _ sM_0 (dk_dq rfl)).trans (m_2.1 0 5 _ sM_0 (dk_dq rfl))).trans f_se), f_y_1250, (((m_1248.1 0 34 _ sM_0 (dk_dq rfl)).trans (m_2.1 0 34 _ sM_0 (dk_dq rfl))).trans f_cd), (((m_1248.1 0 42 _ sM_0 (dk_dq rfl)).trans (m_2.1 0 42 _ sM_0 (dk_dq rfl))).trans f_dp), (((m_1248.1 0 45 _ sM_0 (dk_dq rfl)).trans (m_2.1 0 45 _ sM_0 (dk_dq rfl))).trans f_om), (((m_1248.1 0 46 _ sM_0 (dk_dq rfl)).trans (m_2.1 0 46 _ sM_0 (dk_dq rfl))).trans f_oo), ⟨lxh_hlx_2.out, (by omega)⟩⟩, (fun k9 hk9 hk0 => by have q9 := (f_y_1250).symm.trans hk9; cases q9; omega), (GOK.no f_sa f_fk f_y_1250 (by omega) (fun h0 => Or.inl (by rw [hM0]; exact m_st_t.trans (m_go_bad hnop.out (Or.inr ⟨by omega, (fun q8 q9 => hnco.out (by have h9 := m_tst_iff.mp q8; have h8 := w_9_1.out.mpr h9; omega) q9), (fun q8 => hnao.out (by have h9 := m_tst_iff.mp q8; have h8 := w_9_1.out.mpr h9; omega)), (fun _ => qw_1182_1), (fun q9 => by exfalso; omega), (fun q9 q8 q7 => by exfalso; omega)⟩))))), (GON.no f_y_1250 (by omega)), (TKM.keep (TKM.keep TK m_2 (dk_dq rfl) (dk_dq rfl) (dk_dq rfl) (dk_dq rfl) (dk_dq rfl) (dk_dq rfl) (dk_dq rfl) (dk_dq rfl)) m_1248 (dk_dq rfl) (dk_dq rfl) (dk_dq rfl) (dk_dq rfl) (dk_dq rfl) (dk_dq rfl) (dk_dq rfl) (dk_dq rfl)), (ZWM.keep (ZWM.keep ZW m_2 (dk_dq rfl) (dk_dq rfl) (dk_dq rfl) (dk_dq rfl)) m_1248 (dk_dq rfl) (dk_dq rfl) (dk_dq rfl) (dk_dq rfl)), (G8M.keep (G8M.keep G8 m_2 (dk_dq rfl) (dk_dq rfl) (dk_dq rfl)) m_1248 (dk_dq rfl) (dk_dq rfl) (dk_dq rfl)), trivial⟩ dX12_goesOn_478
                            refine lv_icmp_eq (tgt := 452) hx hb dX12_goesOn_443 (dk_dq rfl) (fun c_1258 => ?_) (fun c_1258 => ?_)
                            · have jc_1258 := dk_eqc (k := 3) (by decide +kernel) c_1258
                              exact J_1180 ()  (by omega) _ _ hP hS _ (lv_sub hl [0, 1, 2, 3] rfl)
                            · as_aux_lemma =>
                                have jc_1258 := dk_neqc (k := 3) (by decide +kernel) c_1258
                                refine lv_iload_n hx hb dX12_goesOn_446 rfl (lv_at hl 1 rfl) ?_
                                refine lv_bipush (v := 6) hx hb dX12_goesOn_447 (by decide +kernel) ?_
                                refine lv_icmp_ne (tgt := 518) hx hb dX12_goesOn_449 (dk_dq rfl) (fun c_1259 => ?_) (fun c_1259 => ?_)
                                · as_aux_lemma =>
                                    have jc_1259 := dk_neqc (k := 6) (by decide +kernel) c_1259
                                    have jtc_1259 : (x_7).toInt ≤ 5 := by omega
                                    clear jc_1259
                                    refine lv_aload_n hx hb dX12_goesOn_518 rfl (lv_at hl 3 rfl) ?_
                                    refine lv_iload_n hx hb dX12_goesOn_519 rfl (lv_at hl 1 rfl) ?_
                                    refine lv_iconst (v := 5) hx hb dX12_goesOn_520 (by decide +kernel) ?_
                                    have J_1336 : ∀ (x_1261 : Int32), (41 ≤ (x_1261).toInt ∧ (x_1261).toInt ≤ 93) → ((x_7 : Int32).toInt = 2 ∨ (x_7 : Int32).toInt = 4 ∨ (x_7 : Int32).toInt = 5) → (m_hid (((x_7 : Int32).toInt = 5 → (x_1261 : Int32).toInt = 93) ∧ ((x_7 : Int32).toInt ≠ 5 → (x_1261 : Int32).toInt = 41))) → ∀ (H : Heap) (locs : List Loc), va_P D vwCl (dg_w g shM o rfM S_2) H → va_S A s.heap H locs → ∀ ls : Array Slot, lv_has ls 5 [(3, .int x_8), (2, .int x_7), (1, .int x_5), (0, .ref (o + 0))] → W p l e ({ frames := 3, cells := 0, slots := 0, locals := 77 } : Room) s m args below meth c H locs 0 0 Q9 (F0 m 531 ls [.int x_1261, .ref (o + 0)]) := by
                                      as_aux_lemma =>
                                        intro x_1261 b_x_1261 rel_0 rel_1 H locs hP hS ls hl
                                        have h531 := rel_1
                                        refine dg_calli hS hA1 hA (va_runV (As := [.int x_1261]) (rest := []) F (c_m_isSign l g D o S_2 x_1261 sg ((m_2.1 0 3 _ sM_0 (dk_dq rfl)).trans f_sg) (by omega) va ((m_2.1 0 6 _ sM_0 (dk_dq rfl)).trans f_va) (by omega) I_2 H.size) (cwV 1 hts (bw_V wB_314 wB_315 wB_316 wB_297 wB_313) rfl rfl rfl (by decide +kernel) ⟨Nat.le_of_ble_eq_true rfl, Nat.le_of_ble_eq_true rfl⟩) (dg_preV sM_0 rfl K ST hP hS hA1 hA) rfl rfl hl.1 rfl (lv_room (Nat.le_of_ble_eq_true rfl)) dX12_goesOn_531 ⟨Nat.le_of_ble_eq_true rfl, Nat.le_of_ble_eq_true rfl⟩) (fun x_1337 S_1338 hw_1338 H locs hP hS => ?_)
                                        rw [hw_1338.1] at hP
                                        obtain ⟨hq_1338, w_1338_0, w_1338_1, -⟩ := hw_1338
                                        have w_1338_0 : 0 ≤ (x_1337).toInt ∧ (x_1337).toInt ≤ 1 := w_1338_0
                                        have w_1338_1 : (x_1337).toInt = 1 ↔ ((sg).toInt = 3 ∧ (va).toInt = (x_1261).toInt) := w_1338_1
                                        refine lv_if_ne (tgt := 546) hx hb dX12_goesOn_534 (dk_dq rfl) (fun c_1339 => ?_) (fun c_1339 => ?_)
                                        · as_aux_lemma =>
                                            have jc_1339 := dk_neqc (k := 0) (by decide +kernel) c_1339
                                            have jbc_1339 : 1 ≤ (x_1337).toInt := by omega
                                            clear jc_1339
                                            have qw_1338_1 : g_s (T_kd tb tn) (T_vl tb tn) (x_1261).toInt (t_ix tb tn (sa : Int32).toNatClampNeg) = true := (TKM.iss (TKM.keep TK m_2 (dk_dq rfl) (dk_dq rfl) (dk_dq rfl) (dk_dq rfl) (dk_dq rfl) (dk_dq rfl) (dk_dq rfl) (dk_dq rfl)) ((m_2.1 0 3 _ sM_0 (dk_dq rfl)).trans f_sg) ((m_2.1 0 4 _ sM_0 (dk_dq rfl)).trans f_sa) ((m_2.1 0 6 _ sM_0 (dk_dq rfl)).trans f_va) hk5.out (c := (x_1261).toInt) (by have h9 := w_1338_1; exact h9)).mp (by omega)
                                            have w_1338_1_r := w_1338_1.mp (by omega)
                                            obtain ⟨w_1338_1_r1, w_1338_1_r2⟩ := w_1338_1_r
                                            clear w_1338_1
                                            have hlx_2r := hlx_2 (by omega)
                                            clear hlx_2
                                            refine lv_aload_n hx hb dX12_goesOn_546 rfl (lv_at hl 3 rfl) ?_
                                            refine dg_get (C := RX12) (T := TX12) (N := 77) hx hb hts (fun w h => bw_mem (wU_X12 w h)) hown K hP sM_0 rfl 8 (dk_dq rfl) (hts _ (bw_mem wB_303)) (fun _ h9 => h9) (v := .int y_3) f_y_3 dX12_goesOn_547 ?_
                                            refine lv_if_le (tgt := 555) hx hb dX12_goesOn_550 (dk_dq rfl) (fun _ => ?_) (fun c => absurd (dk_lep (k := 0) (by decide +kernel) (by omega)) c)
                                            refine lv_aload_n hx hb dX12_goesOn_555 rfl (lv_at hl 3 rfl) ?_
                                            refine lv_iconst (v := 1) hx hb dX12_goesOn_556 (by decide +kernel) ?_
                                            have hz_1340 : (1 : Int32).toInt = 1 := by decide +kernel
                                            refine dg_callv hS hA1 hA (va_runV (As := [.int 1]) (rest := []) F (c_m_joins l g D o S_2 1 (by decide +kernel) S0 cd ((m_2.1 0 34 _ sM_0 (dk_dq rfl)).trans f_cd) (by omega) om ((m_2.1 0 45 _ sM_0 (dk_dq rfl)).trans f_om) (by omega) (by omega) (ZWM.keep ZW m_2 (dk_dq rfl) (dk_dq rfl) (dk_dq rfl) (dk_dq rfl)) (ZKM.keep ZK m_2 (dk_dq rfl) (dk_dq rfl)) (P1M.keep P1 m_2 (dk_dq rfl) (dk_dq rfl) (dk_dq rfl) (dk_dq rfl) (dk_dq rfl) (dk_dq rfl) (dk_dq rfl) (dk_dq rfl) (dk_dq rfl) (dk_dq rfl) (dk_dq rfl) (dk_dq rfl) (dk_dq rfl) (dk_dq rfl) (dk_dq rfl)) (G8M.keep G8 m_2 (dk_dq rfl) (dk_dq rfl) (dk_dq rfl)) I_2 H.size) (cwV 1 hts (bw_V wB_437 wB_438 wB_439 wB_297 wB_436) rfl rfl rfl (by decide +kernel) ⟨Nat.le_of_ble_eq_true rfl, Nat.le_of_ble_eq_true rfl⟩) (dg_preV sM_0 rfl K ST hP hS hA1 hA) rfl rfl hl.1 rfl (lv_room (Nat.le_of_ble_eq_true rfl)) dX12_goesOn_557 ⟨Nat.le_of_ble_eq_true rfl, Nat.le_of_ble_eq_true rfl⟩) (fun S_1341 hw_1341 H locs hP hS => ?_)
                                            obtain ⟨I_1341, m_1341, w_1341_0, w_1341_1, w_1341_2, w_1341_3, w_1341_4, w_1341_5, w_1341_6, -⟩ := hw_1341
                                            have M_1341 := dg_sm.tr M_2 m_1341 (dk_dq rfl) (dk_dq rfl)
                                            have hz_1342 : (1 : Int32).toInt = 1 := by decide +kernel
                                            obtain ⟨y_1343, y_1344, f_y_1343, f_y_1344, w_1341_0⟩ := w_1341_0
                                            have w_1341_0 : (y_1343).toInt + (y_1344).toInt = (cd).toInt + (om).toInt := w_1341_0
                                            have b_y_1343 : 0 ≤ (y_1343).toInt ∧ (y_1343).toInt ≤ 1600 := dg_I.intb (lo := 0) (hi := 1600) I_1341 sM_0 (by decide +kernel) f_y_1343
                                            have b_y_1344 : 0 ≤ (y_1344).toInt ∧ (y_1344).toInt ≤ 500 := dg_I.intb (lo := 0) (hi := 500) I_1341 sM_0 (by decide +kernel) f_y_1344
                                            replace w_1341_1 : TOPM S_1341 (1 : Int32) := w_1341_1
                                            obtain ⟨x_1345, f_x_1345, b_x_1345⟩ := dg_I.int (i := 0) (k := 43) (lo := (-2147483648)) (hi := 2147483647) I_1341 sM_0 (by decide +kernel)
                                            replace w_1341_2 : JNM S_2 S_1341 (1 : Int32) := w_1341_2
                                            have TF_1341 : TFM (x_7).toInt (x_11).toInt bg0 0 R0 ((on).toNatClampNeg - nt0) S_1341 := (TFM.join TF0 (P1M.keep P1 m_2 (dk_dq rfl) (dk_dq rfl) (dk_dq rfl) (dk_dq rfl) (dk_dq rfl) (dk_dq rfl) (dk_dq rfl) (dk_dq rfl) (dk_dq rfl) (dk_dq rfl) (dk_dq rfl) (dk_dq rfl) (dk_dq rfl) (dk_dq rfl) (dk_dq rfl)) ((m_2.1 0 42 _ sM_0 (dk_dq rfl)).trans f_dp) ((m_2.1 0 43 _ sM_0 (dk_dq rfl)).trans f_on) ((m_2.1 0 45 _ sM_0 (dk_dq rfl)).trans f_om) w_1341_2 w_1341_1 m_1341 (dk_dq rfl) (dk_dq rfl) (dk_dq rfl) (dk_dq rfl) (dk_dq rfl) (dk_dq rfl)).2 (by decide +kernel) (by decide +kernel)
                                            replace w_1341_3 : JXM S_2 S_1341 := w_1341_3
                                            have XJ_1341 := XFM.join XF0 TF0 ((m_2.1 0 42 _ sM_0 (dk_dq rfl)).trans f_dp) ((m_2.1 0 43 _ sM_0 (dk_dq rfl)).trans f_on) ((m_2.1 0 45 _ sM_0 (dk_dq rfl)).trans f_om) w_1341_2 w_1341_3 w_1341_1 m_1341 (dk_dq rfl) (dk_dq rfl) (dk_dq rfl) (dk_dq rfl)
                                            rw [show (1 : Int32).toInt = 1 from by decide +kernel] at XJ_1341
                                            rw [n_hi_1.1, n_hi_1.2] at XJ_1341
                                            have XF_1341 : XFM [] p0 X0 S_1341 := XJ_1341.1
                                            have qa_1341 : q_am S S_1341 ((l0).map d_st) := (q_am.fs XJ_1341.2 (m_2.1 0 34 _ sM_0 (dk_dq rfl)) (m_2.1 0 35 _ sM_0 (dk_dq rfl)) (m_2.2 18 _ sM_18 (dk_dq rfl)).1 (m_2.2 19 _ sM_19 (dk_dq rfl)).1)
                                            have hdm_1345 := PSM.dims w_1341_5 (((m_1341.1 0 42 _ sM_0 (dk_dq rfl)).trans (m_2.1 0 42 _ sM_0 (dk_dq rfl))).trans f_dp) f_x_1345 f_y_1344
                                            have hkd := PSM.kind w_1341_5 (((m_1341.1 0 42 _ sM_0 (dk_dq rfl)).trans (m_2.1 0 42 _ sM_0 (dk_dq rfl))).trans f_dp) f_x_1345 f_y_1344 (fx := x_5) (by omega) ((congrFun (m_1341.2 22 _ sM_22 (dk_dq rfl)).1 _).trans ex_7.symm) (rfl : S_1341.2.1 25 (x_5 : Int32).toNatClampNeg = _)
                                            unfold dk_fk at hkd
                                            have hcl9 : (((x_5 : Int32).toNatClampNeg : Nat) : Int) = (x_5).toInt := (by rw [dk_clN]; omega)
                                            have hj9 : 1 ≤ (x_5).toInt := by omega
                                            have hkdh := m_hid.mk hkd
                                            clear hkd
                                            as_aux_lemma =>
                                              refine lv_aload_n hx hb dX12_goesOn_560 rfl (lv_at hl 3 rfl) ?_
                                              refine lv_dup hx hb dX12_goesOn_561 rfl ?_
                                              refine dg_get (C := RX12) (T := TX12) (N := 77) hx hb hts (fun w h => bw_mem (wU_X12 w h)) hown K hP sM_0 rfl 42 (dk_dq rfl) (hts _ (bw_mem wB_406)) (fun _ h9 => h9) (v := .int dp) (((m_1341.1 0 42 _ sM_0 (dk_dq rfl)).trans (m_2.1 0 42 _ sM_0 (dk_dq rfl))).trans f_dp) dX12_goesOn_562 ?_
                                              refine lv_iconst (v := 1) hx hb dX12_goesOn_565 (by decide +kernel) ?_
                                              refine lv_isub hx hb dX12_goesOn_566 ?_
                                              refine lv_topi (fun x_1347 ex_1347 => ?_)
                                              have jx_1347 : (x_1347).toInt = (dp).toInt - 1 := by rw [ex_1347]; exact dk_subT2 rfl (by decide +kernel) (by omega)
                                              refine dg_put (ci := 12) (v := .int x_1347) (ty := tyX12 42) (C := RX12) (T := TX12) (N := 77) hx hb hts (fun w h => bw_mem (wU_X12 w h)) tyX12 tyX12_ok nmX12 hown K hP hS hA1 sM_0 rfl 42 (dk_dq rfl) (hts _ (bw_mem wB_406)) (fun _ h9 => h9) rfl (by decide +kernel) rfl rfl dX12_goesOn_567 (fun S_1348 e_1348 H locs hP hS => ?_)
                                              have I_1348 := dg_I.uFi (lo := 0) (hi := 20) I_1341 e_1348 sM_0 (by decide +kernel) (show 0 ≤ (x_1347).toInt ∧ (x_1347).toInt ≤ 20 from (by omega))
                                              have M_1348 := dg_sm.uF M_1341 e_1348 sM_0 (dk_dq rfl)
                                              obtain ⟨pa, pb, pc9, pn, pR, hpR, TF_1348⟩ := TFM.pop TF_1341 w_1341_5 (((m_1341.1 0 42 _ sM_0 (dk_dq rfl)).trans (m_2.1 0 42 _ sM_0 (dk_dq rfl))).trans f_dp) f_x_1345 f_y_1344 w_1341_1 (by decide +kernel) e_1348 (by omega) (by omega)
                                              obtain ⟨lq, pq, Xq, hXq, XF_1348⟩ := XFM.pop XF_1341 TF_1341 (((m_1341.1 0 42 _ sM_0 (dk_dq rfl)).trans (m_2.1 0 42 _ sM_0 (dk_dq rfl))).trans f_dp) f_x_1345 f_y_1344 rfl e_1348 (by omega) (by rw [hpR]; exact List.cons_ne_nil _ _)
                                              refine lv_aload_n hx hb dX12_goesOn_570 rfl (lv_at hl 3 rfl) ?_
                                              refine lv_dup hx hb dX12_goesOn_571 rfl ?_
                                              refine dg_get (C := RX12) (T := TX12) (N := 77) hx hb hts (fun w h => bw_mem (wU_X12 w h)) hown K hP sM_0 rfl 43 (dk_dq rfl) (hts _ (bw_mem wB_415)) (fun _ h9 => h9) (v := .int x_1345) ((dg_uF_ne e_1348 (fun z => absurd z.2 (dk_dq rfl))).trans f_x_1345) dX12_goesOn_572 ?_
                                              refine lv_iconst (v := 1) hx hb dX12_goesOn_575 (by decide +kernel) ?_
                                              refine lv_isub hx hb dX12_goesOn_576 ?_
                                              refine lv_topi (fun x_1349 ex_1349 => ?_)
                                              have jx_1349 : (x_1349).toInt = (x_1345).toInt - 1 := by rw [ex_1349]; exact dk_subT2 rfl (by decide +kernel) (by omega)
                                              refine dg_put (ci := 12) (v := .int x_1349) (ty := tyX12 43) (C := RX12) (T := TX12) (N := 77) hx hb hts (fun w h => bw_mem (wU_X12 w h)) tyX12 tyX12_ok nmX12 hown K hP hS hA1 sM_0 rfl 43 (dk_dq rfl) (hts _ (bw_mem wB_415)) (fun _ h9 => h9) rfl (by decide +kernel) rfl rfl dX12_goesOn_577 (fun S_1350 e_1350 H locs hP hS => ?_)
                                              have I_1350 := dg_I.uFi (lo := (-2147483648)) (hi := 2147483647) I_1348 e_1350 sM_0 (by decide +kernel) (show (-2147483648) ≤ (x_1349).toInt ∧ (x_1349).toInt ≤ 2147483647 from (dk_full _))
                                              have M_1350 := dg_sm.uF M_1348 e_1350 sM_0 (dk_dq rfl)
                                              have TF_1350 : TFM pa pb pc9 pn pR (((on).toNatClampNeg - nt0) - 1) S_1350 := TFM.opm TF_1348 ((dg_uF_ne e_1348 (fun z => absurd z.2 (dk_dq rfl))).trans f_x_1345) e_1350 (by omega)
                                              refine lv_iload_n hx hb dX12_goesOn_580 rfl (lv_at hl 1 rfl) ?_
                                              refine lv_iconst (v := 4) hx hb dX12_goesOn_581 (by decide +kernel) ?_
                                              refine lv_icmp_ne (tgt := 596) hx hb dX12_goesOn_582 (dk_dq rfl) (fun c_1351 => ?_) (fun c_1351 => ?_)
                                              · as_aux_lemma =>
                                                  have jc_1351 := dk_neqc (k := 4) (by decide +kernel) c_1351
                                                  have P1_1350 : P1M S_1350 := P1M.close2 w_1341_5 (((m_1341.1 0 42 _ sM_0 (dk_dq rfl)).trans (m_2.1 0 42 _ sM_0 (dk_dq rfl))).trans f_dp) f_x_1345 f_y_1344 w_1341_1 (by omega) (fx := x_5) (by omega) ((congrFun (m_1341.2 22 _ sM_22 (dk_dq rfl)).1 _).trans ex_7.symm) (by omega) e_1348 (by omega) e_1350 (by omega)
                                                  refine lv_iload_n hx hb dX12_goesOn_596 rfl (lv_at hl 1 rfl) ?_
                                                  refine lv_iconst (v := 5) hx hb dX12_goesOn_597 (by decide +kernel) ?_
                                                  refine lv_icmp_ne (tgt := 613) hx hb dX12_goesOn_598 (dk_dq rfl) (fun c_1352 => ?_) (fun c_1352 => ?_)
                                                  · as_aux_lemma =>
                                                      have jc_1352 := dk_neqc (k := 5) (by decide +kernel) c_1352
                                                      have jtc_1352 : (x_7).toInt ≤ 2 := by omega
                                                      clear jc_1352
                                                      refine lv_aload_n hx hb dX12_goesOn_613 rfl (lv_at hl 3 rfl) ?_
                                                      refine dg_callv hS hA1 hA (va_runV (As := []) (rest := []) F (c_m_ahead l g D o S_1350 tb tn se (((dg_uF_ne e_1350 (fun z => absurd z.2 (dk_dq rfl))).trans ((dg_uF_ne e_1348 (fun z => absurd z.2 (dk_dq rfl))).trans ((m_1341.1 0 5 _ sM_0 (dk_dq rfl)).trans (m_2.1 0 5 _ sM_0 (dk_dq rfl))))).trans f_se) (by omega) sl (((dg_uF_ne e_1350 (fun z => absurd z.2 (dk_dq rfl))).trans ((dg_uF_ne e_1348 (fun z => absurd z.2 (dk_dq rfl))).trans ((m_1341.1 0 2 _ sM_0 (dk_dq rfl)).trans (m_2.1 0 2 _ sM_0 (dk_dq rfl))))).trans f_sl) (by omega) (by omega) (TKM.keep (TKM.keep (TKM.keep (TKM.keep TK m_2 (dk_dq rfl) (dk_dq rfl) (dk_dq rfl) (dk_dq rfl) (dk_dq rfl) (dk_dq rfl) (dk_dq rfl) (dk_dq rfl)) m_1341 (dk_dq rfl) (dk_dq rfl) (dk_dq rfl) (dk_dq rfl) (dk_dq rfl) (dk_dq rfl) (dk_dq rfl) (dk_dq rfl)) (dg_sm.uF (WF := [(0, 42)]) (WA := []) dg_sm.rf e_1348 sM_0 (dk_dq rfl)) (dk_dq rfl) (dk_dq rfl) (dk_dq rfl) (dk_dq rfl) (dk_dq rfl) (dk_dq rfl) (dk_dq rfl) (dk_dq rfl)) (dg_sm.uF (WF := [(0, 43)]) (WA := []) dg_sm.rf e_1350 sM_0 (dk_dq rfl)) (dk_dq rfl) (dk_dq rfl) (dk_dq rfl) (dk_dq rfl) (dk_dq rfl) (dk_dq rfl) (dk_dq rfl) (dk_dq rfl)).1 I_1350 H.size) (cwV 0 hts (bw_V wB_318 wB_319 wB_320 wB_297 wB_317) rfl rfl rfl (by decide +kernel) ⟨Nat.le_of_ble_eq_true rfl, Nat.le_of_ble_eq_true rfl⟩) (dg_preV sM_0 rfl K ST hP hS hA1 hA) rfl rfl hl.1 rfl (lv_room (Nat.le_of_ble_eq_true rfl)) dX12_goesOn_614 ⟨Nat.le_of_ble_eq_true rfl, Nat.le_of_ble_eq_true rfl⟩) (fun S_1353 hw_1353 H locs hP hS => ?_)
                                                      obtain ⟨I_1353, m_1353, w_1353_0, w_1353_1, -⟩ := hw_1353
                                                      have M_1353 := dg_sm.tr M_1350 m_1353 (dk_dq rfl) (dk_dq rfl)
                                                      obtain ⟨y_1354, y_1355, y_1356, f_y_1354, f_y_1355, f_y_1356, w_1353_0⟩ := w_1353_0
                                                      have w_1353_0 : (se).toInt ≤ (y_1355).toInt ∧ (y_1355).toInt ≤ (y_1356).toInt ∧ (y_1356).toInt ≤ (sl).toInt ∧ ((y_1354).toInt ≠ 0 → (y_1355).toInt + 1 ≤ (y_1356).toInt) := w_1353_0
                                                      obtain ⟨w_1353_0_0, w_1353_0_1, w_1353_0_2, w_1353_0_3⟩ := w_1353_0
                                                      have lxh_w_1353_0_3 : m_hid ((y_1355).toInt ≤ (y_1356).toInt ∧ (y_1356).toInt ≤ (sl).toInt ∧ ((y_1354).toInt ≠ 0 → (y_1355).toInt + 1 ≤ (y_1356).toInt)) := m_hid.mk ⟨w_1353_0_1, w_1353_0_2, w_1353_0_3⟩
                                                      have b_y_1354 : 0 ≤ (y_1354).toInt ∧ (y_1354).toInt ≤ 3 := dg_I.intb (lo := 0) (hi := 3) I_1353 sM_0 (by decide +kernel) f_y_1354
                                                      have b_y_1355 : 0 ≤ (y_1355).toInt ∧ (y_1355).toInt ≤ 1600 := dg_I.intb (lo := 0) (hi := 1600) I_1353 sM_0 (by decide +kernel) f_y_1355
                                                      have b_y_1356 : 0 ≤ (y_1356).toInt ∧ (y_1356).toInt ≤ 1600 := dg_I.intb (lo := 0) (hi := 1600) I_1353 sM_0 (by decide +kernel) f_y_1356
                                                      replace w_1353_1 : TNX tb tn se S_1353 := w_1353_1
                                                      obtain ⟨TK_1353, nx_1353, -⟩ := TKM.nx (TKM.keep (TKM.keep (TKM.keep (TKM.keep TK m_2 (dk_dq rfl) (dk_dq rfl) (dk_dq rfl) (dk_dq rfl) (dk_dq rfl) (dk_dq rfl) (dk_dq rfl) (dk_dq rfl)) m_1341 (dk_dq rfl) (dk_dq rfl) (dk_dq rfl) (dk_dq rfl) (dk_dq rfl) (dk_dq rfl) (dk_dq rfl) (dk_dq rfl)) (dg_sm.uF (WF := [(0, 42)]) (WA := []) dg_sm.rf e_1348 sM_0 (dk_dq rfl)) (dk_dq rfl) (dk_dq rfl) (dk_dq rfl) (dk_dq rfl) (dk_dq rfl) (dk_dq rfl) (dk_dq rfl) (dk_dq rfl)) (dg_sm.uF (WF := [(0, 43)]) (WA := []) dg_sm.rf e_1350 sM_0 (dk_dq rfl)) (dk_dq rfl) (dk_dq rfl) (dk_dq rfl) (dk_dq rfl) (dk_dq rfl) (dk_dq rfl) (dk_dq rfl) (dk_dq rfl)) (((dg_uF_ne e_1350 (fun z => absurd z.2 (dk_dq rfl))).trans ((dg_uF_ne e_1348 (fun z => absurd z.2 (dk_dq rfl))).trans ((m_1341.1 0 4 _ sM_0 (dk_dq rfl)).trans (m_2.1 0 4 _ sM_0 (dk_dq rfl))))).trans f_sa) (((dg_uF_ne e_1350 (fun z => absurd z.2 (dk_dq rfl))).trans ((dg_uF_ne e_1348 (fun z => absurd z.2 (dk_dq rfl))).trans ((m_1341.1 0 5 _ sM_0 (dk_dq rfl)).trans (m_2.1 0 5 _ sM_0 (dk_dq rfl))))).trans f_se) w_1353_1 m_1353 (dk_dq rfl) (dk_dq rfl) f_y_1355
                                                      replace nx_1353 := nx_1353 (fun q9 => absurd ((TKM.zero (TKM.keep (TKM.keep (TKM.keep (TKM.keep TK m_2 (dk_dq rfl) (dk_dq rfl) (dk_dq rfl) (dk_dq rfl) (dk_dq rfl) (dk_dq rfl) (dk_dq rfl) (dk_dq rfl)) m_1341 (dk_dq rfl) (dk_dq rfl) (dk_dq rfl) (dk_dq rfl) (dk_dq rfl) (dk_dq rfl) (dk_dq rfl) (dk_dq rfl)) (dg_sm.uF (WF := [(0, 42)]) (WA := []) dg_sm.rf e_1348 sM_0 (dk_dq rfl)) (dk_dq rfl) (dk_dq rfl) (dk_dq rfl) (dk_dq rfl) (dk_dq rfl) (dk_dq rfl) (dk_dq rfl) (dk_dq rfl)) (dg_sm.uF (WF := [(0, 43)]) (WA := []) dg_sm.rf e_1350 sM_0 (dk_dq rfl)) (dk_dq rfl) (dk_dq rfl) (dk_dq rfl) (dk_dq rfl) (dk_dq rfl) (dk_dq rfl) (dk_dq rfl) (dk_dq rfl)) (((dg_uF_ne e_1350 (fun z => absurd z.2 (dk_dq rfl))).trans ((dg_uF_ne e_1348 (fun z => absurd z.2 (dk_dq rfl))).trans ((m_1341.1 0 3 _ sM_0 (dk_dq rfl)).trans (m_2.1 0 3 _ sM_0 (dk_dq rfl))))).trans f_sg) (((dg_uF_ne e_1350 (fun z => absurd z.2 (dk_dq rfl))).trans ((dg_uF_ne e_1348 (fun z => absurd z.2 (dk_dq rfl))).trans ((m_1341.1 0 4 _ sM_0 (dk_dq rfl)).trans (m_2.1 0 4 _ sM_0 (dk_dq rfl))))).trans f_sa)).mpr q9) (by omega))
                                                      refine lv_iconst (v := 1) hx hb dX12_goesOn_617 (by decide +kernel) ?_
                                                      have hz_1357 : (1 : Int32).toInt = 1 := by decide +kernel
                                                      have hz_1358 : (1 : Int32).toInt = 1 := by decide +kernel
                                                      have hz_1359 : (1 : Int32).toInt = 1 := by decide +kernel
                                                      have hz_1360 : (1 : Int32).toInt = 1 := by decide +kernel
                                                      have hz_1361 : (1 : Int32).toInt = 1 := by decide +kernel
                                                      have hz_1362 : (1 : Int32).toInt = 1 := by decide +kernel
                                                      have hz_1363 : (1 : Int32).toInt = 1 := by decide +kernel
                                                      refine W.widen (k := 0) (n := 0) (Nat.le_of_ble_eq_true rfl) (Nat.le_of_ble_eq_true rfl) ?_
                                                      rw [hQ9]
                                                      exact dg_iret hx hb hr hlocks (by decide +kernel) hP hS ⟨I_1353, M_1353, (by decide +kernel), ⟨y_1354, y_1355, y_1356, y_3, y_1343, x_1347, y_1344, oo, f_y_1354, f_y_1355, f_y_1356, (((m_1353.1 0 8 _ sM_0 (dk_dq rfl)).trans ((dg_uF_ne e_1350 (fun z => absurd z.2 (dk_dq rfl))).trans ((dg_uF_ne e_1348 (fun z => absurd z.2 (dk_dq rfl))).trans (m_1341.1 0 8 _ sM_0 (dk_dq rfl))))).trans f_y_3), (((m_1353.1 0 34 _ sM_0 (dk_dq rfl)).trans ((dg_uF_ne e_1350 (fun z => absurd z.2 (dk_dq rfl))).trans (dg_uF_ne e_1348 (fun z => absurd z.2 (dk_dq rfl))))).trans f_y_1343), (((m_1353.1 0 42 _ sM_0 (dk_dq rfl)).trans (dg_uF_ne e_1350 (fun z => absurd z.2 (dk_dq rfl)))).trans (dg_uF_at e_1348)), (((m_1353.1 0 45 _ sM_0 (dk_dq rfl)).trans ((dg_uF_ne e_1350 (fun z => absurd z.2 (dk_dq rfl))).trans (dg_uF_ne e_1348 (fun z => absurd z.2 (dk_dq rfl))))).trans f_y_1344), (((m_1353.1 0 46 _ sM_0 (dk_dq rfl)).trans ((dg_uF_ne e_1350 (fun z => absurd z.2 (dk_dq rfl))).trans ((dg_uF_ne e_1348 (fun z => absurd z.2 (dk_dq rfl))).trans ((m_1341.1 0 46 _ sM_0 (dk_dq rfl)).trans (m_2.1 0 46 _ sM_0 (dk_dq rfl)))))).trans f_oo), ⟨lxh_w_1353_0_3.out, (by omega)⟩⟩, (fun k9 hk9 hk0 => POM.mk1 (P1M.keep P1_1350 m_1353 (dk_dq rfl) (dk_dq rfl) (dk_dq rfl) (dk_dq rfl) (dk_dq rfl) (dk_dq rfl) (dk_dq rfl) (dk_dq rfl) (dk_dq rfl) (dk_dq rfl) (dk_dq rfl) (dk_dq rfl) (dk_dq rfl) (dk_dq rfl) (dk_dq rfl)) (((m_1353.1 0 46 _ sM_0 (dk_dq rfl)).trans ((dg_uF_ne e_1350 (fun z => absurd z.2 (dk_dq rfl))).trans ((dg_uF_ne e_1348 (fun z => absurd z.2 (dk_dq rfl))).trans ((m_1341.1 0 46 _ sM_0 (dk_dq rfl)).trans (m_2.1 0 46 _ sM_0 (dk_dq rfl)))))).trans f_oo) (by omega)), (GOK.ok f_sa (((m_1353.1 0 8 _ sM_0 (dk_dq rfl)).trans ((dg_uF_ne e_1350 (fun z => absurd z.2 (dk_dq rfl))).trans ((dg_uF_ne e_1348 (fun z => absurd z.2 (dk_dq rfl))).trans (m_1341.1 0 8 _ sM_0 (dk_dq rfl))))).trans f_y_3) f_y_1355 (((m_1353.1 0 46 _ sM_0 (dk_dq rfl)).trans ((dg_uF_ne e_1350 (fun z => absurd z.2 (dk_dq rfl))).trans ((dg_uF_ne e_1348 (fun z => absurd z.2 (dk_dq rfl))).trans ((m_1341.1 0 46 _ sM_0 (dk_dq rfl)).trans (m_2.1 0 46 _ sM_0 (dk_dq rfl)))))).trans f_oo) (by omega) hM0 (TFM.keep TF_1350 m_1353 (dk_dq rfl) (dk_dq rfl) (dk_dq rfl) (dk_dq rfl) (dk_dq rfl) (dk_dq rfl) (dk_dq rfl) (dk_dq rfl)) (m_st_t.trans ((m_go_cls hnop.out (Or.inl ⟨by omega, (by have h9 := qw_1338_1; rw [show (x_1261).toInt = 41 from by have h8 := h531.out.2 (by omega); omega] at h9; exact h9)⟩)).trans (by rw [hpR]; show (0, (pa, (if (x_7).toInt = 5 then 2 else pb), pc9, pn) :: pR, _ - _ - 1, _, _) = _; rw [if_neg (by omega)]))) (by omega) (by decide +kernel) (by first | decide +kernel | exact decide_eq_true (by omega))), (GON.ok f_sa f_y_1355 (((m_1353.1 0 46 _ sM_0 (dk_dq rfl)).trans ((dg_uF_ne e_1350 (fun z => absurd z.2 (dk_dq rfl))).trans ((dg_uF_ne e_1348 (fun z => absurd z.2 (dk_dq rfl))).trans ((m_1341.1 0 46 _ sM_0 (dk_dq rfl)).trans (m_2.1 0 46 _ sM_0 (dk_dq rfl)))))).trans f_oo) hN0 (TFM.keep TF_1350 m_1353 (dk_dq rfl) (dk_dq rfl) (dk_dq rfl) (dk_dq rfl) (dk_dq rfl) (dk_dq rfl) (dk_dq rfl) (dk_dq rfl)) (XFM.keep (XFM.keep XF_1348 (dg_sm.uF (WF := [(0, 43)]) (WA := []) dg_sm.rf e_1350 sM_0 (dk_dq rfl)) (dk_dq rfl) (dk_dq rfl) (dk_dq rfl) (dk_dq rfl) (dk_dq rfl)) m_1353 (dk_dq rfl) (dk_dq rfl) (dk_dq rfl) (dk_dq rfl) (dk_dq rfl)) (q_am.mv qa_1341 ((m_1353.1 0 34 _ sM_0 (dk_dq rfl)).trans ((dg_uF_ne e_1350 (fun z => absurd z.2 (dk_dq rfl))).trans (dg_uF_ne e_1348 (fun z => absurd z.2 (dk_dq rfl))))) ((m_1353.1 0 35 _ sM_0 (dk_dq rfl)).trans ((dg_uF_ne e_1350 (fun z => absurd z.2 (dk_dq rfl))).trans (dg_uF_ne e_1348 (fun z => absurd z.2 (dk_dq rfl))))) ((m_1353.2 18 _ sM_18 (dk_dq rfl)).1.trans ((dg_uF_f e_1350 18).trans (dg_uF_f e_1348 18))) ((m_1353.2 19 _ sM_19 (dk_dq rfl)).1.trans ((dg_uF_f e_1350 19).trans (dg_uF_f e_1348 19)))) (fun out => by rw [n_go_cls hnop.out (Or.inl ⟨by omega, (by have h9 := qw_1338_1; rw [show (x_1261).toInt = 41 from by have h8 := h531.out.2 (by omega); omega] at h9; exact h9)⟩), hpR, hXq]; show (0, (pa, (if (x_7).toInt = 5 then 2 else pb), pc9, lq, n_np pa pq) :: n_Z pR Xq, _ - n_cn l0 - 1, _, true, out ++ l0.map d_st ++ (if (x_7).toInt = 4 then [d_st (n_np (x_7).toInt p0)] else [])) = _; rw [if_neg (show ¬ (x_7).toInt = 5 from by omega), if_neg (show ¬ (x_7).toInt = 4 from by omega), List.append_nil, hcn0.out]) (by omega) (by decide +kernel) (by first | decide +kernel | exact decide_eq_true (by omega))), TK_1353, (ZWM.keep (ZWM.keep (ZWM.keep w_1341_4 (dg_sm.uF (WF := [(0, 42)]) (WA := []) dg_sm.rf e_1348 sM_0 (dk_dq rfl)) (dk_dq rfl) (dk_dq rfl) (dk_dq rfl) (dk_dq rfl)) (dg_sm.uF (WF := [(0, 43)]) (WA := []) dg_sm.rf e_1350 sM_0 (dk_dq rfl)) (dk_dq rfl) (dk_dq rfl) (dk_dq rfl) (dk_dq rfl)) m_1353 (dk_dq rfl) (dk_dq rfl) (dk_dq rfl) (dk_dq rfl)), (G8M.keep (G8M.keep (G8M.keep w_1341_6 (dg_sm.uF (WF := [(0, 42)]) (WA := []) dg_sm.rf e_1348 sM_0 (dk_dq rfl)) (dk_dq rfl) (dk_dq rfl) (dk_dq rfl)) (dg_sm.uF (WF := [(0, 43)]) (WA := []) dg_sm.rf e_1350 sM_0 (dk_dq rfl)) (dk_dq rfl) (dk_dq rfl) (dk_dq rfl)) m_1353 (dk_dq rfl) (dk_dq rfl) (dk_dq rfl)), trivial⟩ dX12_goesOn_618
                                                  · as_aux_lemma =>
                                                      have jc_1352 := dk_eqc (k := 5) (by decide +kernel) c_1352
                                                      refine lv_aload_n hx hb dX12_goesOn_601 rfl (lv_at hl 3 rfl) ?_
                                                      refine dg_get (C := RX12) (T := TX12) (N := 77) hx hb hts (fun w h => bw_mem (wU_X12 w h)) hown K hP sM_0 rfl 38 (dk_dq rfl) (hts _ (bw_mem wB_417)) (fun _ h9 => h9) (v := .ref (o + 23)) (show S_1350.1 0 38 = .ref (o + 23) from dg_I.rel (d := 23) I_1350 sM_0 (by decide +kernel)) dX12_goesOn_602 ?_
                                                      refine lv_aload_n hx hb dX12_goesOn_605 rfl (lv_at hl 3 rfl) ?_
                                                      refine dg_get (C := RX12) (T := TX12) (N := 77) hx hb hts (fun w h => bw_mem (wU_X12 w h)) hown K hP sM_0 rfl 42 (dk_dq rfl) (hts _ (bw_mem wB_406)) (fun _ h9 => h9) (v := .int x_1347) ((dg_uF_ne e_1350 (fun z => absurd z.2 (dk_dq rfl))).trans (dg_uF_at e_1348)) dX12_goesOn_606 ?_
                                                      refine lv_iconst (v := 1) hx hb dX12_goesOn_609 (by decide +kernel) ?_
                                                      refine lv_isub hx hb dX12_goesOn_610 ?_
                                                      refine lv_topi (fun x_1364 ex_1364 => ?_)
                                                      have jx_1364 : (x_1364).toInt = (x_1347).toInt - 1 := by rw [ex_1364]; exact dk_subT2 rfl (by decide +kernel) (by omega)
                                                      refine lv_iconst (v := 2) hx hb dX12_goesOn_611 (by decide +kernel) ?_
                                                      have hin_1365 : vp_in x_1364 20 := (dk_inv2 (by omega))
                                                      have hz_1367 : (2 : Int32).toInt = 2 := by decide +kernel
                                                      refine dg_iast hx hb K hP hS hA1 sM_23 hin_1365 dX12_goesOn_612 (fun S_1366 e_1366 H locs hP hS => ?_)
                                                      have I_1366 := dg_I.ufu (lo := 0) (hi := 2) I_1350 e_1366 sM_23 (by decide +kernel) (show 0 ≤ ((2 : Int32)).toInt ∧ ((2 : Int32)).toInt ≤ 2 from (by decide +kernel))
                                                      have M_1366 := dg_sm.uf M_1350 e_1366 sM_23 (dk_dq rfl)
                                                      have hz_1368 : (2 : Int32).toInt = 2 := by decide +kernel
                                                      have P1_1366 : P1M S_1366 := P1M.close5 P1_1350 ((dg_uF_ne e_1350 (fun z => absurd z.2 (dk_dq rfl))).trans (dg_uF_at e_1348)) (by omega) (by omega) (by omega) e_1366
                                                      have hz_1369 : (2 : Int32).toInt = 2 := by decide +kernel
                                                      have TF_1366 : TFM pa 2 pc9 pn pR (((on).toNatClampNeg - nt0) - 1) S_1366 := (by have h9 := (TFM.ph' TF_1350 ((dg_uF_ne e_1350 (fun z => absurd z.2 (dk_dq rfl))).trans (dg_uF_at e_1348)) (dg_uF_at e_1350) (((dg_uF_ne e_1350 (fun z => absurd z.2 (dk_dq rfl))).trans (dg_uF_ne e_1348 (fun z => absurd z.2 (dk_dq rfl)))).trans f_y_1344) (fx := x_1364) (by omega) (by omega) e_1366); rw [show (2 : Int32).toInt = 2 from by decide +kernel] at h9; exact h9)
                                                      refine lv_aload_n hx hb dX12_goesOn_613 rfl (lv_at hl 3 rfl) ?_
                                                      refine dg_callv hS hA1 hA (va_runV (As := []) (rest := []) F (c_m_ahead l g D o S_1366 tb tn se (((dg_uf_F e_1366 0 5).trans ((dg_uF_ne e_1350 (fun z => absurd z.2 (dk_dq rfl))).trans ((dg_uF_ne e_1348 (fun z => absurd z.2 (dk_dq rfl))).trans ((m_1341.1 0 5 _ sM_0 (dk_dq rfl)).trans (m_2.1 0 5 _ sM_0 (dk_dq rfl)))))).trans f_se) (by omega) sl (((dg_uf_F e_1366 0 2).trans ((dg_uF_ne e_1350 (fun z => absurd z.2 (dk_dq rfl))).trans ((dg_uF_ne e_1348 (fun z => absurd z.2 (dk_dq rfl))).trans ((m_1341.1 0 2 _ sM_0 (dk_dq rfl)).trans (m_2.1 0 2 _ sM_0 (dk_dq rfl)))))).trans f_sl) (by omega) (by omega) (TKM.keep (TKM.keep (TKM.keep (TKM.keep (TKM.keep TK m_2 (dk_dq rfl) (dk_dq rfl) (dk_dq rfl) (dk_dq rfl) (dk_dq rfl) (dk_dq rfl) (dk_dq rfl) (dk_dq rfl)) m_1341 (dk_dq rfl) (dk_dq rfl) (dk_dq rfl) (dk_dq rfl) (dk_dq rfl) (dk_dq rfl) (dk_dq rfl) (dk_dq rfl)) (dg_sm.uF (WF := [(0, 42)]) (WA := []) dg_sm.rf e_1348 sM_0 (dk_dq rfl)) (dk_dq rfl) (dk_dq rfl) (dk_dq rfl) (dk_dq rfl) (dk_dq rfl) (dk_dq rfl) (dk_dq rfl) (dk_dq rfl)) (dg_sm.uF (WF := [(0, 43)]) (WA := []) dg_sm.rf e_1350 sM_0 (dk_dq rfl)) (dk_dq rfl) (dk_dq rfl) (dk_dq rfl) (dk_dq rfl) (dk_dq rfl) (dk_dq rfl) (dk_dq rfl) (dk_dq rfl)) (dg_sm.uf (WF := []) (WA := [23]) dg_sm.rf e_1366 sM_23 (dk_dq rfl)) (dk_dq rfl) (dk_dq rfl) (dk_dq rfl) (dk_dq rfl) (dk_dq rfl) (dk_dq rfl) (dk_dq rfl) (dk_dq rfl)).1 I_1366 H.size) (cwV 0 hts (bw_V wB_318 wB_319 wB_320 wB_297 wB_317) rfl rfl rfl (by decide +kernel) ⟨Nat.le_of_ble_eq_true rfl, Nat.le_of_ble_eq_true rfl⟩) (dg_preV sM_0 rfl K ST hP hS hA1 hA) rfl rfl hl.1 rfl (lv_room (Nat.le_of_ble_eq_true rfl)) dX12_goesOn_614 ⟨Nat.le_of_ble_eq_true rfl, Nat.le_of_ble_eq_true rfl⟩) (fun S_1370 hw_1370 H locs hP hS => ?_)
                                                      obtain ⟨I_1370, m_1370, w_1370_0, w_1370_1, -⟩ := hw_1370
                                                      have M_1370 := dg_sm.tr M_1366 m_1370 (dk_dq rfl) (dk_dq rfl)
                                                      obtain ⟨y_1371, y_1372, y_1373, f_y_1371, f_y_1372, f_y_1373, w_1370_0⟩ := w_1370_0
                                                      have w_1370_0 : (se).toInt ≤ (y_1372).toInt ∧ (y_1372).toInt ≤ (y_1373).toInt ∧ (y_1373).toInt ≤ (sl).toInt ∧ ((y_1371).toInt ≠ 0 → (y_1372).toInt + 1 ≤ (y_1373).toInt) := w_1370_0
                                                      obtain ⟨w_1370_0_0, w_1370_0_1, w_1370_0_2, w_1370_0_3⟩ := w_1370_0
                                                      have lxh_w_1370_0_3 : m_hid ((y_1372).toInt ≤ (y_1373).toInt ∧ (y_1373).toInt ≤ (sl).toInt ∧ ((y_1371).toInt ≠ 0 → (y_1372).toInt + 1 ≤ (y_1373).toInt)) := m_hid.mk ⟨w_1370_0_1, w_1370_0_2, w_1370_0_3⟩
                                                      have b_y_1371 : 0 ≤ (y_1371).toInt ∧ (y_1371).toInt ≤ 3 := dg_I.intb (lo := 0) (hi := 3) I_1370 sM_0 (by decide +kernel) f_y_1371
                                                      have b_y_1372 : 0 ≤ (y_1372).toInt ∧ (y_1372).toInt ≤ 1600 := dg_I.intb (lo := 0) (hi := 1600) I_1370 sM_0 (by decide +kernel) f_y_1372
                                                      have b_y_1373 : 0 ≤ (y_1373).toInt ∧ (y_1373).toInt ≤ 1600 := dg_I.intb (lo := 0) (hi := 1600) I_1370 sM_0 (by decide +kernel) f_y_1373
                                                      replace w_1370_1 : TNX tb tn se S_1370 := w_1370_1
                                                      obtain ⟨TK_1370, nx_1370, -⟩ := TKM.nx (TKM.keep (TKM.keep (TKM.keep (TKM.keep (TKM.keep TK m_2 (dk_dq rfl) (dk_dq rfl) (dk_dq rfl) (dk_dq rfl) (dk_dq rfl) (dk_dq rfl) (dk_dq rfl) (dk_dq rfl)) m_1341 (dk_dq rfl) (dk_dq rfl) (dk_dq rfl) (dk_dq rfl) (dk_dq rfl) (dk_dq rfl) (dk_dq rfl) (dk_dq rfl)) (dg_sm.uF (WF := [(0, 42)]) (WA := []) dg_sm.rf e_1348 sM_0 (dk_dq rfl)) (dk_dq rfl) (dk_dq rfl) (dk_dq rfl) (dk_dq rfl) (dk_dq rfl) (dk_dq rfl) (dk_dq rfl) (dk_dq rfl)) (dg_sm.uF (WF := [(0, 43)]) (WA := []) dg_sm.rf e_1350 sM_0 (dk_dq rfl)) (dk_dq rfl) (dk_dq rfl) (dk_dq rfl) (dk_dq rfl) (dk_dq rfl) (dk_dq rfl) (dk_dq rfl) (dk_dq rfl)) (dg_sm.uf (WF := []) (WA := [23]) dg_sm.rf e_1366 sM_23 (dk_dq rfl)) (dk_dq rfl) (dk_dq rfl) (dk_dq rfl) (dk_dq rfl) (dk_dq rfl) (dk_dq rfl) (dk_dq rfl) (dk_dq rfl)) (((dg_uf_F e_1366 0 4).trans ((dg_uF_ne e_1350 (fun z => absurd z.2 (dk_dq rfl))).trans ((dg_uF_ne e_1348 (fun z => absurd z.2 (dk_dq rfl))).trans ((m_1341.1 0 4 _ sM_0 (dk_dq rfl)).trans (m_2.1 0 4 _ sM_0 (dk_dq rfl)))))).trans f_sa) (((dg_uf_F e_1366 0 5).trans ((dg_uF_ne e_1350 (fun z => absurd z.2 (dk_dq rfl))).trans ((dg_uF_ne e_1348 (fun z => absurd z.2 (dk_dq rfl))).trans ((m_1341.1 0 5 _ sM_0 (dk_dq rfl)).trans (m_2.1 0 5 _ sM_0 (dk_dq rfl)))))).trans f_se) w_1370_1 m_1370 (dk_dq rfl) (dk_dq rfl) f_y_1372
                                                      replace nx_1370 := nx_1370 (fun q9 => absurd ((TKM.zero (TKM.keep (TKM.keep (TKM.keep (TKM.keep (TKM.keep TK m_2 (dk_dq rfl) (dk_dq rfl) (dk_dq rfl) (dk_dq rfl) (dk_dq rfl) (dk_dq rfl) (dk_dq rfl) (dk_dq rfl)) m_1341 (dk_dq rfl) (dk_dq rfl) (dk_dq rfl) (dk_dq rfl) (dk_dq rfl) (dk_dq rfl) (dk_dq rfl) (dk_dq rfl)) (dg_sm.uF (WF := [(0, 42)]) (WA := []) dg_sm.rf e_1348 sM_0 (dk_dq rfl)) (dk_dq rfl) (dk_dq rfl) (dk_dq rfl) (dk_dq rfl) (dk_dq rfl) (dk_dq rfl) (dk_dq rfl) (dk_dq rfl)) (dg_sm.uF (WF := [(0, 43)]) (WA := []) dg_sm.rf e_1350 sM_0 (dk_dq rfl)) (dk_dq rfl) (dk_dq rfl) (dk_dq rfl) (dk_dq rfl) (dk_dq rfl) (dk_dq rfl) (dk_dq rfl) (dk_dq rfl)) (dg_sm.uf (WF := []) (WA := [23]) dg_sm.rf e_1366 sM_23 (dk_dq rfl)) (dk_dq rfl) (dk_dq rfl) (dk_dq rfl) (dk_dq rfl) (dk_dq rfl) (dk_dq rfl) (dk_dq rfl) (dk_dq rfl)) (((dg_uf_F e_1366 0 3).trans ((dg_uF_ne e_1350 (fun z => absurd z.2 (dk_dq rfl))).trans ((dg_uF_ne e_1348 (fun z => absurd z.2 (dk_dq rfl))).trans ((m_1341.1 0 3 _ sM_0 (dk_dq rfl)).trans (m_2.1 0 3 _ sM_0 (dk_dq rfl)))))).trans f_sg) (((dg_uf_F e_1366 0 4).trans ((dg_uF_ne e_1350 (fun z => absurd z.2 (dk_dq rfl))).trans ((dg_uF_ne e_1348 (fun z => absurd z.2 (dk_dq rfl))).trans ((m_1341.1 0 4 _ sM_0 (dk_dq rfl)).trans (m_2.1 0 4 _ sM_0 (dk_dq rfl)))))).trans f_sa)).mpr q9) (by omega))
                                                      refine lv_iconst (v := 1) hx hb dX12_goesOn_617 (by decide +kernel) ?_
                                                      have hz_1374 : (1 : Int32).toInt = 1 := by decide +kernel
                                                      have hz_1375 : (1 : Int32).toInt = 1 := by decide +kernel
                                                      have hz_1376 : (1 : Int32).toInt = 1 := by decide +kernel
                                                      have hz_1377 : (1 : Int32).toInt = 1 := by decide +kernel
                                                      have hz_1378 : (1 : Int32).toInt = 1 := by decide +kernel
                                                      have hz_1379 : (1 : Int32).toInt = 1 := by decide +kernel
                                                      have hz_1380 : (1 : Int32).toInt = 1 := by decide +kernel
                                                      refine W.widen (k := 0) (n := 0) (Nat.le_of_ble_eq_true rfl) (Nat.le_of_ble_eq_true rfl) ?_
                                                      rw [hQ9]
                                                      exact dg_iret hx hb hr hlocks (by decide +kernel) hP hS ⟨I_1370, M_1370, (by decide +kernel), ⟨y_1371, y_1372, y_1373, y_3, y_1343, x_1347, y_1344, oo, f_y_1371, f_y_1372, f_y_1373, (((m_1370.1 0 8 _ sM_0 (dk_dq rfl)).trans ((dg_uf_F e_1366 0 8).trans ((dg_uF_ne e_1350 (fun z => absurd z.2 (dk_dq rfl))).trans ((dg_uF_ne e_1348 (fun z => absurd z.2 (dk_dq rfl))).trans (m_1341.1 0 8 _ sM_0 (dk_dq rfl)))))).trans f_y_3), (((m_1370.1 0 34 _ sM_0 (dk_dq rfl)).trans ((dg_uf_F e_1366 0 34).trans ((dg_uF_ne e_1350 (fun z => absurd z.2 (dk_dq rfl))).trans (dg_uF_ne e_1348 (fun z => absurd z.2 (dk_dq rfl)))))).trans f_y_1343), (((m_1370.1 0 42 _ sM_0 (dk_dq rfl)).trans ((dg_uf_F e_1366 0 42).trans (dg_uF_ne e_1350 (fun z => absurd z.2 (dk_dq rfl))))).trans (dg_uF_at e_1348)), (((m_1370.1 0 45 _ sM_0 (dk_dq rfl)).trans ((dg_uf_F e_1366 0 45).trans ((dg_uF_ne e_1350 (fun z => absurd z.2 (dk_dq rfl))).trans (dg_uF_ne e_1348 (fun z => absurd z.2 (dk_dq rfl)))))).trans f_y_1344), (((m_1370.1 0 46 _ sM_0 (dk_dq rfl)).trans ((dg_uf_F e_1366 0 46).trans ((dg_uF_ne e_1350 (fun z => absurd z.2 (dk_dq rfl))).trans ((dg_uF_ne e_1348 (fun z => absurd z.2 (dk_dq rfl))).trans ((m_1341.1 0 46 _ sM_0 (dk_dq rfl)).trans (m_2.1 0 46 _ sM_0 (dk_dq rfl))))))).trans f_oo), ⟨lxh_w_1370_0_3.out, (by omega)⟩⟩, (fun k9 hk9 hk0 => POM.mk1 (P1M.keep P1_1366 m_1370 (dk_dq rfl) (dk_dq rfl) (dk_dq rfl) (dk_dq rfl) (dk_dq rfl) (dk_dq rfl) (dk_dq rfl) (dk_dq rfl) (dk_dq rfl) (dk_dq rfl) (dk_dq rfl) (dk_dq rfl) (dk_dq rfl) (dk_dq rfl) (dk_dq rfl)) (((m_1370.1 0 46 _ sM_0 (dk_dq rfl)).trans ((dg_uf_F e_1366 0 46).trans ((dg_uF_ne e_1350 (fun z => absurd z.2 (dk_dq rfl))).trans ((dg_uF_ne e_1348 (fun z => absurd z.2 (dk_dq rfl))).trans ((m_1341.1 0 46 _ sM_0 (dk_dq rfl)).trans (m_2.1 0 46 _ sM_0 (dk_dq rfl))))))).trans f_oo) (by omega)), (GOK.ok f_sa (((m_1370.1 0 8 _ sM_0 (dk_dq rfl)).trans ((dg_uf_F e_1366 0 8).trans ((dg_uF_ne e_1350 (fun z => absurd z.2 (dk_dq rfl))).trans ((dg_uF_ne e_1348 (fun z => absurd z.2 (dk_dq rfl))).trans (m_1341.1 0 8 _ sM_0 (dk_dq rfl)))))).trans f_y_3) f_y_1372 (((m_1370.1 0 46 _ sM_0 (dk_dq rfl)).trans ((dg_uf_F e_1366 0 46).trans ((dg_uF_ne e_1350 (fun z => absurd z.2 (dk_dq rfl))).trans ((dg_uF_ne e_1348 (fun z => absurd z.2 (dk_dq rfl))).trans ((m_1341.1 0 46 _ sM_0 (dk_dq rfl)).trans (m_2.1 0 46 _ sM_0 (dk_dq rfl))))))).trans f_oo) (by omega) hM0 (TFM.keep TF_1366 m_1370 (dk_dq rfl) (dk_dq rfl) (dk_dq rfl) (dk_dq rfl) (dk_dq rfl) (dk_dq rfl) (dk_dq rfl) (dk_dq rfl)) (m_st_t.trans ((m_go_cls hnop.out (Or.inr ⟨by omega, (by have h9 := h422.out; have h8 := (w_9_1.out.mpr (Or.inr (Or.inl (by omega)))); omega), (hnao.out (w_9_1.out.mpr (Or.inr (Or.inl (by omega))))).1, (hnao.out (w_9_1.out.mpr (Or.inr (Or.inl (by omega))))).2, (by have h9 := qw_1338_1; rw [show (x_1261).toInt = 93 from by have h8 := h531.out.1 (by omega); omega] at h9; exact h9)⟩)).trans (by rw [hpR]; show (0, (pa, (if (x_7).toInt = 5 then 2 else pb), pc9, pn) :: pR, _ - _ - 1, _, _) = _; rw [if_pos (by omega)]))) (by omega) (by decide +kernel) (by first | decide +kernel | exact decide_eq_true (by omega))), (GON.ok f_sa f_y_1372 (((m_1370.1 0 46 _ sM_0 (dk_dq rfl)).trans ((dg_uf_F e_1366 0 46).trans ((dg_uF_ne e_1350 (fun z => absurd z.2 (dk_dq rfl))).trans ((dg_uF_ne e_1348 (fun z => absurd z.2 (dk_dq rfl))).trans ((m_1341.1 0 46 _ sM_0 (dk_dq rfl)).trans (m_2.1 0 46 _ sM_0 (dk_dq rfl))))))).trans f_oo) hN0 (TFM.keep TF_1366 m_1370 (dk_dq rfl) (dk_dq rfl) (dk_dq rfl) (dk_dq rfl) (dk_dq rfl) (dk_dq rfl) (dk_dq rfl) (dk_dq rfl)) (XFM.keep (XFM.keep (XFM.keep XF_1348 (dg_sm.uF (WF := [(0, 43)]) (WA := []) dg_sm.rf e_1350 sM_0 (dk_dq rfl)) (dk_dq rfl) (dk_dq rfl) (dk_dq rfl) (dk_dq rfl) (dk_dq rfl)) (dg_sm.uf (WF := []) (WA := [23]) dg_sm.rf e_1366 sM_23 (dk_dq rfl)) (dk_dq rfl) (dk_dq rfl) (dk_dq rfl) (dk_dq rfl) (dk_dq rfl)) m_1370 (dk_dq rfl) (dk_dq rfl) (dk_dq rfl) (dk_dq rfl) (dk_dq rfl)) (q_am.mv qa_1341 ((m_1370.1 0 34 _ sM_0 (dk_dq rfl)).trans ((dg_uf_F e_1366 0 34).trans ((dg_uF_ne e_1350 (fun z => absurd z.2 (dk_dq rfl))).trans (dg_uF_ne e_1348 (fun z => absurd z.2 (dk_dq rfl)))))) ((m_1370.1 0 35 _ sM_0 (dk_dq rfl)).trans ((dg_uf_F e_1366 0 35).trans ((dg_uF_ne e_1350 (fun z => absurd z.2 (dk_dq rfl))).trans (dg_uF_ne e_1348 (fun z => absurd z.2 (dk_dq rfl)))))) ((m_1370.2 18 _ sM_18 (dk_dq rfl)).1.trans ((dg_uf_ne e_1366 (dk_dq rfl)).trans ((dg_uF_f e_1350 18).trans (dg_uF_f e_1348 18)))) ((m_1370.2 19 _ sM_19 (dk_dq rfl)).1.trans ((dg_uf_ne e_1366 (dk_dq rfl)).trans ((dg_uF_f e_1350 19).trans (dg_uF_f e_1348 19))))) (fun out => by rw [n_go_cls hnop.out (Or.inr ⟨by omega, (by have h9 := h422.out; have h8 := (w_9_1.out.mpr (Or.inr (Or.inl (by omega)))); omega), (hnao.out (w_9_1.out.mpr (Or.inr (Or.inl (by omega))))).1, (hnao.out (w_9_1.out.mpr (Or.inr (Or.inl (by omega))))).2, (by have h9 := qw_1338_1; rw [show (x_1261).toInt = 93 from by have h8 := h531.out.1 (by omega); omega] at h9; exact h9)⟩), hpR, hXq]; show (0, (pa, (if (x_7).toInt = 5 then 2 else pb), pc9, lq, n_np pa pq) :: n_Z pR Xq, _ - n_cn l0 - 1, _, true, out ++ l0.map d_st ++ (if (x_7).toInt = 4 then [d_st (n_np (x_7).toInt p0)] else [])) = _; rw [if_pos (show (x_7).toInt = 5 from by omega), if_neg (show ¬ (x_7).toInt = 4 from by omega), List.append_nil, hcn0.out]) (by omega) (by decide +kernel) (by first | decide +kernel | exact decide_eq_true (by omega))), TK_1370, (ZWM.keep (ZWM.keep (ZWM.keep (ZWM.keep w_1341_4 (dg_sm.uF (WF := [(0, 42)]) (WA := []) dg_sm.rf e_1348 sM_0 (dk_dq rfl)) (dk_dq rfl) (dk_dq rfl) (dk_dq rfl) (dk_dq rfl)) (dg_sm.uF (WF := [(0, 43)]) (WA := []) dg_sm.rf e_1350 sM_0 (dk_dq rfl)) (dk_dq rfl) (dk_dq rfl) (dk_dq rfl) (dk_dq rfl)) (dg_sm.uf (WF := []) (WA := [23]) dg_sm.rf e_1366 sM_23 (dk_dq rfl)) (dk_dq rfl) (dk_dq rfl) (dk_dq rfl) (dk_dq rfl)) m_1370 (dk_dq rfl) (dk_dq rfl) (dk_dq rfl) (dk_dq rfl)), (G8M.keep (G8M.keep (G8M.keep (G8M.keep w_1341_6 (dg_sm.uF (WF := [(0, 42)]) (WA := []) dg_sm.rf e_1348 sM_0 (dk_dq rfl)) (dk_dq rfl) (dk_dq rfl) (dk_dq rfl)) (dg_sm.uF (WF := [(0, 43)]) (WA := []) dg_sm.rf e_1350 sM_0 (dk_dq rfl)) (dk_dq rfl) (dk_dq rfl) (dk_dq rfl)) (dg_sm.uf (WF := []) (WA := [23]) dg_sm.rf e_1366 sM_23 (dk_dq rfl)) (dk_dq rfl) (dk_dq rfl) (dk_dq rfl)) m_1370 (dk_dq rfl) (dk_dq rfl) (dk_dq rfl)), trivial⟩ dX12_goesOn_618
                                              · as_aux_lemma =>
                                                  have jc_1351 := dk_eqc (k := 4) (by decide +kernel) c_1351
                                                  refine lv_aload_n hx hb dX12_goesOn_585 rfl (lv_at hl 3 rfl) ?_
                                                  refine lv_aload_n hx hb dX12_goesOn_586 rfl (lv_at hl 3 rfl) ?_
                                                  refine dg_get (C := RX12) (T := TX12) (N := 77) hx hb hts (fun w h => bw_mem (wU_X12 w h)) hown K hP sM_0 rfl 40 (dk_dq rfl) (hts _ (bw_mem wB_435)) (fun _ h9 => h9) (v := .ref (o + 25)) (show S_1350.1 0 40 = .ref (o + 25) from dg_I.rel (d := 25) I_1350 sM_0 (by decide +kernel)) dX12_goesOn_587 ?_
                                                  refine lv_iload_n hx hb dX12_goesOn_590 rfl (lv_at hl 2 rfl) ?_
                                                  have hin_1381 : vp_in x_5 20 := (dk_inv2 (by omega))
                                                  refine dg_iald hx hb K hP sM_25 hin_1381 dX12_goesOn_591 (fun x_1382 ex_1382 => ?_)
                                                  have hp25_x_1382 : S_1341.2.1 25 (x_5 : Int32).toNatClampNeg = x_1382 := by rw [ex_1382, (((dg_uF_f e_1350 25).trans (dg_uF_f e_1348 25)))]
                                                  have hkd := hkdh.out
                                                  rw [hp25_x_1382] at hkd
                                                  have hpv9 : m_hid (p0 = (x_1382).toInt) := m_hid.mk (XFM.pv XF_1341 TF_1341 (((m_1341.1 0 42 _ sM_0 (dk_dq rfl)).trans (m_2.1 0 42 _ sM_0 (dk_dq rfl))).trans f_dp) f_x_1345 f_y_1344 (fx := x_5) (by omega) hp25_x_1382)
                                                  refine lv_iconst (v := 0) hx hb dX12_goesOn_592 (by decide +kernel) ?_
                                                  have hz_1383 : (0 : Int32).toInt = 0 := by decide +kernel
                                                  refine dg_callv hS hA1 hA (va_runV (As := [.int x_1382, .int 0]) (rest := []) F (c_m_add l g D o S_1350 x_1382 (by omega) 0 (by decide +kernel) S0 y_1343 (((dg_uF_ne e_1350 (fun z => absurd z.2 (dk_dq rfl))).trans (dg_uF_ne e_1348 (fun z => absurd z.2 (dk_dq rfl)))).trans f_y_1343) (by omega) (ZWM.keep (ZWM.keep w_1341_4 (dg_sm.uF (WF := [(0, 42)]) (WA := []) dg_sm.rf e_1348 sM_0 (dk_dq rfl)) (dk_dq rfl) (dk_dq rfl) (dk_dq rfl) (dk_dq rfl)) (dg_sm.uF (WF := [(0, 43)]) (WA := []) dg_sm.rf e_1350 sM_0 (dk_dq rfl)) (dk_dq rfl) (dk_dq rfl) (dk_dq rfl) (dk_dq rfl)) (ZKM.keep (ZKM.keep (ZKM.keep (ZKM.keep ZK m_2 (dk_dq rfl) (dk_dq rfl)) m_1341 (dk_dq rfl) (dk_dq rfl)) (dg_sm.uF (WF := [(0, 42)]) (WA := []) dg_sm.rf e_1348 sM_0 (dk_dq rfl)) (dk_dq rfl) (dk_dq rfl)) (dg_sm.uF (WF := [(0, 43)]) (WA := []) dg_sm.rf e_1350 sM_0 (dk_dq rfl)) (dk_dq rfl) (dk_dq rfl)) (G8M.keep (G8M.keep w_1341_6 (dg_sm.uF (WF := [(0, 42)]) (WA := []) dg_sm.rf e_1348 sM_0 (dk_dq rfl)) (dk_dq rfl) (dk_dq rfl) (dk_dq rfl)) (dg_sm.uF (WF := [(0, 43)]) (WA := []) dg_sm.rf e_1350 sM_0 (dk_dq rfl)) (dk_dq rfl) (dk_dq rfl) (dk_dq rfl)) I_1350 H.size) (cwV 2 hts (bw_V wB_412 wB_413 wB_414 wB_297 wB_411) rfl rfl rfl (by decide +kernel) ⟨Nat.le_of_ble_eq_true rfl, Nat.le_of_ble_eq_true rfl⟩) (dg_preV sM_0 rfl K ST hP hS hA1 hA) rfl rfl hl.1 rfl (lv_room (Nat.le_of_ble_eq_true rfl)) dX12_goesOn_593 ⟨Nat.le_of_ble_eq_true rfl, Nat.le_of_ble_eq_true rfl⟩) (fun S_1384 hw_1384 H locs hP hS => ?_)
                                                  obtain ⟨I_1384, m_1384, w_1384_0, w_1384_1, w_1384_2, w_1384_3, w_1384_4, -⟩ := hw_1384
                                                  have M_1384 := dg_sm.tr M_1350 m_1384 (dk_dq rfl) (dk_dq rfl)
                                                  have hz_1385 : (0 : Int32).toInt = 0 := by decide +kernel
                                                  obtain ⟨y_1386, f_y_1386, w_1384_0⟩ := w_1384_0
                                                  have w_1384_0 : (y_1386).toInt = (y_1343).toInt + 1 := w_1384_0
                                                  have b_y_1386 : 0 ≤ (y_1386).toInt ∧ (y_1386).toInt ≤ 1600 := dg_I.intb (lo := 0) (hi := 1600) I_1384 sM_0 (by decide +kernel) f_y_1386
                                                  replace w_1384_1 : ADM S_1350 S_1384 x_1382 := w_1384_1
                                                  have P1_1384 : P1M S_1384 := P1M.close4 w_1341_5 (((m_1341.1 0 42 _ sM_0 (dk_dq rfl)).trans (m_2.1 0 42 _ sM_0 (dk_dq rfl))).trans f_dp) f_x_1345 f_y_1344 w_1341_1 (by omega) (fx := x_5) (by omega) ((congrFun (m_1341.2 22 _ sM_22 (dk_dq rfl)).1 _).trans ex_7.symm) (by omega) e_1348 (by omega) e_1350 (by omega) hp25_x_1382 m_1384 w_1384_1
                                                  replace w_1384_2 : A5M S_1350 S_1384 x_1382 (0 : Int32) := w_1384_2
                                                  obtain ⟨x_1387, f_x_1387, b_x_1387⟩ := dg_I.int (i := 0) (k := 35) (lo := 0) (hi := 1) I sM_0 (by decide +kernel)
                                                  obtain ⟨x_1388, f_x_1388, b_x_1388⟩ := dg_I.int (i := 0) (k := 34) (lo := 0) (hi := 1600) I_1350 sM_0 (by decide +kernel)
                                                  have qa_1384 : q_am S S_1384 ((l0).map d_st ++ [d_st p0]) := (q_am.tr (q_am.mv qa_1341 ((dg_uF_ne e_1350 (fun z => absurd z.2 (dk_dq rfl))).trans (dg_uF_ne e_1348 (fun z => absurd z.2 (dk_dq rfl)))) ((dg_uF_ne e_1350 (fun z => absurd z.2 (dk_dq rfl))).trans (dg_uF_ne e_1348 (fun z => absurd z.2 (dk_dq rfl)))) ((dg_uF_f e_1350 18).trans (dg_uF_f e_1348 18)) ((dg_uF_f e_1350 19).trans (dg_uF_f e_1348 19))) (q_am.to (A5M.q w_1384_2 (((dg_uF_ne e_1350 (fun z => absurd z.2 (dk_dq rfl))).trans ((dg_uF_ne e_1348 (fun z => absurd z.2 (dk_dq rfl))).trans ((m_1341.1 0 35 _ sM_0 (dk_dq rfl)).trans (m_2.1 0 35 _ sM_0 (dk_dq rfl))))).trans f_x_1387) f_x_1388 (by omega) (by omega)) (by rw [hpv9.out, show (0 : Int32).toInt = 0 from by decide +kernel, d_2_0])))
                                                  refine lv_iload_n hx hb dX12_goesOn_596 rfl (lv_at hl 1 rfl) ?_
                                                  refine lv_iconst (v := 5) hx hb dX12_goesOn_597 (by decide +kernel) ?_
                                                  refine lv_icmp_ne (tgt := 613) hx hb dX12_goesOn_598 (dk_dq rfl) (fun _ => ?_) (fun c => absurd c (fun z => absurd (dk_eqc (k := 5) (by decide +kernel) z) (by omega)))
                                                  refine lv_aload_n hx hb dX12_goesOn_613 rfl (lv_at hl 3 rfl) ?_
                                                  refine dg_callv hS hA1 hA (va_runV (As := []) (rest := []) F (c_m_ahead l g D o S_1384 tb tn se (((m_1384.1 0 5 _ sM_0 (dk_dq rfl)).trans ((dg_uF_ne e_1350 (fun z => absurd z.2 (dk_dq rfl))).trans ((dg_uF_ne e_1348 (fun z => absurd z.2 (dk_dq rfl))).trans ((m_1341.1 0 5 _ sM_0 (dk_dq rfl)).trans (m_2.1 0 5 _ sM_0 (dk_dq rfl)))))).trans f_se) (by omega) sl (((m_1384.1 0 2 _ sM_0 (dk_dq rfl)).trans ((dg_uF_ne e_1350 (fun z => absurd z.2 (dk_dq rfl))).trans ((dg_uF_ne e_1348 (fun z => absurd z.2 (dk_dq rfl))).trans ((m_1341.1 0 2 _ sM_0 (dk_dq rfl)).trans (m_2.1 0 2 _ sM_0 (dk_dq rfl)))))).trans f_sl) (by omega) (by omega) (TKM.keep (TKM.keep (TKM.keep (TKM.keep (TKM.keep TK m_2 (dk_dq rfl) (dk_dq rfl) (dk_dq rfl) (dk_dq rfl) (dk_dq rfl) (dk_dq rfl) (dk_dq rfl) (dk_dq rfl)) m_1341 (dk_dq rfl) (dk_dq rfl) (dk_dq rfl) (dk_dq rfl) (dk_dq rfl) (dk_dq rfl) (dk_dq rfl) (dk_dq rfl)) (dg_sm.uF (WF := [(0, 42)]) (WA := []) dg_sm.rf e_1348 sM_0 (dk_dq rfl)) (dk_dq rfl) (dk_dq rfl) (dk_dq rfl) (dk_dq rfl) (dk_dq rfl) (dk_dq rfl) (dk_dq rfl) (dk_dq rfl)) (dg_sm.uF (WF := [(0, 43)]) (WA := []) dg_sm.rf e_1350 sM_0 (dk_dq rfl)) (dk_dq rfl) (dk_dq rfl) (dk_dq rfl) (dk_dq rfl) (dk_dq rfl) (dk_dq rfl) (dk_dq rfl) (dk_dq rfl)) m_1384 (dk_dq rfl) (dk_dq rfl) (dk_dq rfl) (dk_dq rfl) (dk_dq rfl) (dk_dq rfl) (dk_dq rfl) (dk_dq rfl)).1 I_1384 H.size) (cwV 0 hts (bw_V wB_318 wB_319 wB_320 wB_297 wB_317) rfl rfl rfl (by decide +kernel) ⟨Nat.le_of_ble_eq_true rfl, Nat.le_of_ble_eq_true rfl⟩) (dg_preV sM_0 rfl K ST hP hS hA1 hA) rfl rfl hl.1 rfl (lv_room (Nat.le_of_ble_eq_true rfl)) dX12_goesOn_614 ⟨Nat.le_of_ble_eq_true rfl, Nat.le_of_ble_eq_true rfl⟩) (fun S_1389 hw_1389 H locs hP hS => ?_)
                                                  obtain ⟨I_1389, m_1389, w_1389_0, w_1389_1, -⟩ := hw_1389
                                                  have M_1389 := dg_sm.tr M_1384 m_1389 (dk_dq rfl) (dk_dq rfl)
                                                  obtain ⟨y_1390, y_1391, y_1392, f_y_1390, f_y_1391, f_y_1392, w_1389_0⟩ := w_1389_0
                                                  have w_1389_0 : (se).toInt ≤ (y_1391).toInt ∧ (y_1391).toInt ≤ (y_1392).toInt ∧ (y_1392).toInt ≤ (sl).toInt ∧ ((y_1390).toInt ≠ 0 → (y_1391).toInt + 1 ≤ (y_1392).toInt) := w_1389_0
                                                  obtain ⟨w_1389_0_0, w_1389_0_1, w_1389_0_2, w_1389_0_3⟩ := w_1389_0
                                                  have lxh_w_1389_0_3 : m_hid ((y_1391).toInt ≤ (y_1392).toInt ∧ (y_1392).toInt ≤ (sl).toInt ∧ ((y_1390).toInt ≠ 0 → (y_1391).toInt + 1 ≤ (y_1392).toInt)) := m_hid.mk ⟨w_1389_0_1, w_1389_0_2, w_1389_0_3⟩
                                                  have b_y_1390 : 0 ≤ (y_1390).toInt ∧ (y_1390).toInt ≤ 3 := dg_I.intb (lo := 0) (hi := 3) I_1389 sM_0 (by decide +kernel) f_y_1390
                                                  have b_y_1391 : 0 ≤ (y_1391).toInt ∧ (y_1391).toInt ≤ 1600 := dg_I.intb (lo := 0) (hi := 1600) I_1389 sM_0 (by decide +kernel) f_y_1391
                                                  have b_y_1392 : 0 ≤ (y_1392).toInt ∧ (y_1392).toInt ≤ 1600 := dg_I.intb (lo := 0) (hi := 1600) I_1389 sM_0 (by decide +kernel) f_y_1392
                                                  replace w_1389_1 : TNX tb tn se S_1389 := w_1389_1
                                                  obtain ⟨TK_1389, nx_1389, -⟩ := TKM.nx (TKM.keep (TKM.keep (TKM.keep (TKM.keep (TKM.keep TK m_2 (dk_dq rfl) (dk_dq rfl) (dk_dq rfl) (dk_dq rfl) (dk_dq rfl) (dk_dq rfl) (dk_dq rfl) (dk_dq rfl)) m_1341 (dk_dq rfl) (dk_dq rfl) (dk_dq rfl) (dk_dq rfl) (dk_dq rfl) (dk_dq rfl) (dk_dq rfl) (dk_dq rfl)) (dg_sm.uF (WF := [(0, 42)]) (WA := []) dg_sm.rf e_1348 sM_0 (dk_dq rfl)) (dk_dq rfl) (dk_dq rfl) (dk_dq rfl) (dk_dq rfl) (dk_dq rfl) (dk_dq rfl) (dk_dq rfl) (dk_dq rfl)) (dg_sm.uF (WF := [(0, 43)]) (WA := []) dg_sm.rf e_1350 sM_0 (dk_dq rfl)) (dk_dq rfl) (dk_dq rfl) (dk_dq rfl) (dk_dq rfl) (dk_dq rfl) (dk_dq rfl) (dk_dq rfl) (dk_dq rfl)) m_1384 (dk_dq rfl) (dk_dq rfl) (dk_dq rfl) (dk_dq rfl) (dk_dq rfl) (dk_dq rfl) (dk_dq rfl) (dk_dq rfl)) (((m_1384.1 0 4 _ sM_0 (dk_dq rfl)).trans ((dg_uF_ne e_1350 (fun z => absurd z.2 (dk_dq rfl))).trans ((dg_uF_ne e_1348 (fun z => absurd z.2 (dk_dq rfl))).trans ((m_1341.1 0 4 _ sM_0 (dk_dq rfl)).trans (m_2.1 0 4 _ sM_0 (dk_dq rfl)))))).trans f_sa) (((m_1384.1 0 5 _ sM_0 (dk_dq rfl)).trans ((dg_uF_ne e_1350 (fun z => absurd z.2 (dk_dq rfl))).trans ((dg_uF_ne e_1348 (fun z => absurd z.2 (dk_dq rfl))).trans ((m_1341.1 0 5 _ sM_0 (dk_dq rfl)).trans (m_2.1 0 5 _ sM_0 (dk_dq rfl)))))).trans f_se) w_1389_1 m_1389 (dk_dq rfl) (dk_dq rfl) f_y_1391
                                                  replace nx_1389 := nx_1389 (fun q9 => absurd ((TKM.zero (TKM.keep (TKM.keep (TKM.keep (TKM.keep (TKM.keep TK m_2 (dk_dq rfl) (dk_dq rfl) (dk_dq rfl) (dk_dq rfl) (dk_dq rfl) (dk_dq rfl) (dk_dq rfl) (dk_dq rfl)) m_1341 (dk_dq rfl) (dk_dq rfl) (dk_dq rfl) (dk_dq rfl) (dk_dq rfl) (dk_dq rfl) (dk_dq rfl) (dk_dq rfl)) (dg_sm.uF (WF := [(0, 42)]) (WA := []) dg_sm.rf e_1348 sM_0 (dk_dq rfl)) (dk_dq rfl) (dk_dq rfl) (dk_dq rfl) (dk_dq rfl) (dk_dq rfl) (dk_dq rfl) (dk_dq rfl) (dk_dq rfl)) (dg_sm.uF (WF := [(0, 43)]) (WA := []) dg_sm.rf e_1350 sM_0 (dk_dq rfl)) (dk_dq rfl) (dk_dq rfl) (dk_dq rfl) (dk_dq rfl) (dk_dq rfl) (dk_dq rfl) (dk_dq rfl) (dk_dq rfl)) m_1384 (dk_dq rfl) (dk_dq rfl) (dk_dq rfl) (dk_dq rfl) (dk_dq rfl) (dk_dq rfl) (dk_dq rfl) (dk_dq rfl)) (((m_1384.1 0 3 _ sM_0 (dk_dq rfl)).trans ((dg_uF_ne e_1350 (fun z => absurd z.2 (dk_dq rfl))).trans ((dg_uF_ne e_1348 (fun z => absurd z.2 (dk_dq rfl))).trans ((m_1341.1 0 3 _ sM_0 (dk_dq rfl)).trans (m_2.1 0 3 _ sM_0 (dk_dq rfl)))))).trans f_sg) (((m_1384.1 0 4 _ sM_0 (dk_dq rfl)).trans ((dg_uF_ne e_1350 (fun z => absurd z.2 (dk_dq rfl))).trans ((dg_uF_ne e_1348 (fun z => absurd z.2 (dk_dq rfl))).trans ((m_1341.1 0 4 _ sM_0 (dk_dq rfl)).trans (m_2.1 0 4 _ sM_0 (dk_dq rfl)))))).trans f_sa)).mpr q9) (by omega))
                                                  refine lv_iconst (v := 1) hx hb dX12_goesOn_617 (by decide +kernel) ?_
                                                  have hz_1393 : (1 : Int32).toInt = 1 := by decide +kernel
                                                  have hz_1394 : (1 : Int32).toInt = 1 := by decide +kernel
                                                  have hz_1395 : (1 : Int32).toInt = 1 := by decide +kernel
                                                  have hz_1396 : (1 : Int32).toInt = 1 := by decide +kernel
                                                  have hz_1397 : (1 : Int32).toInt = 1 := by decide +kernel
                                                  have hz_1398 : (1 : Int32).toInt = 1 := by decide +kernel
                                                  have hz_1399 : (1 : Int32).toInt = 1 := by decide +kernel
                                                  refine W.widen (k := 0) (n := 0) (Nat.le_of_ble_eq_true rfl) (Nat.le_of_ble_eq_true rfl) ?_
                                                  rw [hQ9]
                                                  exact dg_iret hx hb hr hlocks (by decide +kernel) hP hS ⟨I_1389, M_1389, (by decide +kernel), ⟨y_1390, y_1391, y_1392, y_3, y_1386, x_1347, y_1344, oo, f_y_1390, f_y_1391, f_y_1392, (((m_1389.1 0 8 _ sM_0 (dk_dq rfl)).trans ((m_1384.1 0 8 _ sM_0 (dk_dq rfl)).trans ((dg_uF_ne e_1350 (fun z => absurd z.2 (dk_dq rfl))).trans ((dg_uF_ne e_1348 (fun z => absurd z.2 (dk_dq rfl))).trans (m_1341.1 0 8 _ sM_0 (dk_dq rfl)))))).trans f_y_3), ((m_1389.1 0 34 _ sM_0 (dk_dq rfl)).trans f_y_1386), (((m_1389.1 0 42 _ sM_0 (dk_dq rfl)).trans ((m_1384.1 0 42 _ sM_0 (dk_dq rfl)).trans (dg_uF_ne e_1350 (fun z => absurd z.2 (dk_dq rfl))))).trans (dg_uF_at e_1348)), (((m_1389.1 0 45 _ sM_0 (dk_dq rfl)).trans ((m_1384.1 0 45 _ sM_0 (dk_dq rfl)).trans ((dg_uF_ne e_1350 (fun z => absurd z.2 (dk_dq rfl))).trans (dg_uF_ne e_1348 (fun z => absurd z.2 (dk_dq rfl)))))).trans f_y_1344), (((m_1389.1 0 46 _ sM_0 (dk_dq rfl)).trans ((m_1384.1 0 46 _ sM_0 (dk_dq rfl)).trans ((dg_uF_ne e_1350 (fun z => absurd z.2 (dk_dq rfl))).trans ((dg_uF_ne e_1348 (fun z => absurd z.2 (dk_dq rfl))).trans ((m_1341.1 0 46 _ sM_0 (dk_dq rfl)).trans (m_2.1 0 46 _ sM_0 (dk_dq rfl))))))).trans f_oo), ⟨lxh_w_1389_0_3.out, (by omega)⟩⟩, (fun k9 hk9 hk0 => POM.mk1 (P1M.keep P1_1384 m_1389 (dk_dq rfl) (dk_dq rfl) (dk_dq rfl) (dk_dq rfl) (dk_dq rfl) (dk_dq rfl) (dk_dq rfl) (dk_dq rfl) (dk_dq rfl) (dk_dq rfl) (dk_dq rfl) (dk_dq rfl) (dk_dq rfl) (dk_dq rfl) (dk_dq rfl)) (((m_1389.1 0 46 _ sM_0 (dk_dq rfl)).trans ((m_1384.1 0 46 _ sM_0 (dk_dq rfl)).trans ((dg_uF_ne e_1350 (fun z => absurd z.2 (dk_dq rfl))).trans ((dg_uF_ne e_1348 (fun z => absurd z.2 (dk_dq rfl))).trans ((m_1341.1 0 46 _ sM_0 (dk_dq rfl)).trans (m_2.1 0 46 _ sM_0 (dk_dq rfl))))))).trans f_oo) (by omega)), (GOK.ok f_sa (((m_1389.1 0 8 _ sM_0 (dk_dq rfl)).trans ((m_1384.1 0 8 _ sM_0 (dk_dq rfl)).trans ((dg_uF_ne e_1350 (fun z => absurd z.2 (dk_dq rfl))).trans ((dg_uF_ne e_1348 (fun z => absurd z.2 (dk_dq rfl))).trans (m_1341.1 0 8 _ sM_0 (dk_dq rfl)))))).trans f_y_3) f_y_1391 (((m_1389.1 0 46 _ sM_0 (dk_dq rfl)).trans ((m_1384.1 0 46 _ sM_0 (dk_dq rfl)).trans ((dg_uF_ne e_1350 (fun z => absurd z.2 (dk_dq rfl))).trans ((dg_uF_ne e_1348 (fun z => absurd z.2 (dk_dq rfl))).trans ((m_1341.1 0 46 _ sM_0 (dk_dq rfl)).trans (m_2.1 0 46 _ sM_0 (dk_dq rfl))))))).trans f_oo) (by omega) hM0 (TFM.keep (TFM.keep TF_1350 m_1384 (dk_dq rfl) (dk_dq rfl) (dk_dq rfl) (dk_dq rfl) (dk_dq rfl) (dk_dq rfl) (dk_dq rfl) (dk_dq rfl)) m_1389 (dk_dq rfl) (dk_dq rfl) (dk_dq rfl) (dk_dq rfl) (dk_dq rfl) (dk_dq rfl) (dk_dq rfl) (dk_dq rfl)) (m_st_t.trans ((m_go_cls hnop.out (Or.inl ⟨by omega, (by have h9 := qw_1338_1; rw [show (x_1261).toInt = 41 from by have h8 := h531.out.2 (by omega); omega] at h9; exact h9)⟩)).trans (by rw [hpR]; show (0, (pa, (if (x_7).toInt = 5 then 2 else pb), pc9, pn) :: pR, _ - _ - 1, _, _) = _; rw [if_neg (by omega)]))) (by omega) (by decide +kernel) (by first | decide +kernel | exact decide_eq_true (by omega))), (GON.ok f_sa f_y_1391 (((m_1389.1 0 46 _ sM_0 (dk_dq rfl)).trans ((m_1384.1 0 46 _ sM_0 (dk_dq rfl)).trans ((dg_uF_ne e_1350 (fun z => absurd z.2 (dk_dq rfl))).trans ((dg_uF_ne e_1348 (fun z => absurd z.2 (dk_dq rfl))).trans ((m_1341.1 0 46 _ sM_0 (dk_dq rfl)).trans (m_2.1 0 46 _ sM_0 (dk_dq rfl))))))).trans f_oo) hN0 (TFM.keep (TFM.keep TF_1350 m_1384 (dk_dq rfl) (dk_dq rfl) (dk_dq rfl) (dk_dq rfl) (dk_dq rfl) (dk_dq rfl) (dk_dq rfl) (dk_dq rfl)) m_1389 (dk_dq rfl) (dk_dq rfl) (dk_dq rfl) (dk_dq rfl) (dk_dq rfl) (dk_dq rfl) (dk_dq rfl) (dk_dq rfl)) (XFM.keep (XFM.keep (XFM.keep XF_1348 (dg_sm.uF (WF := [(0, 43)]) (WA := []) dg_sm.rf e_1350 sM_0 (dk_dq rfl)) (dk_dq rfl) (dk_dq rfl) (dk_dq rfl) (dk_dq rfl) (dk_dq rfl)) m_1384 (dk_dq rfl) (dk_dq rfl) (dk_dq rfl) (dk_dq rfl) (dk_dq rfl)) m_1389 (dk_dq rfl) (dk_dq rfl) (dk_dq rfl) (dk_dq rfl) (dk_dq rfl)) (q_am.mv qa_1384 (m_1389.1 0 34 _ sM_0 (dk_dq rfl)) (m_1389.1 0 35 _ sM_0 (dk_dq rfl)) (m_1389.2 18 _ sM_18 (dk_dq rfl)).1 (m_1389.2 19 _ sM_19 (dk_dq rfl)).1) (fun out => by rw [n_go_cls hnop.out (Or.inl ⟨by omega, (by have h9 := qw_1338_1; rw [show (x_1261).toInt = 41 from by have h8 := h531.out.2 (by omega); omega] at h9; exact h9)⟩), hpR, hXq]; show (0, (pa, (if (x_7).toInt = 5 then 2 else pb), pc9, lq, n_np pa pq) :: n_Z pR Xq, _ - n_cn l0 - 1, _, true, out ++ l0.map d_st ++ (if (x_7).toInt = 4 then [d_st (n_np (x_7).toInt p0)] else [])) = _; rw [if_neg (show ¬ (x_7).toInt = 5 from by omega), if_pos (show (x_7).toInt = 4 from by omega), show n_np (x_7).toInt p0 = p0 from by unfold n_np; rw [if_pos (by omega)], hcn0.out, List.append_assoc]) (by omega) (by decide +kernel) (by first | decide +kernel | exact decide_eq_true (by omega))), TK_1389, (ZWM.keep w_1384_3 m_1389 (dk_dq rfl) (dk_dq rfl) (dk_dq rfl) (dk_dq rfl)), (G8M.keep w_1384_4 m_1389 (dk_dq rfl) (dk_dq rfl) (dk_dq rfl)), trivial⟩ dX12_goesOn_618
                                        · as_aux_lemma =>
                                            have jc_1339 := dk_eqc (k := 0) (by decide +kernel) c_1339
                                            have qw_1338_1 : g_s (T_kd tb tn) (T_vl tb tn) (x_1261).toInt (t_ix tb tn (sa : Int32).toNatClampNeg) = false := g_iff_f (TKM.iss (TKM.keep TK m_2 (dk_dq rfl) (dk_dq rfl) (dk_dq rfl) (dk_dq rfl) (dk_dq rfl) (dk_dq rfl) (dk_dq rfl) (dk_dq rfl)) ((m_2.1 0 3 _ sM_0 (dk_dq rfl)).trans f_sg) ((m_2.1 0 4 _ sM_0 (dk_dq rfl)).trans f_sa) ((m_2.1 0 6 _ sM_0 (dk_dq rfl)).trans f_va) hk5.out (c := (x_1261).toInt) (by have h9 := w_1338_1; exact h9)) (by omega)
                                            clear w_1338_1
                                            refine lv_aload_n hx hb dX12_goesOn_537 rfl (lv_at hl 3 rfl) ?_
                                            refine lv_iconst (v := 1) hx hb dX12_goesOn_538 (by decide +kernel) ?_
                                            refine lv_aload_n hx hb dX12_goesOn_539 rfl (lv_at hl 3 rfl) ?_
                                            refine dg_get (C := RX12) (T := TX12) (N := 77) hx hb hts (fun w h => bw_mem (wU_X12 w h)) hown K hP sM_0 rfl 4 (dk_dq rfl) (hts _ (bw_mem wB_291)) (fun _ h9 => h9) (v := .int sa) ((m_2.1 0 4 _ sM_0 (dk_dq rfl)).trans f_sa) dX12_goesOn_540 ?_
                                            have hz_1400 : (1 : Int32).toInt = 1 := by decide +kernel
                                            refine dg_callv hS hA1 hA (va_runV (As := [.int 1, .int sa]) (rest := []) F (c_m_blame l g D o S_2 1 (by decide +kernel) sa y_3 f_y_3 (by omega) I_2 H.size) (cwV 2 hts (bw_V wB_306 wB_307 wB_308 wB_297 wB_305) rfl rfl rfl (by decide +kernel) ⟨Nat.le_of_ble_eq_true rfl, Nat.le_of_ble_eq_true rfl⟩) (dg_preV sM_0 rfl K ST hP hS hA1 hA) rfl rfl hl.1 rfl (lv_room (Nat.le_of_ble_eq_true rfl)) dX12_goesOn_543 ⟨Nat.le_of_ble_eq_true rfl, Nat.le_of_ble_eq_true rfl⟩) (fun S_1401 hw_1401 H locs hP hS => ?_)
                                            obtain ⟨I_1401, m_1401, w_1401_0, -⟩ := hw_1401
                                            have M_1401 := dg_sm.tr M_2 m_1401 (dk_dq rfl) (dk_dq rfl)
                                            have hz_1402 : (1 : Int32).toInt = 1 := by decide +kernel
                                            obtain ⟨y_1403, f_y_1403, w_1401_0⟩ := w_1401_0
                                            have w_1401_0 : ((y_3).toInt ≠ 0 → (y_1403).toInt = (y_3).toInt) ∧ ((y_3).toInt = 0 → (y_1403).toInt = ((1 : Int32)).toInt) := w_1401_0
                                            obtain ⟨w_1401_0_0, w_1401_0_1⟩ := w_1401_0
                                            clear w_1401_0_0
                                            have w_1401_0_1r := w_1401_0_1 (by omega)
                                            clear w_1401_0_1
                                            have b_y_1403 : 0 ≤ (y_1403).toInt ∧ (y_1403).toInt ≤ 6 := dg_I.intb (lo := 0) (hi := 6) I_1401 sM_0 (by decide +kernel) f_y_1403
                                            have hbl_y_1403 : 1 ≤ (y_1403).toInt := by omega
                                            refine lv_aload_n hx hb dX12_goesOn_546 rfl (lv_at hl 3 rfl) ?_
                                            refine dg_get (C := RX12) (T := TX12) (N := 77) hx hb hts (fun w h => bw_mem (wU_X12 w h)) hown K hP sM_0 rfl 8 (dk_dq rfl) (hts _ (bw_mem wB_303)) (fun _ h9 => h9) (v := .int y_1403) f_y_1403 dX12_goesOn_547 ?_
                                            refine lv_if_le (tgt := 555) hx hb dX12_goesOn_550 (dk_dq rfl) (fun c => absurd c (fun z => absurd (dk_lec (k := 0) (by decide +kernel) z) (by omega))) (fun _ => ?_)
                                            refine lv_iconst (v := 0) hx hb dX12_goesOn_553 (by decide +kernel) ?_
                                            have hz_1404 : (0 : Int32).toInt = 0 := by decide +kernel
                                            have hz_1405 : (0 : Int32).toInt = 0 := by decide +kernel
                                            have hz_1406 : (0 : Int32).toInt = 0 := by decide +kernel
                                            have hz_1407 : (0 : Int32).toInt = 0 := by decide +kernel
                                            have hz_1408 : (0 : Int32).toInt = 0 := by decide +kernel
                                            have hz_1409 : (0 : Int32).toInt = 0 := by decide +kernel
                                            have hz_1410 : (0 : Int32).toInt = 0 := by decide +kernel
                                            refine W.widen (k := 0) (n := 0) (Nat.le_of_ble_eq_true rfl) (Nat.le_of_ble_eq_true rfl) ?_
                                            rw [hQ9]
                                            exact dg_iret hx hb hr hlocks (by decide +kernel) hP hS ⟨I_1401, M_1401, (by decide +kernel), ⟨sg, sa, se, y_1403, cd, dp, om, oo, (((m_1401.1 0 3 _ sM_0 (dk_dq rfl)).trans (m_2.1 0 3 _ sM_0 (dk_dq rfl))).trans f_sg), (((m_1401.1 0 4 _ sM_0 (dk_dq rfl)).trans (m_2.1 0 4 _ sM_0 (dk_dq rfl))).trans f_sa), (((m_1401.1 0 5 _ sM_0 (dk_dq rfl)).trans (m_2.1 0 5 _ sM_0 (dk_dq rfl))).trans f_se), f_y_1403, (((m_1401.1 0 34 _ sM_0 (dk_dq rfl)).trans (m_2.1 0 34 _ sM_0 (dk_dq rfl))).trans f_cd), (((m_1401.1 0 42 _ sM_0 (dk_dq rfl)).trans (m_2.1 0 42 _ sM_0 (dk_dq rfl))).trans f_dp), (((m_1401.1 0 45 _ sM_0 (dk_dq rfl)).trans (m_2.1 0 45 _ sM_0 (dk_dq rfl))).trans f_om), (((m_1401.1 0 46 _ sM_0 (dk_dq rfl)).trans (m_2.1 0 46 _ sM_0 (dk_dq rfl))).trans f_oo), ⟨lxh_hlx_2.out, (by omega)⟩⟩, (fun k9 hk9 hk0 => by have q9 := (f_y_1403).symm.trans hk9; cases q9; omega), (GOK.no f_sa f_fk f_y_1403 (by omega) (fun h0 => Or.inl (by rw [hM0]; exact m_st_t.trans (m_go_bad hnop.out (Or.inr ⟨by omega, (fun q8 q9 => hnco.out (by have h9 := m_tst_iff.mp q8; have h8 := w_9_1.out.mpr h9; omega) q9), (fun q8 => hnao.out (by have h9 := m_tst_iff.mp q8; have h8 := w_9_1.out.mpr h9; omega)), (fun q9 => by exfalso; omega), (fun q9 => by have h9 := qw_1338_1; rw [show (x_1261).toInt = 93 from by have h8 := h531.out.1 (by omega); omega] at h9; exact h9), (fun _ _ q9 => by have h9 := qw_1338_1; rw [show (x_1261).toInt = 41 from by have h8 := h531.out.2 (by omega); omega] at h9; exact h9)⟩))))), (GON.no f_y_1403 (by omega)), (TKM.keep (TKM.keep TK m_2 (dk_dq rfl) (dk_dq rfl) (dk_dq rfl) (dk_dq rfl) (dk_dq rfl) (dk_dq rfl) (dk_dq rfl) (dk_dq rfl)) m_1401 (dk_dq rfl) (dk_dq rfl) (dk_dq rfl) (dk_dq rfl) (dk_dq rfl) (dk_dq rfl) (dk_dq rfl) (dk_dq rfl)), (ZWM.keep (ZWM.keep ZW m_2 (dk_dq rfl) (dk_dq rfl) (dk_dq rfl) (dk_dq rfl)) m_1401 (dk_dq rfl) (dk_dq rfl) (dk_dq rfl) (dk_dq rfl)), (G8M.keep (G8M.keep G8 m_2 (dk_dq rfl) (dk_dq rfl) (dk_dq rfl)) m_1401 (dk_dq rfl) (dk_dq rfl) (dk_dq rfl)), trivial⟩ dX12_goesOn_554
                                    refine lv_icmp_ne (tgt := 529) hx hb dX12_goesOn_521 (dk_dq rfl) (fun c_1411 => ?_) (fun c_1411 => ?_)
                                    · have jc_1411 := dk_neqc (k := 5) (by decide +kernel) c_1411
                                      have jtc_1411 : (x_7).toInt ≤ 4 := by omega
                                      clear jc_1411
                                      refine lv_bipush (v := 41) hx hb dX12_goesOn_529 (by decide +kernel) ?_
                                      have hz_1412 : (41 : Int32).toInt = 41 := by decide +kernel
                                      have hz_1413 : (41 : Int32).toInt = 41 := by decide +kernel
                                      have hz_1414 : (41 : Int32).toInt = 41 := by decide +kernel
                                      have hz_1415 : (41 : Int32).toInt = 41 := by decide +kernel
                                      exact J_1336 41 (by decide +kernel) (by omega) (m_hid.mk ⟨fun q9 => by omega, fun q9 => by omega⟩) _ _ hP hS _ (lv_sub hl [0, 1, 2, 3] rfl)
                                    · have jc_1411 := dk_eqc (k := 5) (by decide +kernel) c_1411
                                      refine lv_bipush (v := 93) hx hb dX12_goesOn_524 (by decide +kernel) ?_
                                      refine lv_goto (tgt := 531) hx hb dX12_goesOn_526 (dk_dq rfl) ?_
                                      have hz_1416 : (93 : Int32).toInt = 93 := by decide +kernel
                                      have hz_1417 : (93 : Int32).toInt = 93 := by decide +kernel
                                      have hz_1418 : (93 : Int32).toInt = 93 := by decide +kernel
                                      have hz_1419 : (93 : Int32).toInt = 93 := by decide +kernel
                                      exact J_1336 93 (by decide +kernel) (by omega) (m_hid.mk ⟨fun q9 => by omega, fun q9 => by omega⟩) _ _ hP hS _ (lv_sub hl [0, 1, 2, 3] rfl)
                                · have jc_1259 := dk_eqc (k := 6) (by decide +kernel) c_1259
                                  exact J_1180 ()  (by omega) _ _ hP hS _ (lv_sub hl [0, 1, 2, 3] rfl)
                        · as_aux_lemma =>
                            have jc_1024 := dk_ngec (k := 2) (by decide +kernel) c_1024
                            refine lv_aload_n hx hb dX12_goesOn_427 rfl (lv_at hl 3 rfl) ?_
                            refine dg_get (C := RX12) (T := TX12) (N := 77) hx hb hts (fun w h => bw_mem (wU_X12 w h)) hown K hP sM_0 rfl 8 (dk_dq rfl) (hts _ (bw_mem wB_303)) (fun _ h9 => h9) (v := .int y_3) f_y_3 dX12_goesOn_428 ?_
                            refine lv_if_ne (tgt := 439) hx hb dX12_goesOn_431 (dk_dq rfl) (fun c => absurd (dk_eqp (k := 0) (by decide +kernel) (by omega)) c) (fun _ => ?_)
                            refine lv_aload_n hx hb dX12_goesOn_434 rfl (lv_at hl 3 rfl) ?_
                            refine lv_iconst (v := 1) hx hb dX12_goesOn_435 (by decide +kernel) ?_
                            have hz_1420 : (1 : Int32).toInt = 1 := by decide +kernel
                            refine dg_callv hS hA1 hA (va_runV (As := [.int 1]) (rest := []) F (c_m_joins l g D o S_2 1 (by decide +kernel) S0 cd ((m_2.1 0 34 _ sM_0 (dk_dq rfl)).trans f_cd) (by omega) om ((m_2.1 0 45 _ sM_0 (dk_dq rfl)).trans f_om) (by omega) (by omega) (ZWM.keep ZW m_2 (dk_dq rfl) (dk_dq rfl) (dk_dq rfl) (dk_dq rfl)) (ZKM.keep ZK m_2 (dk_dq rfl) (dk_dq rfl)) (P1M.keep P1 m_2 (dk_dq rfl) (dk_dq rfl) (dk_dq rfl) (dk_dq rfl) (dk_dq rfl) (dk_dq rfl) (dk_dq rfl) (dk_dq rfl) (dk_dq rfl) (dk_dq rfl) (dk_dq rfl) (dk_dq rfl) (dk_dq rfl) (dk_dq rfl) (dk_dq rfl)) (G8M.keep G8 m_2 (dk_dq rfl) (dk_dq rfl) (dk_dq rfl)) I_2 H.size) (cwV 1 hts (bw_V wB_437 wB_438 wB_439 wB_297 wB_436) rfl rfl rfl (by decide +kernel) ⟨Nat.le_of_ble_eq_true rfl, Nat.le_of_ble_eq_true rfl⟩) (dg_preV sM_0 rfl K ST hP hS hA1 hA) rfl rfl hl.1 rfl (lv_room (Nat.le_of_ble_eq_true rfl)) dX12_goesOn_436 ⟨Nat.le_of_ble_eq_true rfl, Nat.le_of_ble_eq_true rfl⟩) (fun S_1421 hw_1421 H locs hP hS => ?_)
                            obtain ⟨I_1421, m_1421, w_1421_0, w_1421_1, w_1421_2, w_1421_3, w_1421_4, w_1421_5, w_1421_6, -⟩ := hw_1421
                            have M_1421 := dg_sm.tr M_2 m_1421 (dk_dq rfl) (dk_dq rfl)
                            have hz_1422 : (1 : Int32).toInt = 1 := by decide +kernel
                            obtain ⟨y_1423, y_1424, f_y_1423, f_y_1424, w_1421_0⟩ := w_1421_0
                            have w_1421_0 : (y_1423).toInt + (y_1424).toInt = (cd).toInt + (om).toInt := w_1421_0
                            have b_y_1423 : 0 ≤ (y_1423).toInt ∧ (y_1423).toInt ≤ 1600 := dg_I.intb (lo := 0) (hi := 1600) I_1421 sM_0 (by decide +kernel) f_y_1423
                            have b_y_1424 : 0 ≤ (y_1424).toInt ∧ (y_1424).toInt ≤ 500 := dg_I.intb (lo := 0) (hi := 500) I_1421 sM_0 (by decide +kernel) f_y_1424
                            replace w_1421_1 : TOPM S_1421 (1 : Int32) := w_1421_1
                            obtain ⟨x_1425, f_x_1425, b_x_1425⟩ := dg_I.int (i := 0) (k := 43) (lo := (-2147483648)) (hi := 2147483647) I_1421 sM_0 (by decide +kernel)
                            replace w_1421_2 : JNM S_2 S_1421 (1 : Int32) := w_1421_2
                            have TF_1421 : TFM (x_7).toInt (x_11).toInt bg0 0 R0 ((on).toNatClampNeg - nt0) S_1421 := (TFM.join TF0 (P1M.keep P1 m_2 (dk_dq rfl) (dk_dq rfl) (dk_dq rfl) (dk_dq rfl) (dk_dq rfl) (dk_dq rfl) (dk_dq rfl) (dk_dq rfl) (dk_dq rfl) (dk_dq rfl) (dk_dq rfl) (dk_dq rfl) (dk_dq rfl) (dk_dq rfl) (dk_dq rfl)) ((m_2.1 0 42 _ sM_0 (dk_dq rfl)).trans f_dp) ((m_2.1 0 43 _ sM_0 (dk_dq rfl)).trans f_on) ((m_2.1 0 45 _ sM_0 (dk_dq rfl)).trans f_om) w_1421_2 w_1421_1 m_1421 (dk_dq rfl) (dk_dq rfl) (dk_dq rfl) (dk_dq rfl) (dk_dq rfl) (dk_dq rfl)).2 (by decide +kernel) (by decide +kernel)
                            replace w_1421_3 : JXM S_2 S_1421 := w_1421_3
                            have XJ_1421 := XFM.join XF0 TF0 ((m_2.1 0 42 _ sM_0 (dk_dq rfl)).trans f_dp) ((m_2.1 0 43 _ sM_0 (dk_dq rfl)).trans f_on) ((m_2.1 0 45 _ sM_0 (dk_dq rfl)).trans f_om) w_1421_2 w_1421_3 w_1421_1 m_1421 (dk_dq rfl) (dk_dq rfl) (dk_dq rfl) (dk_dq rfl)
                            rw [show (1 : Int32).toInt = 1 from by decide +kernel] at XJ_1421
                            rw [n_hi_1.1, n_hi_1.2] at XJ_1421
                            have XF_1421 : XFM [] p0 X0 S_1421 := XJ_1421.1
                            have qa_1421 : q_am S S_1421 ((l0).map d_st) := (q_am.fs XJ_1421.2 (m_2.1 0 34 _ sM_0 (dk_dq rfl)) (m_2.1 0 35 _ sM_0 (dk_dq rfl)) (m_2.2 18 _ sM_18 (dk_dq rfl)).1 (m_2.2 19 _ sM_19 (dk_dq rfl)).1)
                            refine lv_iconst (v := 0) hx hb dX12_goesOn_439 (by decide +kernel) ?_
                            have hz_1426 : (0 : Int32).toInt = 0 := by decide +kernel
                            have hz_1427 : (0 : Int32).toInt = 0 := by decide +kernel
                            have hz_1428 : (0 : Int32).toInt = 0 := by decide +kernel
                            have hz_1429 : (0 : Int32).toInt = 0 := by decide +kernel
                            have hz_1430 : (0 : Int32).toInt = 0 := by decide +kernel
                            have hz_1431 : (0 : Int32).toInt = 0 := by decide +kernel
                            have hz_1432 : (0 : Int32).toInt = 0 := by decide +kernel
                            refine W.widen (k := 0) (n := 0) (Nat.le_of_ble_eq_true rfl) (Nat.le_of_ble_eq_true rfl) ?_
                            rw [hQ9]
                            exact dg_iret hx hb hr hlocks (by decide +kernel) hP hS ⟨I_1421, M_1421, (by decide +kernel), ⟨sg, sa, se, y_3, y_1423, dp, y_1424, oo, (((m_1421.1 0 3 _ sM_0 (dk_dq rfl)).trans (m_2.1 0 3 _ sM_0 (dk_dq rfl))).trans f_sg), (((m_1421.1 0 4 _ sM_0 (dk_dq rfl)).trans (m_2.1 0 4 _ sM_0 (dk_dq rfl))).trans f_sa), (((m_1421.1 0 5 _ sM_0 (dk_dq rfl)).trans (m_2.1 0 5 _ sM_0 (dk_dq rfl))).trans f_se), ((m_1421.1 0 8 _ sM_0 (dk_dq rfl)).trans f_y_3), f_y_1423, (((m_1421.1 0 42 _ sM_0 (dk_dq rfl)).trans (m_2.1 0 42 _ sM_0 (dk_dq rfl))).trans f_dp), f_y_1424, (((m_1421.1 0 46 _ sM_0 (dk_dq rfl)).trans (m_2.1 0 46 _ sM_0 (dk_dq rfl))).trans f_oo), ⟨lxh_hlx_2.out, (by omega)⟩⟩, (fun k9 hk9 hk0 => POM.mk1 w_1421_5 (((m_1421.1 0 46 _ sM_0 (dk_dq rfl)).trans (m_2.1 0 46 _ sM_0 (dk_dq rfl))).trans f_oo) (by omega)), (GOK.fin f_sa ((m_1421.1 0 8 _ sM_0 (dk_dq rfl)).trans f_y_3) (((m_1421.1 0 4 _ sM_0 (dk_dq rfl)).trans (m_2.1 0 4 _ sM_0 (dk_dq rfl))).trans f_sa) (by omega) hM0 (m_st_t.trans (m_go_end hnop.out (by by_cases q8 : (x_7).toInt = 0; exact Or.inl q8; exact Or.inr ⟨by omega, (by have h9 := h422.out; have h8 := (w_9_1.out.mpr (Or.inl (by omega))); omega), (hnao.out (w_9_1.out.mpr (Or.inl (by omega)))).1, (hnao.out (w_9_1.out.mpr (Or.inl (by omega)))).2⟩))) (by omega) (by decide +kernel)), (GON.fin f_sa (((m_1421.1 0 4 _ sM_0 (dk_dq rfl)).trans (m_2.1 0 4 _ sM_0 (dk_dq rfl))).trans f_sa) hN0 qa_1421 (fun out => n_go_end hnop.out (by by_cases q8 : (x_7).toInt = 0; exact Or.inl q8; exact Or.inr ⟨by omega, (by have h9 := h422.out; have h8 := (w_9_1.out.mpr (Or.inl (by omega))); omega), (hnao.out (w_9_1.out.mpr (Or.inl (by omega)))).1, (hnao.out (w_9_1.out.mpr (Or.inl (by omega)))).2⟩)) (by omega) (by decide +kernel)), (TKM.keep (TKM.keep TK m_2 (dk_dq rfl) (dk_dq rfl) (dk_dq rfl) (dk_dq rfl) (dk_dq rfl) (dk_dq rfl) (dk_dq rfl) (dk_dq rfl)) m_1421 (dk_dq rfl) (dk_dq rfl) (dk_dq rfl) (dk_dq rfl) (dk_dq rfl) (dk_dq rfl) (dk_dq rfl) (dk_dq rfl)), w_1421_4, w_1421_6, trivial⟩ dX12_goesOn_440
                    refine lv_if_eq (tgt := 422) hx hb dX12_goesOn_401 (dk_dq rfl) (fun c_1433 => ?_) (fun c_1433 => ?_)
                    · have jc_1433 := dk_eqc (k := 0) (by decide +kernel) c_1433
                      clear w_9_1
                      exact J_1023 ()  (m_hid.mk (fun q9 => by omega)) _ _ hP hS _ (lv_sub hl [0, 1, 2, 3] rfl)
                    · as_aux_lemma =>
                        have jc_1433 := dk_neqc (k := 0) (by decide +kernel) c_1433
                        have jbc_1433 : 1 ≤ (x_8).toInt := by omega
                        clear jc_1433
                        have hts1 := m_hid.mk (w_9_1.out.mp (by omega))
                        clear w_9_1
                        refine lv_aload_n hx hb dX12_goesOn_404 rfl (lv_at hl 3 rfl) ?_
                        refine dg_get (C := RX12) (T := TX12) (N := 77) hx hb hts (fun w h => bw_mem (wU_X12 w h)) hown K hP sM_0 rfl 38 (dk_dq rfl) (hts _ (bw_mem wB_417)) (fun _ h9 => h9) (v := .ref (o + 23)) (show S_2.1 0 38 = .ref (o + 23) from dg_I.rel (d := 23) I_2 sM_0 (by decide +kernel)) dX12_goesOn_405 ?_
                        refine lv_iload_n hx hb dX12_goesOn_408 rfl (lv_at hl 2 rfl) ?_
                        have hin_1434 : vp_in x_5 20 := (dk_inv2 (by omega))
                        refine dg_iald hx hb K hP sM_23 hin_1434 dX12_goesOn_409 (fun y_1435 ey_1435 => ?_)
                        obtain rfl : x_11 = y_1435 := (ey_1435.trans ex_11.symm).symm
                        refine lv_if_ne (tgt := 422) hx hb dX12_goesOn_410 (dk_dq rfl) (fun c_1436 => ?_) (fun c_1436 => ?_)
                        · have jc_1436 := dk_neqc (k := 0) (by decide +kernel) c_1436
                          have jbc_1436 : 1 ≤ (x_11).toInt := by omega
                          clear jc_1436
                          exact J_1023 ()  (m_hid.mk (fun q9 => by omega)) _ _ hP hS _ (lv_sub hl [0, 1, 2, 3] rfl)
                        · as_aux_lemma =>
                            have jc_1436 := dk_eqc (k := 0) (by decide +kernel) c_1436
                            refine lv_aload_n hx hb dX12_goesOn_413 rfl (lv_at hl 3 rfl) ?_
                            refine lv_iconst (v := 1) hx hb dX12_goesOn_414 (by decide +kernel) ?_
                            refine lv_aload_n hx hb dX12_goesOn_415 rfl (lv_at hl 3 rfl) ?_
                            refine dg_get (C := RX12) (T := TX12) (N := 77) hx hb hts (fun w h => bw_mem (wU_X12 w h)) hown K hP sM_0 rfl 4 (dk_dq rfl) (hts _ (bw_mem wB_291)) (fun _ h9 => h9) (v := .int sa) ((m_2.1 0 4 _ sM_0 (dk_dq rfl)).trans f_sa) dX12_goesOn_416 ?_
                            have hz_1437 : (1 : Int32).toInt = 1 := by decide +kernel
                            refine dg_callv hS hA1 hA (va_runV (As := [.int 1, .int sa]) (rest := []) F (c_m_blame l g D o S_2 1 (by decide +kernel) sa y_3 f_y_3 (by omega) I_2 H.size) (cwV 2 hts (bw_V wB_306 wB_307 wB_308 wB_297 wB_305) rfl rfl rfl (by decide +kernel) ⟨Nat.le_of_ble_eq_true rfl, Nat.le_of_ble_eq_true rfl⟩) (dg_preV sM_0 rfl K ST hP hS hA1 hA) rfl rfl hl.1 rfl (lv_room (Nat.le_of_ble_eq_true rfl)) dX12_goesOn_419 ⟨Nat.le_of_ble_eq_true rfl, Nat.le_of_ble_eq_true rfl⟩) (fun S_1438 hw_1438 H locs hP hS => ?_)
                            obtain ⟨I_1438, m_1438, w_1438_0, -⟩ := hw_1438
                            have M_1438 := dg_sm.tr M_2 m_1438 (dk_dq rfl) (dk_dq rfl)
                            have hz_1439 : (1 : Int32).toInt = 1 := by decide +kernel
                            obtain ⟨y_1440, f_y_1440, w_1438_0⟩ := w_1438_0
                            have w_1438_0 : ((y_3).toInt ≠ 0 → (y_1440).toInt = (y_3).toInt) ∧ ((y_3).toInt = 0 → (y_1440).toInt = ((1 : Int32)).toInt) := w_1438_0
                            obtain ⟨w_1438_0_0, w_1438_0_1⟩ := w_1438_0
                            clear w_1438_0_0
                            have w_1438_0_1r := w_1438_0_1 (by omega)
                            clear w_1438_0_1
                            have b_y_1440 : 0 ≤ (y_1440).toInt ∧ (y_1440).toInt ≤ 6 := dg_I.intb (lo := 0) (hi := 6) I_1438 sM_0 (by decide +kernel) f_y_1440
                            have hbl_y_1440 : 1 ≤ (y_1440).toInt := by omega
                            refine lv_iload_n hx hb dX12_goesOn_422 rfl (lv_at hl 1 rfl) ?_
                            refine lv_iconst (v := 2) hx hb dX12_goesOn_423 (by decide +kernel) ?_
                            refine lv_icmp_ge (tgt := 441) hx hb dX12_goesOn_424 (dk_dq rfl) (fun c_1441 => ?_) (fun c_1441 => ?_)
                            · as_aux_lemma =>
                                have jc_1441 := dk_gec (k := 2) (by decide +kernel) c_1441
                                refine lv_iload_n hx hb dX12_goesOn_441 rfl (lv_at hl 1 rfl) ?_
                                refine lv_iconst (v := 3) hx hb dX12_goesOn_442 (by decide +kernel) ?_
                                have J_1489 : ∀ (u9 : Unit), ((x_7 : Int32).toInt = 3 ∨ (x_7 : Int32).toInt = 6) → ∀ (H : Heap) (locs : List Loc), va_P D vwCl (dg_w g shM o rfM S_1438) H → va_S A s.heap H locs → ∀ ls : Array Slot, lv_has ls 5 [(3, .int x_8), (2, .int x_7), (1, .int x_5), (0, .ref (o + 0))] → W p l e ({ frames := 3, cells := 0, slots := 0, locals := 77 } : Room) s m args below meth c H locs 0 0 Q9 (F0 m 452 ls []) := by
                                  as_aux_lemma =>
                                    intro u9 rel_0 H locs hP hS ls hl
                                    refine lv_aload_n hx hb dX12_goesOn_452 rfl (lv_at hl 3 rfl) ?_
                                    refine lv_bipush (v := 44) hx hb dX12_goesOn_453 (by decide +kernel) ?_
                                    refine dg_calli hS hA1 hA (va_runV (As := [.int 44]) (rest := []) F (c_m_isSign l g D o S_1438 44 sg (((m_1438.1 0 3 _ sM_0 (dk_dq rfl)).trans (m_2.1 0 3 _ sM_0 (dk_dq rfl))).trans f_sg) (by omega) va (((m_1438.1 0 6 _ sM_0 (dk_dq rfl)).trans (m_2.1 0 6 _ sM_0 (dk_dq rfl))).trans f_va) (by omega) I_1438 H.size) (cwV 1 hts (bw_V wB_314 wB_315 wB_316 wB_297 wB_313) rfl rfl rfl (by decide +kernel) ⟨Nat.le_of_ble_eq_true rfl, Nat.le_of_ble_eq_true rfl⟩) (dg_preV sM_0 rfl K ST hP hS hA1 hA) rfl rfl hl.1 rfl (lv_room (Nat.le_of_ble_eq_true rfl)) dX12_goesOn_455 ⟨Nat.le_of_ble_eq_true rfl, Nat.le_of_ble_eq_true rfl⟩) (fun x_1490 S_1491 hw_1491 H locs hP hS => ?_)
                                    rw [hw_1491.1] at hP
                                    obtain ⟨hq_1491, w_1491_0, w_1491_1, -⟩ := hw_1491
                                    have hz_1492 : (44 : Int32).toInt = 44 := by decide +kernel
                                    have w_1491_0 : 0 ≤ (x_1490).toInt ∧ (x_1490).toInt ≤ 1 := w_1491_0
                                    have w_1491_1 : (x_1490).toInt = 1 ↔ ((sg).toInt = 3 ∧ (va).toInt = ((44 : Int32)).toInt) := w_1491_1
                                    refine lv_if_ne (tgt := 470) hx hb dX12_goesOn_458 (dk_dq rfl) (fun c_1493 => ?_) (fun c_1493 => ?_)
                                    · as_aux_lemma =>
                                        have jc_1493 := dk_neqc (k := 0) (by decide +kernel) c_1493
                                        have jbc_1493 : 1 ≤ (x_1490).toInt := by omega
                                        clear jc_1493
                                        have qw_1491_1 : g_s (T_kd tb tn) (T_vl tb tn) 44 (t_ix tb tn (sa : Int32).toNatClampNeg) = true := (TKM.iss (TKM.keep (TKM.keep TK m_2 (dk_dq rfl) (dk_dq rfl) (dk_dq rfl) (dk_dq rfl) (dk_dq rfl) (dk_dq rfl) (dk_dq rfl) (dk_dq rfl)) m_1438 (dk_dq rfl) (dk_dq rfl) (dk_dq rfl) (dk_dq rfl) (dk_dq rfl) (dk_dq rfl) (dk_dq rfl) (dk_dq rfl)) (((m_1438.1 0 3 _ sM_0 (dk_dq rfl)).trans (m_2.1 0 3 _ sM_0 (dk_dq rfl))).trans f_sg) (((m_1438.1 0 4 _ sM_0 (dk_dq rfl)).trans (m_2.1 0 4 _ sM_0 (dk_dq rfl))).trans f_sa) (((m_1438.1 0 6 _ sM_0 (dk_dq rfl)).trans (m_2.1 0 6 _ sM_0 (dk_dq rfl))).trans f_va) hk5.out (c := 44) (by have h9 := w_1491_1; rw [show (44 : Int32).toInt = 44 from by decide +kernel] at h9; exact h9)).mp (by omega)
                                        have w_1491_1_r := w_1491_1.mp (by omega)
                                        obtain ⟨w_1491_1_r1, w_1491_1_r2⟩ := w_1491_1_r
                                        clear w_1491_1
                                        have hlx_2r := hlx_2 (by omega)
                                        clear hlx_2
                                        refine lv_aload_n hx hb dX12_goesOn_470 rfl (lv_at hl 3 rfl) ?_
                                        refine dg_get (C := RX12) (T := TX12) (N := 77) hx hb hts (fun w h => bw_mem (wU_X12 w h)) hown K hP sM_0 rfl 8 (dk_dq rfl) (hts _ (bw_mem wB_303)) (fun _ h9 => h9) (v := .int y_1440) f_y_1440 dX12_goesOn_471 ?_
                                        refine lv_if_le (tgt := 479) hx hb dX12_goesOn_474 (dk_dq rfl) (fun c => absurd c (fun z => absurd (dk_lec (k := 0) (by decide +kernel) z) (by omega))) (fun _ => ?_)
                                        refine lv_iconst (v := 0) hx hb dX12_goesOn_477 (by decide +kernel) ?_
                                        have hz_1494 : (0 : Int32).toInt = 0 := by decide +kernel
                                        have hz_1495 : (0 : Int32).toInt = 0 := by decide +kernel
                                        have hz_1496 : (0 : Int32).toInt = 0 := by decide +kernel
                                        have hz_1497 : (0 : Int32).toInt = 0 := by decide +kernel
                                        have hz_1498 : (0 : Int32).toInt = 0 := by decide +kernel
                                        have hz_1499 : (0 : Int32).toInt = 0 := by decide +kernel
                                        have hz_1500 : (0 : Int32).toInt = 0 := by decide +kernel
                                        refine W.widen (k := 0) (n := 0) (Nat.le_of_ble_eq_true rfl) (Nat.le_of_ble_eq_true rfl) ?_
                                        rw [hQ9]
                                        exact dg_iret hx hb hr hlocks (by decide +kernel) hP hS ⟨I_1438, M_1438, (by decide +kernel), ⟨sg, sa, se, y_1440, cd, dp, om, oo, (((m_1438.1 0 3 _ sM_0 (dk_dq rfl)).trans (m_2.1 0 3 _ sM_0 (dk_dq rfl))).trans f_sg), (((m_1438.1 0 4 _ sM_0 (dk_dq rfl)).trans (m_2.1 0 4 _ sM_0 (dk_dq rfl))).trans f_sa), (((m_1438.1 0 5 _ sM_0 (dk_dq rfl)).trans (m_2.1 0 5 _ sM_0 (dk_dq rfl))).trans f_se), f_y_1440, (((m_1438.1 0 34 _ sM_0 (dk_dq rfl)).trans (m_2.1 0 34 _ sM_0 (dk_dq rfl))).trans f_cd), (((m_1438.1 0 42 _ sM_0 (dk_dq rfl)).trans (m_2.1 0 42 _ sM_0 (dk_dq rfl))).trans f_dp), (((m_1438.1 0 45 _ sM_0 (dk_dq rfl)).trans (m_2.1 0 45 _ sM_0 (dk_dq rfl))).trans f_om), (((m_1438.1 0 46 _ sM_0 (dk_dq rfl)).trans (m_2.1 0 46 _ sM_0 (dk_dq rfl))).trans f_oo), ⟨lxh_hlx_2.out, (by omega)⟩⟩, (fun k9 hk9 hk0 => by have q9 := (f_y_1440).symm.trans hk9; cases q9; omega), (GOK.no f_sa f_fk f_y_1440 (by omega) (fun h0 => Or.inl (by rw [hM0]; exact m_st_t.trans (m_go_bad hnop.out (Or.inl ⟨(m_tst_iff.mpr hts1.out), by omega, hnco.out (by omega) (by omega)⟩))))), (GON.no f_y_1440 (by omega)), (TKM.keep (TKM.keep TK m_2 (dk_dq rfl) (dk_dq rfl) (dk_dq rfl) (dk_dq rfl) (dk_dq rfl) (dk_dq rfl) (dk_dq rfl) (dk_dq rfl)) m_1438 (dk_dq rfl) (dk_dq rfl) (dk_dq rfl) (dk_dq rfl) (dk_dq rfl) (dk_dq rfl) (dk_dq rfl) (dk_dq rfl)), (ZWM.keep (ZWM.keep ZW m_2 (dk_dq rfl) (dk_dq rfl) (dk_dq rfl) (dk_dq rfl)) m_1438 (dk_dq rfl) (dk_dq rfl) (dk_dq rfl) (dk_dq rfl)), (G8M.keep (G8M.keep G8 m_2 (dk_dq rfl) (dk_dq rfl) (dk_dq rfl)) m_1438 (dk_dq rfl) (dk_dq rfl) (dk_dq rfl)), trivial⟩ dX12_goesOn_478
                                    · as_aux_lemma =>
                                        have jc_1493 := dk_eqc (k := 0) (by decide +kernel) c_1493
                                        have qw_1491_1 : g_s (T_kd tb tn) (T_vl tb tn) 44 (t_ix tb tn (sa : Int32).toNatClampNeg) = false := g_iff_f (TKM.iss (TKM.keep (TKM.keep TK m_2 (dk_dq rfl) (dk_dq rfl) (dk_dq rfl) (dk_dq rfl) (dk_dq rfl) (dk_dq rfl) (dk_dq rfl) (dk_dq rfl)) m_1438 (dk_dq rfl) (dk_dq rfl) (dk_dq rfl) (dk_dq rfl) (dk_dq rfl) (dk_dq rfl) (dk_dq rfl) (dk_dq rfl)) (((m_1438.1 0 3 _ sM_0 (dk_dq rfl)).trans (m_2.1 0 3 _ sM_0 (dk_dq rfl))).trans f_sg) (((m_1438.1 0 4 _ sM_0 (dk_dq rfl)).trans (m_2.1 0 4 _ sM_0 (dk_dq rfl))).trans f_sa) (((m_1438.1 0 6 _ sM_0 (dk_dq rfl)).trans (m_2.1 0 6 _ sM_0 (dk_dq rfl))).trans f_va) hk5.out (c := 44) (by have h9 := w_1491_1; rw [show (44 : Int32).toInt = 44 from by decide +kernel] at h9; exact h9)) (by omega)
                                        clear w_1491_1
                                        refine lv_aload_n hx hb dX12_goesOn_461 rfl (lv_at hl 3 rfl) ?_
                                        refine lv_iconst (v := 1) hx hb dX12_goesOn_462 (by decide +kernel) ?_
                                        refine lv_aload_n hx hb dX12_goesOn_463 rfl (lv_at hl 3 rfl) ?_
                                        refine dg_get (C := RX12) (T := TX12) (N := 77) hx hb hts (fun w h => bw_mem (wU_X12 w h)) hown K hP sM_0 rfl 4 (dk_dq rfl) (hts _ (bw_mem wB_291)) (fun _ h9 => h9) (v := .int sa) (((m_1438.1 0 4 _ sM_0 (dk_dq rfl)).trans (m_2.1 0 4 _ sM_0 (dk_dq rfl))).trans f_sa) dX12_goesOn_464 ?_
                                        have hz_1501 : (1 : Int32).toInt = 1 := by decide +kernel
                                        refine dg_callv hS hA1 hA (va_runV (As := [.int 1, .int sa]) (rest := []) F (c_m_blame l g D o S_1438 1 (by decide +kernel) sa y_1440 f_y_1440 (by omega) I_1438 H.size) (cwV 2 hts (bw_V wB_306 wB_307 wB_308 wB_297 wB_305) rfl rfl rfl (by decide +kernel) ⟨Nat.le_of_ble_eq_true rfl, Nat.le_of_ble_eq_true rfl⟩) (dg_preV sM_0 rfl K ST hP hS hA1 hA) rfl rfl hl.1 rfl (lv_room (Nat.le_of_ble_eq_true rfl)) dX12_goesOn_467 ⟨Nat.le_of_ble_eq_true rfl, Nat.le_of_ble_eq_true rfl⟩) (fun S_1502 hw_1502 H locs hP hS => ?_)
                                        obtain ⟨I_1502, m_1502, w_1502_0, -⟩ := hw_1502
                                        have M_1502 := dg_sm.tr M_1438 m_1502 (dk_dq rfl) (dk_dq rfl)
                                        have hz_1503 : (1 : Int32).toInt = 1 := by decide +kernel
                                        obtain ⟨y_1504, f_y_1504, w_1502_0⟩ := w_1502_0
                                        have w_1502_0 : ((y_1440).toInt ≠ 0 → (y_1504).toInt = (y_1440).toInt) ∧ ((y_1440).toInt = 0 → (y_1504).toInt = ((1 : Int32)).toInt) := w_1502_0
                                        obtain ⟨w_1502_0_0, w_1502_0_1⟩ := w_1502_0
                                        have w_1502_0_0r := w_1502_0_0 (by omega)
                                        clear w_1502_0_0
                                        clear w_1502_0_1
                                        have b_y_1504 : 0 ≤ (y_1504).toInt ∧ (y_1504).toInt ≤ 6 := dg_I.intb (lo := 0) (hi := 6) I_1502 sM_0 (by decide +kernel) f_y_1504
                                        have hbl_y_1504 : 1 ≤ (y_1504).toInt := by omega
                                        refine lv_aload_n hx hb dX12_goesOn_470 rfl (lv_at hl 3 rfl) ?_
                                        refine dg_get (C := RX12) (T := TX12) (N := 77) hx hb hts (fun w h => bw_mem (wU_X12 w h)) hown K hP sM_0 rfl 8 (dk_dq rfl) (hts _ (bw_mem wB_303)) (fun _ h9 => h9) (v := .int y_1504) f_y_1504 dX12_goesOn_471 ?_
                                        refine lv_if_le (tgt := 479) hx hb dX12_goesOn_474 (dk_dq rfl) (fun c => absurd c (fun z => absurd (dk_lec (k := 0) (by decide +kernel) z) (by omega))) (fun _ => ?_)
                                        refine lv_iconst (v := 0) hx hb dX12_goesOn_477 (by decide +kernel) ?_
                                        have hz_1505 : (0 : Int32).toInt = 0 := by decide +kernel
                                        have hz_1506 : (0 : Int32).toInt = 0 := by decide +kernel
                                        have hz_1507 : (0 : Int32).toInt = 0 := by decide +kernel
                                        have hz_1508 : (0 : Int32).toInt = 0 := by decide +kernel
                                        have hz_1509 : (0 : Int32).toInt = 0 := by decide +kernel
                                        have hz_1510 : (0 : Int32).toInt = 0 := by decide +kernel
                                        have hz_1511 : (0 : Int32).toInt = 0 := by decide +kernel
                                        refine W.widen (k := 0) (n := 0) (Nat.le_of_ble_eq_true rfl) (Nat.le_of_ble_eq_true rfl) ?_
                                        rw [hQ9]
                                        exact dg_iret hx hb hr hlocks (by decide +kernel) hP hS ⟨I_1502, M_1502, (by decide +kernel), ⟨sg, sa, se, y_1504, cd, dp, om, oo, (((m_1502.1 0 3 _ sM_0 (dk_dq rfl)).trans ((m_1438.1 0 3 _ sM_0 (dk_dq rfl)).trans (m_2.1 0 3 _ sM_0 (dk_dq rfl)))).trans f_sg), (((m_1502.1 0 4 _ sM_0 (dk_dq rfl)).trans ((m_1438.1 0 4 _ sM_0 (dk_dq rfl)).trans (m_2.1 0 4 _ sM_0 (dk_dq rfl)))).trans f_sa), (((m_1502.1 0 5 _ sM_0 (dk_dq rfl)).trans ((m_1438.1 0 5 _ sM_0 (dk_dq rfl)).trans (m_2.1 0 5 _ sM_0 (dk_dq rfl)))).trans f_se), f_y_1504, (((m_1502.1 0 34 _ sM_0 (dk_dq rfl)).trans ((m_1438.1 0 34 _ sM_0 (dk_dq rfl)).trans (m_2.1 0 34 _ sM_0 (dk_dq rfl)))).trans f_cd), (((m_1502.1 0 42 _ sM_0 (dk_dq rfl)).trans ((m_1438.1 0 42 _ sM_0 (dk_dq rfl)).trans (m_2.1 0 42 _ sM_0 (dk_dq rfl)))).trans f_dp), (((m_1502.1 0 45 _ sM_0 (dk_dq rfl)).trans ((m_1438.1 0 45 _ sM_0 (dk_dq rfl)).trans (m_2.1 0 45 _ sM_0 (dk_dq rfl)))).trans f_om), (((m_1502.1 0 46 _ sM_0 (dk_dq rfl)).trans ((m_1438.1 0 46 _ sM_0 (dk_dq rfl)).trans (m_2.1 0 46 _ sM_0 (dk_dq rfl)))).trans f_oo), ⟨lxh_hlx_2.out, (by omega)⟩⟩, (fun k9 hk9 hk0 => by have q9 := (f_y_1504).symm.trans hk9; cases q9; omega), (GOK.no f_sa f_fk f_y_1504 (by omega) (fun h0 => Or.inl (by rw [hM0]; exact m_st_t.trans (m_go_bad hnop.out (Or.inr ⟨by omega, (fun q8 q9 => hnco.out (by omega) q9), (fun q8 => hnao.out (by omega)), (fun _ => qw_1491_1), (fun q9 => by exfalso; omega), (fun q9 q8 q7 => by exfalso; omega)⟩))))), (GON.no f_y_1504 (by omega)), (TKM.keep (TKM.keep (TKM.keep TK m_2 (dk_dq rfl) (dk_dq rfl) (dk_dq rfl) (dk_dq rfl) (dk_dq rfl) (dk_dq rfl) (dk_dq rfl) (dk_dq rfl)) m_1438 (dk_dq rfl) (dk_dq rfl) (dk_dq rfl) (dk_dq rfl) (dk_dq rfl) (dk_dq rfl) (dk_dq rfl) (dk_dq rfl)) m_1502 (dk_dq rfl) (dk_dq rfl) (dk_dq rfl) (dk_dq rfl) (dk_dq rfl) (dk_dq rfl) (dk_dq rfl) (dk_dq rfl)), (ZWM.keep (ZWM.keep (ZWM.keep ZW m_2 (dk_dq rfl) (dk_dq rfl) (dk_dq rfl) (dk_dq rfl)) m_1438 (dk_dq rfl) (dk_dq rfl) (dk_dq rfl) (dk_dq rfl)) m_1502 (dk_dq rfl) (dk_dq rfl) (dk_dq rfl) (dk_dq rfl)), (G8M.keep (G8M.keep (G8M.keep G8 m_2 (dk_dq rfl) (dk_dq rfl) (dk_dq rfl)) m_1438 (dk_dq rfl) (dk_dq rfl) (dk_dq rfl)) m_1502 (dk_dq rfl) (dk_dq rfl) (dk_dq rfl)), trivial⟩ dX12_goesOn_478
                                refine lv_icmp_eq (tgt := 452) hx hb dX12_goesOn_443 (dk_dq rfl) (fun c_1512 => ?_) (fun c_1512 => ?_)
                                · have jc_1512 := dk_eqc (k := 3) (by decide +kernel) c_1512
                                  exact J_1489 ()  (by omega) _ _ hP hS _ (lv_sub hl [0, 1, 2, 3] rfl)
                                · as_aux_lemma =>
                                    have jc_1512 := dk_neqc (k := 3) (by decide +kernel) c_1512
                                    refine lv_iload_n hx hb dX12_goesOn_446 rfl (lv_at hl 1 rfl) ?_
                                    refine lv_bipush (v := 6) hx hb dX12_goesOn_447 (by decide +kernel) ?_
                                    refine lv_icmp_ne (tgt := 518) hx hb dX12_goesOn_449 (dk_dq rfl) (fun c_1513 => ?_) (fun c_1513 => ?_)
                                    · as_aux_lemma =>
                                        have jc_1513 := dk_neqc (k := 6) (by decide +kernel) c_1513
                                        have jtc_1513 : (x_7).toInt ≤ 5 := by omega
                                        clear jc_1513
                                        refine lv_aload_n hx hb dX12_goesOn_518 rfl (lv_at hl 3 rfl) ?_
                                        refine lv_iload_n hx hb dX12_goesOn_519 rfl (lv_at hl 1 rfl) ?_
                                        refine lv_iconst (v := 5) hx hb dX12_goesOn_520 (by decide +kernel) ?_
                                        have J_1537 : ∀ (x_1515 : Int32), (41 ≤ (x_1515).toInt ∧ (x_1515).toInt ≤ 93) → ((x_7 : Int32).toInt = 2 ∨ (x_7 : Int32).toInt = 4 ∨ (x_7 : Int32).toInt = 5) → (m_hid (((x_7 : Int32).toInt = 5 → (x_1515 : Int32).toInt = 93) ∧ ((x_7 : Int32).toInt ≠ 5 → (x_1515 : Int32).toInt = 41))) → ∀ (H : Heap) (locs : List Loc), va_P D vwCl (dg_w g shM o rfM S_1438) H → va_S A s.heap H locs → ∀ ls : Array Slot, lv_has ls 5 [(3, .int x_8), (2, .int x_7), (1, .int x_5), (0, .ref (o + 0))] → W p l e ({ frames := 3, cells := 0, slots := 0, locals := 77 } : Room) s m args below meth c H locs 0 0 Q9 (F0 m 531 ls [.int x_1515, .ref (o + 0)]) := by
                                          as_aux_lemma =>
                                            intro x_1515 b_x_1515 rel_0 rel_1 H locs hP hS ls hl
                                            have h531 := rel_1
                                            refine dg_calli hS hA1 hA (va_runV (As := [.int x_1515]) (rest := []) F (c_m_isSign l g D o S_1438 x_1515 sg (((m_1438.1 0 3 _ sM_0 (dk_dq rfl)).trans (m_2.1 0 3 _ sM_0 (dk_dq rfl))).trans f_sg) (by omega) va (((m_1438.1 0 6 _ sM_0 (dk_dq rfl)).trans (m_2.1 0 6 _ sM_0 (dk_dq rfl))).trans f_va) (by omega) I_1438 H.size) (cwV 1 hts (bw_V wB_314 wB_315 wB_316 wB_297 wB_313) rfl rfl rfl (by decide +kernel) ⟨Nat.le_of_ble_eq_true rfl, Nat.le_of_ble_eq_true rfl⟩) (dg_preV sM_0 rfl K ST hP hS hA1 hA) rfl rfl hl.1 rfl (lv_room (Nat.le_of_ble_eq_true rfl)) dX12_goesOn_531 ⟨Nat.le_of_ble_eq_true rfl, Nat.le_of_ble_eq_true rfl⟩) (fun x_1538 S_1539 hw_1539 H locs hP hS => ?_)
                                            rw [hw_1539.1] at hP
                                            obtain ⟨hq_1539, w_1539_0, w_1539_1, -⟩ := hw_1539
                                            have w_1539_0 : 0 ≤ (x_1538).toInt ∧ (x_1538).toInt ≤ 1 := w_1539_0
                                            have w_1539_1 : (x_1538).toInt = 1 ↔ ((sg).toInt = 3 ∧ (va).toInt = (x_1515).toInt) := w_1539_1
                                            refine lv_if_ne (tgt := 546) hx hb dX12_goesOn_534 (dk_dq rfl) (fun c_1540 => ?_) (fun c_1540 => ?_)
                                            · as_aux_lemma =>
                                                have jc_1540 := dk_neqc (k := 0) (by decide +kernel) c_1540
                                                have jbc_1540 : 1 ≤ (x_1538).toInt := by omega
                                                clear jc_1540
                                                have qw_1539_1 : g_s (T_kd tb tn) (T_vl tb tn) (x_1515).toInt (t_ix tb tn (sa : Int32).toNatClampNeg) = true := (TKM.iss (TKM.keep (TKM.keep TK m_2 (dk_dq rfl) (dk_dq rfl) (dk_dq rfl) (dk_dq rfl) (dk_dq rfl) (dk_dq rfl) (dk_dq rfl) (dk_dq rfl)) m_1438 (dk_dq rfl) (dk_dq rfl) (dk_dq rfl) (dk_dq rfl) (dk_dq rfl) (dk_dq rfl) (dk_dq rfl) (dk_dq rfl)) (((m_1438.1 0 3 _ sM_0 (dk_dq rfl)).trans (m_2.1 0 3 _ sM_0 (dk_dq rfl))).trans f_sg) (((m_1438.1 0 4 _ sM_0 (dk_dq rfl)).trans (m_2.1 0 4 _ sM_0 (dk_dq rfl))).trans f_sa) (((m_1438.1 0 6 _ sM_0 (dk_dq rfl)).trans (m_2.1 0 6 _ sM_0 (dk_dq rfl))).trans f_va) hk5.out (c := (x_1515).toInt) (by have h9 := w_1539_1; exact h9)).mp (by omega)
                                                have w_1539_1_r := w_1539_1.mp (by omega)
                                                obtain ⟨w_1539_1_r1, w_1539_1_r2⟩ := w_1539_1_r
                                                clear w_1539_1
                                                have hlx_2r := hlx_2 (by omega)
                                                clear hlx_2
                                                refine lv_aload_n hx hb dX12_goesOn_546 rfl (lv_at hl 3 rfl) ?_
                                                refine dg_get (C := RX12) (T := TX12) (N := 77) hx hb hts (fun w h => bw_mem (wU_X12 w h)) hown K hP sM_0 rfl 8 (dk_dq rfl) (hts _ (bw_mem wB_303)) (fun _ h9 => h9) (v := .int y_1440) f_y_1440 dX12_goesOn_547 ?_
                                                refine lv_if_le (tgt := 555) hx hb dX12_goesOn_550 (dk_dq rfl) (fun c => absurd c (fun z => absurd (dk_lec (k := 0) (by decide +kernel) z) (by omega))) (fun _ => ?_)
                                                refine lv_iconst (v := 0) hx hb dX12_goesOn_553 (by decide +kernel) ?_
                                                have hz_1541 : (0 : Int32).toInt = 0 := by decide +kernel
                                                have hz_1542 : (0 : Int32).toInt = 0 := by decide +kernel
                                                have hz_1543 : (0 : Int32).toInt = 0 := by decide +kernel
                                                have hz_1544 : (0 : Int32).toInt = 0 := by decide +kernel
                                                have hz_1545 : (0 : Int32).toInt = 0 := by decide +kernel
                                                have hz_1546 : (0 : Int32).toInt = 0 := by decide +kernel
                                                have hz_1547 : (0 : Int32).toInt = 0 := by decide +kernel
                                                refine W.widen (k := 0) (n := 0) (Nat.le_of_ble_eq_true rfl) (Nat.le_of_ble_eq_true rfl) ?_
                                                rw [hQ9]
                                                exact dg_iret hx hb hr hlocks (by decide +kernel) hP hS ⟨I_1438, M_1438, (by decide +kernel), ⟨sg, sa, se, y_1440, cd, dp, om, oo, (((m_1438.1 0 3 _ sM_0 (dk_dq rfl)).trans (m_2.1 0 3 _ sM_0 (dk_dq rfl))).trans f_sg), (((m_1438.1 0 4 _ sM_0 (dk_dq rfl)).trans (m_2.1 0 4 _ sM_0 (dk_dq rfl))).trans f_sa), (((m_1438.1 0 5 _ sM_0 (dk_dq rfl)).trans (m_2.1 0 5 _ sM_0 (dk_dq rfl))).trans f_se), f_y_1440, (((m_1438.1 0 34 _ sM_0 (dk_dq rfl)).trans (m_2.1 0 34 _ sM_0 (dk_dq rfl))).trans f_cd), (((m_1438.1 0 42 _ sM_0 (dk_dq rfl)).trans (m_2.1 0 42 _ sM_0 (dk_dq rfl))).trans f_dp), (((m_1438.1 0 45 _ sM_0 (dk_dq rfl)).trans (m_2.1 0 45 _ sM_0 (dk_dq rfl))).trans f_om), (((m_1438.1 0 46 _ sM_0 (dk_dq rfl)).trans (m_2.1 0 46 _ sM_0 (dk_dq rfl))).trans f_oo), ⟨lxh_hlx_2.out, (by omega)⟩⟩, (fun k9 hk9 hk0 => by have q9 := (f_y_1440).symm.trans hk9; cases q9; omega), (GOK.no f_sa f_fk f_y_1440 (by omega) (fun h0 => Or.inl (by rw [hM0]; exact m_st_t.trans (m_go_bad hnop.out (Or.inl ⟨(m_tst_iff.mpr hts1.out), by omega, hnco.out (by omega) (by omega)⟩))))), (GON.no f_y_1440 (by omega)), (TKM.keep (TKM.keep TK m_2 (dk_dq rfl) (dk_dq rfl) (dk_dq rfl) (dk_dq rfl) (dk_dq rfl) (dk_dq rfl) (dk_dq rfl) (dk_dq rfl)) m_1438 (dk_dq rfl) (dk_dq rfl) (dk_dq rfl) (dk_dq rfl) (dk_dq rfl) (dk_dq rfl) (dk_dq rfl) (dk_dq rfl)), (ZWM.keep (ZWM.keep ZW m_2 (dk_dq rfl) (dk_dq rfl) (dk_dq rfl) (dk_dq rfl)) m_1438 (dk_dq rfl) (dk_dq rfl) (dk_dq rfl) (dk_dq rfl)), (G8M.keep (G8M.keep G8 m_2 (dk_dq rfl) (dk_dq rfl) (dk_dq rfl)) m_1438 (dk_dq rfl) (dk_dq rfl) (dk_dq rfl)), trivial⟩ dX12_goesOn_554
                                            · as_aux_lemma =>
                                                have jc_1540 := dk_eqc (k := 0) (by decide +kernel) c_1540
                                                have qw_1539_1 : g_s (T_kd tb tn) (T_vl tb tn) (x_1515).toInt (t_ix tb tn (sa : Int32).toNatClampNeg) = false := g_iff_f (TKM.iss (TKM.keep (TKM.keep TK m_2 (dk_dq rfl) (dk_dq rfl) (dk_dq rfl) (dk_dq rfl) (dk_dq rfl) (dk_dq rfl) (dk_dq rfl) (dk_dq rfl)) m_1438 (dk_dq rfl) (dk_dq rfl) (dk_dq rfl) (dk_dq rfl) (dk_dq rfl) (dk_dq rfl) (dk_dq rfl) (dk_dq rfl)) (((m_1438.1 0 3 _ sM_0 (dk_dq rfl)).trans (m_2.1 0 3 _ sM_0 (dk_dq rfl))).trans f_sg) (((m_1438.1 0 4 _ sM_0 (dk_dq rfl)).trans (m_2.1 0 4 _ sM_0 (dk_dq rfl))).trans f_sa) (((m_1438.1 0 6 _ sM_0 (dk_dq rfl)).trans (m_2.1 0 6 _ sM_0 (dk_dq rfl))).trans f_va) hk5.out (c := (x_1515).toInt) (by have h9 := w_1539_1; exact h9)) (by omega)
                                                clear w_1539_1
                                                refine lv_aload_n hx hb dX12_goesOn_537 rfl (lv_at hl 3 rfl) ?_
                                                refine lv_iconst (v := 1) hx hb dX12_goesOn_538 (by decide +kernel) ?_
                                                refine lv_aload_n hx hb dX12_goesOn_539 rfl (lv_at hl 3 rfl) ?_
                                                refine dg_get (C := RX12) (T := TX12) (N := 77) hx hb hts (fun w h => bw_mem (wU_X12 w h)) hown K hP sM_0 rfl 4 (dk_dq rfl) (hts _ (bw_mem wB_291)) (fun _ h9 => h9) (v := .int sa) (((m_1438.1 0 4 _ sM_0 (dk_dq rfl)).trans (m_2.1 0 4 _ sM_0 (dk_dq rfl))).trans f_sa) dX12_goesOn_540 ?_
                                                have hz_1548 : (1 : Int32).toInt = 1 := by decide +kernel
                                                refine dg_callv hS hA1 hA (va_runV (As := [.int 1, .int sa]) (rest := []) F (c_m_blame l g D o S_1438 1 (by decide +kernel) sa y_1440 f_y_1440 (by omega) I_1438 H.size) (cwV 2 hts (bw_V wB_306 wB_307 wB_308 wB_297 wB_305) rfl rfl rfl (by decide +kernel) ⟨Nat.le_of_ble_eq_true rfl, Nat.le_of_ble_eq_true rfl⟩) (dg_preV sM_0 rfl K ST hP hS hA1 hA) rfl rfl hl.1 rfl (lv_room (Nat.le_of_ble_eq_true rfl)) dX12_goesOn_543 ⟨Nat.le_of_ble_eq_true rfl, Nat.le_of_ble_eq_true rfl⟩) (fun S_1549 hw_1549 H locs hP hS => ?_)
                                                obtain ⟨I_1549, m_1549, w_1549_0, -⟩ := hw_1549
                                                have M_1549 := dg_sm.tr M_1438 m_1549 (dk_dq rfl) (dk_dq rfl)
                                                have hz_1550 : (1 : Int32).toInt = 1 := by decide +kernel
                                                obtain ⟨y_1551, f_y_1551, w_1549_0⟩ := w_1549_0
                                                have w_1549_0 : ((y_1440).toInt ≠ 0 → (y_1551).toInt = (y_1440).toInt) ∧ ((y_1440).toInt = 0 → (y_1551).toInt = ((1 : Int32)).toInt) := w_1549_0
                                                obtain ⟨w_1549_0_0, w_1549_0_1⟩ := w_1549_0
                                                have w_1549_0_0r := w_1549_0_0 (by omega)
                                                clear w_1549_0_0
                                                clear w_1549_0_1
                                                have b_y_1551 : 0 ≤ (y_1551).toInt ∧ (y_1551).toInt ≤ 6 := dg_I.intb (lo := 0) (hi := 6) I_1549 sM_0 (by decide +kernel) f_y_1551
                                                have hbl_y_1551 : 1 ≤ (y_1551).toInt := by omega
                                                refine lv_aload_n hx hb dX12_goesOn_546 rfl (lv_at hl 3 rfl) ?_
                                                refine dg_get (C := RX12) (T := TX12) (N := 77) hx hb hts (fun w h => bw_mem (wU_X12 w h)) hown K hP sM_0 rfl 8 (dk_dq rfl) (hts _ (bw_mem wB_303)) (fun _ h9 => h9) (v := .int y_1551) f_y_1551 dX12_goesOn_547 ?_
                                                refine lv_if_le (tgt := 555) hx hb dX12_goesOn_550 (dk_dq rfl) (fun c => absurd c (fun z => absurd (dk_lec (k := 0) (by decide +kernel) z) (by omega))) (fun _ => ?_)
                                                refine lv_iconst (v := 0) hx hb dX12_goesOn_553 (by decide +kernel) ?_
                                                have hz_1552 : (0 : Int32).toInt = 0 := by decide +kernel
                                                have hz_1553 : (0 : Int32).toInt = 0 := by decide +kernel
                                                have hz_1554 : (0 : Int32).toInt = 0 := by decide +kernel
                                                have hz_1555 : (0 : Int32).toInt = 0 := by decide +kernel
                                                have hz_1556 : (0 : Int32).toInt = 0 := by decide +kernel
                                                have hz_1557 : (0 : Int32).toInt = 0 := by decide +kernel
                                                have hz_1558 : (0 : Int32).toInt = 0 := by decide +kernel
                                                refine W.widen (k := 0) (n := 0) (Nat.le_of_ble_eq_true rfl) (Nat.le_of_ble_eq_true rfl) ?_
                                                rw [hQ9]
                                                exact dg_iret hx hb hr hlocks (by decide +kernel) hP hS ⟨I_1549, M_1549, (by decide +kernel), ⟨sg, sa, se, y_1551, cd, dp, om, oo, (((m_1549.1 0 3 _ sM_0 (dk_dq rfl)).trans ((m_1438.1 0 3 _ sM_0 (dk_dq rfl)).trans (m_2.1 0 3 _ sM_0 (dk_dq rfl)))).trans f_sg), (((m_1549.1 0 4 _ sM_0 (dk_dq rfl)).trans ((m_1438.1 0 4 _ sM_0 (dk_dq rfl)).trans (m_2.1 0 4 _ sM_0 (dk_dq rfl)))).trans f_sa), (((m_1549.1 0 5 _ sM_0 (dk_dq rfl)).trans ((m_1438.1 0 5 _ sM_0 (dk_dq rfl)).trans (m_2.1 0 5 _ sM_0 (dk_dq rfl)))).trans f_se), f_y_1551, (((m_1549.1 0 34 _ sM_0 (dk_dq rfl)).trans ((m_1438.1 0 34 _ sM_0 (dk_dq rfl)).trans (m_2.1 0 34 _ sM_0 (dk_dq rfl)))).trans f_cd), (((m_1549.1 0 42 _ sM_0 (dk_dq rfl)).trans ((m_1438.1 0 42 _ sM_0 (dk_dq rfl)).trans (m_2.1 0 42 _ sM_0 (dk_dq rfl)))).trans f_dp), (((m_1549.1 0 45 _ sM_0 (dk_dq rfl)).trans ((m_1438.1 0 45 _ sM_0 (dk_dq rfl)).trans (m_2.1 0 45 _ sM_0 (dk_dq rfl)))).trans f_om), (((m_1549.1 0 46 _ sM_0 (dk_dq rfl)).trans ((m_1438.1 0 46 _ sM_0 (dk_dq rfl)).trans (m_2.1 0 46 _ sM_0 (dk_dq rfl)))).trans f_oo), ⟨lxh_hlx_2.out, (by omega)⟩⟩, (fun k9 hk9 hk0 => by have q9 := (f_y_1551).symm.trans hk9; cases q9; omega), (GOK.no f_sa f_fk f_y_1551 (by omega) (fun h0 => Or.inl (by rw [hM0]; exact m_st_t.trans (m_go_bad hnop.out (Or.inr ⟨by omega, (fun q8 q9 => hnco.out (by omega) q9), (fun q8 => hnao.out (by omega)), (fun q9 => by exfalso; omega), (fun q9 => by have h9 := qw_1539_1; rw [show (x_1515).toInt = 93 from by have h8 := h531.out.1 (by omega); omega] at h9; exact h9), (fun _ _ q9 => by have h9 := qw_1539_1; rw [show (x_1515).toInt = 41 from by have h8 := h531.out.2 (by omega); omega] at h9; exact h9)⟩))))), (GON.no f_y_1551 (by omega)), (TKM.keep (TKM.keep (TKM.keep TK m_2 (dk_dq rfl) (dk_dq rfl) (dk_dq rfl) (dk_dq rfl) (dk_dq rfl) (dk_dq rfl) (dk_dq rfl) (dk_dq rfl)) m_1438 (dk_dq rfl) (dk_dq rfl) (dk_dq rfl) (dk_dq rfl) (dk_dq rfl) (dk_dq rfl) (dk_dq rfl) (dk_dq rfl)) m_1549 (dk_dq rfl) (dk_dq rfl) (dk_dq rfl) (dk_dq rfl) (dk_dq rfl) (dk_dq rfl) (dk_dq rfl) (dk_dq rfl)), (ZWM.keep (ZWM.keep (ZWM.keep ZW m_2 (dk_dq rfl) (dk_dq rfl) (dk_dq rfl) (dk_dq rfl)) m_1438 (dk_dq rfl) (dk_dq rfl) (dk_dq rfl) (dk_dq rfl)) m_1549 (dk_dq rfl) (dk_dq rfl) (dk_dq rfl) (dk_dq rfl)), (G8M.keep (G8M.keep (G8M.keep G8 m_2 (dk_dq rfl) (dk_dq rfl) (dk_dq rfl)) m_1438 (dk_dq rfl) (dk_dq rfl) (dk_dq rfl)) m_1549 (dk_dq rfl) (dk_dq rfl) (dk_dq rfl)), trivial⟩ dX12_goesOn_554
                                        refine lv_icmp_ne (tgt := 529) hx hb dX12_goesOn_521 (dk_dq rfl) (fun c_1559 => ?_) (fun c_1559 => ?_)
                                        · have jc_1559 := dk_neqc (k := 5) (by decide +kernel) c_1559
                                          have jtc_1559 : (x_7).toInt ≤ 4 := by omega
                                          clear jc_1559
                                          refine lv_bipush (v := 41) hx hb dX12_goesOn_529 (by decide +kernel) ?_
                                          have hz_1560 : (41 : Int32).toInt = 41 := by decide +kernel
                                          have hz_1561 : (41 : Int32).toInt = 41 := by decide +kernel
                                          have hz_1562 : (41 : Int32).toInt = 41 := by decide +kernel
                                          have hz_1563 : (41 : Int32).toInt = 41 := by decide +kernel
                                          exact J_1537 41 (by decide +kernel) (by omega) (m_hid.mk ⟨fun q9 => by omega, fun q9 => by omega⟩) _ _ hP hS _ (lv_sub hl [0, 1, 2, 3] rfl)
                                        · have jc_1559 := dk_eqc (k := 5) (by decide +kernel) c_1559
                                          refine lv_bipush (v := 93) hx hb dX12_goesOn_524 (by decide +kernel) ?_
                                          refine lv_goto (tgt := 531) hx hb dX12_goesOn_526 (dk_dq rfl) ?_
                                          have hz_1564 : (93 : Int32).toInt = 93 := by decide +kernel
                                          have hz_1565 : (93 : Int32).toInt = 93 := by decide +kernel
                                          have hz_1566 : (93 : Int32).toInt = 93 := by decide +kernel
                                          have hz_1567 : (93 : Int32).toInt = 93 := by decide +kernel
                                          exact J_1537 93 (by decide +kernel) (by omega) (m_hid.mk ⟨fun q9 => by omega, fun q9 => by omega⟩) _ _ hP hS _ (lv_sub hl [0, 1, 2, 3] rfl)
                                    · have jc_1513 := dk_eqc (k := 6) (by decide +kernel) c_1513
                                      exact J_1489 ()  (by omega) _ _ hP hS _ (lv_sub hl [0, 1, 2, 3] rfl)
                            · have jc_1441 := dk_ngec (k := 2) (by decide +kernel) c_1441
                              refine lv_aload_n hx hb dX12_goesOn_427 rfl (lv_at hl 3 rfl) ?_
                              refine dg_get (C := RX12) (T := TX12) (N := 77) hx hb hts (fun w h => bw_mem (wU_X12 w h)) hown K hP sM_0 rfl 8 (dk_dq rfl) (hts _ (bw_mem wB_303)) (fun _ h9 => h9) (v := .int y_1440) f_y_1440 dX12_goesOn_428 ?_
                              refine lv_if_ne (tgt := 439) hx hb dX12_goesOn_431 (dk_dq rfl) (fun _ => ?_) (fun c => absurd c (fun z => absurd (dk_eqc (k := 0) (by decide +kernel) z) (by omega)))
                              refine lv_iconst (v := 0) hx hb dX12_goesOn_439 (by decide +kernel) ?_
                              have hz_1568 : (0 : Int32).toInt = 0 := by decide +kernel
                              have hz_1569 : (0 : Int32).toInt = 0 := by decide +kernel
                              have hz_1570 : (0 : Int32).toInt = 0 := by decide +kernel
                              have hz_1571 : (0 : Int32).toInt = 0 := by decide +kernel
                              have hz_1572 : (0 : Int32).toInt = 0 := by decide +kernel
                              have hz_1573 : (0 : Int32).toInt = 0 := by decide +kernel
                              have hz_1574 : (0 : Int32).toInt = 0 := by decide +kernel
                              refine W.widen (k := 0) (n := 0) (Nat.le_of_ble_eq_true rfl) (Nat.le_of_ble_eq_true rfl) ?_
                              rw [hQ9]
                              exact dg_iret hx hb hr hlocks (by decide +kernel) hP hS ⟨I_1438, M_1438, (by decide +kernel), ⟨sg, sa, se, y_1440, cd, dp, om, oo, (((m_1438.1 0 3 _ sM_0 (dk_dq rfl)).trans (m_2.1 0 3 _ sM_0 (dk_dq rfl))).trans f_sg), (((m_1438.1 0 4 _ sM_0 (dk_dq rfl)).trans (m_2.1 0 4 _ sM_0 (dk_dq rfl))).trans f_sa), (((m_1438.1 0 5 _ sM_0 (dk_dq rfl)).trans (m_2.1 0 5 _ sM_0 (dk_dq rfl))).trans f_se), f_y_1440, (((m_1438.1 0 34 _ sM_0 (dk_dq rfl)).trans (m_2.1 0 34 _ sM_0 (dk_dq rfl))).trans f_cd), (((m_1438.1 0 42 _ sM_0 (dk_dq rfl)).trans (m_2.1 0 42 _ sM_0 (dk_dq rfl))).trans f_dp), (((m_1438.1 0 45 _ sM_0 (dk_dq rfl)).trans (m_2.1 0 45 _ sM_0 (dk_dq rfl))).trans f_om), (((m_1438.1 0 46 _ sM_0 (dk_dq rfl)).trans (m_2.1 0 46 _ sM_0 (dk_dq rfl))).trans f_oo), ⟨lxh_hlx_2.out, (by omega)⟩⟩, (fun k9 hk9 hk0 => by have q9 := (f_y_1440).symm.trans hk9; cases q9; omega), (GOK.no f_sa f_fk f_y_1440 (by omega) (fun h0 => Or.inl (by rw [hM0]; exact m_st_t.trans (m_go_bad hnop.out (Or.inl ⟨(m_tst_iff.mpr hts1.out), by omega, hnco.out (by omega) (by omega)⟩))))), (GON.no f_y_1440 (by omega)), (TKM.keep (TKM.keep TK m_2 (dk_dq rfl) (dk_dq rfl) (dk_dq rfl) (dk_dq rfl) (dk_dq rfl) (dk_dq rfl) (dk_dq rfl) (dk_dq rfl)) m_1438 (dk_dq rfl) (dk_dq rfl) (dk_dq rfl) (dk_dq rfl) (dk_dq rfl) (dk_dq rfl) (dk_dq rfl) (dk_dq rfl)), (ZWM.keep (ZWM.keep ZW m_2 (dk_dq rfl) (dk_dq rfl) (dk_dq rfl) (dk_dq rfl)) m_1438 (dk_dq rfl) (dk_dq rfl) (dk_dq rfl) (dk_dq rfl)), (G8M.keep (G8M.keep G8 m_2 (dk_dq rfl) (dk_dq rfl) (dk_dq rfl)) m_1438 (dk_dq rfl) (dk_dq rfl) (dk_dq rfl)), trivial⟩ dX12_goesOn_440
                refine lv_if_eq (tgt := 400) hx hb dX12_goesOn_286 (dk_dq rfl) (fun c_1575 => ?_) (fun c_1575 => ?_)
                · have jc_1575 := dk_eqc (k := 0) (by decide +kernel) c_1575
                  clear w_9_1
                  exact J_790 ()  (m_hid.mk (fun q9 => by exfalso; omega)) _ _ hP hS _ (lv_sub hl [0, 1, 2, 3] rfl)
                · as_aux_lemma =>
                    have jc_1575 := dk_neqc (k := 0) (by decide +kernel) c_1575
                    have jbc_1575 : 1 ≤ (x_8).toInt := by omega
                    clear jc_1575
                    have hts1 := m_hid.mk (w_9_1.out.mp (by omega))
                    clear w_9_1
                    refine lv_aload_n hx hb dX12_goesOn_289 rfl (lv_at hl 3 rfl) ?_
                    refine lv_ldc2 hx hb hown (hts _ (bw_mem wB_347)) dX12_goesOn_290 ?_
                    refine dg_calli hS hA1 hA (va_runV (As := [.long 6385252]) (rest := []) F (c_m_isWord l g D o S_2 6385252 sg ((m_2.1 0 3 _ sM_0 (dk_dq rfl)).trans f_sg) (by omega) I_2 H.size) (cwV 1 hts (bw_V wB_322 wB_323 wB_324 wB_297 wB_321) rfl rfl rfl (by decide +kernel) ⟨Nat.le_of_ble_eq_true rfl, Nat.le_of_ble_eq_true rfl⟩) (dg_preV sM_0 rfl K ST hP hS hA1 hA) rfl rfl hl.1 rfl (lv_room (Nat.le_of_ble_eq_true rfl)) dX12_goesOn_293 ⟨Nat.le_of_ble_eq_true rfl, Nat.le_of_ble_eq_true rfl⟩) (fun x_1576 S_1577 hw_1577 H locs hP hS => ?_)
                    rw [hw_1577.1] at hP
                    obtain ⟨hq_1577, w_1577_0, w_1577_1, -⟩ := hw_1577
                    try rw [hq_1577] at w_1577_1
                    have w_1577_0 : 0 ≤ (x_1576).toInt ∧ (x_1576).toInt ≤ 1 := w_1577_0
                    replace w_1577_1 : ∀ w9 : Int64, S_2.1 0 7 = .long w9 → ((x_1576).toInt = 1 ↔ ((sg).toInt = 1 ∧ w9.toInt = ((6385252 : Int64)).toInt)) := w_1577_1
                    have J_1584 : ∀ (u9 : Unit), ((sg).toInt = 1) → (m_hid (g_o (T_kd tb tn) (T_vl tb tn) 22 (t_ix tb tn (sa : Int32).toNatClampNeg) = true ∨ g_o (T_kd tb tn) (T_vl tb tn) 21 (t_ix tb tn (sa : Int32).toNatClampNeg) = true)) → ∀ (H : Heap) (locs : List Loc), va_P D vwCl (dg_w g shM o rfM S_2) H → va_S A s.heap H locs → ∀ ls : Array Slot, lv_has ls 5 [(3, .int x_8), (2, .int x_7), (1, .int x_5), (0, .ref (o + 0))] → W p l e ({ frames := 3, cells := 0, slots := 0, locals := 77 } : Room) s m args below meth c H locs 0 0 Q9 (F0 m 309 ls []) := by
                      intro u9 rel_0 rel_1 H locs hP hS ls hl
                      clear w_1577_1
                      have hwd := rel_1
                      exact absurd ⟨by have h9 := hts1.out; omega, Or.inr hwd.out⟩ HnB
                    refine lv_if_ne (tgt := 309) hx hb dX12_goesOn_296 (dk_dq rfl) (fun c_1585 => ?_) (fun c_1585 => ?_)
                    · have jc_1585 := dk_neqc (k := 0) (by decide +kernel) c_1585
                      have jbc_1585 : 1 ≤ (x_1576).toInt := by omega
                      clear jc_1585
                      have qw_1577_1 : g_o (T_kd tb tn) (T_vl tb tn) 22 (t_ix tb tn (sa : Int32).toNatClampNeg) = true := (TKM.isw (TKM.keep TK m_2 (dk_dq rfl) (dk_dq rfl) (dk_dq rfl) (dk_dq rfl) (dk_dq rfl) (dk_dq rfl) (dk_dq rfl) (dk_dq rfl)) ((m_2.1 0 3 _ sM_0 (dk_dq rfl)).trans f_sg) ((m_2.1 0 4 _ sM_0 (dk_dq rfl)).trans f_sa) hk5.out (j := 22) (C := 6385252) (dk_dq rfl) (by decide +kernel) w_1577_1).mp (by omega)
                      obtain ⟨x_1586, f_x_1586⟩ := dg_I.long (i := 0) (k := 7) I_2 sM_0 (by decide +kernel)
                      have w_1577_1_r : (sg).toInt = 1 := by obtain ⟨w9, hw9⟩ : ∃ w9, S_2.1 0 7 = .long w9 := ⟨_, f_x_1586⟩; exact ((w_1577_1 w9 hw9).mp (by omega)).1
                      clear w_1577_1
                      have hlx_2r := hlx_2 (by omega)
                      clear hlx_2
                      exact J_1584 ()  (by omega) (m_hid.mk (Or.inl qw_1577_1)) _ _ hP hS _ (lv_sub hl [0, 1, 2, 3] rfl)
                    · as_aux_lemma =>
                        have jc_1585 := dk_eqc (k := 0) (by decide +kernel) c_1585
                        have qw_1577_1 : g_o (T_kd tb tn) (T_vl tb tn) 22 (t_ix tb tn (sa : Int32).toNatClampNeg) = false := g_iff_f (TKM.isw (TKM.keep TK m_2 (dk_dq rfl) (dk_dq rfl) (dk_dq rfl) (dk_dq rfl) (dk_dq rfl) (dk_dq rfl) (dk_dq rfl) (dk_dq rfl)) ((m_2.1 0 3 _ sM_0 (dk_dq rfl)).trans f_sg) ((m_2.1 0 4 _ sM_0 (dk_dq rfl)).trans f_sa) hk5.out (j := 22) (C := 6385252) (dk_dq rfl) (by decide +kernel) w_1577_1) (by omega)
                        clear w_1577_1
                        refine lv_aload_n hx hb dX12_goesOn_299 rfl (lv_at hl 3 rfl) ?_
                        refine lv_ldc2 hx hb hown (hts _ (bw_mem wB_346)) dX12_goesOn_300 ?_
                        refine dg_calli hS hA1 hA (va_runV (As := [.long 28530]) (rest := []) F (c_m_isWord l g D o S_2 28530 sg ((m_2.1 0 3 _ sM_0 (dk_dq rfl)).trans f_sg) (by omega) I_2 H.size) (cwV 1 hts (bw_V wB_322 wB_323 wB_324 wB_297 wB_321) rfl rfl rfl (by decide +kernel) ⟨Nat.le_of_ble_eq_true rfl, Nat.le_of_ble_eq_true rfl⟩) (dg_preV sM_0 rfl K ST hP hS hA1 hA) rfl rfl hl.1 rfl (lv_room (Nat.le_of_ble_eq_true rfl)) dX12_goesOn_303 ⟨Nat.le_of_ble_eq_true rfl, Nat.le_of_ble_eq_true rfl⟩) (fun x_1587 S_1588 hw_1588 H locs hP hS => ?_)
                        rw [hw_1588.1] at hP
                        obtain ⟨hq_1588, w_1588_0, w_1588_1, -⟩ := hw_1588
                        try rw [hq_1588] at w_1588_1
                        have w_1588_0 : 0 ≤ (x_1587).toInt ∧ (x_1587).toInt ≤ 1 := w_1588_0
                        replace w_1588_1 : ∀ w9 : Int64, S_2.1 0 7 = .long w9 → ((x_1587).toInt = 1 ↔ ((sg).toInt = 1 ∧ w9.toInt = ((28530 : Int64)).toInt)) := w_1588_1
                        refine lv_if_eq (tgt := 400) hx hb dX12_goesOn_306 (dk_dq rfl) (fun c_1589 => ?_) (fun c_1589 => ?_)
                        · have jc_1589 := dk_eqc (k := 0) (by decide +kernel) c_1589
                          have qw_1588_1 : g_o (T_kd tb tn) (T_vl tb tn) 21 (t_ix tb tn (sa : Int32).toNatClampNeg) = false := g_iff_f (TKM.isw (TKM.keep TK m_2 (dk_dq rfl) (dk_dq rfl) (dk_dq rfl) (dk_dq rfl) (dk_dq rfl) (dk_dq rfl) (dk_dq rfl) (dk_dq rfl)) ((m_2.1 0 3 _ sM_0 (dk_dq rfl)).trans f_sg) ((m_2.1 0 4 _ sM_0 (dk_dq rfl)).trans f_sa) hk5.out (j := 21) (C := 28530) (dk_dq rfl) (by decide +kernel) w_1588_1) (by omega)
                          clear w_1588_1
                          exact J_790 ()  (m_hid.mk (fun _ => ⟨qw_1577_1, qw_1588_1⟩)) _ _ hP hS _ (lv_sub hl [0, 1, 2, 3] rfl)
                        · have jc_1589 := dk_neqc (k := 0) (by decide +kernel) c_1589
                          have jbc_1589 : 1 ≤ (x_1587).toInt := by omega
                          clear jc_1589
                          have qw_1588_1 : g_o (T_kd tb tn) (T_vl tb tn) 21 (t_ix tb tn (sa : Int32).toNatClampNeg) = true := (TKM.isw (TKM.keep TK m_2 (dk_dq rfl) (dk_dq rfl) (dk_dq rfl) (dk_dq rfl) (dk_dq rfl) (dk_dq rfl) (dk_dq rfl) (dk_dq rfl)) ((m_2.1 0 3 _ sM_0 (dk_dq rfl)).trans f_sg) ((m_2.1 0 4 _ sM_0 (dk_dq rfl)).trans f_sa) hk5.out (j := 21) (C := 28530) (dk_dq rfl) (by decide +kernel) w_1588_1).mp (by omega)
                          obtain ⟨x_1590, f_x_1590⟩ := dg_I.long (i := 0) (k := 7) I_2 sM_0 (by decide +kernel)
                          have w_1588_1_r : (sg).toInt = 1 := by obtain ⟨w9, hw9⟩ : ∃ w9, S_2.1 0 7 = .long w9 := ⟨_, f_x_1590⟩; exact ((w_1588_1 w9 hw9).mp (by omega)).1
                          clear w_1588_1
                          have hlx_2r := hlx_2 (by omega)
                          clear hlx_2
                          exact J_1584 ()  (by omega) (m_hid.mk (Or.inr qw_1588_1)) _ _ hP hS _ (lv_sub hl [0, 1, 2, 3] rfl)
            refine lv_if_eq (tgt := 285) hx hb dX12_goesOn_189 (dk_dq rfl) (fun c_1591 => ?_) (fun c_1591 => ?_)
            · have jc_1591 := dk_eqc (k := 0) (by decide +kernel) c_1591
              clear w_9_1
              exact J_548 ()  (m_hid.mk (fun q8 q9 => by exfalso; omega)) _ _ hP hS _ (lv_sub hl [0, 1, 2, 3] rfl)
            · as_aux_lemma =>
                have jc_1591 := dk_neqc (k := 0) (by decide +kernel) c_1591
                have jbc_1591 : 1 ≤ (x_8).toInt := by omega
                clear jc_1591
                have hts1 := m_hid.mk (w_9_1.out.mp (by omega))
                clear w_9_1
                refine lv_aload_n hx hb dX12_goesOn_192 rfl (lv_at hl 3 rfl) ?_
                refine dg_get (C := RX12) (T := TX12) (N := 77) hx hb hts (fun w h => bw_mem (wU_X12 w h)) hown K hP sM_0 rfl 38 (dk_dq rfl) (hts _ (bw_mem wB_417)) (fun _ h9 => h9) (v := .ref (o + 23)) (show S_2.1 0 38 = .ref (o + 23) from dg_I.rel (d := 23) I_2 sM_0 (by decide +kernel)) dX12_goesOn_193 ?_
                refine lv_iload_n hx hb dX12_goesOn_196 rfl (lv_at hl 2 rfl) ?_
                have hin_1592 : vp_in x_5 20 := (dk_inv2 (by omega))
                refine dg_iald hx hb K hP sM_23 hin_1592 dX12_goesOn_197 (fun y_1593 ey_1593 => ?_)
                obtain rfl : x_11 = y_1593 := (ey_1593.trans ex_11.symm).symm
                refine lv_if_ne (tgt := 285) hx hb dX12_goesOn_198 (dk_dq rfl) (fun c_1594 => ?_) (fun c_1594 => ?_)
                · have jc_1594 := dk_neqc (k := 0) (by decide +kernel) c_1594
                  have jbc_1594 : 1 ≤ (x_11).toInt := by omega
                  clear jc_1594
                  exact J_548 ()  (m_hid.mk (fun q8 q9 => by exfalso; omega)) _ _ hP hS _ (lv_sub hl [0, 1, 2, 3] rfl)
                · as_aux_lemma =>
                    have jc_1594 := dk_eqc (k := 0) (by decide +kernel) c_1594
                    refine lv_aload_n hx hb dX12_goesOn_201 rfl (lv_at hl 3 rfl) ?_
                    refine lv_bipush (v := 60) hx hb dX12_goesOn_202 (by decide +kernel) ?_
                    refine dg_calli hS hA1 hA (va_runV (As := [.int 60]) (rest := []) F (c_m_isSign l g D o S_2 60 sg ((m_2.1 0 3 _ sM_0 (dk_dq rfl)).trans f_sg) (by omega) va ((m_2.1 0 6 _ sM_0 (dk_dq rfl)).trans f_va) (by omega) I_2 H.size) (cwV 1 hts (bw_V wB_314 wB_315 wB_316 wB_297 wB_313) rfl rfl rfl (by decide +kernel) ⟨Nat.le_of_ble_eq_true rfl, Nat.le_of_ble_eq_true rfl⟩) (dg_preV sM_0 rfl K ST hP hS hA1 hA) rfl rfl hl.1 rfl (lv_room (Nat.le_of_ble_eq_true rfl)) dX12_goesOn_204 ⟨Nat.le_of_ble_eq_true rfl, Nat.le_of_ble_eq_true rfl⟩) (fun x_1595 S_1596 hw_1596 H locs hP hS => ?_)
                    rw [hw_1596.1] at hP
                    obtain ⟨hq_1596, w_1596_0, w_1596_1, -⟩ := hw_1596
                    have hz_1597 : (60 : Int32).toInt = 60 := by decide +kernel
                    have w_1596_0 : 0 ≤ (x_1595).toInt ∧ (x_1595).toInt ≤ 1 := w_1596_0
                    have w_1596_1 : (x_1595).toInt = 1 ↔ ((sg).toInt = 3 ∧ (va).toInt = ((60 : Int32)).toInt) := w_1596_1
                    have J_1607 : ∀ (u9 : Unit), ((sg).toInt = 3) → (m_hid (g_co (T_kd tb tn) (T_vl tb tn) (t_ix tb tn (sa : Int32).toNatClampNeg) = true)) → ∀ (H : Heap) (locs : List Loc), va_P D vwCl (dg_w g shM o rfM S_2) H → va_S A s.heap H locs → ∀ ls : Array Slot, lv_has ls 5 [(3, .int x_8), (2, .int x_7), (1, .int x_5), (0, .ref (o + 0))] → W p l e ({ frames := 3, cells := 0, slots := 0, locals := 77 } : Room) s m args below meth c H locs 0 0 Q9 (F0 m 228 ls []) := by
                      intro u9 rel_0 rel_1 H locs hP hS ls hl
                      clear w_1596_1
                      have hcmp := rel_1
                      exact absurd ⟨by have h9 := hts1.out; omega, Or.inl ⟨by omega, hcmp.out⟩⟩ HnB
                    refine lv_if_ne (tgt := 228) hx hb dX12_goesOn_207 (dk_dq rfl) (fun c_1608 => ?_) (fun c_1608 => ?_)
                    · have jc_1608 := dk_neqc (k := 0) (by decide +kernel) c_1608
                      have jbc_1608 : 1 ≤ (x_1595).toInt := by omega
                      clear jc_1608
                      have qw_1596_1 : g_s (T_kd tb tn) (T_vl tb tn) 60 (t_ix tb tn (sa : Int32).toNatClampNeg) = true := (TKM.iss (TKM.keep TK m_2 (dk_dq rfl) (dk_dq rfl) (dk_dq rfl) (dk_dq rfl) (dk_dq rfl) (dk_dq rfl) (dk_dq rfl) (dk_dq rfl)) ((m_2.1 0 3 _ sM_0 (dk_dq rfl)).trans f_sg) ((m_2.1 0 4 _ sM_0 (dk_dq rfl)).trans f_sa) ((m_2.1 0 6 _ sM_0 (dk_dq rfl)).trans f_va) hk5.out (c := 60) (by have h9 := w_1596_1; rw [show (60 : Int32).toInt = 60 from by decide +kernel] at h9; exact h9)).mp (by omega)
                      have w_1596_1_r := w_1596_1.mp (by omega)
                      obtain ⟨w_1596_1_r1, w_1596_1_r2⟩ := w_1596_1_r
                      clear w_1596_1
                      have hlx_2r := hlx_2 (by omega)
                      clear hlx_2
                      exact J_1607 ()  (by omega) (m_hid.mk (g_co_1 qw_1596_1)) _ _ hP hS _ (lv_sub hl [0, 1, 2, 3] rfl)
                    · as_aux_lemma =>
                        have jc_1608 := dk_eqc (k := 0) (by decide +kernel) c_1608
                        have qw_1596_1 : g_s (T_kd tb tn) (T_vl tb tn) 60 (t_ix tb tn (sa : Int32).toNatClampNeg) = false := g_iff_f (TKM.iss (TKM.keep TK m_2 (dk_dq rfl) (dk_dq rfl) (dk_dq rfl) (dk_dq rfl) (dk_dq rfl) (dk_dq rfl) (dk_dq rfl) (dk_dq rfl)) ((m_2.1 0 3 _ sM_0 (dk_dq rfl)).trans f_sg) ((m_2.1 0 4 _ sM_0 (dk_dq rfl)).trans f_sa) ((m_2.1 0 6 _ sM_0 (dk_dq rfl)).trans f_va) hk5.out (c := 60) (by have h9 := w_1596_1; rw [show (60 : Int32).toInt = 60 from by decide +kernel] at h9; exact h9)) (by omega)
                        clear w_1596_1
                        refine lv_aload_n hx hb dX12_goesOn_210 rfl (lv_at hl 3 rfl) ?_
                        refine lv_bipush (v := 62) hx hb dX12_goesOn_211 (by decide +kernel) ?_
                        refine dg_calli hS hA1 hA (va_runV (As := [.int 62]) (rest := []) F (c_m_isSign l g D o S_2 62 sg ((m_2.1 0 3 _ sM_0 (dk_dq rfl)).trans f_sg) (by omega) va ((m_2.1 0 6 _ sM_0 (dk_dq rfl)).trans f_va) (by omega) I_2 H.size) (cwV 1 hts (bw_V wB_314 wB_315 wB_316 wB_297 wB_313) rfl rfl rfl (by decide +kernel) ⟨Nat.le_of_ble_eq_true rfl, Nat.le_of_ble_eq_true rfl⟩) (dg_preV sM_0 rfl K ST hP hS hA1 hA) rfl rfl hl.1 rfl (lv_room (Nat.le_of_ble_eq_true rfl)) dX12_goesOn_213 ⟨Nat.le_of_ble_eq_true rfl, Nat.le_of_ble_eq_true rfl⟩) (fun x_1609 S_1610 hw_1610 H locs hP hS => ?_)
                        rw [hw_1610.1] at hP
                        obtain ⟨hq_1610, w_1610_0, w_1610_1, -⟩ := hw_1610
                        have hz_1611 : (62 : Int32).toInt = 62 := by decide +kernel
                        have w_1610_0 : 0 ≤ (x_1609).toInt ∧ (x_1609).toInt ≤ 1 := w_1610_0
                        have w_1610_1 : (x_1609).toInt = 1 ↔ ((sg).toInt = 3 ∧ (va).toInt = ((62 : Int32)).toInt) := w_1610_1
                        refine lv_if_ne (tgt := 228) hx hb dX12_goesOn_216 (dk_dq rfl) (fun c_1612 => ?_) (fun c_1612 => ?_)
                        · have jc_1612 := dk_neqc (k := 0) (by decide +kernel) c_1612
                          have jbc_1612 : 1 ≤ (x_1609).toInt := by omega
                          clear jc_1612
                          have qw_1610_1 : g_s (T_kd tb tn) (T_vl tb tn) 62 (t_ix tb tn (sa : Int32).toNatClampNeg) = true := (TKM.iss (TKM.keep TK m_2 (dk_dq rfl) (dk_dq rfl) (dk_dq rfl) (dk_dq rfl) (dk_dq rfl) (dk_dq rfl) (dk_dq rfl) (dk_dq rfl)) ((m_2.1 0 3 _ sM_0 (dk_dq rfl)).trans f_sg) ((m_2.1 0 4 _ sM_0 (dk_dq rfl)).trans f_sa) ((m_2.1 0 6 _ sM_0 (dk_dq rfl)).trans f_va) hk5.out (c := 62) (by have h9 := w_1610_1; rw [show (62 : Int32).toInt = 62 from by decide +kernel] at h9; exact h9)).mp (by omega)
                          have w_1610_1_r := w_1610_1.mp (by omega)
                          obtain ⟨w_1610_1_r1, w_1610_1_r2⟩ := w_1610_1_r
                          clear w_1610_1
                          have hlx_2r := hlx_2 (by omega)
                          clear hlx_2
                          exact J_1607 ()  (by omega) (m_hid.mk (g_co_2 qw_1610_1)) _ _ hP hS _ (lv_sub hl [0, 1, 2, 3] rfl)
                        · as_aux_lemma =>
                            have jc_1612 := dk_eqc (k := 0) (by decide +kernel) c_1612
                            have qw_1610_1 : g_s (T_kd tb tn) (T_vl tb tn) 62 (t_ix tb tn (sa : Int32).toNatClampNeg) = false := g_iff_f (TKM.iss (TKM.keep TK m_2 (dk_dq rfl) (dk_dq rfl) (dk_dq rfl) (dk_dq rfl) (dk_dq rfl) (dk_dq rfl) (dk_dq rfl) (dk_dq rfl)) ((m_2.1 0 3 _ sM_0 (dk_dq rfl)).trans f_sg) ((m_2.1 0 4 _ sM_0 (dk_dq rfl)).trans f_sa) ((m_2.1 0 6 _ sM_0 (dk_dq rfl)).trans f_va) hk5.out (c := 62) (by have h9 := w_1610_1; rw [show (62 : Int32).toInt = 62 from by decide +kernel] at h9; exact h9)) (by omega)
                            clear w_1610_1
                            refine lv_aload_n hx hb dX12_goesOn_219 rfl (lv_at hl 3 rfl) ?_
                            refine lv_bipush (v := 61) hx hb dX12_goesOn_220 (by decide +kernel) ?_
                            refine dg_calli hS hA1 hA (va_runV (As := [.int 61]) (rest := []) F (c_m_isSign l g D o S_2 61 sg ((m_2.1 0 3 _ sM_0 (dk_dq rfl)).trans f_sg) (by omega) va ((m_2.1 0 6 _ sM_0 (dk_dq rfl)).trans f_va) (by omega) I_2 H.size) (cwV 1 hts (bw_V wB_314 wB_315 wB_316 wB_297 wB_313) rfl rfl rfl (by decide +kernel) ⟨Nat.le_of_ble_eq_true rfl, Nat.le_of_ble_eq_true rfl⟩) (dg_preV sM_0 rfl K ST hP hS hA1 hA) rfl rfl hl.1 rfl (lv_room (Nat.le_of_ble_eq_true rfl)) dX12_goesOn_222 ⟨Nat.le_of_ble_eq_true rfl, Nat.le_of_ble_eq_true rfl⟩) (fun x_1613 S_1614 hw_1614 H locs hP hS => ?_)
                            rw [hw_1614.1] at hP
                            obtain ⟨hq_1614, w_1614_0, w_1614_1, -⟩ := hw_1614
                            have hz_1615 : (61 : Int32).toInt = 61 := by decide +kernel
                            have w_1614_0 : 0 ≤ (x_1613).toInt ∧ (x_1613).toInt ≤ 1 := w_1614_0
                            have w_1614_1 : (x_1613).toInt = 1 ↔ ((sg).toInt = 3 ∧ (va).toInt = ((61 : Int32)).toInt) := w_1614_1
                            refine lv_if_eq (tgt := 285) hx hb dX12_goesOn_225 (dk_dq rfl) (fun c_1616 => ?_) (fun c_1616 => ?_)
                            · have jc_1616 := dk_eqc (k := 0) (by decide +kernel) c_1616
                              have qw_1614_1 : g_s (T_kd tb tn) (T_vl tb tn) 61 (t_ix tb tn (sa : Int32).toNatClampNeg) = false := g_iff_f (TKM.iss (TKM.keep TK m_2 (dk_dq rfl) (dk_dq rfl) (dk_dq rfl) (dk_dq rfl) (dk_dq rfl) (dk_dq rfl) (dk_dq rfl) (dk_dq rfl)) ((m_2.1 0 3 _ sM_0 (dk_dq rfl)).trans f_sg) ((m_2.1 0 4 _ sM_0 (dk_dq rfl)).trans f_sa) ((m_2.1 0 6 _ sM_0 (dk_dq rfl)).trans f_va) hk5.out (c := 61) (by have h9 := w_1614_1; rw [show (61 : Int32).toInt = 61 from by decide +kernel] at h9; exact h9)) (by omega)
                              clear w_1614_1
                              exact J_548 ()  (m_hid.mk (fun _ _ => g_co_f qw_1596_1 qw_1610_1 qw_1614_1)) _ _ hP hS _ (lv_sub hl [0, 1, 2, 3] rfl)
                            · have jc_1616 := dk_neqc (k := 0) (by decide +kernel) c_1616
                              have jbc_1616 : 1 ≤ (x_1613).toInt := by omega
                              clear jc_1616
                              have qw_1614_1 : g_s (T_kd tb tn) (T_vl tb tn) 61 (t_ix tb tn (sa : Int32).toNatClampNeg) = true := (TKM.iss (TKM.keep TK m_2 (dk_dq rfl) (dk_dq rfl) (dk_dq rfl) (dk_dq rfl) (dk_dq rfl) (dk_dq rfl) (dk_dq rfl) (dk_dq rfl)) ((m_2.1 0 3 _ sM_0 (dk_dq rfl)).trans f_sg) ((m_2.1 0 4 _ sM_0 (dk_dq rfl)).trans f_sa) ((m_2.1 0 6 _ sM_0 (dk_dq rfl)).trans f_va) hk5.out (c := 61) (by have h9 := w_1614_1; rw [show (61 : Int32).toInt = 61 from by decide +kernel] at h9; exact h9)).mp (by omega)
                              have w_1614_1_r := w_1614_1.mp (by omega)
                              obtain ⟨w_1614_1_r1, w_1614_1_r2⟩ := w_1614_1_r
                              clear w_1614_1
                              have hlx_2r := hlx_2 (by omega)
                              clear hlx_2
                              exact J_1607 ()  (by omega) (m_hid.mk (g_co_3 qw_1614_1)) _ _ hP hS _ (lv_sub hl [0, 1, 2, 3] rfl)
        refine lv_icmp_ge (tgt := 188) hx hb dX12_goesOn_39 (dk_dq rfl) (fun c_1617 => ?_) (fun c_1617 => ?_)
        · have jc_1617 := dk_gec (k := 2) (by decide +kernel) c_1617
          exact J_290 ()  (m_hid.mk (fun q9 => by exfalso; omega)) _ _ hP hS _ (lv_sub hl [0, 1, 2, 3] rfl)
        · as_aux_lemma =>
            have jc_1617 := dk_ngec (k := 2) (by decide +kernel) c_1617
            refine lv_aload_n hx hb dX12_goesOn_42 rfl (lv_at hl 3 rfl) ?_
            refine lv_bipush (v := 43) hx hb dX12_goesOn_43 (by decide +kernel) ?_
            refine dg_calli hS hA1 hA (va_runV (As := [.int 43]) (rest := []) F (c_m_isSign l g D o S_2 43 sg ((m_2.1 0 3 _ sM_0 (dk_dq rfl)).trans f_sg) (by omega) va ((m_2.1 0 6 _ sM_0 (dk_dq rfl)).trans f_va) (by omega) I_2 H.size) (cwV 1 hts (bw_V wB_314 wB_315 wB_316 wB_297 wB_313) rfl rfl rfl (by decide +kernel) ⟨Nat.le_of_ble_eq_true rfl, Nat.le_of_ble_eq_true rfl⟩) (dg_preV sM_0 rfl K ST hP hS hA1 hA) rfl rfl hl.1 rfl (lv_room (Nat.le_of_ble_eq_true rfl)) dX12_goesOn_45 ⟨Nat.le_of_ble_eq_true rfl, Nat.le_of_ble_eq_true rfl⟩) (fun x_1618 S_1619 hw_1619 H locs hP hS => ?_)
            rw [hw_1619.1] at hP
            obtain ⟨hq_1619, w_1619_0, w_1619_1, -⟩ := hw_1619
            have hz_1620 : (43 : Int32).toInt = 43 := by decide +kernel
            have w_1619_0 : 0 ≤ (x_1618).toInt ∧ (x_1618).toInt ≤ 1 := w_1619_0
            have w_1619_1 : (x_1618).toInt = 1 ↔ ((sg).toInt = 3 ∧ (va).toInt = ((43 : Int32)).toInt) := w_1619_1
            have J_1638 : ∀ (u9 : Unit), ((sg).toInt = 3) → ((va).toInt = 43 ∨ (va).toInt = 45 ∨ (va).toInt = 42 ∨ (va).toInt = 47 ∨ (va).toInt = 37) → (m_hid (g_so (T_kd tb tn) (T_vl tb tn) (t_ix tb tn (sa : Int32).toNatClampNeg) = true ∨ g_po (T_kd tb tn) (T_vl tb tn) (t_ix tb tn (sa : Int32).toNatClampNeg) = true)) → ∀ (H : Heap) (locs : List Loc), va_P D vwCl (dg_w g shM o rfM S_2) H → va_S A s.heap H locs → ∀ ls : Array Slot, lv_has ls 5 [(3, .int x_8), (2, .int x_7), (1, .int x_5), (0, .ref (o + 0))] → W p l e ({ frames := 3, cells := 0, slots := 0, locals := 77 } : Room) s m args below meth c H locs 0 0 Q9 (F0 m 87 ls []) := by
              intro u9 rel_0 rel_1 rel_2 H locs hP hS ls hl
              clear w_1619_1
              have hop := rel_2
              have hlx_2r := hlx_2 (by omega)
              clear hlx_2
              exact absurd ⟨by omega, hop.out⟩ HnA
            refine lv_if_ne (tgt := 87) hx hb dX12_goesOn_48 (dk_dq rfl) (fun c_1639 => ?_) (fun c_1639 => ?_)
            · have jc_1639 := dk_neqc (k := 0) (by decide +kernel) c_1639
              have jbc_1639 : 1 ≤ (x_1618).toInt := by omega
              clear jc_1639
              have qw_1619_1 : g_s (T_kd tb tn) (T_vl tb tn) 43 (t_ix tb tn (sa : Int32).toNatClampNeg) = true := (TKM.iss (TKM.keep TK m_2 (dk_dq rfl) (dk_dq rfl) (dk_dq rfl) (dk_dq rfl) (dk_dq rfl) (dk_dq rfl) (dk_dq rfl) (dk_dq rfl)) ((m_2.1 0 3 _ sM_0 (dk_dq rfl)).trans f_sg) ((m_2.1 0 4 _ sM_0 (dk_dq rfl)).trans f_sa) ((m_2.1 0 6 _ sM_0 (dk_dq rfl)).trans f_va) hk5.out (c := 43) (by have h9 := w_1619_1; rw [show (43 : Int32).toInt = 43 from by decide +kernel] at h9; exact h9)).mp (by omega)
              have w_1619_1_r := w_1619_1.mp (by omega)
              obtain ⟨w_1619_1_r1, w_1619_1_r2⟩ := w_1619_1_r
              clear w_1619_1
              have hlx_2r := hlx_2 (by omega)
              clear hlx_2
              exact J_1638 ()  (by omega) (by omega) (m_hid.mk (g_so_1 qw_1619_1)) _ _ hP hS _ (lv_sub hl [0, 1, 2, 3] rfl)
            · as_aux_lemma =>
                have jc_1639 := dk_eqc (k := 0) (by decide +kernel) c_1639
                have qw_1619_1 : g_s (T_kd tb tn) (T_vl tb tn) 43 (t_ix tb tn (sa : Int32).toNatClampNeg) = false := g_iff_f (TKM.iss (TKM.keep TK m_2 (dk_dq rfl) (dk_dq rfl) (dk_dq rfl) (dk_dq rfl) (dk_dq rfl) (dk_dq rfl) (dk_dq rfl) (dk_dq rfl)) ((m_2.1 0 3 _ sM_0 (dk_dq rfl)).trans f_sg) ((m_2.1 0 4 _ sM_0 (dk_dq rfl)).trans f_sa) ((m_2.1 0 6 _ sM_0 (dk_dq rfl)).trans f_va) hk5.out (c := 43) (by have h9 := w_1619_1; rw [show (43 : Int32).toInt = 43 from by decide +kernel] at h9; exact h9)) (by omega)
                clear w_1619_1
                refine lv_aload_n hx hb dX12_goesOn_51 rfl (lv_at hl 3 rfl) ?_
                refine lv_bipush (v := 45) hx hb dX12_goesOn_52 (by decide +kernel) ?_
                refine dg_calli hS hA1 hA (va_runV (As := [.int 45]) (rest := []) F (c_m_isSign l g D o S_2 45 sg ((m_2.1 0 3 _ sM_0 (dk_dq rfl)).trans f_sg) (by omega) va ((m_2.1 0 6 _ sM_0 (dk_dq rfl)).trans f_va) (by omega) I_2 H.size) (cwV 1 hts (bw_V wB_314 wB_315 wB_316 wB_297 wB_313) rfl rfl rfl (by decide +kernel) ⟨Nat.le_of_ble_eq_true rfl, Nat.le_of_ble_eq_true rfl⟩) (dg_preV sM_0 rfl K ST hP hS hA1 hA) rfl rfl hl.1 rfl (lv_room (Nat.le_of_ble_eq_true rfl)) dX12_goesOn_54 ⟨Nat.le_of_ble_eq_true rfl, Nat.le_of_ble_eq_true rfl⟩) (fun x_1640 S_1641 hw_1641 H locs hP hS => ?_)
                rw [hw_1641.1] at hP
                obtain ⟨hq_1641, w_1641_0, w_1641_1, -⟩ := hw_1641
                have hz_1642 : (45 : Int32).toInt = 45 := by decide +kernel
                have w_1641_0 : 0 ≤ (x_1640).toInt ∧ (x_1640).toInt ≤ 1 := w_1641_0
                have w_1641_1 : (x_1640).toInt = 1 ↔ ((sg).toInt = 3 ∧ (va).toInt = ((45 : Int32)).toInt) := w_1641_1
                refine lv_if_ne (tgt := 87) hx hb dX12_goesOn_57 (dk_dq rfl) (fun c_1643 => ?_) (fun c_1643 => ?_)
                · have jc_1643 := dk_neqc (k := 0) (by decide +kernel) c_1643
                  have jbc_1643 : 1 ≤ (x_1640).toInt := by omega
                  clear jc_1643
                  have qw_1641_1 : g_s (T_kd tb tn) (T_vl tb tn) 45 (t_ix tb tn (sa : Int32).toNatClampNeg) = true := (TKM.iss (TKM.keep TK m_2 (dk_dq rfl) (dk_dq rfl) (dk_dq rfl) (dk_dq rfl) (dk_dq rfl) (dk_dq rfl) (dk_dq rfl) (dk_dq rfl)) ((m_2.1 0 3 _ sM_0 (dk_dq rfl)).trans f_sg) ((m_2.1 0 4 _ sM_0 (dk_dq rfl)).trans f_sa) ((m_2.1 0 6 _ sM_0 (dk_dq rfl)).trans f_va) hk5.out (c := 45) (by have h9 := w_1641_1; rw [show (45 : Int32).toInt = 45 from by decide +kernel] at h9; exact h9)).mp (by omega)
                  have w_1641_1_r := w_1641_1.mp (by omega)
                  obtain ⟨w_1641_1_r1, w_1641_1_r2⟩ := w_1641_1_r
                  clear w_1641_1
                  have hlx_2r := hlx_2 (by omega)
                  clear hlx_2
                  exact J_1638 ()  (by omega) (by omega) (m_hid.mk (g_so_2 qw_1641_1)) _ _ hP hS _ (lv_sub hl [0, 1, 2, 3] rfl)
                · as_aux_lemma =>
                    have jc_1643 := dk_eqc (k := 0) (by decide +kernel) c_1643
                    have qw_1641_1 : g_s (T_kd tb tn) (T_vl tb tn) 45 (t_ix tb tn (sa : Int32).toNatClampNeg) = false := g_iff_f (TKM.iss (TKM.keep TK m_2 (dk_dq rfl) (dk_dq rfl) (dk_dq rfl) (dk_dq rfl) (dk_dq rfl) (dk_dq rfl) (dk_dq rfl) (dk_dq rfl)) ((m_2.1 0 3 _ sM_0 (dk_dq rfl)).trans f_sg) ((m_2.1 0 4 _ sM_0 (dk_dq rfl)).trans f_sa) ((m_2.1 0 6 _ sM_0 (dk_dq rfl)).trans f_va) hk5.out (c := 45) (by have h9 := w_1641_1; rw [show (45 : Int32).toInt = 45 from by decide +kernel] at h9; exact h9)) (by omega)
                    clear w_1641_1
                    refine lv_aload_n hx hb dX12_goesOn_60 rfl (lv_at hl 3 rfl) ?_
                    refine lv_bipush (v := 42) hx hb dX12_goesOn_61 (by decide +kernel) ?_
                    refine dg_calli hS hA1 hA (va_runV (As := [.int 42]) (rest := []) F (c_m_isSign l g D o S_2 42 sg ((m_2.1 0 3 _ sM_0 (dk_dq rfl)).trans f_sg) (by omega) va ((m_2.1 0 6 _ sM_0 (dk_dq rfl)).trans f_va) (by omega) I_2 H.size) (cwV 1 hts (bw_V wB_314 wB_315 wB_316 wB_297 wB_313) rfl rfl rfl (by decide +kernel) ⟨Nat.le_of_ble_eq_true rfl, Nat.le_of_ble_eq_true rfl⟩) (dg_preV sM_0 rfl K ST hP hS hA1 hA) rfl rfl hl.1 rfl (lv_room (Nat.le_of_ble_eq_true rfl)) dX12_goesOn_63 ⟨Nat.le_of_ble_eq_true rfl, Nat.le_of_ble_eq_true rfl⟩) (fun x_1644 S_1645 hw_1645 H locs hP hS => ?_)
                    rw [hw_1645.1] at hP
                    obtain ⟨hq_1645, w_1645_0, w_1645_1, -⟩ := hw_1645
                    have hz_1646 : (42 : Int32).toInt = 42 := by decide +kernel
                    have w_1645_0 : 0 ≤ (x_1644).toInt ∧ (x_1644).toInt ≤ 1 := w_1645_0
                    have w_1645_1 : (x_1644).toInt = 1 ↔ ((sg).toInt = 3 ∧ (va).toInt = ((42 : Int32)).toInt) := w_1645_1
                    refine lv_if_ne (tgt := 87) hx hb dX12_goesOn_66 (dk_dq rfl) (fun c_1647 => ?_) (fun c_1647 => ?_)
                    · have jc_1647 := dk_neqc (k := 0) (by decide +kernel) c_1647
                      have jbc_1647 : 1 ≤ (x_1644).toInt := by omega
                      clear jc_1647
                      have qw_1645_1 : g_s (T_kd tb tn) (T_vl tb tn) 42 (t_ix tb tn (sa : Int32).toNatClampNeg) = true := (TKM.iss (TKM.keep TK m_2 (dk_dq rfl) (dk_dq rfl) (dk_dq rfl) (dk_dq rfl) (dk_dq rfl) (dk_dq rfl) (dk_dq rfl) (dk_dq rfl)) ((m_2.1 0 3 _ sM_0 (dk_dq rfl)).trans f_sg) ((m_2.1 0 4 _ sM_0 (dk_dq rfl)).trans f_sa) ((m_2.1 0 6 _ sM_0 (dk_dq rfl)).trans f_va) hk5.out (c := 42) (by have h9 := w_1645_1; rw [show (42 : Int32).toInt = 42 from by decide +kernel] at h9; exact h9)).mp (by omega)
                      have w_1645_1_r := w_1645_1.mp (by omega)
                      obtain ⟨w_1645_1_r1, w_1645_1_r2⟩ := w_1645_1_r
                      clear w_1645_1
                      have hlx_2r := hlx_2 (by omega)
                      clear hlx_2
                      exact J_1638 ()  (by omega) (by omega) (m_hid.mk (g_po_1 qw_1645_1)) _ _ hP hS _ (lv_sub hl [0, 1, 2, 3] rfl)
                    · as_aux_lemma =>
                        have jc_1647 := dk_eqc (k := 0) (by decide +kernel) c_1647
                        have qw_1645_1 : g_s (T_kd tb tn) (T_vl tb tn) 42 (t_ix tb tn (sa : Int32).toNatClampNeg) = false := g_iff_f (TKM.iss (TKM.keep TK m_2 (dk_dq rfl) (dk_dq rfl) (dk_dq rfl) (dk_dq rfl) (dk_dq rfl) (dk_dq rfl) (dk_dq rfl) (dk_dq rfl)) ((m_2.1 0 3 _ sM_0 (dk_dq rfl)).trans f_sg) ((m_2.1 0 4 _ sM_0 (dk_dq rfl)).trans f_sa) ((m_2.1 0 6 _ sM_0 (dk_dq rfl)).trans f_va) hk5.out (c := 42) (by have h9 := w_1645_1; rw [show (42 : Int32).toInt = 42 from by decide +kernel] at h9; exact h9)) (by omega)
                        clear w_1645_1
                        refine lv_aload_n hx hb dX12_goesOn_69 rfl (lv_at hl 3 rfl) ?_
                        refine lv_bipush (v := 47) hx hb dX12_goesOn_70 (by decide +kernel) ?_
                        refine dg_calli hS hA1 hA (va_runV (As := [.int 47]) (rest := []) F (c_m_isSign l g D o S_2 47 sg ((m_2.1 0 3 _ sM_0 (dk_dq rfl)).trans f_sg) (by omega) va ((m_2.1 0 6 _ sM_0 (dk_dq rfl)).trans f_va) (by omega) I_2 H.size) (cwV 1 hts (bw_V wB_314 wB_315 wB_316 wB_297 wB_313) rfl rfl rfl (by decide +kernel) ⟨Nat.le_of_ble_eq_true rfl, Nat.le_of_ble_eq_true rfl⟩) (dg_preV sM_0 rfl K ST hP hS hA1 hA) rfl rfl hl.1 rfl (lv_room (Nat.le_of_ble_eq_true rfl)) dX12_goesOn_72 ⟨Nat.le_of_ble_eq_true rfl, Nat.le_of_ble_eq_true rfl⟩) (fun x_1648 S_1649 hw_1649 H locs hP hS => ?_)
                        rw [hw_1649.1] at hP
                        obtain ⟨hq_1649, w_1649_0, w_1649_1, -⟩ := hw_1649
                        have hz_1650 : (47 : Int32).toInt = 47 := by decide +kernel
                        have w_1649_0 : 0 ≤ (x_1648).toInt ∧ (x_1648).toInt ≤ 1 := w_1649_0
                        have w_1649_1 : (x_1648).toInt = 1 ↔ ((sg).toInt = 3 ∧ (va).toInt = ((47 : Int32)).toInt) := w_1649_1
                        refine lv_if_ne (tgt := 87) hx hb dX12_goesOn_75 (dk_dq rfl) (fun c_1651 => ?_) (fun c_1651 => ?_)
                        · have jc_1651 := dk_neqc (k := 0) (by decide +kernel) c_1651
                          have jbc_1651 : 1 ≤ (x_1648).toInt := by omega
                          clear jc_1651
                          have qw_1649_1 : g_s (T_kd tb tn) (T_vl tb tn) 47 (t_ix tb tn (sa : Int32).toNatClampNeg) = true := (TKM.iss (TKM.keep TK m_2 (dk_dq rfl) (dk_dq rfl) (dk_dq rfl) (dk_dq rfl) (dk_dq rfl) (dk_dq rfl) (dk_dq rfl) (dk_dq rfl)) ((m_2.1 0 3 _ sM_0 (dk_dq rfl)).trans f_sg) ((m_2.1 0 4 _ sM_0 (dk_dq rfl)).trans f_sa) ((m_2.1 0 6 _ sM_0 (dk_dq rfl)).trans f_va) hk5.out (c := 47) (by have h9 := w_1649_1; rw [show (47 : Int32).toInt = 47 from by decide +kernel] at h9; exact h9)).mp (by omega)
                          have w_1649_1_r := w_1649_1.mp (by omega)
                          obtain ⟨w_1649_1_r1, w_1649_1_r2⟩ := w_1649_1_r
                          clear w_1649_1
                          have hlx_2r := hlx_2 (by omega)
                          clear hlx_2
                          exact J_1638 ()  (by omega) (by omega) (m_hid.mk (g_po_2 qw_1649_1)) _ _ hP hS _ (lv_sub hl [0, 1, 2, 3] rfl)
                        · as_aux_lemma =>
                            have jc_1651 := dk_eqc (k := 0) (by decide +kernel) c_1651
                            have qw_1649_1 : g_s (T_kd tb tn) (T_vl tb tn) 47 (t_ix tb tn (sa : Int32).toNatClampNeg) = false := g_iff_f (TKM.iss (TKM.keep TK m_2 (dk_dq rfl) (dk_dq rfl) (dk_dq rfl) (dk_dq rfl) (dk_dq rfl) (dk_dq rfl) (dk_dq rfl) (dk_dq rfl)) ((m_2.1 0 3 _ sM_0 (dk_dq rfl)).trans f_sg) ((m_2.1 0 4 _ sM_0 (dk_dq rfl)).trans f_sa) ((m_2.1 0 6 _ sM_0 (dk_dq rfl)).trans f_va) hk5.out (c := 47) (by have h9 := w_1649_1; rw [show (47 : Int32).toInt = 47 from by decide +kernel] at h9; exact h9)) (by omega)
                            clear w_1649_1
                            refine lv_aload_n hx hb dX12_goesOn_78 rfl (lv_at hl 3 rfl) ?_
                            refine lv_bipush (v := 37) hx hb dX12_goesOn_79 (by decide +kernel) ?_
                            refine dg_calli hS hA1 hA (va_runV (As := [.int 37]) (rest := []) F (c_m_isSign l g D o S_2 37 sg ((m_2.1 0 3 _ sM_0 (dk_dq rfl)).trans f_sg) (by omega) va ((m_2.1 0 6 _ sM_0 (dk_dq rfl)).trans f_va) (by omega) I_2 H.size) (cwV 1 hts (bw_V wB_314 wB_315 wB_316 wB_297 wB_313) rfl rfl rfl (by decide +kernel) ⟨Nat.le_of_ble_eq_true rfl, Nat.le_of_ble_eq_true rfl⟩) (dg_preV sM_0 rfl K ST hP hS hA1 hA) rfl rfl hl.1 rfl (lv_room (Nat.le_of_ble_eq_true rfl)) dX12_goesOn_81 ⟨Nat.le_of_ble_eq_true rfl, Nat.le_of_ble_eq_true rfl⟩) (fun x_1652 S_1653 hw_1653 H locs hP hS => ?_)
                            rw [hw_1653.1] at hP
                            obtain ⟨hq_1653, w_1653_0, w_1653_1, -⟩ := hw_1653
                            have hz_1654 : (37 : Int32).toInt = 37 := by decide +kernel
                            have w_1653_0 : 0 ≤ (x_1652).toInt ∧ (x_1652).toInt ≤ 1 := w_1653_0
                            have w_1653_1 : (x_1652).toInt = 1 ↔ ((sg).toInt = 3 ∧ (va).toInt = ((37 : Int32)).toInt) := w_1653_1
                            refine lv_if_eq (tgt := 188) hx hb dX12_goesOn_84 (dk_dq rfl) (fun c_1655 => ?_) (fun c_1655 => ?_)
                            · have jc_1655 := dk_eqc (k := 0) (by decide +kernel) c_1655
                              have qw_1653_1 : g_s (T_kd tb tn) (T_vl tb tn) 37 (t_ix tb tn (sa : Int32).toNatClampNeg) = false := g_iff_f (TKM.iss (TKM.keep TK m_2 (dk_dq rfl) (dk_dq rfl) (dk_dq rfl) (dk_dq rfl) (dk_dq rfl) (dk_dq rfl) (dk_dq rfl) (dk_dq rfl)) ((m_2.1 0 3 _ sM_0 (dk_dq rfl)).trans f_sg) ((m_2.1 0 4 _ sM_0 (dk_dq rfl)).trans f_sa) ((m_2.1 0 6 _ sM_0 (dk_dq rfl)).trans f_va) hk5.out (c := 37) (by have h9 := w_1653_1; rw [show (37 : Int32).toInt = 37 from by decide +kernel] at h9; exact h9)) (by omega)
                              clear w_1653_1
                              exact J_290 ()  (m_hid.mk (fun _ => ⟨g_so_f qw_1619_1 qw_1641_1, g_po_f qw_1645_1 qw_1649_1 qw_1653_1⟩)) _ _ hP hS _ (lv_sub hl [0, 1, 2, 3] rfl)
                            · have jc_1655 := dk_neqc (k := 0) (by decide +kernel) c_1655
                              have jbc_1655 : 1 ≤ (x_1652).toInt := by omega
                              clear jc_1655
                              have qw_1653_1 : g_s (T_kd tb tn) (T_vl tb tn) 37 (t_ix tb tn (sa : Int32).toNatClampNeg) = true := (TKM.iss (TKM.keep TK m_2 (dk_dq rfl) (dk_dq rfl) (dk_dq rfl) (dk_dq rfl) (dk_dq rfl) (dk_dq rfl) (dk_dq rfl) (dk_dq rfl)) ((m_2.1 0 3 _ sM_0 (dk_dq rfl)).trans f_sg) ((m_2.1 0 4 _ sM_0 (dk_dq rfl)).trans f_sa) ((m_2.1 0 6 _ sM_0 (dk_dq rfl)).trans f_va) hk5.out (c := 37) (by have h9 := w_1653_1; rw [show (37 : Int32).toInt = 37 from by decide +kernel] at h9; exact h9)).mp (by omega)
                              have w_1653_1_r := w_1653_1.mp (by omega)
                              obtain ⟨w_1653_1_r1, w_1653_1_r2⟩ := w_1653_1_r
                              clear w_1653_1
                              have hlx_2r := hlx_2 (by omega)
                              clear hlx_2
                              exact J_1638 ()  (by omega) (by omega) (m_hid.mk (g_po_3 qw_1653_1)) _ _ hP hS _ (lv_sub hl [0, 1, 2, 3] rfl)
  · have jc_4 := dk_nlec (k := 0) (by decide +kernel) c_4
    refine lv_iconst (v := 0) hx hb dX12_goesOn_11 (by decide +kernel) ?_
    have hz_1656 : (0 : Int32).toInt = 0 := by decide +kernel
    have hz_1657 : (0 : Int32).toInt = 0 := by decide +kernel
    have hz_1658 : (0 : Int32).toInt = 0 := by decide +kernel
    have hz_1659 : (0 : Int32).toInt = 0 := by decide +kernel
    have hz_1660 : (0 : Int32).toInt = 0 := by decide +kernel
    have hz_1661 : (0 : Int32).toInt = 0 := by decide +kernel
    have hz_1662 : (0 : Int32).toInt = 0 := by decide +kernel
    refine W.widen (k := 0) (n := 0) (Nat.le_of_ble_eq_true rfl) (Nat.le_of_ble_eq_true rfl) ?_
    rw [hQ9]
    exact dg_iret hx hb hr hlocks (by decide +kernel) hP hS ⟨I_2, M_2, (by decide +kernel), ⟨sg, sa, se, y_3, cd, dp, om, oo, ((m_2.1 0 3 _ sM_0 (dk_dq rfl)).trans f_sg), ((m_2.1 0 4 _ sM_0 (dk_dq rfl)).trans f_sa), ((m_2.1 0 5 _ sM_0 (dk_dq rfl)).trans f_se), f_y_3, ((m_2.1 0 34 _ sM_0 (dk_dq rfl)).trans f_cd), ((m_2.1 0 42 _ sM_0 (dk_dq rfl)).trans f_dp), ((m_2.1 0 45 _ sM_0 (dk_dq rfl)).trans f_om), ((m_2.1 0 46 _ sM_0 (dk_dq rfl)).trans f_oo), ⟨lxh_hlx_2.out, (by omega)⟩⟩, (fun k9 hk9 hk0 => by have q9 := (f_y_3).symm.trans hk9; cases q9; omega), (GOK.no f_sa f_fk f_y_3 (by omega) (fun h0 => GO5 P1 f_dp f_on f_om (by omega))), (GON.no f_y_3 (by omega)), (TKM.keep TK m_2 (dk_dq rfl) (dk_dq rfl) (dk_dq rfl) (dk_dq rfl) (dk_dq rfl) (dk_dq rfl) (dk_dq rfl) (dk_dq rfl)), (ZWM.keep ZW m_2 (dk_dq rfl) (dk_dq rfl) (dk_dq rfl) (dk_dq rfl)), (G8M.keep G8 m_2 (dk_dq rfl) (dk_dq rfl) (dk_dq rfl)), trivial⟩ dX12_goesOn_12
set_option maxHeartbeats 8000000 in
set_option maxRecDepth 100000 in
theorem c_m_goesOn (l : Launch) (g : Nat → ClassId) (D : va_G) (o : Nat) (S : dg_S) (tb : Nat → Int32) (tn : Nat) (S0 : dg_S) (sg : Int32) (f_sg : S.1 0 3 = .int sg) (b_sg : 0 ≤ (sg).toInt ∧ (sg).toInt ≤ 3) (sa : Int32) (f_sa : S.1 0 4 = .int sa) (b_sa : 0 ≤ (sa).toInt ∧ (sa).toInt ≤ 1600) (se : Int32) (f_se : S.1 0 5 = .int se) (b_se : 0 ≤ (se).toInt ∧ (se).toInt ≤ 1600) (sl : Int32) (f_sl : S.1 0 2 = .int sl) (b_sl : 0 ≤ (sl).toInt ∧ (sl).toInt ≤ 1600) (fk : Int32) (f_fk : S.1 0 8 = .int fk) (b_fk : 0 ≤ (fk).toInt ∧ (fk).toInt ≤ 6) (va : Int32) (f_va : S.1 0 6 = .int va) (b_va : 0 ≤ (va).toInt ∧ (va).toInt ≤ 9999) (cd : Int32) (f_cd : S.1 0 34 = .int cd) (b_cd : 0 ≤ (cd).toInt ∧ (cd).toInt ≤ 1600) (dp : Int32) (f_dp : S.1 0 42 = .int dp) (b_dp : 0 ≤ (dp).toInt ∧ (dp).toInt ≤ 20) (on : Int32) (f_on : S.1 0 43 = .int on) (om : Int32) (f_om : S.1 0 45 = .int om) (b_om : 0 ≤ (om).toInt ∧ (om).toInt ≤ 500) (oo : Int32) (f_oo : S.1 0 46 = .int oo) (b_oo : 1 ≤ (oo).toInt ∧ (oo).toInt ≤ 1) (lw : Int32) (f_lw : S.1 0 36 = .int lw) (b_lw : 0 ≤ (lw).toInt ∧ (lw).toInt ≤ 2) (hlx : (sa).toInt ≤ (se).toInt ∧ (se).toInt ≤ (sl).toInt ∧ ((sg).toInt ≠ 0 → (sa).toInt + 1 ≤ (se).toInt)) (hro : (cd).toInt + (om).toInt + (dp).toInt ≤ (sa).toInt) (TK : TKM tb tn S) (ZW : ZWM S) (ZK : ZKM S) (P1 : P1M S) (G8 : G8M S0 S) (I : CM o S) (sz : Nat) : Met l yX12_goesOn (bw yX12_goesOn cX12_goesOn 5 (some .boolean)) ({ frames := 3, cells := 0, slots := 0, locals := 77 } : Room) (dk_Pc g D (dg_w g shM o rfM S) sz [.ref (o + 0)]) (va_Qi (fun (r : Int32) S' => CM o S' ∧ dg_sm shM [(0, 3), (0, 4), (0, 5), (0, 6), (0, 7), (0, 8), (0, 9), (0, 12), (0, 34), (0, 42), (0, 43), (0, 45), (0, 46)] [18, 19, 22, 23, 24, 27] S S' ∧ (0 ≤ (r).toInt ∧ (r).toInt ≤ 1) ∧ (∃ y9_3 y9_4 y9_5 y9_8 y9_34 y9_42 y9_45 y9_46 : Int32, S'.1 0 3 = .int y9_3 ∧ S'.1 0 4 = .int y9_4 ∧ S'.1 0 5 = .int y9_5 ∧ S'.1 0 8 = .int y9_8 ∧ S'.1 0 34 = .int y9_34 ∧ S'.1 0 42 = .int y9_42 ∧ S'.1 0 45 = .int y9_45 ∧ S'.1 0 46 = .int y9_46 ∧ (((y9_4).toInt ≤ (y9_5).toInt ∧ (y9_5).toInt ≤ (sl).toInt ∧ ((y9_3).toInt ≠ 0 → (y9_4).toInt + 1 ≤ (y9_5).toInt)) ∧ (sa).toInt ≤ (y9_4).toInt ∧ ((fk).toInt ≠ 0 → (y9_8).toInt ≠ 0) ∧ (((y9_8).toInt = 0 → (r).toInt = 1 → (sa).toInt + 1 ≤ (y9_4).toInt) ∧ ((y9_8).toInt = 0 → (y9_34).toInt + (y9_45).toInt + (y9_42).toInt ≤ (y9_4).toInt)))) ∧ (∀ k9 : Int32, S'.1 0 8 = .int k9 → k9.toInt = 0 → POM S') ∧ (GOK tb tn (lw).toInt S S' r) ∧ (GON tb tn (lw).toInt S S' r) ∧ TKM tb tn S' ∧ ZWM S' ∧ G8M S0 S' ∧ True) (dg_B g D shM o rfM) (dg_A o shM.length sz)) 0 0 (dg_A o shM.length sz) := by
  by_cases HA : (S.2.1 23 ((dp : Int32).toNatClampNeg - 1)).toInt < 2 ∧ (g_so (T_kd tb tn) (T_vl tb tn) (t_ix tb tn (sa : Int32).toNatClampNeg) = true ∨ g_po (T_kd tb tn) (T_vl tb tn) (t_ix tb tn (sa : Int32).toNatClampNeg) = true)
  · exact c_m_goesOn_A l g D o S tb tn S0 sg f_sg b_sg sa f_sa b_sa se f_se b_se sl f_sl b_sl fk f_fk b_fk va f_va b_va cd f_cd b_cd dp f_dp b_dp on f_on om f_om b_om oo f_oo b_oo lw f_lw b_lw hlx hro TK ZW ZK P1 G8 HA I sz
  · by_cases HB : ((S.2.1 22 ((dp : Int32).toNatClampNeg - 1)).toInt = 1 ∨ (S.2.1 22 ((dp : Int32).toNatClampNeg - 1)).toInt = 5 ∨ (S.2.1 22 ((dp : Int32).toNatClampNeg - 1)).toInt = 6) ∧ (((S.2.1 23 ((dp : Int32).toNatClampNeg - 1)).toInt = 0 ∧ g_co (T_kd tb tn) (T_vl tb tn) (t_ix tb tn (sa : Int32).toNatClampNeg) = true) ∨ (g_o (T_kd tb tn) (T_vl tb tn) 22 (t_ix tb tn (sa : Int32).toNatClampNeg) = true ∨ g_o (T_kd tb tn) (T_vl tb tn) 21 (t_ix tb tn (sa : Int32).toNatClampNeg) = true))
    · exact c_m_goesOn_B l g D o S tb tn S0 sg f_sg b_sg sa f_sa b_sa se f_se b_se sl f_sl b_sl fk f_fk b_fk va f_va b_va cd f_cd b_cd dp f_dp b_dp on f_on om f_om b_om oo f_oo b_oo lw f_lw b_lw hlx hro TK ZW ZK P1 G8 HA HB I sz
    · exact c_m_goesOn_C l g D o S tb tn S0 sg f_sg b_sg sa f_sa b_sa se f_se b_se sl f_sl b_sl fk f_fk b_fk va f_va b_va cd f_cd b_cd dp f_dp b_dp on f_on om f_om b_om oo f_oo b_oo lw f_lw b_lw hlx hro TK ZW ZK P1 G8 HA HB I sz
