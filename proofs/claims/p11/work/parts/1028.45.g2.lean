/-! goesOn: tests -/
set_option maxHeartbeats 8000000 in
set_option maxRecDepth 100000 in
theorem c_m_goesOn_B (l : Launch) (g : Nat → ClassId) (D : va_G) (o : Nat) (S : dg_S) (tb : Nat → Int32) (tn : Nat) (S0 : dg_S) (sg : Int32) (f_sg : S.1 0 3 = .int sg) (b_sg : 0 ≤ (sg).toInt ∧ (sg).toInt ≤ 3) (sa : Int32) (f_sa : S.1 0 4 = .int sa) (b_sa : 0 ≤ (sa).toInt ∧ (sa).toInt ≤ 1600) (se : Int32) (f_se : S.1 0 5 = .int se) (b_se : 0 ≤ (se).toInt ∧ (se).toInt ≤ 1600) (sl : Int32) (f_sl : S.1 0 2 = .int sl) (b_sl : 0 ≤ (sl).toInt ∧ (sl).toInt ≤ 1600) (fk : Int32) (f_fk : S.1 0 8 = .int fk) (b_fk : 0 ≤ (fk).toInt ∧ (fk).toInt ≤ 6) (va : Int32) (f_va : S.1 0 6 = .int va) (b_va : 0 ≤ (va).toInt ∧ (va).toInt ≤ 9999) (cd : Int32) (f_cd : S.1 0 34 = .int cd) (b_cd : 0 ≤ (cd).toInt ∧ (cd).toInt ≤ 1600) (dp : Int32) (f_dp : S.1 0 42 = .int dp) (b_dp : 0 ≤ (dp).toInt ∧ (dp).toInt ≤ 20) (on : Int32) (f_on : S.1 0 43 = .int on) (om : Int32) (f_om : S.1 0 45 = .int om) (b_om : 0 ≤ (om).toInt ∧ (om).toInt ≤ 500) (oo : Int32) (f_oo : S.1 0 46 = .int oo) (b_oo : 1 ≤ (oo).toInt ∧ (oo).toInt ≤ 1) (lw : Int32) (f_lw : S.1 0 36 = .int lw) (b_lw : 0 ≤ (lw).toInt ∧ (lw).toInt ≤ 2) (hlx : (sa).toInt ≤ (se).toInt ∧ (se).toInt ≤ (sl).toInt ∧ ((sg).toInt ≠ 0 → (sa).toInt + 1 ≤ (se).toInt)) (hro : (cd).toInt + (om).toInt + (dp).toInt ≤ (sa).toInt) (TK : TKM tb tn S) (ZW : ZWM S) (ZK : ZKM S) (P1 : P1M S) (G8 : G8M S0 S) (HnA : ¬ ((S.2.1 23 ((dp : Int32).toNatClampNeg - 1)).toInt < 2 ∧ (g_so (T_kd tb tn) (T_vl tb tn) (t_ix tb tn (sa : Int32).toNatClampNeg) = true ∨ g_po (T_kd tb tn) (T_vl tb tn) (t_ix tb tn (sa : Int32).toNatClampNeg) = true))) (HB : ((S.2.1 22 ((dp : Int32).toNatClampNeg - 1)).toInt = 1 ∨ (S.2.1 22 ((dp : Int32).toNatClampNeg - 1)).toInt = 5 ∨ (S.2.1 22 ((dp : Int32).toNatClampNeg - 1)).toInt = 6) ∧ (((S.2.1 23 ((dp : Int32).toNatClampNeg - 1)).toInt = 0 ∧ g_co (T_kd tb tn) (T_vl tb tn) (t_ix tb tn (sa : Int32).toNatClampNeg) = true) ∨ (g_o (T_kd tb tn) (T_vl tb tn) 22 (t_ix tb tn (sa : Int32).toNatClampNeg) = true ∨ g_o (T_kd tb tn) (T_vl tb tn) 21 (t_ix tb tn (sa : Int32).toNatClampNeg) = true))) (I : CM o S) (sz : Nat) : Met l yX12_goesOn (bw yX12_goesOn cX12_goesOn 5 (some .boolean)) ({ frames := 3, cells := 0, slots := 0, locals := 77 } : Room) (dk_Pc g D (dg_w g shM o rfM S) sz [.ref (o + 0)]) (va_Qi (fun (r : Int32) S' => CM o S' ∧ dg_sm shM [(0, 3), (0, 4), (0, 5), (0, 6), (0, 7), (0, 8), (0, 9), (0, 12), (0, 34), (0, 42), (0, 43), (0, 45), (0, 46)] [18, 19, 22, 23, 24, 27] S S' ∧ (0 ≤ (r).toInt ∧ (r).toInt ≤ 1) ∧ (∃ y9_3 y9_4 y9_5 y9_8 y9_34 y9_42 y9_45 y9_46 : Int32, S'.1 0 3 = .int y9_3 ∧ S'.1 0 4 = .int y9_4 ∧ S'.1 0 5 = .int y9_5 ∧ S'.1 0 8 = .int y9_8 ∧ S'.1 0 34 = .int y9_34 ∧ S'.1 0 42 = .int y9_42 ∧ S'.1 0 45 = .int y9_45 ∧ S'.1 0 46 = .int y9_46 ∧ (((y9_4).toInt ≤ (y9_5).toInt ∧ (y9_5).toInt ≤ (sl).toInt ∧ ((y9_3).toInt ≠ 0 → (y9_4).toInt + 1 ≤ (y9_5).toInt)) ∧ (sa).toInt ≤ (y9_4).toInt ∧ ((fk).toInt ≠ 0 → (y9_8).toInt ≠ 0) ∧ (((y9_8).toInt = 0 → (r).toInt = 1 → (sa).toInt + 1 ≤ (y9_4).toInt) ∧ ((y9_8).toInt = 0 → (y9_34).toInt + (y9_45).toInt + (y9_42).toInt ≤ (y9_4).toInt)))) ∧ (∀ k9 : Int32, S'.1 0 8 = .int k9 → k9.toInt = 0 → POM S') ∧ (GOK tb tn (lw).toInt S S' r) ∧ (GON tb tn (lw).toInt S S' r) ∧ TKM tb tn S' ∧ ZWM S' ∧ G8M S0 S' ∧ True) (dg_B g D shM o rfM) (dg_A o shM.length sz)) 0 0 (dg_A o shM.length sz) := by
  refine dg_met (cc := cX12_goesOn) (maxL := 5) (ret := (some .boolean)) (dk_dq rfl) rfl (Nat.le_of_ble_eq_true rfl) ?_
  intro p e s m args below meth c A hAe harg hx hb hr hml hts hown hlocks hin hP K hS hA1 hA ST hsz ls hl
  rw [← hAe]
  have F : CallFix p m c cX12_goesOn 5 s args (bw yX12_goesOn cX12_goesOn 5 (some .boolean)) RX12 := ⟨hx, hb, hml, hown, hts⟩
  have hl : lv_has ls 5 [(0, .ref (o + 0))] := hl
  have M_0 : dg_sm shM [(0, 3), (0, 4), (0, 5), (0, 6), (0, 7), (0, 8), (0, 9), (0, 12), (0, 34), (0, 42), (0, 43), (0, 45), (0, 46)] [18, 19, 22, 23, 24, 27] S S := dg_sm.rf
  obtain ⟨Q9, hQ9⟩ : ∃ Q : State → Prop, Q = MQ below (va_Qi (fun (r : Int32) S' => CM o S' ∧ dg_sm shM [(0, 3), (0, 4), (0, 5), (0, 6), (0, 7), (0, 8), (0, 9), (0, 12), (0, 34), (0, 42), (0, 43), (0, 45), (0, 46)] [18, 19, 22, 23, 24, 27] S S' ∧ (0 ≤ (r).toInt ∧ (r).toInt ≤ 1) ∧ (∃ y9_3 y9_4 y9_5 y9_8 y9_34 y9_42 y9_45 y9_46 : Int32, S'.1 0 3 = .int y9_3 ∧ S'.1 0 4 = .int y9_4 ∧ S'.1 0 5 = .int y9_5 ∧ S'.1 0 8 = .int y9_8 ∧ S'.1 0 34 = .int y9_34 ∧ S'.1 0 42 = .int y9_42 ∧ S'.1 0 45 = .int y9_45 ∧ S'.1 0 46 = .int y9_46 ∧ (((y9_4).toInt ≤ (y9_5).toInt ∧ (y9_5).toInt ≤ (sl).toInt ∧ ((y9_3).toInt ≠ 0 → (y9_4).toInt + 1 ≤ (y9_5).toInt)) ∧ (sa).toInt ≤ (y9_4).toInt ∧ ((fk).toInt ≠ 0 → (y9_8).toInt ≠ 0) ∧ (((y9_8).toInt = 0 → (r).toInt = 1 → (sa).toInt + 1 ≤ (y9_4).toInt) ∧ ((y9_8).toInt = 0 → (y9_34).toInt + (y9_45).toInt + (y9_42).toInt ≤ (y9_4).toInt)))) ∧ (∀ k9 : Int32, S'.1 0 8 = .int k9 → k9.toInt = 0 → POM S') ∧ (GOK tb tn (lw).toInt S S' r) ∧ (GON tb tn (lw).toInt S S' r) ∧ TKM tb tn S' ∧ ZWM S' ∧ G8M S0 S' ∧ True) (dg_B g D shM o rfM) A) args s 0 0 A := ⟨_, rfl⟩
  rw [← hQ9]
  obtain ⟨hlx_0, hlx_1, hlx_2⟩ := hlx
  have lxh_hlx_2 : m_hid ((sa).toInt ≤ (se).toInt ∧ (se).toInt ≤ (sl).toInt ∧ ((sg).toInt ≠ 0 → (sa).toInt + 1 ≤ (se).toInt)) := m_hid.mk ⟨hlx_0, hlx_1, hlx_2⟩
  have hdm_0 := PSM.dims P1 f_dp f_on f_om
  refine lv_aload_n hx hb dX12_goesOn_0 rfl (lv_at hl 0 rfl) ?_
  refine dg_callv hS hA1 hA (va_runV (As := []) (rest := []) F (c_m_lex l g D o S tb tn fk f_fk (by omega) sa f_sa (by omega) TK I s.heap.size) (cwV 0 hts (bw_V wB_310 wB_311 wB_312 wB_297 wB_309) rfl rfl rfl (by decide +kernel) ⟨Nat.le_of_ble_eq_true rfl, Nat.le_of_ble_eq_true rfl⟩) (dg_preV sM_0 rfl K ST hP hS hA1 hA) rfl rfl hl.1 rfl (lv_room (Nat.le_of_ble_eq_true rfl)) dX12_goesOn_1 ⟨Nat.le_of_ble_eq_true rfl, Nat.le_of_ble_eq_true rfl⟩) (fun S_2 hw_2 H locs hP hS => ?_)
  obtain ⟨I_2, m_2, w_2_0, -⟩ := hw_2
  have M_2 := dg_sm.tr M_0 m_2 (dk_dq rfl) (dk_dq rfl)
  obtain ⟨y_3, f_y_3, w_2_0⟩ := w_2_0
  have w_2_0 : ((fk).toInt ≠ 0 → (y_3).toInt = (fk).toInt) ∧ ((fk).toInt = 0 → ((y_3).toInt = 0 ↔ (T_kd tb tn (t_ix tb tn (sa : Int32).toNatClampNeg)).toInt ≠ 5)) := w_2_0
  obtain ⟨w_2_0_0, w_2_0_1⟩ := w_2_0
  have b_y_3 : 0 ≤ (y_3).toInt ∧ (y_3).toInt ≤ 6 := dg_I.intb (lo := 0) (hi := 6) I_2 sM_0 (by decide +kernel) f_y_3
  refine lv_aload_n hx hb dX12_goesOn_4 rfl (lv_at hl 0 rfl) ?_
  refine dg_get (C := RX12) (T := TX12) (N := 77) hx hb hts (fun w h => bw_mem (wU_X12 w h)) hown K hP sM_0 rfl 8 (dk_dq rfl) (hts _ (bw_mem wB_303)) (fun _ h9 => h9) (v := .int y_3) f_y_3 dX12_goesOn_5 ?_
  refine lv_if_le (tgt := 13) hx hb dX12_goesOn_8 (dk_dq rfl) (fun c_4 => ?_) (fun c_4 => ?_)
  · as_aux_lemma =>
      have jc_4 := dk_lec (k := 0) (by decide +kernel) c_4
      have w_2_0_0c : (fk).toInt = 0 := by omega
      clear w_2_0_0
      have w_2_0_1r := w_2_0_1 (by omega)
      clear w_2_0_1
      have hk5 := m_hid.mk (show (T_kd tb tn (t_ix tb tn (sa : Int32).toNatClampNeg)).toInt ≠ 5 from by omega)
      clear w_2_0_1r
      refine lv_aload_n hx hb dX12_goesOn_13 rfl (lv_at hl 0 rfl) ?_
      refine dg_get (C := RX12) (T := TX12) (N := 77) hx hb hts (fun w h => bw_mem (wU_X12 w h)) hown K hP sM_0 rfl 42 (dk_dq rfl) (hts _ (bw_mem wB_406)) (fun _ h9 => h9) (v := .int dp) ((m_2.1 0 42 _ sM_0 (dk_dq rfl)).trans f_dp) dX12_goesOn_14 ?_
      refine lv_iconst (v := 1) hx hb dX12_goesOn_17 (by decide +kernel) ?_
      refine lv_isub hx hb dX12_goesOn_18 ?_
      refine lv_topi (fun x_5 ex_5 => ?_)
      have jx_5 : (x_5).toInt = (dp).toInt - 1 := by rw [ex_5]; exact dk_subT2 rfl (by decide +kernel) (by omega)
      refine lv_istore_n (lv' := [(1, .int x_5), (0, .ref (o + 0))]) hx hb dX12_goesOn_19 rfl hl (dk_dq rfl) rfl (fun ls hl => ?_)
      refine lv_aload_n hx hb dX12_goesOn_20 rfl (lv_at hl 1 rfl) ?_
      refine dg_get (C := RX12) (T := TX12) (N := 77) hx hb hts (fun w h => bw_mem (wU_X12 w h)) hown K hP sM_0 rfl 37 (dk_dq rfl) (hts _ (bw_mem wB_416)) (fun _ h9 => h9) (v := .ref (o + 22)) (show S_2.1 0 37 = .ref (o + 22) from dg_I.rel (d := 22) I_2 sM_0 (by decide +kernel)) dX12_goesOn_21 ?_
      refine lv_iload_n hx hb dX12_goesOn_24 rfl (lv_at hl 0 rfl) ?_
      have hin_6 : vp_in x_5 20 := (dk_inv2 (by omega))
      refine dg_iald hx hb K hP sM_22 hin_6 dX12_goesOn_25 (fun x_7 ex_7 => ?_)
      have b_x_7 := dk_all_at (dg_I.row (lo := 0) (hi := 6) I_2 sM_22 (by decide +kernel)) hin_6 ex_7
      refine lv_istore_n (lv' := [(2, .int x_7), (1, .int x_5), (0, .ref (o + 0))]) hx hb dX12_goesOn_26 rfl hl (dk_dq rfl) rfl (fun ls hl => ?_)
      refine lv_iload_n hx hb dX12_goesOn_27 rfl (lv_at hl 0 rfl) ?_
      refine dg_calli hS hA1 hA (va_runS (As := [.int x_7]) (rest := []) F (c_m_isTest l g D o S_2 x_7 I_2 H.size) (va_cwS 1 hts (bw_S wB_424 wB_425 wB_297 wB_423) rfl rfl rfl (by decide +kernel) ⟨Nat.le_of_ble_eq_true rfl, Nat.le_of_ble_eq_true rfl⟩) (dg_preS K ST hP hS hA1 hA) rfl rfl hl.1 rfl (lv_room (Nat.le_of_ble_eq_true rfl)) dX12_goesOn_28 ⟨Nat.le_of_ble_eq_true rfl, Nat.le_of_ble_eq_true rfl⟩) (fun x_8 S_9 hw_9 H locs hP hS => ?_)
      rw [hw_9.1] at hP
      obtain ⟨hq_9, w_9_0, w_9_1, -⟩ := hw_9
      have w_9_0 : 0 ≤ (x_8).toInt ∧ (x_8).toInt ≤ 1 := w_9_0
      have w_9_1 : (x_8).toInt = 1 ↔ ((x_7).toInt = 1 ∨ (x_7).toInt = 5 ∨ (x_7).toInt = 6) := w_9_1
      refine lv_istore_n (lv' := [(3, .int x_8), (2, .int x_7), (1, .int x_5), (0, .ref (o + 0))]) hx hb dX12_goesOn_31 rfl hl (dk_dq rfl) rfl (fun ls hl => ?_)
      refine lv_aload_n hx hb dX12_goesOn_32 rfl (lv_at hl 3 rfl) ?_
      refine dg_get (C := RX12) (T := TX12) (N := 77) hx hb hts (fun w h => bw_mem (wU_X12 w h)) hown K hP sM_0 rfl 38 (dk_dq rfl) (hts _ (bw_mem wB_417)) (fun _ h9 => h9) (v := .ref (o + 23)) (show S_2.1 0 38 = .ref (o + 23) from dg_I.rel (d := 23) I_2 sM_0 (by decide +kernel)) dX12_goesOn_33 ?_
      refine lv_iload_n hx hb dX12_goesOn_36 rfl (lv_at hl 2 rfl) ?_
      have hin_10 : vp_in x_5 20 := (dk_inv2 (by omega))
      refine dg_iald hx hb K hP sM_23 hin_10 dX12_goesOn_37 (fun x_11 ex_11 => ?_)
      have b_x_11 := dk_all_at (dg_I.row (lo := 0) (hi := 2) I_2 sM_23 (by decide +kernel)) hin_10 ex_11
      obtain ⟨nt0, R0, TF0⟩ := TFM.start (P1M.keep P1 m_2 (dk_dq rfl) (dk_dq rfl) (dk_dq rfl) (dk_dq rfl) (dk_dq rfl) (dk_dq rfl) (dk_dq rfl) (dk_dq rfl) (dk_dq rfl) (dk_dq rfl) (dk_dq rfl) (dk_dq rfl) (dk_dq rfl) (dk_dq rfl) (dk_dq rfl)) ((m_2.1 0 42 _ sM_0 (dk_dq rfl)).trans f_dp) ((m_2.1 0 43 _ sM_0 (dk_dq rfl)).trans f_on) ((m_2.1 0 45 _ sM_0 (dk_dq rfl)).trans f_om) (fx := x_5) (by omega) ex_7.symm ex_11.symm
      obtain ⟨bg0, hbg0⟩ : ∃ b, b = decide ((S_2.2.1 24 (x_5 : Int32).toNatClampNeg).toInt = 1) := ⟨_, rfl⟩
      rw [← hbg0] at TF0
      clear hbg0
      have hM0 : MSv S (t_ix tb tn (sa : Int32).toNatClampNeg) true = (0, ((x_7).toInt, (x_11).toInt, bg0, nt0) :: R0, (on).toNatClampNeg, (t_ix tb tn (sa : Int32).toNatClampNeg), true) := (MSv.keep m_2 (dk_dq rfl) (dk_dq rfl) (dk_dq rfl) (dk_dq rfl) (dk_dq rfl) (dk_dq rfl) (dk_dq rfl) (dk_dq rfl)).trans TF0.ms
      replace w_9_1 := m_hid.mk w_9_1
      have hpv9 : (S.2.1 23 ((dp : Int32).toNatClampNeg - 1)).toInt = (x_11).toInt := by rw [show (dp : Int32).toNatClampNeg - 1 = (x_5 : Int32).toNatClampNeg from by have h8 := dk_clN dp; have h9 := dk_clN x_5; omega]; exact congrArg Int32.toInt ((congrFun (m_2.2 23 _ sM_23 (dk_dq rfl)).1 _).symm.trans ex_11.symm)
      have hfv9 : (S.2.1 22 ((dp : Int32).toNatClampNeg - 1)).toInt = (x_7).toInt := by rw [show (dp : Int32).toNatClampNeg - 1 = (x_5 : Int32).toNatClampNeg from by have h8 := dk_clN dp; have h9 := dk_clN x_5; omega]; exact congrArg Int32.toInt ((congrFun (m_2.2 22 _ sM_22 (dk_dq rfl)).1 _).symm.trans ex_7.symm)
      obtain ⟨l0, p0, X0, XF0⟩ := XFM.start TF0 ((m_2.1 0 42 _ sM_0 (dk_dq rfl)).trans f_dp) ((m_2.1 0 43 _ sM_0 (dk_dq rfl)).trans f_on) ((m_2.1 0 45 _ sM_0 (dk_dq rfl)).trans f_om)
      have hcn0 : m_hid (n_cn l0 = nt0) := m_hid.mk (XFM.cn XF0 TF0 ((m_2.1 0 42 _ sM_0 (dk_dq rfl)).trans f_dp) ((m_2.1 0 43 _ sM_0 (dk_dq rfl)).trans f_on) ((m_2.1 0 45 _ sM_0 (dk_dq rfl)).trans f_om))
      have hN0 : ∀ out, NSv S (t_ix tb tn (sa : Int32).toNatClampNeg) true out = (0, ((x_7).toInt, (x_11).toInt, bg0, l0, n_np (x_7).toInt p0) :: n_Z R0 X0, (on).toNatClampNeg, (t_ix tb tn (sa : Int32).toNatClampNeg), true, out) := fun out => (NSv.keep m_2 (dk_dq rfl) (dk_dq rfl) (dk_dq rfl) (dk_dq rfl) (dk_dq rfl) (dk_dq rfl) (dk_dq rfl) (dk_dq rfl) (dk_dq rfl)).trans (NSv.ms TF0 XF0)
      as_aux_lemma =>
        refine lv_iconst (v := 2) hx hb dX12_goesOn_38 (by decide +kernel) ?_
        have J_192 : ∀ (u9 : Unit), (m_hid ((x_11).toInt < 2 → g_so (T_kd tb tn) (T_vl tb tn) (t_ix tb tn (sa : Int32).toNatClampNeg) = false ∧ g_po (T_kd tb tn) (T_vl tb tn) (t_ix tb tn (sa : Int32).toNatClampNeg) = false)) → ∀ (H : Heap) (locs : List Loc), va_P D vwCl (dg_w g shM o rfM S_2) H → va_S A s.heap H locs → ∀ ls : Array Slot, lv_has ls 5 [(3, .int x_8), (2, .int x_7), (1, .int x_5), (0, .ref (o + 0))] → W p l e ({ frames := 3, cells := 0, slots := 0, locals := 77 } : Room) s m args below meth c H locs 0 0 Q9 (F0 m 188 ls []) := by
          as_aux_lemma =>
            intro u9 rel_0 H locs hP hS ls hl
            have hnop := rel_0
            refine lv_iload_n hx hb dX12_goesOn_188 rfl (lv_at hl 0 rfl) ?_
            have J_352 : ∀ (u9 : Unit), (m_hid ((x_8).toInt = 1 → (x_11).toInt = 0 → g_co (T_kd tb tn) (T_vl tb tn) (t_ix tb tn (sa : Int32).toNatClampNeg) = false)) → ∀ (H : Heap) (locs : List Loc), va_P D vwCl (dg_w g shM o rfM S_2) H → va_S A s.heap H locs → ∀ ls : Array Slot, lv_has ls 5 [(3, .int x_8), (2, .int x_7), (1, .int x_5), (0, .ref (o + 0))] → W p l e ({ frames := 3, cells := 0, slots := 0, locals := 77 } : Room) s m args below meth c H locs 0 0 Q9 (F0 m 285 ls []) := by
              as_aux_lemma =>
                intro u9 rel_0 H locs hP hS ls hl
                have hnco := rel_0
                refine lv_iload_n hx hb dX12_goesOn_285 rfl (lv_at hl 0 rfl) ?_
                have J_456 : ∀ (u9 : Unit), (m_hid ((x_8).toInt = 1 → g_o (T_kd tb tn) (T_vl tb tn) 22 (t_ix tb tn (sa : Int32).toNatClampNeg) = false ∧ g_o (T_kd tb tn) (T_vl tb tn) 21 (t_ix tb tn (sa : Int32).toNatClampNeg) = false)) → ∀ (H : Heap) (locs : List Loc), va_P D vwCl (dg_w g shM o rfM S_2) H → va_S A s.heap H locs → ∀ ls : Array Slot, lv_has ls 5 [(3, .int x_8), (2, .int x_7), (1, .int x_5), (0, .ref (o + 0))] → W p l e ({ frames := 3, cells := 0, slots := 0, locals := 77 } : Room) s m args below meth c H locs 0 0 Q9 (F0 m 400 ls []) := by
                  intro u9 rel_0 H locs hP hS ls hl
                  have hnao := rel_0
                  have hts9 : (x_8).toInt = 1 := w_9_1.out.mpr (by have h9 := HB.1; omega)
                  exact (by rcases HB.2 with ⟨q8, q9⟩ | q9 | q9; exact absurd (q9.symm.trans (hnco.out hts9 (by omega))) (dk_dq rfl); exact absurd (q9.symm.trans (hnao.out hts9).1) (dk_dq rfl); exact absurd (q9.symm.trans (hnao.out hts9).2) (dk_dq rfl) : False).elim
                refine lv_if_eq (tgt := 400) hx hb dX12_goesOn_286 (dk_dq rfl) (fun c_457 => ?_) (fun c_457 => ?_)
                · have jc_457 := dk_eqc (k := 0) (by decide +kernel) c_457
                  clear w_9_1
                  exact J_456 ()  (m_hid.mk (fun q9 => by exfalso; omega)) _ _ hP hS _ (lv_sub hl [0, 1, 2, 3] rfl)
                · as_aux_lemma =>
                    have jc_457 := dk_neqc (k := 0) (by decide +kernel) c_457
                    have jbc_457 : 1 ≤ (x_8).toInt := by omega
                    clear jc_457
                    have hts1 := m_hid.mk (w_9_1.out.mp (by omega))
                    clear w_9_1
                    refine lv_aload_n hx hb dX12_goesOn_289 rfl (lv_at hl 3 rfl) ?_
                    refine lv_ldc2 hx hb hown (hts _ (bw_mem wB_347)) dX12_goesOn_290 ?_
                    refine dg_calli hS hA1 hA (va_runV (As := [.long 6385252]) (rest := []) F (c_m_isWord l g D o S_2 6385252 sg ((m_2.1 0 3 _ sM_0 (dk_dq rfl)).trans f_sg) (by omega) I_2 H.size) (cwV 1 hts (bw_V wB_322 wB_323 wB_324 wB_297 wB_321) rfl rfl rfl (by decide +kernel) ⟨Nat.le_of_ble_eq_true rfl, Nat.le_of_ble_eq_true rfl⟩) (dg_preV sM_0 rfl K ST hP hS hA1 hA) rfl rfl hl.1 rfl (lv_room (Nat.le_of_ble_eq_true rfl)) dX12_goesOn_293 ⟨Nat.le_of_ble_eq_true rfl, Nat.le_of_ble_eq_true rfl⟩) (fun x_458 S_459 hw_459 H locs hP hS => ?_)
                    rw [hw_459.1] at hP
                    obtain ⟨hq_459, w_459_0, w_459_1, -⟩ := hw_459
                    try rw [hq_459] at w_459_1
                    have w_459_0 : 0 ≤ (x_458).toInt ∧ (x_458).toInt ≤ 1 := w_459_0
                    replace w_459_1 : ∀ w9 : Int64, S_2.1 0 7 = .long w9 → ((x_458).toInt = 1 ↔ ((sg).toInt = 1 ∧ w9.toInt = ((6385252 : Int64)).toInt)) := w_459_1
                    have J_560 : ∀ (u9 : Unit), ((sg).toInt = 1) → (m_hid (g_o (T_kd tb tn) (T_vl tb tn) 22 (t_ix tb tn (sa : Int32).toNatClampNeg) = true ∨ g_o (T_kd tb tn) (T_vl tb tn) 21 (t_ix tb tn (sa : Int32).toNatClampNeg) = true)) → ∀ (H : Heap) (locs : List Loc), va_P D vwCl (dg_w g shM o rfM S_2) H → va_S A s.heap H locs → ∀ ls : Array Slot, lv_has ls 5 [(3, .int x_8), (2, .int x_7), (1, .int x_5), (0, .ref (o + 0))] → W p l e ({ frames := 3, cells := 0, slots := 0, locals := 77 } : Room) s m args below meth c H locs 0 0 Q9 (F0 m 309 ls []) := by
                      as_aux_lemma =>
                        intro u9 rel_0 rel_1 H locs hP hS ls hl
                        clear w_459_1
                        have hwd := rel_1
                        refine lv_aload_n hx hb dX12_goesOn_309 rfl (lv_at hl 3 rfl) ?_
                        refine dg_get (C := RX12) (T := TX12) (N := 77) hx hb hts (fun w h => bw_mem (wU_X12 w h)) hown K hP sM_0 rfl 38 (dk_dq rfl) (hts _ (bw_mem wB_417)) (fun _ h9 => h9) (v := .ref (o + 23)) (show S_2.1 0 38 = .ref (o + 23) from dg_I.rel (d := 23) I_2 sM_0 (by decide +kernel)) dX12_goesOn_310 ?_
                        refine lv_iload_n hx hb dX12_goesOn_313 rfl (lv_at hl 2 rfl) ?_
                        have hin_561 : vp_in x_5 20 := (dk_inv2 (by omega))
                        refine dg_iald hx hb K hP sM_23 hin_561 dX12_goesOn_314 (fun y_562 ey_562 => ?_)
                        obtain rfl : x_11 = y_562 := (ey_562.trans ex_11.symm).symm
                        refine lv_if_ne (tgt := 327) hx hb dX12_goesOn_315 (dk_dq rfl) (fun c_563 => ?_) (fun c_563 => ?_)
                        · as_aux_lemma =>
                            have jc_563 := dk_neqc (k := 0) (by decide +kernel) c_563
                            have jbc_563 : 1 ≤ (x_11).toInt := by omega
                            clear jc_563
                            refine lv_aload_n hx hb dX12_goesOn_327 rfl (lv_at hl 3 rfl) ?_
                            refine dg_get (C := RX12) (T := TX12) (N := 77) hx hb hts (fun w h => bw_mem (wU_X12 w h)) hown K hP sM_0 rfl 8 (dk_dq rfl) (hts _ (bw_mem wB_303)) (fun _ h9 => h9) (v := .int y_3) f_y_3 dX12_goesOn_328 ?_
                            refine lv_if_le (tgt := 336) hx hb dX12_goesOn_331 (dk_dq rfl) (fun _ => ?_) (fun c => absurd (dk_lep (k := 0) (by decide +kernel) (by omega)) c)
                            refine lv_aload_n hx hb dX12_goesOn_336 rfl (lv_at hl 3 rfl) ?_
                            refine lv_ldc2 hx hb hown (hts _ (bw_mem wB_347)) dX12_goesOn_337 ?_
                            refine dg_calli hS hA1 hA (va_runV (As := [.long 6385252]) (rest := []) F (c_m_isWord l g D o S_2 6385252 sg ((m_2.1 0 3 _ sM_0 (dk_dq rfl)).trans f_sg) (by omega) I_2 H.size) (cwV 1 hts (bw_V wB_322 wB_323 wB_324 wB_297 wB_321) rfl rfl rfl (by decide +kernel) ⟨Nat.le_of_ble_eq_true rfl, Nat.le_of_ble_eq_true rfl⟩) (dg_preV sM_0 rfl K ST hP hS hA1 hA) rfl rfl hl.1 rfl (lv_room (Nat.le_of_ble_eq_true rfl)) dX12_goesOn_340 ⟨Nat.le_of_ble_eq_true rfl, Nat.le_of_ble_eq_true rfl⟩) (fun x_564 S_565 hw_565 H locs hP hS => ?_)
                            rw [hw_565.1] at hP
                            obtain ⟨hq_565, w_565_0, w_565_1, -⟩ := hw_565
                            try rw [hq_565] at w_565_1
                            have w_565_0 : 0 ≤ (x_564).toInt ∧ (x_564).toInt ≤ 1 := w_565_0
                            replace w_565_1 : ∀ w9 : Int64, S_2.1 0 7 = .long w9 → ((x_564).toInt = 1 ↔ ((sg).toInt = 1 ∧ w9.toInt = ((6385252 : Int64)).toInt)) := w_565_1
                            refine lv_istore (lv' := [(4, .int x_564), (3, .int x_8), (2, .int x_7), (1, .int x_5), (0, .ref (o + 0))]) hx hb dX12_goesOn_343 hl (dk_dq rfl) rfl (fun ls hl => ?_)
                            refine lv_aload_n hx hb dX12_goesOn_345 rfl (lv_at hl 4 rfl) ?_
                            refine lv_iload hx hb dX12_goesOn_346 (lv_at hl 0 rfl) ?_
                            refine lv_if_eq (tgt := 355) hx hb dX12_goesOn_348 (dk_dq rfl) (fun c_566 => ?_) (fun c_566 => ?_)
                            · as_aux_lemma =>
                                have jc_566 := dk_eqc (k := 0) (by decide +kernel) c_566
                                have qw_565_1 : g_o (T_kd tb tn) (T_vl tb tn) 22 (t_ix tb tn (sa : Int32).toNatClampNeg) = false := g_iff_f (TKM.isw (TKM.keep TK m_2 (dk_dq rfl) (dk_dq rfl) (dk_dq rfl) (dk_dq rfl) (dk_dq rfl) (dk_dq rfl) (dk_dq rfl) (dk_dq rfl)) ((m_2.1 0 3 _ sM_0 (dk_dq rfl)).trans f_sg) ((m_2.1 0 4 _ sM_0 (dk_dq rfl)).trans f_sa) hk5.out (j := 22) (C := 6385252) (dk_dq rfl) (by decide +kernel) w_565_1) (by omega)
                                clear w_565_1
                                refine lv_iconst (v := 1) hx hb dX12_goesOn_355 (by decide +kernel) ?_
                                have hz_567 : (1 : Int32).toInt = 1 := by decide +kernel
                                refine dg_callv hS hA1 hA (va_runV (As := [.int 1]) (rest := []) F (c_m_joins l g D o S_2 1 (by decide +kernel) S0 cd ((m_2.1 0 34 _ sM_0 (dk_dq rfl)).trans f_cd) (by omega) om ((m_2.1 0 45 _ sM_0 (dk_dq rfl)).trans f_om) (by omega) (by omega) (ZWM.keep ZW m_2 (dk_dq rfl) (dk_dq rfl) (dk_dq rfl) (dk_dq rfl)) (ZKM.keep ZK m_2 (dk_dq rfl) (dk_dq rfl)) (P1M.keep P1 m_2 (dk_dq rfl) (dk_dq rfl) (dk_dq rfl) (dk_dq rfl) (dk_dq rfl) (dk_dq rfl) (dk_dq rfl) (dk_dq rfl) (dk_dq rfl) (dk_dq rfl) (dk_dq rfl) (dk_dq rfl) (dk_dq rfl) (dk_dq rfl) (dk_dq rfl)) (G8M.keep G8 m_2 (dk_dq rfl) (dk_dq rfl) (dk_dq rfl)) I_2 H.size) (cwV 1 hts (bw_V wB_437 wB_438 wB_439 wB_297 wB_436) rfl rfl rfl (by decide +kernel) ⟨Nat.le_of_ble_eq_true rfl, Nat.le_of_ble_eq_true rfl⟩) (dg_preV sM_0 rfl K ST hP hS hA1 hA) rfl rfl hl.1 rfl (lv_room (Nat.le_of_ble_eq_true rfl)) dX12_goesOn_356 ⟨Nat.le_of_ble_eq_true rfl, Nat.le_of_ble_eq_true rfl⟩) (fun S_568 hw_568 H locs hP hS => ?_)
                                obtain ⟨I_568, m_568, w_568_0, w_568_1, w_568_2, w_568_3, w_568_4, w_568_5, w_568_6, -⟩ := hw_568
                                have M_568 := dg_sm.tr M_2 m_568 (dk_dq rfl) (dk_dq rfl)
                                have hz_569 : (1 : Int32).toInt = 1 := by decide +kernel
                                obtain ⟨y_570, y_571, f_y_570, f_y_571, w_568_0⟩ := w_568_0
                                have w_568_0 : (y_570).toInt + (y_571).toInt = (cd).toInt + (om).toInt := w_568_0
                                have b_y_570 : 0 ≤ (y_570).toInt ∧ (y_570).toInt ≤ 1600 := dg_I.intb (lo := 0) (hi := 1600) I_568 sM_0 (by decide +kernel) f_y_570
                                have b_y_571 : 0 ≤ (y_571).toInt ∧ (y_571).toInt ≤ 500 := dg_I.intb (lo := 0) (hi := 500) I_568 sM_0 (by decide +kernel) f_y_571
                                replace w_568_1 : TOPM S_568 (1 : Int32) := w_568_1
                                obtain ⟨x_572, f_x_572, b_x_572⟩ := dg_I.int (i := 0) (k := 43) (lo := (-2147483648)) (hi := 2147483647) I_568 sM_0 (by decide +kernel)
                                replace w_568_2 : JNM S_2 S_568 (1 : Int32) := w_568_2
                                have TF_568 : TFM (x_7).toInt (x_11).toInt bg0 0 R0 ((on).toNatClampNeg - nt0) S_568 := (TFM.join TF0 (P1M.keep P1 m_2 (dk_dq rfl) (dk_dq rfl) (dk_dq rfl) (dk_dq rfl) (dk_dq rfl) (dk_dq rfl) (dk_dq rfl) (dk_dq rfl) (dk_dq rfl) (dk_dq rfl) (dk_dq rfl) (dk_dq rfl) (dk_dq rfl) (dk_dq rfl) (dk_dq rfl)) ((m_2.1 0 42 _ sM_0 (dk_dq rfl)).trans f_dp) ((m_2.1 0 43 _ sM_0 (dk_dq rfl)).trans f_on) ((m_2.1 0 45 _ sM_0 (dk_dq rfl)).trans f_om) w_568_2 w_568_1 m_568 (dk_dq rfl) (dk_dq rfl) (dk_dq rfl) (dk_dq rfl) (dk_dq rfl) (dk_dq rfl)).2 (by decide +kernel) (by decide +kernel)
                                replace w_568_3 : JXM S_2 S_568 := w_568_3
                                have XJ_568 := XFM.join XF0 TF0 ((m_2.1 0 42 _ sM_0 (dk_dq rfl)).trans f_dp) ((m_2.1 0 43 _ sM_0 (dk_dq rfl)).trans f_on) ((m_2.1 0 45 _ sM_0 (dk_dq rfl)).trans f_om) w_568_2 w_568_3 w_568_1 m_568 (dk_dq rfl) (dk_dq rfl) (dk_dq rfl) (dk_dq rfl)
                                rw [show (1 : Int32).toInt = 1 from by decide +kernel] at XJ_568
                                rw [n_hi_1.1, n_hi_1.2] at XJ_568
                                have XF_568 : XFM [] p0 X0 S_568 := XJ_568.1
                                have qa_568 : q_am S S_568 ((l0).map d_st) := (q_am.fs XJ_568.2 (m_2.1 0 34 _ sM_0 (dk_dq rfl)) (m_2.1 0 35 _ sM_0 (dk_dq rfl)) (m_2.2 18 _ sM_18 (dk_dq rfl)).1 (m_2.2 19 _ sM_19 (dk_dq rfl)).1)
                                have hdm_572 := PSM.dims w_568_5 (((m_568.1 0 42 _ sM_0 (dk_dq rfl)).trans (m_2.1 0 42 _ sM_0 (dk_dq rfl))).trans f_dp) f_x_572 f_y_571
                                refine lv_aload_n hx hb dX12_goesOn_359 rfl (lv_at hl 4 rfl) ?_
                                refine lv_iload hx hb dX12_goesOn_360 (lv_at hl 0 rfl) ?_
                                refine lv_if_eq (tgt := 370) hx hb dX12_goesOn_362 (dk_dq rfl) (fun _ => ?_) (fun c => absurd (dk_eqp (k := 0) (by decide +kernel) (by omega)) c)
                                refine lv_bipush (v := 42) hx hb dX12_goesOn_370 (by decide +kernel) ?_
                                refine dg_callv hS hA1 hA (va_runV (As := [.int 42]) (rest := []) F (c_m_holdsBack l g D o S_568 42 y_571 f_y_571 (by omega) I_568 H.size) (cwV 1 hts (bw_V wB_427 wB_428 wB_429 wB_297 wB_426) rfl rfl rfl (by decide +kernel) ⟨Nat.le_of_ble_eq_true rfl, Nat.le_of_ble_eq_true rfl⟩) (dg_preV sM_0 rfl K ST hP hS hA1 hA) rfl rfl hl.1 rfl (lv_room (Nat.le_of_ble_eq_true rfl)) dX12_goesOn_372 ⟨Nat.le_of_ble_eq_true rfl, Nat.le_of_ble_eq_true rfl⟩) (fun S_574 hw_574 H locs hP hS => ?_)
                                obtain ⟨I_574, m_574, w_574_0, w_574_1, -⟩ := hw_574
                                have M_574 := dg_sm.tr M_568 m_574 (dk_dq rfl) (dk_dq rfl)
                                have hz_575 : (42 : Int32).toInt = 42 := by decide +kernel
                                obtain ⟨y_576, f_y_576, w_574_0⟩ := w_574_0
                                have w_574_0 : (y_576).toInt = (y_571).toInt + 1 := w_574_0
                                have b_y_576 : 0 ≤ (y_576).toInt ∧ (y_576).toInt ≤ 500 := dg_I.intb (lo := 0) (hi := 500) I_574 sM_0 (by decide +kernel) f_y_576
                                replace w_574_1 : HBM S_568 S_574 (42 : Int32) := w_574_1
                                have hz_577 : (42 : Int32).toInt = 42 := by decide +kernel
                                have XF_574 : XFM (42 :: []) p0 X0 S_574 := (by have h9 := XFM.hb XF_568 TF_568 (((m_568.1 0 42 _ sM_0 (dk_dq rfl)).trans (m_2.1 0 42 _ sM_0 (dk_dq rfl))).trans f_dp) f_x_572 f_y_571 (by omega) m_574 w_574_1; rw [show (42 : Int32).toInt = 42 from by decide +kernel] at h9; exact h9)
                                have hz_578 : (42 : Int32).toInt = 42 := by decide +kernel
                                have TF_574 : TFM (x_7).toInt (x_11).toInt bg0 0 R0 ((on).toNatClampNeg - nt0) S_574 := (by have h9 := TFM.hb TF_568 (((m_568.1 0 42 _ sM_0 (dk_dq rfl)).trans (m_2.1 0 42 _ sM_0 (dk_dq rfl))).trans f_dp) f_x_572 f_y_571 (by omega) m_574 w_574_1; rw [if_neg (by omega)] at h9; exact h9)
                                as_aux_lemma =>
                                  refine lv_aload_n hx hb dX12_goesOn_375 rfl (lv_at hl 4 rfl) ?_
                                  refine dg_get (C := RX12) (T := TX12) (N := 77) hx hb hts (fun w h => bw_mem (wU_X12 w h)) hown K hP sM_0 rfl 38 (dk_dq rfl) (hts _ (bw_mem wB_417)) (fun _ h9 => h9) (v := .ref (o + 23)) (show S_574.1 0 38 = .ref (o + 23) from dg_I.rel (d := 23) I_574 sM_0 (by decide +kernel)) dX12_goesOn_376 ?_
                                  refine lv_iload_n hx hb dX12_goesOn_379 rfl (lv_at hl 3 rfl) ?_
                                  refine lv_iconst (v := 0) hx hb dX12_goesOn_380 (by decide +kernel) ?_
                                  have hin_579 : vp_in x_5 20 := (dk_inv2 (by omega))
                                  have hz_581 : (0 : Int32).toInt = 0 := by decide +kernel
                                  refine dg_iast hx hb K hP hS hA1 sM_23 hin_579 dX12_goesOn_381 (fun S_580 e_580 H locs hP hS => ?_)
                                  have I_580 := dg_I.ufu (lo := 0) (hi := 2) I_574 e_580 sM_23 (by decide +kernel) (show 0 ≤ ((0 : Int32)).toInt ∧ ((0 : Int32)).toInt ≤ 2 from (by decide +kernel))
                                  have M_580 := dg_sm.uf M_574 e_580 sM_23 (dk_dq rfl)
                                  have hz_582 : (0 : Int32).toInt = 0 := by decide +kernel
                                  have hz_583 : (0 : Int32).toInt = 0 := by decide +kernel
                                  have TF_580 : TFM (x_7).toInt 0 bg0 0 R0 ((on).toNatClampNeg - nt0) S_580 := (by have h9 := (TFM.ph' TF_574 (((m_574.1 0 42 _ sM_0 (dk_dq rfl)).trans ((m_568.1 0 42 _ sM_0 (dk_dq rfl)).trans (m_2.1 0 42 _ sM_0 (dk_dq rfl)))).trans f_dp) ((m_574.1 0 43 _ sM_0 (dk_dq rfl)).trans f_x_572) f_y_576 (fx := x_5) (by omega) (by omega) e_580); rw [show (0 : Int32).toInt = 0 from by decide +kernel] at h9; exact h9)
                                  refine lv_aload_n hx hb dX12_goesOn_382 rfl (lv_at hl 4 rfl) ?_
                                  refine dg_get (C := RX12) (T := TX12) (N := 77) hx hb hts (fun w h => bw_mem (wU_X12 w h)) hown K hP sM_0 rfl 39 (dk_dq rfl) (hts _ (bw_mem wB_418)) (fun _ h9 => h9) (v := .ref (o + 24)) (show S_580.1 0 39 = .ref (o + 24) from dg_I.rel (d := 24) I_580 sM_0 (by decide +kernel)) dX12_goesOn_383 ?_
                                  refine lv_iload_n hx hb dX12_goesOn_386 rfl (lv_at hl 3 rfl) ?_
                                  refine lv_iconst (v := 1) hx hb dX12_goesOn_387 (by decide +kernel) ?_
                                  have hin_584 : vp_in x_5 20 := (dk_inv2 (by omega))
                                  have hz_586 : (1 : Int32).toInt = 1 := by decide +kernel
                                  refine dg_zast hx hb K hP hS hA1 sM_24 hin_584 (by decide +kernel) dX12_goesOn_388 (fun S_585 e_585 H locs hP hS => ?_)
                                  have I_585 := dg_I.ufu (lo := 0) (hi := 1) I_580 e_585 sM_24 (by decide +kernel) (show 0 ≤ ((1 : Int32)).toInt ∧ ((1 : Int32)).toInt ≤ 1 from (by decide +kernel))
                                  have M_585 := dg_sm.uf M_580 e_585 sM_24 (dk_dq rfl)
                                  have P0_585 : P0M S_585 := P1M.andor w_568_5 (((m_568.1 0 42 _ sM_0 (dk_dq rfl)).trans (m_2.1 0 42 _ sM_0 (dk_dq rfl))).trans f_dp) f_x_572 f_y_571 w_568_1 m_574 w_574_1 (by omega) (fx := x_5) (by omega) e_580 e_585
                                  have hz_587 : (1 : Int32).toInt = 1 := by decide +kernel
                                  have TF_585 : TFM (x_7).toInt 0 true 0 R0 ((on).toNatClampNeg - nt0) S_585 := (by have h9 := (TFM.bg' TF_580 (((dg_uf_F e_580 0 42).trans ((m_574.1 0 42 _ sM_0 (dk_dq rfl)).trans ((m_568.1 0 42 _ sM_0 (dk_dq rfl)).trans (m_2.1 0 42 _ sM_0 (dk_dq rfl))))).trans f_dp) (((dg_uf_F e_580 0 43).trans (m_574.1 0 43 _ sM_0 (dk_dq rfl))).trans f_x_572) ((dg_uf_F e_580 0 45).trans f_y_576) (fx := x_5) (by omega) (by omega) e_585); rw [show decide ((1 : Int32).toInt = 1) = true from by decide +kernel] at h9; exact h9)
                                  refine lv_aload_n hx hb dX12_goesOn_389 rfl (lv_at hl 4 rfl) ?_
                                  refine dg_callv hS hA1 hA (va_runV (As := []) (rest := []) F (c_m_ahead l g D o S_585 tb tn se (((dg_uf_F e_585 0 5).trans ((dg_uf_F e_580 0 5).trans ((m_574.1 0 5 _ sM_0 (dk_dq rfl)).trans ((m_568.1 0 5 _ sM_0 (dk_dq rfl)).trans (m_2.1 0 5 _ sM_0 (dk_dq rfl)))))).trans f_se) (by omega) sl (((dg_uf_F e_585 0 2).trans ((dg_uf_F e_580 0 2).trans ((m_574.1 0 2 _ sM_0 (dk_dq rfl)).trans ((m_568.1 0 2 _ sM_0 (dk_dq rfl)).trans (m_2.1 0 2 _ sM_0 (dk_dq rfl)))))).trans f_sl) (by omega) (by omega) (TKM.keep (TKM.keep (TKM.keep (TKM.keep (TKM.keep TK m_2 (dk_dq rfl) (dk_dq rfl) (dk_dq rfl) (dk_dq rfl) (dk_dq rfl) (dk_dq rfl) (dk_dq rfl) (dk_dq rfl)) m_568 (dk_dq rfl) (dk_dq rfl) (dk_dq rfl) (dk_dq rfl) (dk_dq rfl) (dk_dq rfl) (dk_dq rfl) (dk_dq rfl)) m_574 (dk_dq rfl) (dk_dq rfl) (dk_dq rfl) (dk_dq rfl) (dk_dq rfl) (dk_dq rfl) (dk_dq rfl) (dk_dq rfl)) (dg_sm.uf (WF := []) (WA := [23]) dg_sm.rf e_580 sM_23 (dk_dq rfl)) (dk_dq rfl) (dk_dq rfl) (dk_dq rfl) (dk_dq rfl) (dk_dq rfl) (dk_dq rfl) (dk_dq rfl) (dk_dq rfl)) (dg_sm.uf (WF := []) (WA := [24]) dg_sm.rf e_585 sM_24 (dk_dq rfl)) (dk_dq rfl) (dk_dq rfl) (dk_dq rfl) (dk_dq rfl) (dk_dq rfl) (dk_dq rfl) (dk_dq rfl) (dk_dq rfl)).1 I_585 H.size) (cwV 0 hts (bw_V wB_318 wB_319 wB_320 wB_297 wB_317) rfl rfl rfl (by decide +kernel) ⟨Nat.le_of_ble_eq_true rfl, Nat.le_of_ble_eq_true rfl⟩) (dg_preV sM_0 rfl K ST hP hS hA1 hA) rfl rfl hl.1 rfl (lv_room (Nat.le_of_ble_eq_true rfl)) dX12_goesOn_390 ⟨Nat.le_of_ble_eq_true rfl, Nat.le_of_ble_eq_true rfl⟩) (fun S_588 hw_588 H locs hP hS => ?_)
                                  obtain ⟨I_588, m_588, w_588_0, w_588_1, -⟩ := hw_588
                                  have M_588 := dg_sm.tr M_585 m_588 (dk_dq rfl) (dk_dq rfl)
                                  obtain ⟨y_589, y_590, y_591, f_y_589, f_y_590, f_y_591, w_588_0⟩ := w_588_0
                                  have w_588_0 : (se).toInt ≤ (y_590).toInt ∧ (y_590).toInt ≤ (y_591).toInt ∧ (y_591).toInt ≤ (sl).toInt ∧ ((y_589).toInt ≠ 0 → (y_590).toInt + 1 ≤ (y_591).toInt) := w_588_0
                                  obtain ⟨w_588_0_0, w_588_0_1, w_588_0_2, w_588_0_3⟩ := w_588_0
                                  have lxh_w_588_0_3 : m_hid ((y_590).toInt ≤ (y_591).toInt ∧ (y_591).toInt ≤ (sl).toInt ∧ ((y_589).toInt ≠ 0 → (y_590).toInt + 1 ≤ (y_591).toInt)) := m_hid.mk ⟨w_588_0_1, w_588_0_2, w_588_0_3⟩
                                  have b_y_589 : 0 ≤ (y_589).toInt ∧ (y_589).toInt ≤ 3 := dg_I.intb (lo := 0) (hi := 3) I_588 sM_0 (by decide +kernel) f_y_589
                                  have b_y_590 : 0 ≤ (y_590).toInt ∧ (y_590).toInt ≤ 1600 := dg_I.intb (lo := 0) (hi := 1600) I_588 sM_0 (by decide +kernel) f_y_590
                                  have b_y_591 : 0 ≤ (y_591).toInt ∧ (y_591).toInt ≤ 1600 := dg_I.intb (lo := 0) (hi := 1600) I_588 sM_0 (by decide +kernel) f_y_591
                                  replace w_588_1 : TNX tb tn se S_588 := w_588_1
                                  obtain ⟨TK_588, nx_588, -⟩ := TKM.nx (TKM.keep (TKM.keep (TKM.keep (TKM.keep (TKM.keep TK m_2 (dk_dq rfl) (dk_dq rfl) (dk_dq rfl) (dk_dq rfl) (dk_dq rfl) (dk_dq rfl) (dk_dq rfl) (dk_dq rfl)) m_568 (dk_dq rfl) (dk_dq rfl) (dk_dq rfl) (dk_dq rfl) (dk_dq rfl) (dk_dq rfl) (dk_dq rfl) (dk_dq rfl)) m_574 (dk_dq rfl) (dk_dq rfl) (dk_dq rfl) (dk_dq rfl) (dk_dq rfl) (dk_dq rfl) (dk_dq rfl) (dk_dq rfl)) (dg_sm.uf (WF := []) (WA := [23]) dg_sm.rf e_580 sM_23 (dk_dq rfl)) (dk_dq rfl) (dk_dq rfl) (dk_dq rfl) (dk_dq rfl) (dk_dq rfl) (dk_dq rfl) (dk_dq rfl) (dk_dq rfl)) (dg_sm.uf (WF := []) (WA := [24]) dg_sm.rf e_585 sM_24 (dk_dq rfl)) (dk_dq rfl) (dk_dq rfl) (dk_dq rfl) (dk_dq rfl) (dk_dq rfl) (dk_dq rfl) (dk_dq rfl) (dk_dq rfl)) (((dg_uf_F e_585 0 4).trans ((dg_uf_F e_580 0 4).trans ((m_574.1 0 4 _ sM_0 (dk_dq rfl)).trans ((m_568.1 0 4 _ sM_0 (dk_dq rfl)).trans (m_2.1 0 4 _ sM_0 (dk_dq rfl)))))).trans f_sa) (((dg_uf_F e_585 0 5).trans ((dg_uf_F e_580 0 5).trans ((m_574.1 0 5 _ sM_0 (dk_dq rfl)).trans ((m_568.1 0 5 _ sM_0 (dk_dq rfl)).trans (m_2.1 0 5 _ sM_0 (dk_dq rfl)))))).trans f_se) w_588_1 m_588 (dk_dq rfl) (dk_dq rfl) f_y_590
                                  replace nx_588 := nx_588 (fun q9 => absurd ((TKM.zero (TKM.keep (TKM.keep (TKM.keep (TKM.keep (TKM.keep TK m_2 (dk_dq rfl) (dk_dq rfl) (dk_dq rfl) (dk_dq rfl) (dk_dq rfl) (dk_dq rfl) (dk_dq rfl) (dk_dq rfl)) m_568 (dk_dq rfl) (dk_dq rfl) (dk_dq rfl) (dk_dq rfl) (dk_dq rfl) (dk_dq rfl) (dk_dq rfl) (dk_dq rfl)) m_574 (dk_dq rfl) (dk_dq rfl) (dk_dq rfl) (dk_dq rfl) (dk_dq rfl) (dk_dq rfl) (dk_dq rfl) (dk_dq rfl)) (dg_sm.uf (WF := []) (WA := [23]) dg_sm.rf e_580 sM_23 (dk_dq rfl)) (dk_dq rfl) (dk_dq rfl) (dk_dq rfl) (dk_dq rfl) (dk_dq rfl) (dk_dq rfl) (dk_dq rfl) (dk_dq rfl)) (dg_sm.uf (WF := []) (WA := [24]) dg_sm.rf e_585 sM_24 (dk_dq rfl)) (dk_dq rfl) (dk_dq rfl) (dk_dq rfl) (dk_dq rfl) (dk_dq rfl) (dk_dq rfl) (dk_dq rfl) (dk_dq rfl)) (((dg_uf_F e_585 0 3).trans ((dg_uf_F e_580 0 3).trans ((m_574.1 0 3 _ sM_0 (dk_dq rfl)).trans ((m_568.1 0 3 _ sM_0 (dk_dq rfl)).trans (m_2.1 0 3 _ sM_0 (dk_dq rfl)))))).trans f_sg) (((dg_uf_F e_585 0 4).trans ((dg_uf_F e_580 0 4).trans ((m_574.1 0 4 _ sM_0 (dk_dq rfl)).trans ((m_568.1 0 4 _ sM_0 (dk_dq rfl)).trans (m_2.1 0 4 _ sM_0 (dk_dq rfl)))))).trans f_sa)).mpr q9) (by omega))
                                  refine lv_aload_n hx hb dX12_goesOn_393 rfl (lv_at hl 4 rfl) ?_
                                  refine lv_iconst (v := 0) hx hb dX12_goesOn_394 (by decide +kernel) ?_
                                  have hz_592 : (0 : Int32).toInt = 0 := by decide +kernel
                                  as_aux_lemma =>
                                    refine dg_put (ci := 12) (v := .int 0) (ty := tyX12 46) (C := RX12) (T := TX12) (N := 77) hx hb hts (fun w h => bw_mem (wU_X12 w h)) tyX12 tyX12_ok nmX12 hown K hP hS hA1 sM_0 rfl 46 (dk_dq rfl) (hts _ (bw_mem wB_440)) (fun _ h9 => h9) rfl (by decide +kernel) (by decide +kernel) (by decide +kernel) dX12_goesOn_395 (fun S_593 e_593 H locs hP hS => ?_)
                                    have I_593 := dg_I.uFi (lo := 0) (hi := 1) I_588 e_593 sM_0 (by decide +kernel) (show 0 ≤ ((0 : Int32)).toInt ∧ ((0 : Int32)).toInt ≤ 1 from (by decide +kernel))
                                    have M_593 := dg_sm.uF M_588 e_593 sM_0 (dk_dq rfl)
                                    refine lv_iconst (v := 1) hx hb dX12_goesOn_398 (by decide +kernel) ?_
                                    have hz_594 : (1 : Int32).toInt = 1 := by decide +kernel
                                    have hz_595 : (1 : Int32).toInt = 1 := by decide +kernel
                                    have hz_596 : (0 : Int32).toInt = 0 := by decide +kernel
                                    have hz_597 : (1 : Int32).toInt = 1 := by decide +kernel
                                    have hz_598 : (0 : Int32).toInt = 0 := by decide +kernel
                                    have hz_599 : (1 : Int32).toInt = 1 := by decide +kernel
                                    have hz_600 : (1 : Int32).toInt = 1 := by decide +kernel
                                    have hz_601 : (0 : Int32).toInt = 0 := by decide +kernel
                                    have hz_602 : (1 : Int32).toInt = 1 := by decide +kernel
                                    have hz_603 : (1 : Int32).toInt = 1 := by decide +kernel
                                    have hz_604 : (0 : Int32).toInt = 0 := by decide +kernel
                                    refine W.widen (k := 0) (n := 0) (Nat.le_of_ble_eq_true rfl) (Nat.le_of_ble_eq_true rfl) ?_
                                    rw [hQ9]
                                    exact dg_iret hx hb hr hlocks (by decide +kernel) hP hS ⟨I_593, M_593, (by decide +kernel), ⟨y_589, y_590, y_591, y_3, y_570, dp, y_576, 0, ((dg_uF_ne e_593 (fun z => absurd z.2 (dk_dq rfl))).trans f_y_589), ((dg_uF_ne e_593 (fun z => absurd z.2 (dk_dq rfl))).trans f_y_590), ((dg_uF_ne e_593 (fun z => absurd z.2 (dk_dq rfl))).trans f_y_591), (((dg_uF_ne e_593 (fun z => absurd z.2 (dk_dq rfl))).trans ((m_588.1 0 8 _ sM_0 (dk_dq rfl)).trans ((dg_uf_F e_585 0 8).trans ((dg_uf_F e_580 0 8).trans ((m_574.1 0 8 _ sM_0 (dk_dq rfl)).trans (m_568.1 0 8 _ sM_0 (dk_dq rfl))))))).trans f_y_3), (((dg_uF_ne e_593 (fun z => absurd z.2 (dk_dq rfl))).trans ((m_588.1 0 34 _ sM_0 (dk_dq rfl)).trans ((dg_uf_F e_585 0 34).trans ((dg_uf_F e_580 0 34).trans (m_574.1 0 34 _ sM_0 (dk_dq rfl)))))).trans f_y_570), (((dg_uF_ne e_593 (fun z => absurd z.2 (dk_dq rfl))).trans ((m_588.1 0 42 _ sM_0 (dk_dq rfl)).trans ((dg_uf_F e_585 0 42).trans ((dg_uf_F e_580 0 42).trans ((m_574.1 0 42 _ sM_0 (dk_dq rfl)).trans ((m_568.1 0 42 _ sM_0 (dk_dq rfl)).trans (m_2.1 0 42 _ sM_0 (dk_dq rfl)))))))).trans f_dp), (((dg_uF_ne e_593 (fun z => absurd z.2 (dk_dq rfl))).trans ((m_588.1 0 45 _ sM_0 (dk_dq rfl)).trans ((dg_uf_F e_585 0 45).trans (dg_uf_F e_580 0 45)))).trans f_y_576), (dg_uF_at e_593), ⟨lxh_w_588_0_3.out, (by omega)⟩⟩, (fun k9 hk9 hk0 => POM.mk0 (P0M.keep (P0M.keep P0_585 m_588 (dk_dq rfl) (dk_dq rfl) (dk_dq rfl) (dk_dq rfl) (dk_dq rfl) (dk_dq rfl) (dk_dq rfl) (dk_dq rfl) (dk_dq rfl) (dk_dq rfl) (dk_dq rfl) (dk_dq rfl) (dk_dq rfl) (dk_dq rfl) (dk_dq rfl)) (dg_sm.uF (WF := [(0, 46)]) (WA := []) dg_sm.rf e_593 sM_0 (dk_dq rfl)) (dk_dq rfl) (dk_dq rfl) (dk_dq rfl) (dk_dq rfl) (dk_dq rfl) (dk_dq rfl) (dk_dq rfl) (dk_dq rfl) (dk_dq rfl) (dk_dq rfl) (dk_dq rfl) (dk_dq rfl) (dk_dq rfl) (dk_dq rfl) (dk_dq rfl)) (dg_uF_at e_593) (by omega)), (GOK.ok f_sa (((dg_uF_ne e_593 (fun z => absurd z.2 (dk_dq rfl))).trans ((m_588.1 0 8 _ sM_0 (dk_dq rfl)).trans ((dg_uf_F e_585 0 8).trans ((dg_uf_F e_580 0 8).trans ((m_574.1 0 8 _ sM_0 (dk_dq rfl)).trans (m_568.1 0 8 _ sM_0 (dk_dq rfl))))))).trans f_y_3) ((dg_uF_ne e_593 (fun z => absurd z.2 (dk_dq rfl))).trans f_y_590) (dg_uF_at e_593) (by omega) hM0 (TFM.keep (TFM.keep TF_585 m_588 (dk_dq rfl) (dk_dq rfl) (dk_dq rfl) (dk_dq rfl) (dk_dq rfl) (dk_dq rfl) (dk_dq rfl) (dk_dq rfl)) (dg_sm.uF (WF := [(0, 46)]) (WA := []) dg_sm.rf e_593 sM_0 (dk_dq rfl)) (dk_dq rfl) (dk_dq rfl) (dk_dq rfl) (dk_dq rfl) (dk_dq rfl) (dk_dq rfl) (dk_dq rfl) (dk_dq rfl)) (m_st_t.trans (m_go_and (m_tst_iff.mpr hts1.out) hnop.out (by omega) hwd.out)) (by omega) (by decide +kernel) (by first | decide +kernel | exact decide_eq_true (by omega))), (GON.ok f_sa ((dg_uF_ne e_593 (fun z => absurd z.2 (dk_dq rfl))).trans f_y_590) (dg_uF_at e_593) hN0 (TFM.keep (TFM.keep TF_585 m_588 (dk_dq rfl) (dk_dq rfl) (dk_dq rfl) (dk_dq rfl) (dk_dq rfl) (dk_dq rfl) (dk_dq rfl) (dk_dq rfl)) (dg_sm.uF (WF := [(0, 46)]) (WA := []) dg_sm.rf e_593 sM_0 (dk_dq rfl)) (dk_dq rfl) (dk_dq rfl) (dk_dq rfl) (dk_dq rfl) (dk_dq rfl) (dk_dq rfl) (dk_dq rfl) (dk_dq rfl)) (XFM.keep (XFM.keep (XFM.keep (XFM.keep XF_574 (dg_sm.uf (WF := []) (WA := [23]) dg_sm.rf e_580 sM_23 (dk_dq rfl)) (dk_dq rfl) (dk_dq rfl) (dk_dq rfl) (dk_dq rfl) (dk_dq rfl)) (dg_sm.uf (WF := []) (WA := [24]) dg_sm.rf e_585 sM_24 (dk_dq rfl)) (dk_dq rfl) (dk_dq rfl) (dk_dq rfl) (dk_dq rfl) (dk_dq rfl)) m_588 (dk_dq rfl) (dk_dq rfl) (dk_dq rfl) (dk_dq rfl) (dk_dq rfl)) (dg_sm.uF (WF := [(0, 46)]) (WA := []) dg_sm.rf e_593 sM_0 (dk_dq rfl)) (dk_dq rfl) (dk_dq rfl) (dk_dq rfl) (dk_dq rfl) (dk_dq rfl)) (q_am.mv qa_568 ((dg_uF_ne e_593 (fun z => absurd z.2 (dk_dq rfl))).trans ((m_588.1 0 34 _ sM_0 (dk_dq rfl)).trans ((dg_uf_F e_585 0 34).trans ((dg_uf_F e_580 0 34).trans (m_574.1 0 34 _ sM_0 (dk_dq rfl)))))) ((dg_uF_ne e_593 (fun z => absurd z.2 (dk_dq rfl))).trans ((m_588.1 0 35 _ sM_0 (dk_dq rfl)).trans ((dg_uf_F e_585 0 35).trans ((dg_uf_F e_580 0 35).trans (m_574.1 0 35 _ sM_0 (dk_dq rfl)))))) ((dg_uF_f e_593 18).trans ((m_588.2 18 _ sM_18 (dk_dq rfl)).1.trans ((dg_uf_ne e_585 (dk_dq rfl)).trans ((dg_uf_ne e_580 (dk_dq rfl)).trans (m_574.2 18 _ sM_18 (dk_dq rfl)).1)))) ((dg_uF_f e_593 19).trans ((m_588.2 19 _ sM_19 (dk_dq rfl)).1.trans ((dg_uf_ne e_585 (dk_dq rfl)).trans ((dg_uf_ne e_580 (dk_dq rfl)).trans (m_574.2 19 _ sM_19 (dk_dq rfl)).1))))) (fun out => by rw [n_go_or (m_tst_iff.mpr hts1.out) hnop.out (by omega) (by rcases hwd.out with q9 | q9; exact absurd (qw_565_1.symm.trans q9) (dk_dq rfl); exact q9), n_hi_1.1, n_hi_1.2, hcn0.out]) (by omega) (by decide +kernel) (by first | decide +kernel | exact decide_eq_true (by omega))), (TKM.keep TK_588 (dg_sm.uF (WF := [(0, 46)]) (WA := []) dg_sm.rf e_593 sM_0 (dk_dq rfl)) (dk_dq rfl) (dk_dq rfl) (dk_dq rfl) (dk_dq rfl) (dk_dq rfl) (dk_dq rfl) (dk_dq rfl) (dk_dq rfl)), (ZWM.keep (ZWM.keep (ZWM.keep (ZWM.keep (ZWM.keep w_568_4 m_574 (dk_dq rfl) (dk_dq rfl) (dk_dq rfl) (dk_dq rfl)) (dg_sm.uf (WF := []) (WA := [23]) dg_sm.rf e_580 sM_23 (dk_dq rfl)) (dk_dq rfl) (dk_dq rfl) (dk_dq rfl) (dk_dq rfl)) (dg_sm.uf (WF := []) (WA := [24]) dg_sm.rf e_585 sM_24 (dk_dq rfl)) (dk_dq rfl) (dk_dq rfl) (dk_dq rfl) (dk_dq rfl)) m_588 (dk_dq rfl) (dk_dq rfl) (dk_dq rfl) (dk_dq rfl)) (dg_sm.uF (WF := [(0, 46)]) (WA := []) dg_sm.rf e_593 sM_0 (dk_dq rfl)) (dk_dq rfl) (dk_dq rfl) (dk_dq rfl) (dk_dq rfl)), (G8M.keep (G8M.keep (G8M.keep (G8M.keep (G8M.keep w_568_6 m_574 (dk_dq rfl) (dk_dq rfl) (dk_dq rfl)) (dg_sm.uf (WF := []) (WA := [23]) dg_sm.rf e_580 sM_23 (dk_dq rfl)) (dk_dq rfl) (dk_dq rfl) (dk_dq rfl)) (dg_sm.uf (WF := []) (WA := [24]) dg_sm.rf e_585 sM_24 (dk_dq rfl)) (dk_dq rfl) (dk_dq rfl) (dk_dq rfl)) m_588 (dk_dq rfl) (dk_dq rfl) (dk_dq rfl)) (dg_sm.uF (WF := [(0, 46)]) (WA := []) dg_sm.rf e_593 sM_0 (dk_dq rfl)) (dk_dq rfl) (dk_dq rfl) (dk_dq rfl)), trivial⟩ dX12_goesOn_399
                            · as_aux_lemma =>
                                have jc_566 := dk_neqc (k := 0) (by decide +kernel) c_566
                                have jbc_566 : 1 ≤ (x_564).toInt := by omega
                                clear jc_566
                                have qw_565_1 : g_o (T_kd tb tn) (T_vl tb tn) 22 (t_ix tb tn (sa : Int32).toNatClampNeg) = true := (TKM.isw (TKM.keep TK m_2 (dk_dq rfl) (dk_dq rfl) (dk_dq rfl) (dk_dq rfl) (dk_dq rfl) (dk_dq rfl) (dk_dq rfl) (dk_dq rfl)) ((m_2.1 0 3 _ sM_0 (dk_dq rfl)).trans f_sg) ((m_2.1 0 4 _ sM_0 (dk_dq rfl)).trans f_sa) hk5.out (j := 22) (C := 6385252) (dk_dq rfl) (by decide +kernel) w_565_1).mp (by omega)
                                obtain ⟨x_605, f_x_605⟩ := dg_I.long (i := 0) (k := 7) I_2 sM_0 (by decide +kernel)
                                have w_565_1_r : (sg).toInt = 1 := by obtain ⟨w9, hw9⟩ : ∃ w9, S_2.1 0 7 = .long w9 := ⟨_, f_x_605⟩; exact ((w_565_1 w9 hw9).mp (by omega)).1
                                clear w_565_1
                                have hlx_2r := hlx_2 (by omega)
                                clear hlx_2
                                refine lv_iconst (v := 2) hx hb dX12_goesOn_351 (by decide +kernel) ?_
                                refine lv_goto (tgt := 356) hx hb dX12_goesOn_352 (dk_dq rfl) ?_
                                have hz_606 : (2 : Int32).toInt = 2 := by decide +kernel
                                refine dg_callv hS hA1 hA (va_runV (As := [.int 2]) (rest := []) F (c_m_joins l g D o S_2 2 (by decide +kernel) S0 cd ((m_2.1 0 34 _ sM_0 (dk_dq rfl)).trans f_cd) (by omega) om ((m_2.1 0 45 _ sM_0 (dk_dq rfl)).trans f_om) (by omega) (by omega) (ZWM.keep ZW m_2 (dk_dq rfl) (dk_dq rfl) (dk_dq rfl) (dk_dq rfl)) (ZKM.keep ZK m_2 (dk_dq rfl) (dk_dq rfl)) (P1M.keep P1 m_2 (dk_dq rfl) (dk_dq rfl) (dk_dq rfl) (dk_dq rfl) (dk_dq rfl) (dk_dq rfl) (dk_dq rfl) (dk_dq rfl) (dk_dq rfl) (dk_dq rfl) (dk_dq rfl) (dk_dq rfl) (dk_dq rfl) (dk_dq rfl) (dk_dq rfl)) (G8M.keep G8 m_2 (dk_dq rfl) (dk_dq rfl) (dk_dq rfl)) I_2 H.size) (cwV 1 hts (bw_V wB_437 wB_438 wB_439 wB_297 wB_436) rfl rfl rfl (by decide +kernel) ⟨Nat.le_of_ble_eq_true rfl, Nat.le_of_ble_eq_true rfl⟩) (dg_preV sM_0 rfl K ST hP hS hA1 hA) rfl rfl hl.1 rfl (lv_room (Nat.le_of_ble_eq_true rfl)) dX12_goesOn_356 ⟨Nat.le_of_ble_eq_true rfl, Nat.le_of_ble_eq_true rfl⟩) (fun S_607 hw_607 H locs hP hS => ?_)
                                obtain ⟨I_607, m_607, w_607_0, w_607_1, w_607_2, w_607_3, w_607_4, w_607_5, w_607_6, -⟩ := hw_607
                                have M_607 := dg_sm.tr M_2 m_607 (dk_dq rfl) (dk_dq rfl)
                                have hz_608 : (2 : Int32).toInt = 2 := by decide +kernel
                                obtain ⟨y_609, y_610, f_y_609, f_y_610, w_607_0⟩ := w_607_0
                                have w_607_0 : (y_609).toInt + (y_610).toInt = (cd).toInt + (om).toInt := w_607_0
                                have b_y_609 : 0 ≤ (y_609).toInt ∧ (y_609).toInt ≤ 1600 := dg_I.intb (lo := 0) (hi := 1600) I_607 sM_0 (by decide +kernel) f_y_609
                                have b_y_610 : 0 ≤ (y_610).toInt ∧ (y_610).toInt ≤ 500 := dg_I.intb (lo := 0) (hi := 500) I_607 sM_0 (by decide +kernel) f_y_610
                                replace w_607_1 : TOPM S_607 (2 : Int32) := w_607_1
                                obtain ⟨x_611, f_x_611, b_x_611⟩ := dg_I.int (i := 0) (k := 43) (lo := (-2147483648)) (hi := 2147483647) I_607 sM_0 (by decide +kernel)
                                replace w_607_2 : JNM S_2 S_607 (2 : Int32) := w_607_2
                                have TF_607 : TFM (x_7).toInt (x_11).toInt bg0 0 R0 ((on).toNatClampNeg - nt0) S_607 := (TFM.join TF0 (P1M.keep P1 m_2 (dk_dq rfl) (dk_dq rfl) (dk_dq rfl) (dk_dq rfl) (dk_dq rfl) (dk_dq rfl) (dk_dq rfl) (dk_dq rfl) (dk_dq rfl) (dk_dq rfl) (dk_dq rfl) (dk_dq rfl) (dk_dq rfl) (dk_dq rfl) (dk_dq rfl)) ((m_2.1 0 42 _ sM_0 (dk_dq rfl)).trans f_dp) ((m_2.1 0 43 _ sM_0 (dk_dq rfl)).trans f_on) ((m_2.1 0 45 _ sM_0 (dk_dq rfl)).trans f_om) w_607_2 w_607_1 m_607 (dk_dq rfl) (dk_dq rfl) (dk_dq rfl) (dk_dq rfl) (dk_dq rfl) (dk_dq rfl)).2 (by decide +kernel) (by decide +kernel)
                                replace w_607_3 : JXM S_2 S_607 := w_607_3
                                have XJ_607 := XFM.join XF0 TF0 ((m_2.1 0 42 _ sM_0 (dk_dq rfl)).trans f_dp) ((m_2.1 0 43 _ sM_0 (dk_dq rfl)).trans f_on) ((m_2.1 0 45 _ sM_0 (dk_dq rfl)).trans f_om) w_607_2 w_607_3 w_607_1 m_607 (dk_dq rfl) (dk_dq rfl) (dk_dq rfl) (dk_dq rfl)
                                rw [show (2 : Int32).toInt = 2 from by decide +kernel] at XJ_607
                                have XF_607 : XFM (n_lo 2 l0) p0 X0 S_607 := XJ_607.1
                                have qa_607 : q_am S S_607 ((n_hi 2 l0).map d_st) := (q_am.fs XJ_607.2 (m_2.1 0 34 _ sM_0 (dk_dq rfl)) (m_2.1 0 35 _ sM_0 (dk_dq rfl)) (m_2.2 18 _ sM_18 (dk_dq rfl)).1 (m_2.2 19 _ sM_19 (dk_dq rfl)).1)
                                have hcn_607 : m_hid (n_cn (n_hi 2 l0) = nt0) := m_hid.mk (n_cn_hi hcn0.out (XFM.cn XF_607 TF_607 (((m_607.1 0 42 _ sM_0 (dk_dq rfl)).trans (m_2.1 0 42 _ sM_0 (dk_dq rfl))).trans f_dp) f_x_611 f_y_610))
                                have hdm_611 := PSM.dims w_607_5 (((m_607.1 0 42 _ sM_0 (dk_dq rfl)).trans (m_2.1 0 42 _ sM_0 (dk_dq rfl))).trans f_dp) f_x_611 f_y_610
                                refine lv_aload_n hx hb dX12_goesOn_359 rfl (lv_at hl 4 rfl) ?_
                                refine lv_iload hx hb dX12_goesOn_360 (lv_at hl 0 rfl) ?_
                                refine lv_if_eq (tgt := 370) hx hb dX12_goesOn_362 (dk_dq rfl) (fun c => absurd c (fun z => absurd (dk_eqc (k := 0) (by decide +kernel) z) (by omega))) (fun _ => ?_)
                                refine lv_bipush (v := 41) hx hb dX12_goesOn_365 (by decide +kernel) ?_
                                refine lv_goto (tgt := 372) hx hb dX12_goesOn_367 (dk_dq rfl) ?_
                                refine dg_callv hS hA1 hA (va_runV (As := [.int 41]) (rest := []) F (c_m_holdsBack l g D o S_607 41 y_610 f_y_610 (by omega) I_607 H.size) (cwV 1 hts (bw_V wB_427 wB_428 wB_429 wB_297 wB_426) rfl rfl rfl (by decide +kernel) ⟨Nat.le_of_ble_eq_true rfl, Nat.le_of_ble_eq_true rfl⟩) (dg_preV sM_0 rfl K ST hP hS hA1 hA) rfl rfl hl.1 rfl (lv_room (Nat.le_of_ble_eq_true rfl)) dX12_goesOn_372 ⟨Nat.le_of_ble_eq_true rfl, Nat.le_of_ble_eq_true rfl⟩) (fun S_613 hw_613 H locs hP hS => ?_)
                                obtain ⟨I_613, m_613, w_613_0, w_613_1, -⟩ := hw_613
                                have M_613 := dg_sm.tr M_607 m_613 (dk_dq rfl) (dk_dq rfl)
                                have hz_614 : (41 : Int32).toInt = 41 := by decide +kernel
                                obtain ⟨y_615, f_y_615, w_613_0⟩ := w_613_0
                                have w_613_0 : (y_615).toInt = (y_610).toInt + 1 := w_613_0
                                have b_y_615 : 0 ≤ (y_615).toInt ∧ (y_615).toInt ≤ 500 := dg_I.intb (lo := 0) (hi := 500) I_613 sM_0 (by decide +kernel) f_y_615
                                replace w_613_1 : HBM S_607 S_613 (41 : Int32) := w_613_1
                                have hz_616 : (41 : Int32).toInt = 41 := by decide +kernel
                                have XF_613 : XFM (41 :: (n_lo 2 l0)) p0 X0 S_613 := (by have h9 := XFM.hb XF_607 TF_607 (((m_607.1 0 42 _ sM_0 (dk_dq rfl)).trans (m_2.1 0 42 _ sM_0 (dk_dq rfl))).trans f_dp) f_x_611 f_y_610 (by omega) m_613 w_613_1; rw [show (41 : Int32).toInt = 41 from by decide +kernel] at h9; exact h9)
                                have hz_617 : (41 : Int32).toInt = 41 := by decide +kernel
                                have TF_613 : TFM (x_7).toInt (x_11).toInt bg0 0 R0 ((on).toNatClampNeg - nt0) S_613 := (by have h9 := TFM.hb TF_607 (((m_607.1 0 42 _ sM_0 (dk_dq rfl)).trans (m_2.1 0 42 _ sM_0 (dk_dq rfl))).trans f_dp) f_x_611 f_y_610 (by omega) m_613 w_613_1; rw [if_neg (by omega)] at h9; exact h9)
                                as_aux_lemma =>
                                  refine lv_aload_n hx hb dX12_goesOn_375 rfl (lv_at hl 4 rfl) ?_
                                  refine dg_get (C := RX12) (T := TX12) (N := 77) hx hb hts (fun w h => bw_mem (wU_X12 w h)) hown K hP sM_0 rfl 38 (dk_dq rfl) (hts _ (bw_mem wB_417)) (fun _ h9 => h9) (v := .ref (o + 23)) (show S_613.1 0 38 = .ref (o + 23) from dg_I.rel (d := 23) I_613 sM_0 (by decide +kernel)) dX12_goesOn_376 ?_
                                  refine lv_iload_n hx hb dX12_goesOn_379 rfl (lv_at hl 3 rfl) ?_
                                  refine lv_iconst (v := 0) hx hb dX12_goesOn_380 (by decide +kernel) ?_
                                  have hin_618 : vp_in x_5 20 := (dk_inv2 (by omega))
                                  have hz_620 : (0 : Int32).toInt = 0 := by decide +kernel
                                  refine dg_iast hx hb K hP hS hA1 sM_23 hin_618 dX12_goesOn_381 (fun S_619 e_619 H locs hP hS => ?_)
                                  have I_619 := dg_I.ufu (lo := 0) (hi := 2) I_613 e_619 sM_23 (by decide +kernel) (show 0 ≤ ((0 : Int32)).toInt ∧ ((0 : Int32)).toInt ≤ 2 from (by decide +kernel))
                                  have M_619 := dg_sm.uf M_613 e_619 sM_23 (dk_dq rfl)
                                  have hz_621 : (0 : Int32).toInt = 0 := by decide +kernel
                                  have hz_622 : (0 : Int32).toInt = 0 := by decide +kernel
                                  have TF_619 : TFM (x_7).toInt 0 bg0 0 R0 ((on).toNatClampNeg - nt0) S_619 := (by have h9 := (TFM.ph' TF_613 (((m_613.1 0 42 _ sM_0 (dk_dq rfl)).trans ((m_607.1 0 42 _ sM_0 (dk_dq rfl)).trans (m_2.1 0 42 _ sM_0 (dk_dq rfl)))).trans f_dp) ((m_613.1 0 43 _ sM_0 (dk_dq rfl)).trans f_x_611) f_y_615 (fx := x_5) (by omega) (by omega) e_619); rw [show (0 : Int32).toInt = 0 from by decide +kernel] at h9; exact h9)
                                  refine lv_aload_n hx hb dX12_goesOn_382 rfl (lv_at hl 4 rfl) ?_
                                  refine dg_get (C := RX12) (T := TX12) (N := 77) hx hb hts (fun w h => bw_mem (wU_X12 w h)) hown K hP sM_0 rfl 39 (dk_dq rfl) (hts _ (bw_mem wB_418)) (fun _ h9 => h9) (v := .ref (o + 24)) (show S_619.1 0 39 = .ref (o + 24) from dg_I.rel (d := 24) I_619 sM_0 (by decide +kernel)) dX12_goesOn_383 ?_
                                  refine lv_iload_n hx hb dX12_goesOn_386 rfl (lv_at hl 3 rfl) ?_
                                  refine lv_iconst (v := 1) hx hb dX12_goesOn_387 (by decide +kernel) ?_
                                  have hin_623 : vp_in x_5 20 := (dk_inv2 (by omega))
                                  have hz_625 : (1 : Int32).toInt = 1 := by decide +kernel
                                  refine dg_zast hx hb K hP hS hA1 sM_24 hin_623 (by decide +kernel) dX12_goesOn_388 (fun S_624 e_624 H locs hP hS => ?_)
                                  have I_624 := dg_I.ufu (lo := 0) (hi := 1) I_619 e_624 sM_24 (by decide +kernel) (show 0 ≤ ((1 : Int32)).toInt ∧ ((1 : Int32)).toInt ≤ 1 from (by decide +kernel))
                                  have M_624 := dg_sm.uf M_619 e_624 sM_24 (dk_dq rfl)
                                  have P0_624 : P0M S_624 := P1M.andor w_607_5 (((m_607.1 0 42 _ sM_0 (dk_dq rfl)).trans (m_2.1 0 42 _ sM_0 (dk_dq rfl))).trans f_dp) f_x_611 f_y_610 w_607_1 m_613 w_613_1 (by omega) (fx := x_5) (by omega) e_619 e_624
                                  have hz_626 : (1 : Int32).toInt = 1 := by decide +kernel
                                  have TF_624 : TFM (x_7).toInt 0 true 0 R0 ((on).toNatClampNeg - nt0) S_624 := (by have h9 := (TFM.bg' TF_619 (((dg_uf_F e_619 0 42).trans ((m_613.1 0 42 _ sM_0 (dk_dq rfl)).trans ((m_607.1 0 42 _ sM_0 (dk_dq rfl)).trans (m_2.1 0 42 _ sM_0 (dk_dq rfl))))).trans f_dp) (((dg_uf_F e_619 0 43).trans (m_613.1 0 43 _ sM_0 (dk_dq rfl))).trans f_x_611) ((dg_uf_F e_619 0 45).trans f_y_615) (fx := x_5) (by omega) (by omega) e_624); rw [show decide ((1 : Int32).toInt = 1) = true from by decide +kernel] at h9; exact h9)
                                  refine lv_aload_n hx hb dX12_goesOn_389 rfl (lv_at hl 4 rfl) ?_
                                  refine dg_callv hS hA1 hA (va_runV (As := []) (rest := []) F (c_m_ahead l g D o S_624 tb tn se (((dg_uf_F e_624 0 5).trans ((dg_uf_F e_619 0 5).trans ((m_613.1 0 5 _ sM_0 (dk_dq rfl)).trans ((m_607.1 0 5 _ sM_0 (dk_dq rfl)).trans (m_2.1 0 5 _ sM_0 (dk_dq rfl)))))).trans f_se) (by omega) sl (((dg_uf_F e_624 0 2).trans ((dg_uf_F e_619 0 2).trans ((m_613.1 0 2 _ sM_0 (dk_dq rfl)).trans ((m_607.1 0 2 _ sM_0 (dk_dq rfl)).trans (m_2.1 0 2 _ sM_0 (dk_dq rfl)))))).trans f_sl) (by omega) (by omega) (TKM.keep (TKM.keep (TKM.keep (TKM.keep (TKM.keep TK m_2 (dk_dq rfl) (dk_dq rfl) (dk_dq rfl) (dk_dq rfl) (dk_dq rfl) (dk_dq rfl) (dk_dq rfl) (dk_dq rfl)) m_607 (dk_dq rfl) (dk_dq rfl) (dk_dq rfl) (dk_dq rfl) (dk_dq rfl) (dk_dq rfl) (dk_dq rfl) (dk_dq rfl)) m_613 (dk_dq rfl) (dk_dq rfl) (dk_dq rfl) (dk_dq rfl) (dk_dq rfl) (dk_dq rfl) (dk_dq rfl) (dk_dq rfl)) (dg_sm.uf (WF := []) (WA := [23]) dg_sm.rf e_619 sM_23 (dk_dq rfl)) (dk_dq rfl) (dk_dq rfl) (dk_dq rfl) (dk_dq rfl) (dk_dq rfl) (dk_dq rfl) (dk_dq rfl) (dk_dq rfl)) (dg_sm.uf (WF := []) (WA := [24]) dg_sm.rf e_624 sM_24 (dk_dq rfl)) (dk_dq rfl) (dk_dq rfl) (dk_dq rfl) (dk_dq rfl) (dk_dq rfl) (dk_dq rfl) (dk_dq rfl) (dk_dq rfl)).1 I_624 H.size) (cwV 0 hts (bw_V wB_318 wB_319 wB_320 wB_297 wB_317) rfl rfl rfl (by decide +kernel) ⟨Nat.le_of_ble_eq_true rfl, Nat.le_of_ble_eq_true rfl⟩) (dg_preV sM_0 rfl K ST hP hS hA1 hA) rfl rfl hl.1 rfl (lv_room (Nat.le_of_ble_eq_true rfl)) dX12_goesOn_390 ⟨Nat.le_of_ble_eq_true rfl, Nat.le_of_ble_eq_true rfl⟩) (fun S_627 hw_627 H locs hP hS => ?_)
                                  obtain ⟨I_627, m_627, w_627_0, w_627_1, -⟩ := hw_627
                                  have M_627 := dg_sm.tr M_624 m_627 (dk_dq rfl) (dk_dq rfl)
                                  obtain ⟨y_628, y_629, y_630, f_y_628, f_y_629, f_y_630, w_627_0⟩ := w_627_0
                                  have w_627_0 : (se).toInt ≤ (y_629).toInt ∧ (y_629).toInt ≤ (y_630).toInt ∧ (y_630).toInt ≤ (sl).toInt ∧ ((y_628).toInt ≠ 0 → (y_629).toInt + 1 ≤ (y_630).toInt) := w_627_0
                                  obtain ⟨w_627_0_0, w_627_0_1, w_627_0_2, w_627_0_3⟩ := w_627_0
                                  have lxh_w_627_0_3 : m_hid ((y_629).toInt ≤ (y_630).toInt ∧ (y_630).toInt ≤ (sl).toInt ∧ ((y_628).toInt ≠ 0 → (y_629).toInt + 1 ≤ (y_630).toInt)) := m_hid.mk ⟨w_627_0_1, w_627_0_2, w_627_0_3⟩
                                  have b_y_628 : 0 ≤ (y_628).toInt ∧ (y_628).toInt ≤ 3 := dg_I.intb (lo := 0) (hi := 3) I_627 sM_0 (by decide +kernel) f_y_628
                                  have b_y_629 : 0 ≤ (y_629).toInt ∧ (y_629).toInt ≤ 1600 := dg_I.intb (lo := 0) (hi := 1600) I_627 sM_0 (by decide +kernel) f_y_629
                                  have b_y_630 : 0 ≤ (y_630).toInt ∧ (y_630).toInt ≤ 1600 := dg_I.intb (lo := 0) (hi := 1600) I_627 sM_0 (by decide +kernel) f_y_630
                                  replace w_627_1 : TNX tb tn se S_627 := w_627_1
                                  obtain ⟨TK_627, nx_627, -⟩ := TKM.nx (TKM.keep (TKM.keep (TKM.keep (TKM.keep (TKM.keep TK m_2 (dk_dq rfl) (dk_dq rfl) (dk_dq rfl) (dk_dq rfl) (dk_dq rfl) (dk_dq rfl) (dk_dq rfl) (dk_dq rfl)) m_607 (dk_dq rfl) (dk_dq rfl) (dk_dq rfl) (dk_dq rfl) (dk_dq rfl) (dk_dq rfl) (dk_dq rfl) (dk_dq rfl)) m_613 (dk_dq rfl) (dk_dq rfl) (dk_dq rfl) (dk_dq rfl) (dk_dq rfl) (dk_dq rfl) (dk_dq rfl) (dk_dq rfl)) (dg_sm.uf (WF := []) (WA := [23]) dg_sm.rf e_619 sM_23 (dk_dq rfl)) (dk_dq rfl) (dk_dq rfl) (dk_dq rfl) (dk_dq rfl) (dk_dq rfl) (dk_dq rfl) (dk_dq rfl) (dk_dq rfl)) (dg_sm.uf (WF := []) (WA := [24]) dg_sm.rf e_624 sM_24 (dk_dq rfl)) (dk_dq rfl) (dk_dq rfl) (dk_dq rfl) (dk_dq rfl) (dk_dq rfl) (dk_dq rfl) (dk_dq rfl) (dk_dq rfl)) (((dg_uf_F e_624 0 4).trans ((dg_uf_F e_619 0 4).trans ((m_613.1 0 4 _ sM_0 (dk_dq rfl)).trans ((m_607.1 0 4 _ sM_0 (dk_dq rfl)).trans (m_2.1 0 4 _ sM_0 (dk_dq rfl)))))).trans f_sa) (((dg_uf_F e_624 0 5).trans ((dg_uf_F e_619 0 5).trans ((m_613.1 0 5 _ sM_0 (dk_dq rfl)).trans ((m_607.1 0 5 _ sM_0 (dk_dq rfl)).trans (m_2.1 0 5 _ sM_0 (dk_dq rfl)))))).trans f_se) w_627_1 m_627 (dk_dq rfl) (dk_dq rfl) f_y_629
                                  replace nx_627 := nx_627 (fun q9 => absurd ((TKM.zero (TKM.keep (TKM.keep (TKM.keep (TKM.keep (TKM.keep TK m_2 (dk_dq rfl) (dk_dq rfl) (dk_dq rfl) (dk_dq rfl) (dk_dq rfl) (dk_dq rfl) (dk_dq rfl) (dk_dq rfl)) m_607 (dk_dq rfl) (dk_dq rfl) (dk_dq rfl) (dk_dq rfl) (dk_dq rfl) (dk_dq rfl) (dk_dq rfl) (dk_dq rfl)) m_613 (dk_dq rfl) (dk_dq rfl) (dk_dq rfl) (dk_dq rfl) (dk_dq rfl) (dk_dq rfl) (dk_dq rfl) (dk_dq rfl)) (dg_sm.uf (WF := []) (WA := [23]) dg_sm.rf e_619 sM_23 (dk_dq rfl)) (dk_dq rfl) (dk_dq rfl) (dk_dq rfl) (dk_dq rfl) (dk_dq rfl) (dk_dq rfl) (dk_dq rfl) (dk_dq rfl)) (dg_sm.uf (WF := []) (WA := [24]) dg_sm.rf e_624 sM_24 (dk_dq rfl)) (dk_dq rfl) (dk_dq rfl) (dk_dq rfl) (dk_dq rfl) (dk_dq rfl) (dk_dq rfl) (dk_dq rfl) (dk_dq rfl)) (((dg_uf_F e_624 0 3).trans ((dg_uf_F e_619 0 3).trans ((m_613.1 0 3 _ sM_0 (dk_dq rfl)).trans ((m_607.1 0 3 _ sM_0 (dk_dq rfl)).trans (m_2.1 0 3 _ sM_0 (dk_dq rfl)))))).trans f_sg) (((dg_uf_F e_624 0 4).trans ((dg_uf_F e_619 0 4).trans ((m_613.1 0 4 _ sM_0 (dk_dq rfl)).trans ((m_607.1 0 4 _ sM_0 (dk_dq rfl)).trans (m_2.1 0 4 _ sM_0 (dk_dq rfl)))))).trans f_sa)).mpr q9) (by omega))
                                  refine lv_aload_n hx hb dX12_goesOn_393 rfl (lv_at hl 4 rfl) ?_
                                  refine lv_iconst (v := 0) hx hb dX12_goesOn_394 (by decide +kernel) ?_
                                  have hz_631 : (0 : Int32).toInt = 0 := by decide +kernel
                                  as_aux_lemma =>
                                    refine dg_put (ci := 12) (v := .int 0) (ty := tyX12 46) (C := RX12) (T := TX12) (N := 77) hx hb hts (fun w h => bw_mem (wU_X12 w h)) tyX12 tyX12_ok nmX12 hown K hP hS hA1 sM_0 rfl 46 (dk_dq rfl) (hts _ (bw_mem wB_440)) (fun _ h9 => h9) rfl (by decide +kernel) (by decide +kernel) (by decide +kernel) dX12_goesOn_395 (fun S_632 e_632 H locs hP hS => ?_)
                                    have I_632 := dg_I.uFi (lo := 0) (hi := 1) I_627 e_632 sM_0 (by decide +kernel) (show 0 ≤ ((0 : Int32)).toInt ∧ ((0 : Int32)).toInt ≤ 1 from (by decide +kernel))
                                    have M_632 := dg_sm.uF M_627 e_632 sM_0 (dk_dq rfl)
                                    refine lv_iconst (v := 1) hx hb dX12_goesOn_398 (by decide +kernel) ?_
                                    have hz_633 : (1 : Int32).toInt = 1 := by decide +kernel
                                    have hz_634 : (1 : Int32).toInt = 1 := by decide +kernel
                                    have hz_635 : (0 : Int32).toInt = 0 := by decide +kernel
                                    have hz_636 : (1 : Int32).toInt = 1 := by decide +kernel
                                    have hz_637 : (0 : Int32).toInt = 0 := by decide +kernel
                                    have hz_638 : (1 : Int32).toInt = 1 := by decide +kernel
                                    have hz_639 : (1 : Int32).toInt = 1 := by decide +kernel
                                    have hz_640 : (0 : Int32).toInt = 0 := by decide +kernel
                                    have hz_641 : (1 : Int32).toInt = 1 := by decide +kernel
                                    have hz_642 : (1 : Int32).toInt = 1 := by decide +kernel
                                    have hz_643 : (0 : Int32).toInt = 0 := by decide +kernel
                                    refine W.widen (k := 0) (n := 0) (Nat.le_of_ble_eq_true rfl) (Nat.le_of_ble_eq_true rfl) ?_
                                    rw [hQ9]
                                    exact dg_iret hx hb hr hlocks (by decide +kernel) hP hS ⟨I_632, M_632, (by decide +kernel), ⟨y_628, y_629, y_630, y_3, y_609, dp, y_615, 0, ((dg_uF_ne e_632 (fun z => absurd z.2 (dk_dq rfl))).trans f_y_628), ((dg_uF_ne e_632 (fun z => absurd z.2 (dk_dq rfl))).trans f_y_629), ((dg_uF_ne e_632 (fun z => absurd z.2 (dk_dq rfl))).trans f_y_630), (((dg_uF_ne e_632 (fun z => absurd z.2 (dk_dq rfl))).trans ((m_627.1 0 8 _ sM_0 (dk_dq rfl)).trans ((dg_uf_F e_624 0 8).trans ((dg_uf_F e_619 0 8).trans ((m_613.1 0 8 _ sM_0 (dk_dq rfl)).trans (m_607.1 0 8 _ sM_0 (dk_dq rfl))))))).trans f_y_3), (((dg_uF_ne e_632 (fun z => absurd z.2 (dk_dq rfl))).trans ((m_627.1 0 34 _ sM_0 (dk_dq rfl)).trans ((dg_uf_F e_624 0 34).trans ((dg_uf_F e_619 0 34).trans (m_613.1 0 34 _ sM_0 (dk_dq rfl)))))).trans f_y_609), (((dg_uF_ne e_632 (fun z => absurd z.2 (dk_dq rfl))).trans ((m_627.1 0 42 _ sM_0 (dk_dq rfl)).trans ((dg_uf_F e_624 0 42).trans ((dg_uf_F e_619 0 42).trans ((m_613.1 0 42 _ sM_0 (dk_dq rfl)).trans ((m_607.1 0 42 _ sM_0 (dk_dq rfl)).trans (m_2.1 0 42 _ sM_0 (dk_dq rfl)))))))).trans f_dp), (((dg_uF_ne e_632 (fun z => absurd z.2 (dk_dq rfl))).trans ((m_627.1 0 45 _ sM_0 (dk_dq rfl)).trans ((dg_uf_F e_624 0 45).trans (dg_uf_F e_619 0 45)))).trans f_y_615), (dg_uF_at e_632), ⟨lxh_w_627_0_3.out, (by omega)⟩⟩, (fun k9 hk9 hk0 => POM.mk0 (P0M.keep (P0M.keep P0_624 m_627 (dk_dq rfl) (dk_dq rfl) (dk_dq rfl) (dk_dq rfl) (dk_dq rfl) (dk_dq rfl) (dk_dq rfl) (dk_dq rfl) (dk_dq rfl) (dk_dq rfl) (dk_dq rfl) (dk_dq rfl) (dk_dq rfl) (dk_dq rfl) (dk_dq rfl)) (dg_sm.uF (WF := [(0, 46)]) (WA := []) dg_sm.rf e_632 sM_0 (dk_dq rfl)) (dk_dq rfl) (dk_dq rfl) (dk_dq rfl) (dk_dq rfl) (dk_dq rfl) (dk_dq rfl) (dk_dq rfl) (dk_dq rfl) (dk_dq rfl) (dk_dq rfl) (dk_dq rfl) (dk_dq rfl) (dk_dq rfl) (dk_dq rfl) (dk_dq rfl)) (dg_uF_at e_632) (by omega)), (GOK.ok f_sa (((dg_uF_ne e_632 (fun z => absurd z.2 (dk_dq rfl))).trans ((m_627.1 0 8 _ sM_0 (dk_dq rfl)).trans ((dg_uf_F e_624 0 8).trans ((dg_uf_F e_619 0 8).trans ((m_613.1 0 8 _ sM_0 (dk_dq rfl)).trans (m_607.1 0 8 _ sM_0 (dk_dq rfl))))))).trans f_y_3) ((dg_uF_ne e_632 (fun z => absurd z.2 (dk_dq rfl))).trans f_y_629) (dg_uF_at e_632) (by omega) hM0 (TFM.keep (TFM.keep TF_624 m_627 (dk_dq rfl) (dk_dq rfl) (dk_dq rfl) (dk_dq rfl) (dk_dq rfl) (dk_dq rfl) (dk_dq rfl) (dk_dq rfl)) (dg_sm.uF (WF := [(0, 46)]) (WA := []) dg_sm.rf e_632 sM_0 (dk_dq rfl)) (dk_dq rfl) (dk_dq rfl) (dk_dq rfl) (dk_dq rfl) (dk_dq rfl) (dk_dq rfl) (dk_dq rfl) (dk_dq rfl)) (m_st_t.trans (m_go_and (m_tst_iff.mpr hts1.out) hnop.out (by omega) hwd.out)) (by omega) (by decide +kernel) (by first | decide +kernel | exact decide_eq_true (by omega))), (GON.ok f_sa ((dg_uF_ne e_632 (fun z => absurd z.2 (dk_dq rfl))).trans f_y_629) (dg_uF_at e_632) hN0 (TFM.keep (TFM.keep TF_624 m_627 (dk_dq rfl) (dk_dq rfl) (dk_dq rfl) (dk_dq rfl) (dk_dq rfl) (dk_dq rfl) (dk_dq rfl) (dk_dq rfl)) (dg_sm.uF (WF := [(0, 46)]) (WA := []) dg_sm.rf e_632 sM_0 (dk_dq rfl)) (dk_dq rfl) (dk_dq rfl) (dk_dq rfl) (dk_dq rfl) (dk_dq rfl) (dk_dq rfl) (dk_dq rfl) (dk_dq rfl)) (XFM.keep (XFM.keep (XFM.keep (XFM.keep XF_613 (dg_sm.uf (WF := []) (WA := [23]) dg_sm.rf e_619 sM_23 (dk_dq rfl)) (dk_dq rfl) (dk_dq rfl) (dk_dq rfl) (dk_dq rfl) (dk_dq rfl)) (dg_sm.uf (WF := []) (WA := [24]) dg_sm.rf e_624 sM_24 (dk_dq rfl)) (dk_dq rfl) (dk_dq rfl) (dk_dq rfl) (dk_dq rfl) (dk_dq rfl)) m_627 (dk_dq rfl) (dk_dq rfl) (dk_dq rfl) (dk_dq rfl) (dk_dq rfl)) (dg_sm.uF (WF := [(0, 46)]) (WA := []) dg_sm.rf e_632 sM_0 (dk_dq rfl)) (dk_dq rfl) (dk_dq rfl) (dk_dq rfl) (dk_dq rfl) (dk_dq rfl)) (q_am.mv qa_607 ((dg_uF_ne e_632 (fun z => absurd z.2 (dk_dq rfl))).trans ((m_627.1 0 34 _ sM_0 (dk_dq rfl)).trans ((dg_uf_F e_624 0 34).trans ((dg_uf_F e_619 0 34).trans (m_613.1 0 34 _ sM_0 (dk_dq rfl)))))) ((dg_uF_ne e_632 (fun z => absurd z.2 (dk_dq rfl))).trans ((m_627.1 0 35 _ sM_0 (dk_dq rfl)).trans ((dg_uf_F e_624 0 35).trans ((dg_uf_F e_619 0 35).trans (m_613.1 0 35 _ sM_0 (dk_dq rfl)))))) ((dg_uF_f e_632 18).trans ((m_627.2 18 _ sM_18 (dk_dq rfl)).1.trans ((dg_uf_ne e_624 (dk_dq rfl)).trans ((dg_uf_ne e_619 (dk_dq rfl)).trans (m_613.2 18 _ sM_18 (dk_dq rfl)).1)))) ((dg_uF_f e_632 19).trans ((m_627.2 19 _ sM_19 (dk_dq rfl)).1.trans ((dg_uf_ne e_624 (dk_dq rfl)).trans ((dg_uf_ne e_619 (dk_dq rfl)).trans (m_613.2 19 _ sM_19 (dk_dq rfl)).1))))) (fun out => by rw [n_go_and (m_tst_iff.mpr hts1.out) hnop.out (by omega) qw_565_1, hcn_607.out]) (by omega) (by decide +kernel) (by first | decide +kernel | exact decide_eq_true (by omega))), (TKM.keep TK_627 (dg_sm.uF (WF := [(0, 46)]) (WA := []) dg_sm.rf e_632 sM_0 (dk_dq rfl)) (dk_dq rfl) (dk_dq rfl) (dk_dq rfl) (dk_dq rfl) (dk_dq rfl) (dk_dq rfl) (dk_dq rfl) (dk_dq rfl)), (ZWM.keep (ZWM.keep (ZWM.keep (ZWM.keep (ZWM.keep w_607_4 m_613 (dk_dq rfl) (dk_dq rfl) (dk_dq rfl) (dk_dq rfl)) (dg_sm.uf (WF := []) (WA := [23]) dg_sm.rf e_619 sM_23 (dk_dq rfl)) (dk_dq rfl) (dk_dq rfl) (dk_dq rfl) (dk_dq rfl)) (dg_sm.uf (WF := []) (WA := [24]) dg_sm.rf e_624 sM_24 (dk_dq rfl)) (dk_dq rfl) (dk_dq rfl) (dk_dq rfl) (dk_dq rfl)) m_627 (dk_dq rfl) (dk_dq rfl) (dk_dq rfl) (dk_dq rfl)) (dg_sm.uF (WF := [(0, 46)]) (WA := []) dg_sm.rf e_632 sM_0 (dk_dq rfl)) (dk_dq rfl) (dk_dq rfl) (dk_dq rfl) (dk_dq rfl)), (G8M.keep (G8M.keep (G8M.keep (G8M.keep (G8M.keep w_607_6 m_613 (dk_dq rfl) (dk_dq rfl) (dk_dq rfl)) (dg_sm.uf (WF := []) (WA := [23]) dg_sm.rf e_619 sM_23 (dk_dq rfl)) (dk_dq rfl) (dk_dq rfl) (dk_dq rfl)) (dg_sm.uf (WF := []) (WA := [24]) dg_sm.rf e_624 sM_24 (dk_dq rfl)) (dk_dq rfl) (dk_dq rfl) (dk_dq rfl)) m_627 (dk_dq rfl) (dk_dq rfl) (dk_dq rfl)) (dg_sm.uF (WF := [(0, 46)]) (WA := []) dg_sm.rf e_632 sM_0 (dk_dq rfl)) (dk_dq rfl) (dk_dq rfl) (dk_dq rfl)), trivial⟩ dX12_goesOn_399
                        · as_aux_lemma =>
                            have jc_563 := dk_eqc (k := 0) (by decide +kernel) c_563
                            refine lv_aload_n hx hb dX12_goesOn_318 rfl (lv_at hl 3 rfl) ?_
                            refine lv_iconst (v := 1) hx hb dX12_goesOn_319 (by decide +kernel) ?_
                            refine lv_aload_n hx hb dX12_goesOn_320 rfl (lv_at hl 3 rfl) ?_
                            refine dg_get (C := RX12) (T := TX12) (N := 77) hx hb hts (fun w h => bw_mem (wU_X12 w h)) hown K hP sM_0 rfl 4 (dk_dq rfl) (hts _ (bw_mem wB_291)) (fun _ h9 => h9) (v := .int sa) ((m_2.1 0 4 _ sM_0 (dk_dq rfl)).trans f_sa) dX12_goesOn_321 ?_
                            have hz_644 : (1 : Int32).toInt = 1 := by decide +kernel
                            refine dg_callv hS hA1 hA (va_runV (As := [.int 1, .int sa]) (rest := []) F (c_m_blame l g D o S_2 1 (by decide +kernel) sa y_3 f_y_3 (by omega) I_2 H.size) (cwV 2 hts (bw_V wB_306 wB_307 wB_308 wB_297 wB_305) rfl rfl rfl (by decide +kernel) ⟨Nat.le_of_ble_eq_true rfl, Nat.le_of_ble_eq_true rfl⟩) (dg_preV sM_0 rfl K ST hP hS hA1 hA) rfl rfl hl.1 rfl (lv_room (Nat.le_of_ble_eq_true rfl)) dX12_goesOn_324 ⟨Nat.le_of_ble_eq_true rfl, Nat.le_of_ble_eq_true rfl⟩) (fun S_645 hw_645 H locs hP hS => ?_)
                            obtain ⟨I_645, m_645, w_645_0, -⟩ := hw_645
                            have M_645 := dg_sm.tr M_2 m_645 (dk_dq rfl) (dk_dq rfl)
                            have hz_646 : (1 : Int32).toInt = 1 := by decide +kernel
                            obtain ⟨y_647, f_y_647, w_645_0⟩ := w_645_0
                            have w_645_0 : ((y_3).toInt ≠ 0 → (y_647).toInt = (y_3).toInt) ∧ ((y_3).toInt = 0 → (y_647).toInt = ((1 : Int32)).toInt) := w_645_0
                            obtain ⟨w_645_0_0, w_645_0_1⟩ := w_645_0
                            clear w_645_0_0
                            have w_645_0_1r := w_645_0_1 (by omega)
                            clear w_645_0_1
                            have b_y_647 : 0 ≤ (y_647).toInt ∧ (y_647).toInt ≤ 6 := dg_I.intb (lo := 0) (hi := 6) I_645 sM_0 (by decide +kernel) f_y_647
                            have hbl_y_647 : 1 ≤ (y_647).toInt := by omega
                            refine lv_aload_n hx hb dX12_goesOn_327 rfl (lv_at hl 3 rfl) ?_
                            refine dg_get (C := RX12) (T := TX12) (N := 77) hx hb hts (fun w h => bw_mem (wU_X12 w h)) hown K hP sM_0 rfl 8 (dk_dq rfl) (hts _ (bw_mem wB_303)) (fun _ h9 => h9) (v := .int y_647) f_y_647 dX12_goesOn_328 ?_
                            refine lv_if_le (tgt := 336) hx hb dX12_goesOn_331 (dk_dq rfl) (fun c => absurd c (fun z => absurd (dk_lec (k := 0) (by decide +kernel) z) (by omega))) (fun _ => ?_)
                            refine lv_iconst (v := 0) hx hb dX12_goesOn_334 (by decide +kernel) ?_
                            have hz_648 : (0 : Int32).toInt = 0 := by decide +kernel
                            have hz_649 : (0 : Int32).toInt = 0 := by decide +kernel
                            have hz_650 : (0 : Int32).toInt = 0 := by decide +kernel
                            have hz_651 : (0 : Int32).toInt = 0 := by decide +kernel
                            have hz_652 : (0 : Int32).toInt = 0 := by decide +kernel
                            have hz_653 : (0 : Int32).toInt = 0 := by decide +kernel
                            have hz_654 : (0 : Int32).toInt = 0 := by decide +kernel
                            refine W.widen (k := 0) (n := 0) (Nat.le_of_ble_eq_true rfl) (Nat.le_of_ble_eq_true rfl) ?_
                            rw [hQ9]
                            exact dg_iret hx hb hr hlocks (by decide +kernel) hP hS ⟨I_645, M_645, (by decide +kernel), ⟨sg, sa, se, y_647, cd, dp, om, oo, (((m_645.1 0 3 _ sM_0 (dk_dq rfl)).trans (m_2.1 0 3 _ sM_0 (dk_dq rfl))).trans f_sg), (((m_645.1 0 4 _ sM_0 (dk_dq rfl)).trans (m_2.1 0 4 _ sM_0 (dk_dq rfl))).trans f_sa), (((m_645.1 0 5 _ sM_0 (dk_dq rfl)).trans (m_2.1 0 5 _ sM_0 (dk_dq rfl))).trans f_se), f_y_647, (((m_645.1 0 34 _ sM_0 (dk_dq rfl)).trans (m_2.1 0 34 _ sM_0 (dk_dq rfl))).trans f_cd), (((m_645.1 0 42 _ sM_0 (dk_dq rfl)).trans (m_2.1 0 42 _ sM_0 (dk_dq rfl))).trans f_dp), (((m_645.1 0 45 _ sM_0 (dk_dq rfl)).trans (m_2.1 0 45 _ sM_0 (dk_dq rfl))).trans f_om), (((m_645.1 0 46 _ sM_0 (dk_dq rfl)).trans (m_2.1 0 46 _ sM_0 (dk_dq rfl))).trans f_oo), ⟨lxh_hlx_2.out, (by omega)⟩⟩, (fun k9 hk9 hk0 => by have q9 := (f_y_647).symm.trans hk9; cases q9; omega), (GOK.no f_sa f_fk f_y_647 (by omega) (fun h0 => Or.inl (by rw [hM0]; exact m_st_t.trans (m_go_bad hnop.out (Or.inl ⟨(m_tst_iff.mpr hts1.out), by omega, by rcases hwd.out with q9 | q9 <;> exact g_co_w q9⟩))))), (GON.no f_y_647 (by omega)), (TKM.keep (TKM.keep TK m_2 (dk_dq rfl) (dk_dq rfl) (dk_dq rfl) (dk_dq rfl) (dk_dq rfl) (dk_dq rfl) (dk_dq rfl) (dk_dq rfl)) m_645 (dk_dq rfl) (dk_dq rfl) (dk_dq rfl) (dk_dq rfl) (dk_dq rfl) (dk_dq rfl) (dk_dq rfl) (dk_dq rfl)), (ZWM.keep (ZWM.keep ZW m_2 (dk_dq rfl) (dk_dq rfl) (dk_dq rfl) (dk_dq rfl)) m_645 (dk_dq rfl) (dk_dq rfl) (dk_dq rfl) (dk_dq rfl)), (G8M.keep (G8M.keep G8 m_2 (dk_dq rfl) (dk_dq rfl) (dk_dq rfl)) m_645 (dk_dq rfl) (dk_dq rfl) (dk_dq rfl)), trivial⟩ dX12_goesOn_335
                    refine lv_if_ne (tgt := 309) hx hb dX12_goesOn_296 (dk_dq rfl) (fun c_655 => ?_) (fun c_655 => ?_)
                    · have jc_655 := dk_neqc (k := 0) (by decide +kernel) c_655
                      have jbc_655 : 1 ≤ (x_458).toInt := by omega
                      clear jc_655
                      have qw_459_1 : g_o (T_kd tb tn) (T_vl tb tn) 22 (t_ix tb tn (sa : Int32).toNatClampNeg) = true := (TKM.isw (TKM.keep TK m_2 (dk_dq rfl) (dk_dq rfl) (dk_dq rfl) (dk_dq rfl) (dk_dq rfl) (dk_dq rfl) (dk_dq rfl) (dk_dq rfl)) ((m_2.1 0 3 _ sM_0 (dk_dq rfl)).trans f_sg) ((m_2.1 0 4 _ sM_0 (dk_dq rfl)).trans f_sa) hk5.out (j := 22) (C := 6385252) (dk_dq rfl) (by decide +kernel) w_459_1).mp (by omega)
                      obtain ⟨x_656, f_x_656⟩ := dg_I.long (i := 0) (k := 7) I_2 sM_0 (by decide +kernel)
                      have w_459_1_r : (sg).toInt = 1 := by obtain ⟨w9, hw9⟩ : ∃ w9, S_2.1 0 7 = .long w9 := ⟨_, f_x_656⟩; exact ((w_459_1 w9 hw9).mp (by omega)).1
                      clear w_459_1
                      have hlx_2r := hlx_2 (by omega)
                      clear hlx_2
                      exact J_560 ()  (by omega) (m_hid.mk (Or.inl qw_459_1)) _ _ hP hS _ (lv_sub hl [0, 1, 2, 3] rfl)
                    · as_aux_lemma =>
                        have jc_655 := dk_eqc (k := 0) (by decide +kernel) c_655
                        have qw_459_1 : g_o (T_kd tb tn) (T_vl tb tn) 22 (t_ix tb tn (sa : Int32).toNatClampNeg) = false := g_iff_f (TKM.isw (TKM.keep TK m_2 (dk_dq rfl) (dk_dq rfl) (dk_dq rfl) (dk_dq rfl) (dk_dq rfl) (dk_dq rfl) (dk_dq rfl) (dk_dq rfl)) ((m_2.1 0 3 _ sM_0 (dk_dq rfl)).trans f_sg) ((m_2.1 0 4 _ sM_0 (dk_dq rfl)).trans f_sa) hk5.out (j := 22) (C := 6385252) (dk_dq rfl) (by decide +kernel) w_459_1) (by omega)
                        clear w_459_1
                        refine lv_aload_n hx hb dX12_goesOn_299 rfl (lv_at hl 3 rfl) ?_
                        refine lv_ldc2 hx hb hown (hts _ (bw_mem wB_346)) dX12_goesOn_300 ?_
                        refine dg_calli hS hA1 hA (va_runV (As := [.long 28530]) (rest := []) F (c_m_isWord l g D o S_2 28530 sg ((m_2.1 0 3 _ sM_0 (dk_dq rfl)).trans f_sg) (by omega) I_2 H.size) (cwV 1 hts (bw_V wB_322 wB_323 wB_324 wB_297 wB_321) rfl rfl rfl (by decide +kernel) ⟨Nat.le_of_ble_eq_true rfl, Nat.le_of_ble_eq_true rfl⟩) (dg_preV sM_0 rfl K ST hP hS hA1 hA) rfl rfl hl.1 rfl (lv_room (Nat.le_of_ble_eq_true rfl)) dX12_goesOn_303 ⟨Nat.le_of_ble_eq_true rfl, Nat.le_of_ble_eq_true rfl⟩) (fun x_657 S_658 hw_658 H locs hP hS => ?_)
                        rw [hw_658.1] at hP
                        obtain ⟨hq_658, w_658_0, w_658_1, -⟩ := hw_658
                        try rw [hq_658] at w_658_1
                        have w_658_0 : 0 ≤ (x_657).toInt ∧ (x_657).toInt ≤ 1 := w_658_0
                        replace w_658_1 : ∀ w9 : Int64, S_2.1 0 7 = .long w9 → ((x_657).toInt = 1 ↔ ((sg).toInt = 1 ∧ w9.toInt = ((28530 : Int64)).toInt)) := w_658_1
                        refine lv_if_eq (tgt := 400) hx hb dX12_goesOn_306 (dk_dq rfl) (fun c_659 => ?_) (fun c_659 => ?_)
                        · have jc_659 := dk_eqc (k := 0) (by decide +kernel) c_659
                          have qw_658_1 : g_o (T_kd tb tn) (T_vl tb tn) 21 (t_ix tb tn (sa : Int32).toNatClampNeg) = false := g_iff_f (TKM.isw (TKM.keep TK m_2 (dk_dq rfl) (dk_dq rfl) (dk_dq rfl) (dk_dq rfl) (dk_dq rfl) (dk_dq rfl) (dk_dq rfl) (dk_dq rfl)) ((m_2.1 0 3 _ sM_0 (dk_dq rfl)).trans f_sg) ((m_2.1 0 4 _ sM_0 (dk_dq rfl)).trans f_sa) hk5.out (j := 21) (C := 28530) (dk_dq rfl) (by decide +kernel) w_658_1) (by omega)
                          clear w_658_1
                          exact J_456 ()  (m_hid.mk (fun _ => ⟨qw_459_1, qw_658_1⟩)) _ _ hP hS _ (lv_sub hl [0, 1, 2, 3] rfl)
                        · have jc_659 := dk_neqc (k := 0) (by decide +kernel) c_659
                          have jbc_659 : 1 ≤ (x_657).toInt := by omega
                          clear jc_659
                          have qw_658_1 : g_o (T_kd tb tn) (T_vl tb tn) 21 (t_ix tb tn (sa : Int32).toNatClampNeg) = true := (TKM.isw (TKM.keep TK m_2 (dk_dq rfl) (dk_dq rfl) (dk_dq rfl) (dk_dq rfl) (dk_dq rfl) (dk_dq rfl) (dk_dq rfl) (dk_dq rfl)) ((m_2.1 0 3 _ sM_0 (dk_dq rfl)).trans f_sg) ((m_2.1 0 4 _ sM_0 (dk_dq rfl)).trans f_sa) hk5.out (j := 21) (C := 28530) (dk_dq rfl) (by decide +kernel) w_658_1).mp (by omega)
                          obtain ⟨x_660, f_x_660⟩ := dg_I.long (i := 0) (k := 7) I_2 sM_0 (by decide +kernel)
                          have w_658_1_r : (sg).toInt = 1 := by obtain ⟨w9, hw9⟩ : ∃ w9, S_2.1 0 7 = .long w9 := ⟨_, f_x_660⟩; exact ((w_658_1 w9 hw9).mp (by omega)).1
                          clear w_658_1
                          have hlx_2r := hlx_2 (by omega)
                          clear hlx_2
                          exact J_560 ()  (by omega) (m_hid.mk (Or.inr qw_658_1)) _ _ hP hS _ (lv_sub hl [0, 1, 2, 3] rfl)
            refine lv_if_eq (tgt := 285) hx hb dX12_goesOn_189 (dk_dq rfl) (fun c_661 => ?_) (fun c_661 => ?_)
            · have jc_661 := dk_eqc (k := 0) (by decide +kernel) c_661
              clear w_9_1
              exact J_352 ()  (m_hid.mk (fun q8 q9 => by exfalso; omega)) _ _ hP hS _ (lv_sub hl [0, 1, 2, 3] rfl)
            · as_aux_lemma =>
                have jc_661 := dk_neqc (k := 0) (by decide +kernel) c_661
                have jbc_661 : 1 ≤ (x_8).toInt := by omega
                clear jc_661
                have hts1 := m_hid.mk (w_9_1.out.mp (by omega))
                clear w_9_1
                refine lv_aload_n hx hb dX12_goesOn_192 rfl (lv_at hl 3 rfl) ?_
                refine dg_get (C := RX12) (T := TX12) (N := 77) hx hb hts (fun w h => bw_mem (wU_X12 w h)) hown K hP sM_0 rfl 38 (dk_dq rfl) (hts _ (bw_mem wB_417)) (fun _ h9 => h9) (v := .ref (o + 23)) (show S_2.1 0 38 = .ref (o + 23) from dg_I.rel (d := 23) I_2 sM_0 (by decide +kernel)) dX12_goesOn_193 ?_
                refine lv_iload_n hx hb dX12_goesOn_196 rfl (lv_at hl 2 rfl) ?_
                have hin_662 : vp_in x_5 20 := (dk_inv2 (by omega))
                refine dg_iald hx hb K hP sM_23 hin_662 dX12_goesOn_197 (fun y_663 ey_663 => ?_)
                obtain rfl : x_11 = y_663 := (ey_663.trans ex_11.symm).symm
                refine lv_if_ne (tgt := 285) hx hb dX12_goesOn_198 (dk_dq rfl) (fun c_664 => ?_) (fun c_664 => ?_)
                · have jc_664 := dk_neqc (k := 0) (by decide +kernel) c_664
                  have jbc_664 : 1 ≤ (x_11).toInt := by omega
                  clear jc_664
                  exact J_352 ()  (m_hid.mk (fun q8 q9 => by exfalso; omega)) _ _ hP hS _ (lv_sub hl [0, 1, 2, 3] rfl)
                · as_aux_lemma =>
                    have jc_664 := dk_eqc (k := 0) (by decide +kernel) c_664
                    refine lv_aload_n hx hb dX12_goesOn_201 rfl (lv_at hl 3 rfl) ?_
                    refine lv_bipush (v := 60) hx hb dX12_goesOn_202 (by decide +kernel) ?_
                    refine dg_calli hS hA1 hA (va_runV (As := [.int 60]) (rest := []) F (c_m_isSign l g D o S_2 60 sg ((m_2.1 0 3 _ sM_0 (dk_dq rfl)).trans f_sg) (by omega) va ((m_2.1 0 6 _ sM_0 (dk_dq rfl)).trans f_va) (by omega) I_2 H.size) (cwV 1 hts (bw_V wB_314 wB_315 wB_316 wB_297 wB_313) rfl rfl rfl (by decide +kernel) ⟨Nat.le_of_ble_eq_true rfl, Nat.le_of_ble_eq_true rfl⟩) (dg_preV sM_0 rfl K ST hP hS hA1 hA) rfl rfl hl.1 rfl (lv_room (Nat.le_of_ble_eq_true rfl)) dX12_goesOn_204 ⟨Nat.le_of_ble_eq_true rfl, Nat.le_of_ble_eq_true rfl⟩) (fun x_665 S_666 hw_666 H locs hP hS => ?_)
                    rw [hw_666.1] at hP
                    obtain ⟨hq_666, w_666_0, w_666_1, -⟩ := hw_666
                    have hz_667 : (60 : Int32).toInt = 60 := by decide +kernel
                    have w_666_0 : 0 ≤ (x_665).toInt ∧ (x_665).toInt ≤ 1 := w_666_0
                    have w_666_1 : (x_665).toInt = 1 ↔ ((sg).toInt = 3 ∧ (va).toInt = ((60 : Int32)).toInt) := w_666_1
                    have J_717 : ∀ (u9 : Unit), ((sg).toInt = 3) → (m_hid (g_co (T_kd tb tn) (T_vl tb tn) (t_ix tb tn (sa : Int32).toNatClampNeg) = true)) → ∀ (H : Heap) (locs : List Loc), va_P D vwCl (dg_w g shM o rfM S_2) H → va_S A s.heap H locs → ∀ ls : Array Slot, lv_has ls 5 [(3, .int x_8), (2, .int x_7), (1, .int x_5), (0, .ref (o + 0))] → W p l e ({ frames := 3, cells := 0, slots := 0, locals := 77 } : Room) s m args below meth c H locs 0 0 Q9 (F0 m 228 ls []) := by
                      as_aux_lemma =>
                        intro u9 rel_0 rel_1 H locs hP hS ls hl
                        clear w_666_1
                        have hcmp := rel_1
                        refine lv_aload_n hx hb dX12_goesOn_228 rfl (lv_at hl 3 rfl) ?_
                        refine lv_iconst (v := 5) hx hb dX12_goesOn_229 (by decide +kernel) ?_
                        have hz_718 : (5 : Int32).toInt = 5 := by decide +kernel
                        refine dg_callv hS hA1 hA (va_runV (As := [.int 5]) (rest := []) F (c_m_joins l g D o S_2 5 (by decide +kernel) S0 cd ((m_2.1 0 34 _ sM_0 (dk_dq rfl)).trans f_cd) (by omega) om ((m_2.1 0 45 _ sM_0 (dk_dq rfl)).trans f_om) (by omega) (by omega) (ZWM.keep ZW m_2 (dk_dq rfl) (dk_dq rfl) (dk_dq rfl) (dk_dq rfl)) (ZKM.keep ZK m_2 (dk_dq rfl) (dk_dq rfl)) (P1M.keep P1 m_2 (dk_dq rfl) (dk_dq rfl) (dk_dq rfl) (dk_dq rfl) (dk_dq rfl) (dk_dq rfl) (dk_dq rfl) (dk_dq rfl) (dk_dq rfl) (dk_dq rfl) (dk_dq rfl) (dk_dq rfl) (dk_dq rfl) (dk_dq rfl) (dk_dq rfl)) (G8M.keep G8 m_2 (dk_dq rfl) (dk_dq rfl) (dk_dq rfl)) I_2 H.size) (cwV 1 hts (bw_V wB_437 wB_438 wB_439 wB_297 wB_436) rfl rfl rfl (by decide +kernel) ⟨Nat.le_of_ble_eq_true rfl, Nat.le_of_ble_eq_true rfl⟩) (dg_preV sM_0 rfl K ST hP hS hA1 hA) rfl rfl hl.1 rfl (lv_room (Nat.le_of_ble_eq_true rfl)) dX12_goesOn_230 ⟨Nat.le_of_ble_eq_true rfl, Nat.le_of_ble_eq_true rfl⟩) (fun S_719 hw_719 H locs hP hS => ?_)
                        obtain ⟨I_719, m_719, w_719_0, w_719_1, w_719_2, w_719_3, w_719_4, w_719_5, w_719_6, -⟩ := hw_719
                        have M_719 := dg_sm.tr M_2 m_719 (dk_dq rfl) (dk_dq rfl)
                        have hz_720 : (5 : Int32).toInt = 5 := by decide +kernel
                        obtain ⟨y_721, y_722, f_y_721, f_y_722, w_719_0⟩ := w_719_0
                        have w_719_0 : (y_721).toInt + (y_722).toInt = (cd).toInt + (om).toInt := w_719_0
                        have b_y_721 : 0 ≤ (y_721).toInt ∧ (y_721).toInt ≤ 1600 := dg_I.intb (lo := 0) (hi := 1600) I_719 sM_0 (by decide +kernel) f_y_721
                        have b_y_722 : 0 ≤ (y_722).toInt ∧ (y_722).toInt ≤ 500 := dg_I.intb (lo := 0) (hi := 500) I_719 sM_0 (by decide +kernel) f_y_722
                        replace w_719_1 : TOPM S_719 (5 : Int32) := w_719_1
                        obtain ⟨x_723, f_x_723, b_x_723⟩ := dg_I.int (i := 0) (k := 43) (lo := (-2147483648)) (hi := 2147483647) I_719 sM_0 (by decide +kernel)
                        replace w_719_2 : JNM S_2 S_719 (5 : Int32) := w_719_2
                        have TF_719 : TFM (x_7).toInt (x_11).toInt bg0 nt0 R0 (on).toNatClampNeg S_719 := (TFM.join TF0 (P1M.keep P1 m_2 (dk_dq rfl) (dk_dq rfl) (dk_dq rfl) (dk_dq rfl) (dk_dq rfl) (dk_dq rfl) (dk_dq rfl) (dk_dq rfl) (dk_dq rfl) (dk_dq rfl) (dk_dq rfl) (dk_dq rfl) (dk_dq rfl) (dk_dq rfl) (dk_dq rfl)) ((m_2.1 0 42 _ sM_0 (dk_dq rfl)).trans f_dp) ((m_2.1 0 43 _ sM_0 (dk_dq rfl)).trans f_on) ((m_2.1 0 45 _ sM_0 (dk_dq rfl)).trans f_om) w_719_2 w_719_1 m_719 (dk_dq rfl) (dk_dq rfl) (dk_dq rfl) (dk_dq rfl) (dk_dq rfl) (dk_dq rfl)).1 (by decide +kernel)
                        replace w_719_3 : JXM S_2 S_719 := w_719_3
                        have XJ_719 := XFM.join XF0 TF0 ((m_2.1 0 42 _ sM_0 (dk_dq rfl)).trans f_dp) ((m_2.1 0 43 _ sM_0 (dk_dq rfl)).trans f_on) ((m_2.1 0 45 _ sM_0 (dk_dq rfl)).trans f_om) w_719_2 w_719_3 w_719_1 m_719 (dk_dq rfl) (dk_dq rfl) (dk_dq rfl) (dk_dq rfl)
                        rw [show (5 : Int32).toInt = 5 from by decide +kernel] at XJ_719
                        have XF_719 : XFM (n_lo 5 l0) p0 X0 S_719 := XJ_719.1
                        have qa_719 : q_am S S_719 ((n_hi 5 l0).map d_st) := (q_am.fs XJ_719.2 (m_2.1 0 34 _ sM_0 (dk_dq rfl)) (m_2.1 0 35 _ sM_0 (dk_dq rfl)) (m_2.2 18 _ sM_18 (dk_dq rfl)).1 (m_2.2 19 _ sM_19 (dk_dq rfl)).1)
                        have hdm_723 := PSM.dims w_719_5 (((m_719.1 0 42 _ sM_0 (dk_dq rfl)).trans (m_2.1 0 42 _ sM_0 (dk_dq rfl))).trans f_dp) f_x_723 f_y_722
                        refine lv_aload_n hx hb dX12_goesOn_233 rfl (lv_at hl 3 rfl) ?_
                        refine lv_aload_n hx hb dX12_goesOn_234 rfl (lv_at hl 3 rfl) ?_
                        refine lv_bipush (v := 60) hx hb dX12_goesOn_235 (by decide +kernel) ?_
                        refine dg_calli hS hA1 hA (va_runV (As := [.int 60]) (rest := [.ref (o + 0)]) F (c_m_isSign l g D o S_719 60 sg (((m_719.1 0 3 _ sM_0 (dk_dq rfl)).trans (m_2.1 0 3 _ sM_0 (dk_dq rfl))).trans f_sg) (by omega) va (((m_719.1 0 6 _ sM_0 (dk_dq rfl)).trans (m_2.1 0 6 _ sM_0 (dk_dq rfl))).trans f_va) (by omega) I_719 H.size) (cwV 1 hts (bw_V wB_314 wB_315 wB_316 wB_297 wB_313) rfl rfl rfl (by decide +kernel) ⟨Nat.le_of_ble_eq_true rfl, Nat.le_of_ble_eq_true rfl⟩) (dg_preV sM_0 rfl K ST hP hS hA1 hA) rfl rfl hl.1 rfl (lv_room (Nat.le_of_ble_eq_true rfl)) dX12_goesOn_237 ⟨Nat.le_of_ble_eq_true rfl, Nat.le_of_ble_eq_true rfl⟩) (fun x_725 S_726 hw_726 H locs hP hS => ?_)
                        rw [hw_726.1] at hP
                        obtain ⟨hq_726, w_726_0, w_726_1, -⟩ := hw_726
                        have hz_727 : (60 : Int32).toInt = 60 := by decide +kernel
                        have w_726_0 : 0 ≤ (x_725).toInt ∧ (x_725).toInt ≤ 1 := w_726_0
                        have w_726_1 : (x_725).toInt = 1 ↔ ((sg).toInt = 3 ∧ (va).toInt = ((60 : Int32)).toInt) := w_726_1
                        have J_758 : ∀ (x_733 : Int32), (38 ≤ (x_733).toInt ∧ (x_733).toInt ≤ 40) → (m_hid ((x_733 : Int32).toInt = n_cp (T_kd tb tn) (T_vl tb tn) (t_ix tb tn (sa : Int32).toNatClampNeg))) → ∀ (H : Heap) (locs : List Loc), va_P D vwCl (dg_w g shM o rfM S_719) H → va_S A s.heap H locs → ∀ ls : Array Slot, lv_has ls 5 [(3, .int x_8), (2, .int x_7), (1, .int x_5), (0, .ref (o + 0))] → W p l e ({ frames := 3, cells := 0, slots := 0, locals := 77 } : Room) s m args below meth c H locs 0 0 Q9 (F0 m 264 ls [.int x_733, .ref (o + 0)]) := by
                          as_aux_lemma =>
                            intro x_733 b_x_733 rel_0 H locs hP hS ls hl
                            clear w_726_1
                            have hsg264 := rel_0
                            refine dg_callv hS hA1 hA (va_runV (As := [.int x_733]) (rest := []) F (c_m_holdsBack l g D o S_719 x_733 y_722 f_y_722 (by omega) I_719 H.size) (cwV 1 hts (bw_V wB_427 wB_428 wB_429 wB_297 wB_426) rfl rfl rfl (by decide +kernel) ⟨Nat.le_of_ble_eq_true rfl, Nat.le_of_ble_eq_true rfl⟩) (dg_preV sM_0 rfl K ST hP hS hA1 hA) rfl rfl hl.1 rfl (lv_room (Nat.le_of_ble_eq_true rfl)) dX12_goesOn_264 ⟨Nat.le_of_ble_eq_true rfl, Nat.le_of_ble_eq_true rfl⟩) (fun S_759 hw_759 H locs hP hS => ?_)
                            obtain ⟨I_759, m_759, w_759_0, w_759_1, -⟩ := hw_759
                            have M_759 := dg_sm.tr M_719 m_759 (dk_dq rfl) (dk_dq rfl)
                            obtain ⟨y_760, f_y_760, w_759_0⟩ := w_759_0
                            have w_759_0 : (y_760).toInt = (y_722).toInt + 1 := w_759_0
                            have b_y_760 : 0 ≤ (y_760).toInt ∧ (y_760).toInt ≤ 500 := dg_I.intb (lo := 0) (hi := 500) I_759 sM_0 (by decide +kernel) f_y_760
                            replace w_759_1 : HBM S_719 S_759 x_733 := w_759_1
                            have XF_759 : XFM ((x_733).toInt :: (n_lo 5 l0)) p0 X0 S_759 := XFM.hb XF_719 TF_719 (((m_719.1 0 42 _ sM_0 (dk_dq rfl)).trans (m_2.1 0 42 _ sM_0 (dk_dq rfl))).trans f_dp) f_x_723 f_y_722 (by omega) m_759 w_759_1
                            have TF_759 : TFM (x_7).toInt (x_11).toInt bg0 nt0 R0 (on).toNatClampNeg S_759 := (by have h9 := TFM.hb TF_719 (((m_719.1 0 42 _ sM_0 (dk_dq rfl)).trans (m_2.1 0 42 _ sM_0 (dk_dq rfl))).trans f_dp) f_x_723 f_y_722 (by omega) m_759 w_759_1; rw [if_neg (by omega)] at h9; exact h9)
                            have hts2 := hts1.out
                            refine lv_aload_n hx hb dX12_goesOn_267 rfl (lv_at hl 3 rfl) ?_
                            refine dg_get (C := RX12) (T := TX12) (N := 77) hx hb hts (fun w h => bw_mem (wU_X12 w h)) hown K hP sM_0 rfl 38 (dk_dq rfl) (hts _ (bw_mem wB_417)) (fun _ h9 => h9) (v := .ref (o + 23)) (show S_759.1 0 38 = .ref (o + 23) from dg_I.rel (d := 23) I_759 sM_0 (by decide +kernel)) dX12_goesOn_268 ?_
                            refine lv_iload_n hx hb dX12_goesOn_271 rfl (lv_at hl 2 rfl) ?_
                            refine lv_iconst (v := 1) hx hb dX12_goesOn_272 (by decide +kernel) ?_
                            have hin_761 : vp_in x_5 20 := (dk_inv2 (by omega))
                            have hz_763 : (1 : Int32).toInt = 1 := by decide +kernel
                            refine dg_iast hx hb K hP hS hA1 sM_23 hin_761 dX12_goesOn_273 (fun S_762 e_762 H locs hP hS => ?_)
                            have I_762 := dg_I.ufu (lo := 0) (hi := 2) I_759 e_762 sM_23 (by decide +kernel) (show 0 ≤ ((1 : Int32)).toInt ∧ ((1 : Int32)).toInt ≤ 2 from (by decide +kernel))
                            have M_762 := dg_sm.uf M_759 e_762 sM_23 (dk_dq rfl)
                            have hz_764 : (1 : Int32).toInt = 1 := by decide +kernel
                            have P0_762 : P0M S_762 := P1M.cmp w_719_5 (((m_719.1 0 42 _ sM_0 (dk_dq rfl)).trans (m_2.1 0 42 _ sM_0 (dk_dq rfl))).trans f_dp) f_x_723 f_y_722 w_719_1 (by omega) m_759 w_759_1 (by omega) (fx := x_5) (by omega) ((congrFun (m_719.2 22 _ sM_22 (dk_dq rfl)).1 _).trans ex_7.symm) (by unfold dk_ts; omega) (by rw [((congrFun (m_719.2 23 _ sM_23 (dk_dq rfl)).1 _).trans ex_11.symm)]; omega) e_762 (by omega)
                            have hz_765 : (1 : Int32).toInt = 1 := by decide +kernel
                            have TF_762 : TFM (x_7).toInt 1 bg0 nt0 R0 (on).toNatClampNeg S_762 := (by have h9 := (TFM.ph' TF_759 (((m_759.1 0 42 _ sM_0 (dk_dq rfl)).trans ((m_719.1 0 42 _ sM_0 (dk_dq rfl)).trans (m_2.1 0 42 _ sM_0 (dk_dq rfl)))).trans f_dp) ((m_759.1 0 43 _ sM_0 (dk_dq rfl)).trans f_x_723) f_y_760 (fx := x_5) (by omega) (by omega) e_762); rw [show (1 : Int32).toInt = 1 from by decide +kernel] at h9; exact h9)
                            clear hts2
                            refine lv_aload_n hx hb dX12_goesOn_274 rfl (lv_at hl 3 rfl) ?_
                            refine dg_callv hS hA1 hA (va_runV (As := []) (rest := []) F (c_m_ahead l g D o S_762 tb tn se (((dg_uf_F e_762 0 5).trans ((m_759.1 0 5 _ sM_0 (dk_dq rfl)).trans ((m_719.1 0 5 _ sM_0 (dk_dq rfl)).trans (m_2.1 0 5 _ sM_0 (dk_dq rfl))))).trans f_se) (by omega) sl (((dg_uf_F e_762 0 2).trans ((m_759.1 0 2 _ sM_0 (dk_dq rfl)).trans ((m_719.1 0 2 _ sM_0 (dk_dq rfl)).trans (m_2.1 0 2 _ sM_0 (dk_dq rfl))))).trans f_sl) (by omega) (by omega) (TKM.keep (TKM.keep (TKM.keep (TKM.keep TK m_2 (dk_dq rfl) (dk_dq rfl) (dk_dq rfl) (dk_dq rfl) (dk_dq rfl) (dk_dq rfl) (dk_dq rfl) (dk_dq rfl)) m_719 (dk_dq rfl) (dk_dq rfl) (dk_dq rfl) (dk_dq rfl) (dk_dq rfl) (dk_dq rfl) (dk_dq rfl) (dk_dq rfl)) m_759 (dk_dq rfl) (dk_dq rfl) (dk_dq rfl) (dk_dq rfl) (dk_dq rfl) (dk_dq rfl) (dk_dq rfl) (dk_dq rfl)) (dg_sm.uf (WF := []) (WA := [23]) dg_sm.rf e_762 sM_23 (dk_dq rfl)) (dk_dq rfl) (dk_dq rfl) (dk_dq rfl) (dk_dq rfl) (dk_dq rfl) (dk_dq rfl) (dk_dq rfl) (dk_dq rfl)).1 I_762 H.size) (cwV 0 hts (bw_V wB_318 wB_319 wB_320 wB_297 wB_317) rfl rfl rfl (by decide +kernel) ⟨Nat.le_of_ble_eq_true rfl, Nat.le_of_ble_eq_true rfl⟩) (dg_preV sM_0 rfl K ST hP hS hA1 hA) rfl rfl hl.1 rfl (lv_room (Nat.le_of_ble_eq_true rfl)) dX12_goesOn_275 ⟨Nat.le_of_ble_eq_true rfl, Nat.le_of_ble_eq_true rfl⟩) (fun S_766 hw_766 H locs hP hS => ?_)
                            obtain ⟨I_766, m_766, w_766_0, w_766_1, -⟩ := hw_766
                            have M_766 := dg_sm.tr M_762 m_766 (dk_dq rfl) (dk_dq rfl)
                            obtain ⟨y_767, y_768, y_769, f_y_767, f_y_768, f_y_769, w_766_0⟩ := w_766_0
                            have w_766_0 : (se).toInt ≤ (y_768).toInt ∧ (y_768).toInt ≤ (y_769).toInt ∧ (y_769).toInt ≤ (sl).toInt ∧ ((y_767).toInt ≠ 0 → (y_768).toInt + 1 ≤ (y_769).toInt) := w_766_0
                            obtain ⟨w_766_0_0, w_766_0_1, w_766_0_2, w_766_0_3⟩ := w_766_0
                            have lxh_w_766_0_3 : m_hid ((y_768).toInt ≤ (y_769).toInt ∧ (y_769).toInt ≤ (sl).toInt ∧ ((y_767).toInt ≠ 0 → (y_768).toInt + 1 ≤ (y_769).toInt)) := m_hid.mk ⟨w_766_0_1, w_766_0_2, w_766_0_3⟩
                            have b_y_767 : 0 ≤ (y_767).toInt ∧ (y_767).toInt ≤ 3 := dg_I.intb (lo := 0) (hi := 3) I_766 sM_0 (by decide +kernel) f_y_767
                            have b_y_768 : 0 ≤ (y_768).toInt ∧ (y_768).toInt ≤ 1600 := dg_I.intb (lo := 0) (hi := 1600) I_766 sM_0 (by decide +kernel) f_y_768
                            have b_y_769 : 0 ≤ (y_769).toInt ∧ (y_769).toInt ≤ 1600 := dg_I.intb (lo := 0) (hi := 1600) I_766 sM_0 (by decide +kernel) f_y_769
                            replace w_766_1 : TNX tb tn se S_766 := w_766_1
                            obtain ⟨TK_766, nx_766, -⟩ := TKM.nx (TKM.keep (TKM.keep (TKM.keep (TKM.keep TK m_2 (dk_dq rfl) (dk_dq rfl) (dk_dq rfl) (dk_dq rfl) (dk_dq rfl) (dk_dq rfl) (dk_dq rfl) (dk_dq rfl)) m_719 (dk_dq rfl) (dk_dq rfl) (dk_dq rfl) (dk_dq rfl) (dk_dq rfl) (dk_dq rfl) (dk_dq rfl) (dk_dq rfl)) m_759 (dk_dq rfl) (dk_dq rfl) (dk_dq rfl) (dk_dq rfl) (dk_dq rfl) (dk_dq rfl) (dk_dq rfl) (dk_dq rfl)) (dg_sm.uf (WF := []) (WA := [23]) dg_sm.rf e_762 sM_23 (dk_dq rfl)) (dk_dq rfl) (dk_dq rfl) (dk_dq rfl) (dk_dq rfl) (dk_dq rfl) (dk_dq rfl) (dk_dq rfl) (dk_dq rfl)) (((dg_uf_F e_762 0 4).trans ((m_759.1 0 4 _ sM_0 (dk_dq rfl)).trans ((m_719.1 0 4 _ sM_0 (dk_dq rfl)).trans (m_2.1 0 4 _ sM_0 (dk_dq rfl))))).trans f_sa) (((dg_uf_F e_762 0 5).trans ((m_759.1 0 5 _ sM_0 (dk_dq rfl)).trans ((m_719.1 0 5 _ sM_0 (dk_dq rfl)).trans (m_2.1 0 5 _ sM_0 (dk_dq rfl))))).trans f_se) w_766_1 m_766 (dk_dq rfl) (dk_dq rfl) f_y_768
                            replace nx_766 := nx_766 (fun q9 => absurd ((TKM.zero (TKM.keep (TKM.keep (TKM.keep (TKM.keep TK m_2 (dk_dq rfl) (dk_dq rfl) (dk_dq rfl) (dk_dq rfl) (dk_dq rfl) (dk_dq rfl) (dk_dq rfl) (dk_dq rfl)) m_719 (dk_dq rfl) (dk_dq rfl) (dk_dq rfl) (dk_dq rfl) (dk_dq rfl) (dk_dq rfl) (dk_dq rfl) (dk_dq rfl)) m_759 (dk_dq rfl) (dk_dq rfl) (dk_dq rfl) (dk_dq rfl) (dk_dq rfl) (dk_dq rfl) (dk_dq rfl) (dk_dq rfl)) (dg_sm.uf (WF := []) (WA := [23]) dg_sm.rf e_762 sM_23 (dk_dq rfl)) (dk_dq rfl) (dk_dq rfl) (dk_dq rfl) (dk_dq rfl) (dk_dq rfl) (dk_dq rfl) (dk_dq rfl) (dk_dq rfl)) (((dg_uf_F e_762 0 3).trans ((m_759.1 0 3 _ sM_0 (dk_dq rfl)).trans ((m_719.1 0 3 _ sM_0 (dk_dq rfl)).trans (m_2.1 0 3 _ sM_0 (dk_dq rfl))))).trans f_sg) (((dg_uf_F e_762 0 4).trans ((m_759.1 0 4 _ sM_0 (dk_dq rfl)).trans ((m_719.1 0 4 _ sM_0 (dk_dq rfl)).trans (m_2.1 0 4 _ sM_0 (dk_dq rfl))))).trans f_sa)).mpr q9) (by omega))
                            as_aux_lemma =>
                              refine lv_aload_n hx hb dX12_goesOn_278 rfl (lv_at hl 3 rfl) ?_
                              refine lv_iconst (v := 0) hx hb dX12_goesOn_279 (by decide +kernel) ?_
                              have hz_770 : (0 : Int32).toInt = 0 := by decide +kernel
                              refine dg_put (ci := 12) (v := .int 0) (ty := tyX12 46) (C := RX12) (T := TX12) (N := 77) hx hb hts (fun w h => bw_mem (wU_X12 w h)) tyX12 tyX12_ok nmX12 hown K hP hS hA1 sM_0 rfl 46 (dk_dq rfl) (hts _ (bw_mem wB_440)) (fun _ h9 => h9) rfl (by decide +kernel) (by decide +kernel) (by decide +kernel) dX12_goesOn_280 (fun S_771 e_771 H locs hP hS => ?_)
                              have I_771 := dg_I.uFi (lo := 0) (hi := 1) I_766 e_771 sM_0 (by decide +kernel) (show 0 ≤ ((0 : Int32)).toInt ∧ ((0 : Int32)).toInt ≤ 1 from (by decide +kernel))
                              have M_771 := dg_sm.uF M_766 e_771 sM_0 (dk_dq rfl)
                              refine lv_iconst (v := 1) hx hb dX12_goesOn_283 (by decide +kernel) ?_
                              have hz_772 : (1 : Int32).toInt = 1 := by decide +kernel
                              have hz_773 : (1 : Int32).toInt = 1 := by decide +kernel
                              have hz_774 : (0 : Int32).toInt = 0 := by decide +kernel
                              have hz_775 : (1 : Int32).toInt = 1 := by decide +kernel
                              have hz_776 : (0 : Int32).toInt = 0 := by decide +kernel
                              have hz_777 : (1 : Int32).toInt = 1 := by decide +kernel
                              have hz_778 : (1 : Int32).toInt = 1 := by decide +kernel
                              have hz_779 : (0 : Int32).toInt = 0 := by decide +kernel
                              have hz_780 : (1 : Int32).toInt = 1 := by decide +kernel
                              have hz_781 : (1 : Int32).toInt = 1 := by decide +kernel
                              have hz_782 : (0 : Int32).toInt = 0 := by decide +kernel
                              refine W.widen (k := 0) (n := 0) (Nat.le_of_ble_eq_true rfl) (Nat.le_of_ble_eq_true rfl) ?_
                              rw [hQ9]
                              exact dg_iret hx hb hr hlocks (by decide +kernel) hP hS ⟨I_771, M_771, (by decide +kernel), ⟨y_767, y_768, y_769, y_3, y_721, dp, y_760, 0, ((dg_uF_ne e_771 (fun z => absurd z.2 (dk_dq rfl))).trans f_y_767), ((dg_uF_ne e_771 (fun z => absurd z.2 (dk_dq rfl))).trans f_y_768), ((dg_uF_ne e_771 (fun z => absurd z.2 (dk_dq rfl))).trans f_y_769), (((dg_uF_ne e_771 (fun z => absurd z.2 (dk_dq rfl))).trans ((m_766.1 0 8 _ sM_0 (dk_dq rfl)).trans ((dg_uf_F e_762 0 8).trans ((m_759.1 0 8 _ sM_0 (dk_dq rfl)).trans (m_719.1 0 8 _ sM_0 (dk_dq rfl)))))).trans f_y_3), (((dg_uF_ne e_771 (fun z => absurd z.2 (dk_dq rfl))).trans ((m_766.1 0 34 _ sM_0 (dk_dq rfl)).trans ((dg_uf_F e_762 0 34).trans (m_759.1 0 34 _ sM_0 (dk_dq rfl))))).trans f_y_721), (((dg_uF_ne e_771 (fun z => absurd z.2 (dk_dq rfl))).trans ((m_766.1 0 42 _ sM_0 (dk_dq rfl)).trans ((dg_uf_F e_762 0 42).trans ((m_759.1 0 42 _ sM_0 (dk_dq rfl)).trans ((m_719.1 0 42 _ sM_0 (dk_dq rfl)).trans (m_2.1 0 42 _ sM_0 (dk_dq rfl))))))).trans f_dp), (((dg_uF_ne e_771 (fun z => absurd z.2 (dk_dq rfl))).trans ((m_766.1 0 45 _ sM_0 (dk_dq rfl)).trans (dg_uf_F e_762 0 45))).trans f_y_760), (dg_uF_at e_771), ⟨lxh_w_766_0_3.out, (by omega)⟩⟩, (fun k9 hk9 hk0 => POM.mk0 (P0M.keep (P0M.keep P0_762 m_766 (dk_dq rfl) (dk_dq rfl) (dk_dq rfl) (dk_dq rfl) (dk_dq rfl) (dk_dq rfl) (dk_dq rfl) (dk_dq rfl) (dk_dq rfl) (dk_dq rfl) (dk_dq rfl) (dk_dq rfl) (dk_dq rfl) (dk_dq rfl) (dk_dq rfl)) (dg_sm.uF (WF := [(0, 46)]) (WA := []) dg_sm.rf e_771 sM_0 (dk_dq rfl)) (dk_dq rfl) (dk_dq rfl) (dk_dq rfl) (dk_dq rfl) (dk_dq rfl) (dk_dq rfl) (dk_dq rfl) (dk_dq rfl) (dk_dq rfl) (dk_dq rfl) (dk_dq rfl) (dk_dq rfl) (dk_dq rfl) (dk_dq rfl) (dk_dq rfl)) (dg_uF_at e_771) (by omega)), (GOK.ok f_sa (((dg_uF_ne e_771 (fun z => absurd z.2 (dk_dq rfl))).trans ((m_766.1 0 8 _ sM_0 (dk_dq rfl)).trans ((dg_uf_F e_762 0 8).trans ((m_759.1 0 8 _ sM_0 (dk_dq rfl)).trans (m_719.1 0 8 _ sM_0 (dk_dq rfl)))))).trans f_y_3) ((dg_uF_ne e_771 (fun z => absurd z.2 (dk_dq rfl))).trans f_y_768) (dg_uF_at e_771) (by omega) hM0 (TFM.keep (TFM.keep TF_762 m_766 (dk_dq rfl) (dk_dq rfl) (dk_dq rfl) (dk_dq rfl) (dk_dq rfl) (dk_dq rfl) (dk_dq rfl) (dk_dq rfl)) (dg_sm.uF (WF := [(0, 46)]) (WA := []) dg_sm.rf e_771 sM_0 (dk_dq rfl)) (dk_dq rfl) (dk_dq rfl) (dk_dq rfl) (dk_dq rfl) (dk_dq rfl) (dk_dq rfl) (dk_dq rfl) (dk_dq rfl)) (m_st_t.trans (m_go_cmp (m_tst_iff.mpr hts1.out) (by omega) (hnop.out (by omega)) hcmp.out)) (by omega) (by decide +kernel) (by first | decide +kernel | exact decide_eq_true (by omega))), (GON.ok f_sa ((dg_uF_ne e_771 (fun z => absurd z.2 (dk_dq rfl))).trans f_y_768) (dg_uF_at e_771) hN0 (TFM.keep (TFM.keep TF_762 m_766 (dk_dq rfl) (dk_dq rfl) (dk_dq rfl) (dk_dq rfl) (dk_dq rfl) (dk_dq rfl) (dk_dq rfl) (dk_dq rfl)) (dg_sm.uF (WF := [(0, 46)]) (WA := []) dg_sm.rf e_771 sM_0 (dk_dq rfl)) (dk_dq rfl) (dk_dq rfl) (dk_dq rfl) (dk_dq rfl) (dk_dq rfl) (dk_dq rfl) (dk_dq rfl) (dk_dq rfl)) (XFM.keep (XFM.keep (XFM.keep XF_759 (dg_sm.uf (WF := []) (WA := [23]) dg_sm.rf e_762 sM_23 (dk_dq rfl)) (dk_dq rfl) (dk_dq rfl) (dk_dq rfl) (dk_dq rfl) (dk_dq rfl)) m_766 (dk_dq rfl) (dk_dq rfl) (dk_dq rfl) (dk_dq rfl) (dk_dq rfl)) (dg_sm.uF (WF := [(0, 46)]) (WA := []) dg_sm.rf e_771 sM_0 (dk_dq rfl)) (dk_dq rfl) (dk_dq rfl) (dk_dq rfl) (dk_dq rfl) (dk_dq rfl)) (q_am.mv qa_719 ((dg_uF_ne e_771 (fun z => absurd z.2 (dk_dq rfl))).trans ((m_766.1 0 34 _ sM_0 (dk_dq rfl)).trans ((dg_uf_F e_762 0 34).trans (m_759.1 0 34 _ sM_0 (dk_dq rfl))))) ((dg_uF_ne e_771 (fun z => absurd z.2 (dk_dq rfl))).trans ((m_766.1 0 35 _ sM_0 (dk_dq rfl)).trans ((dg_uf_F e_762 0 35).trans (m_759.1 0 35 _ sM_0 (dk_dq rfl))))) ((dg_uF_f e_771 18).trans ((m_766.2 18 _ sM_18 (dk_dq rfl)).1.trans ((dg_uf_ne e_762 (dk_dq rfl)).trans (m_759.2 18 _ sM_18 (dk_dq rfl)).1))) ((dg_uF_f e_771 19).trans ((m_766.2 19 _ sM_19 (dk_dq rfl)).1.trans ((dg_uf_ne e_762 (dk_dq rfl)).trans (m_759.2 19 _ sM_19 (dk_dq rfl)).1)))) (fun out => by rw [hsg264.out]; exact n_go_cmp (m_tst_iff.mpr hts1.out) (by omega) (hnop.out (by omega)) hcmp.out) (by omega) (by decide +kernel) (by first | decide +kernel | exact decide_eq_true (by omega))), (TKM.keep TK_766 (dg_sm.uF (WF := [(0, 46)]) (WA := []) dg_sm.rf e_771 sM_0 (dk_dq rfl)) (dk_dq rfl) (dk_dq rfl) (dk_dq rfl) (dk_dq rfl) (dk_dq rfl) (dk_dq rfl) (dk_dq rfl) (dk_dq rfl)), (ZWM.keep (ZWM.keep (ZWM.keep (ZWM.keep w_719_4 m_759 (dk_dq rfl) (dk_dq rfl) (dk_dq rfl) (dk_dq rfl)) (dg_sm.uf (WF := []) (WA := [23]) dg_sm.rf e_762 sM_23 (dk_dq rfl)) (dk_dq rfl) (dk_dq rfl) (dk_dq rfl) (dk_dq rfl)) m_766 (dk_dq rfl) (dk_dq rfl) (dk_dq rfl) (dk_dq rfl)) (dg_sm.uF (WF := [(0, 46)]) (WA := []) dg_sm.rf e_771 sM_0 (dk_dq rfl)) (dk_dq rfl) (dk_dq rfl) (dk_dq rfl) (dk_dq rfl)), (G8M.keep (G8M.keep (G8M.keep (G8M.keep w_719_6 m_759 (dk_dq rfl) (dk_dq rfl) (dk_dq rfl)) (dg_sm.uf (WF := []) (WA := [23]) dg_sm.rf e_762 sM_23 (dk_dq rfl)) (dk_dq rfl) (dk_dq rfl) (dk_dq rfl)) m_766 (dk_dq rfl) (dk_dq rfl) (dk_dq rfl)) (dg_sm.uF (WF := [(0, 46)]) (WA := []) dg_sm.rf e_771 sM_0 (dk_dq rfl)) (dk_dq rfl) (dk_dq rfl) (dk_dq rfl)), trivial⟩ dX12_goesOn_284
                        refine lv_if_eq (tgt := 248) hx hb dX12_goesOn_240 (dk_dq rfl) (fun c_783 => ?_) (fun c_783 => ?_)
                        · as_aux_lemma =>
                            have jc_783 := dk_eqc (k := 0) (by decide +kernel) c_783
                            have qw_726_1 : g_s (T_kd tb tn) (T_vl tb tn) 60 (t_ix tb tn (sa : Int32).toNatClampNeg) = false := g_iff_f (TKM.iss (TKM.keep (TKM.keep TK m_2 (dk_dq rfl) (dk_dq rfl) (dk_dq rfl) (dk_dq rfl) (dk_dq rfl) (dk_dq rfl) (dk_dq rfl) (dk_dq rfl)) m_719 (dk_dq rfl) (dk_dq rfl) (dk_dq rfl) (dk_dq rfl) (dk_dq rfl) (dk_dq rfl) (dk_dq rfl) (dk_dq rfl)) (((m_719.1 0 3 _ sM_0 (dk_dq rfl)).trans (m_2.1 0 3 _ sM_0 (dk_dq rfl))).trans f_sg) (((m_719.1 0 4 _ sM_0 (dk_dq rfl)).trans (m_2.1 0 4 _ sM_0 (dk_dq rfl))).trans f_sa) (((m_719.1 0 6 _ sM_0 (dk_dq rfl)).trans (m_2.1 0 6 _ sM_0 (dk_dq rfl))).trans f_va) hk5.out (c := 60) (by have h9 := w_726_1; rw [show (60 : Int32).toInt = 60 from by decide +kernel] at h9; exact h9)) (by omega)
                            clear w_726_1
                            refine lv_aload_n hx hb dX12_goesOn_248 rfl (lv_at hl 3 rfl) ?_
                            refine lv_bipush (v := 62) hx hb dX12_goesOn_249 (by decide +kernel) ?_
                            refine dg_calli hS hA1 hA (va_runV (As := [.int 62]) (rest := [.ref (o + 0)]) F (c_m_isSign l g D o S_719 62 sg (((m_719.1 0 3 _ sM_0 (dk_dq rfl)).trans (m_2.1 0 3 _ sM_0 (dk_dq rfl))).trans f_sg) (by omega) va (((m_719.1 0 6 _ sM_0 (dk_dq rfl)).trans (m_2.1 0 6 _ sM_0 (dk_dq rfl))).trans f_va) (by omega) I_719 H.size) (cwV 1 hts (bw_V wB_314 wB_315 wB_316 wB_297 wB_313) rfl rfl rfl (by decide +kernel) ⟨Nat.le_of_ble_eq_true rfl, Nat.le_of_ble_eq_true rfl⟩) (dg_preV sM_0 rfl K ST hP hS hA1 hA) rfl rfl hl.1 rfl (lv_room (Nat.le_of_ble_eq_true rfl)) dX12_goesOn_251 ⟨Nat.le_of_ble_eq_true rfl, Nat.le_of_ble_eq_true rfl⟩) (fun x_784 S_785 hw_785 H locs hP hS => ?_)
                            rw [hw_785.1] at hP
                            obtain ⟨hq_785, w_785_0, w_785_1, -⟩ := hw_785
                            have hz_786 : (62 : Int32).toInt = 62 := by decide +kernel
                            have w_785_0 : 0 ≤ (x_784).toInt ∧ (x_784).toInt ≤ 1 := w_785_0
                            have w_785_1 : (x_784).toInt = 1 ↔ ((sg).toInt = 3 ∧ (va).toInt = ((62 : Int32)).toInt) := w_785_1
                            refine lv_if_eq (tgt := 262) hx hb dX12_goesOn_254 (dk_dq rfl) (fun c_787 => ?_) (fun c_787 => ?_)
                            · have jc_787 := dk_eqc (k := 0) (by decide +kernel) c_787
                              have qw_785_1 : g_s (T_kd tb tn) (T_vl tb tn) 62 (t_ix tb tn (sa : Int32).toNatClampNeg) = false := g_iff_f (TKM.iss (TKM.keep (TKM.keep TK m_2 (dk_dq rfl) (dk_dq rfl) (dk_dq rfl) (dk_dq rfl) (dk_dq rfl) (dk_dq rfl) (dk_dq rfl) (dk_dq rfl)) m_719 (dk_dq rfl) (dk_dq rfl) (dk_dq rfl) (dk_dq rfl) (dk_dq rfl) (dk_dq rfl) (dk_dq rfl) (dk_dq rfl)) (((m_719.1 0 3 _ sM_0 (dk_dq rfl)).trans (m_2.1 0 3 _ sM_0 (dk_dq rfl))).trans f_sg) (((m_719.1 0 4 _ sM_0 (dk_dq rfl)).trans (m_2.1 0 4 _ sM_0 (dk_dq rfl))).trans f_sa) (((m_719.1 0 6 _ sM_0 (dk_dq rfl)).trans (m_2.1 0 6 _ sM_0 (dk_dq rfl))).trans f_va) hk5.out (c := 62) (by have h9 := w_785_1; rw [show (62 : Int32).toInt = 62 from by decide +kernel] at h9; exact h9)) (by omega)
                              clear w_785_1
                              refine lv_bipush (v := 40) hx hb dX12_goesOn_262 (by decide +kernel) ?_
                              have hz_788 : (40 : Int32).toInt = 40 := by decide +kernel
                              have hz_789 : (40 : Int32).toInt = 40 := by decide +kernel
                              exact J_758 40 (by decide +kernel) (m_hid.mk (by rw [n_cp_3 qw_726_1 qw_785_1]; decide +kernel)) _ _ hP hS _ (lv_sub hl [0, 1, 2, 3] rfl)
                            · have jc_787 := dk_neqc (k := 0) (by decide +kernel) c_787
                              have jbc_787 : 1 ≤ (x_784).toInt := by omega
                              clear jc_787
                              have qw_785_1 : g_s (T_kd tb tn) (T_vl tb tn) 62 (t_ix tb tn (sa : Int32).toNatClampNeg) = true := (TKM.iss (TKM.keep (TKM.keep TK m_2 (dk_dq rfl) (dk_dq rfl) (dk_dq rfl) (dk_dq rfl) (dk_dq rfl) (dk_dq rfl) (dk_dq rfl) (dk_dq rfl)) m_719 (dk_dq rfl) (dk_dq rfl) (dk_dq rfl) (dk_dq rfl) (dk_dq rfl) (dk_dq rfl) (dk_dq rfl) (dk_dq rfl)) (((m_719.1 0 3 _ sM_0 (dk_dq rfl)).trans (m_2.1 0 3 _ sM_0 (dk_dq rfl))).trans f_sg) (((m_719.1 0 4 _ sM_0 (dk_dq rfl)).trans (m_2.1 0 4 _ sM_0 (dk_dq rfl))).trans f_sa) (((m_719.1 0 6 _ sM_0 (dk_dq rfl)).trans (m_2.1 0 6 _ sM_0 (dk_dq rfl))).trans f_va) hk5.out (c := 62) (by have h9 := w_785_1; rw [show (62 : Int32).toInt = 62 from by decide +kernel] at h9; exact h9)).mp (by omega)
                              have w_785_1_r := w_785_1.mp (by omega)
                              obtain ⟨w_785_1_r1, w_785_1_r2⟩ := w_785_1_r
                              clear w_785_1
                              have hlx_2r := hlx_2 (by omega)
                              clear hlx_2
                              refine lv_bipush (v := 39) hx hb dX12_goesOn_257 (by decide +kernel) ?_
                              refine lv_goto (tgt := 264) hx hb dX12_goesOn_259 (dk_dq rfl) ?_
                              have hz_790 : (39 : Int32).toInt = 39 := by decide +kernel
                              have hz_791 : (39 : Int32).toInt = 39 := by decide +kernel
                              exact J_758 39 (by decide +kernel) (m_hid.mk (by rw [n_cp_2 qw_785_1]; decide +kernel)) _ _ hP hS _ (lv_sub hl [0, 1, 2, 3] rfl)
                        · have jc_783 := dk_neqc (k := 0) (by decide +kernel) c_783
                          have jbc_783 : 1 ≤ (x_725).toInt := by omega
                          clear jc_783
                          have qw_726_1 : g_s (T_kd tb tn) (T_vl tb tn) 60 (t_ix tb tn (sa : Int32).toNatClampNeg) = true := (TKM.iss (TKM.keep (TKM.keep TK m_2 (dk_dq rfl) (dk_dq rfl) (dk_dq rfl) (dk_dq rfl) (dk_dq rfl) (dk_dq rfl) (dk_dq rfl) (dk_dq rfl)) m_719 (dk_dq rfl) (dk_dq rfl) (dk_dq rfl) (dk_dq rfl) (dk_dq rfl) (dk_dq rfl) (dk_dq rfl) (dk_dq rfl)) (((m_719.1 0 3 _ sM_0 (dk_dq rfl)).trans (m_2.1 0 3 _ sM_0 (dk_dq rfl))).trans f_sg) (((m_719.1 0 4 _ sM_0 (dk_dq rfl)).trans (m_2.1 0 4 _ sM_0 (dk_dq rfl))).trans f_sa) (((m_719.1 0 6 _ sM_0 (dk_dq rfl)).trans (m_2.1 0 6 _ sM_0 (dk_dq rfl))).trans f_va) hk5.out (c := 60) (by have h9 := w_726_1; rw [show (60 : Int32).toInt = 60 from by decide +kernel] at h9; exact h9)).mp (by omega)
                          have w_726_1_r := w_726_1.mp (by omega)
                          obtain ⟨w_726_1_r1, w_726_1_r2⟩ := w_726_1_r
                          clear w_726_1
                          have hlx_2r := hlx_2 (by omega)
                          clear hlx_2
                          refine lv_bipush (v := 38) hx hb dX12_goesOn_243 (by decide +kernel) ?_
                          refine lv_goto (tgt := 264) hx hb dX12_goesOn_245 (dk_dq rfl) ?_
                          have hz_792 : (38 : Int32).toInt = 38 := by decide +kernel
                          have hz_793 : (38 : Int32).toInt = 38 := by decide +kernel
                          exact J_758 38 (by decide +kernel) (m_hid.mk (by rw [n_cp_1 qw_726_1]; decide +kernel)) _ _ hP hS _ (lv_sub hl [0, 1, 2, 3] rfl)
                    refine lv_if_ne (tgt := 228) hx hb dX12_goesOn_207 (dk_dq rfl) (fun c_794 => ?_) (fun c_794 => ?_)
                    · have jc_794 := dk_neqc (k := 0) (by decide +kernel) c_794
                      have jbc_794 : 1 ≤ (x_665).toInt := by omega
                      clear jc_794
                      have qw_666_1 : g_s (T_kd tb tn) (T_vl tb tn) 60 (t_ix tb tn (sa : Int32).toNatClampNeg) = true := (TKM.iss (TKM.keep TK m_2 (dk_dq rfl) (dk_dq rfl) (dk_dq rfl) (dk_dq rfl) (dk_dq rfl) (dk_dq rfl) (dk_dq rfl) (dk_dq rfl)) ((m_2.1 0 3 _ sM_0 (dk_dq rfl)).trans f_sg) ((m_2.1 0 4 _ sM_0 (dk_dq rfl)).trans f_sa) ((m_2.1 0 6 _ sM_0 (dk_dq rfl)).trans f_va) hk5.out (c := 60) (by have h9 := w_666_1; rw [show (60 : Int32).toInt = 60 from by decide +kernel] at h9; exact h9)).mp (by omega)
                      have w_666_1_r := w_666_1.mp (by omega)
                      obtain ⟨w_666_1_r1, w_666_1_r2⟩ := w_666_1_r
                      clear w_666_1
                      have hlx_2r := hlx_2 (by omega)
                      clear hlx_2
                      exact J_717 ()  (by omega) (m_hid.mk (g_co_1 qw_666_1)) _ _ hP hS _ (lv_sub hl [0, 1, 2, 3] rfl)
                    · as_aux_lemma =>
                        have jc_794 := dk_eqc (k := 0) (by decide +kernel) c_794
                        have qw_666_1 : g_s (T_kd tb tn) (T_vl tb tn) 60 (t_ix tb tn (sa : Int32).toNatClampNeg) = false := g_iff_f (TKM.iss (TKM.keep TK m_2 (dk_dq rfl) (dk_dq rfl) (dk_dq rfl) (dk_dq rfl) (dk_dq rfl) (dk_dq rfl) (dk_dq rfl) (dk_dq rfl)) ((m_2.1 0 3 _ sM_0 (dk_dq rfl)).trans f_sg) ((m_2.1 0 4 _ sM_0 (dk_dq rfl)).trans f_sa) ((m_2.1 0 6 _ sM_0 (dk_dq rfl)).trans f_va) hk5.out (c := 60) (by have h9 := w_666_1; rw [show (60 : Int32).toInt = 60 from by decide +kernel] at h9; exact h9)) (by omega)
                        clear w_666_1
                        refine lv_aload_n hx hb dX12_goesOn_210 rfl (lv_at hl 3 rfl) ?_
                        refine lv_bipush (v := 62) hx hb dX12_goesOn_211 (by decide +kernel) ?_
                        refine dg_calli hS hA1 hA (va_runV (As := [.int 62]) (rest := []) F (c_m_isSign l g D o S_2 62 sg ((m_2.1 0 3 _ sM_0 (dk_dq rfl)).trans f_sg) (by omega) va ((m_2.1 0 6 _ sM_0 (dk_dq rfl)).trans f_va) (by omega) I_2 H.size) (cwV 1 hts (bw_V wB_314 wB_315 wB_316 wB_297 wB_313) rfl rfl rfl (by decide +kernel) ⟨Nat.le_of_ble_eq_true rfl, Nat.le_of_ble_eq_true rfl⟩) (dg_preV sM_0 rfl K ST hP hS hA1 hA) rfl rfl hl.1 rfl (lv_room (Nat.le_of_ble_eq_true rfl)) dX12_goesOn_213 ⟨Nat.le_of_ble_eq_true rfl, Nat.le_of_ble_eq_true rfl⟩) (fun x_795 S_796 hw_796 H locs hP hS => ?_)
                        rw [hw_796.1] at hP
                        obtain ⟨hq_796, w_796_0, w_796_1, -⟩ := hw_796
                        have hz_797 : (62 : Int32).toInt = 62 := by decide +kernel
                        have w_796_0 : 0 ≤ (x_795).toInt ∧ (x_795).toInt ≤ 1 := w_796_0
                        have w_796_1 : (x_795).toInt = 1 ↔ ((sg).toInt = 3 ∧ (va).toInt = ((62 : Int32)).toInt) := w_796_1
                        refine lv_if_ne (tgt := 228) hx hb dX12_goesOn_216 (dk_dq rfl) (fun c_798 => ?_) (fun c_798 => ?_)
                        · have jc_798 := dk_neqc (k := 0) (by decide +kernel) c_798
                          have jbc_798 : 1 ≤ (x_795).toInt := by omega
                          clear jc_798
                          have qw_796_1 : g_s (T_kd tb tn) (T_vl tb tn) 62 (t_ix tb tn (sa : Int32).toNatClampNeg) = true := (TKM.iss (TKM.keep TK m_2 (dk_dq rfl) (dk_dq rfl) (dk_dq rfl) (dk_dq rfl) (dk_dq rfl) (dk_dq rfl) (dk_dq rfl) (dk_dq rfl)) ((m_2.1 0 3 _ sM_0 (dk_dq rfl)).trans f_sg) ((m_2.1 0 4 _ sM_0 (dk_dq rfl)).trans f_sa) ((m_2.1 0 6 _ sM_0 (dk_dq rfl)).trans f_va) hk5.out (c := 62) (by have h9 := w_796_1; rw [show (62 : Int32).toInt = 62 from by decide +kernel] at h9; exact h9)).mp (by omega)
                          have w_796_1_r := w_796_1.mp (by omega)
                          obtain ⟨w_796_1_r1, w_796_1_r2⟩ := w_796_1_r
                          clear w_796_1
                          have hlx_2r := hlx_2 (by omega)
                          clear hlx_2
                          exact J_717 ()  (by omega) (m_hid.mk (g_co_2 qw_796_1)) _ _ hP hS _ (lv_sub hl [0, 1, 2, 3] rfl)
                        · as_aux_lemma =>
                            have jc_798 := dk_eqc (k := 0) (by decide +kernel) c_798
                            have qw_796_1 : g_s (T_kd tb tn) (T_vl tb tn) 62 (t_ix tb tn (sa : Int32).toNatClampNeg) = false := g_iff_f (TKM.iss (TKM.keep TK m_2 (dk_dq rfl) (dk_dq rfl) (dk_dq rfl) (dk_dq rfl) (dk_dq rfl) (dk_dq rfl) (dk_dq rfl) (dk_dq rfl)) ((m_2.1 0 3 _ sM_0 (dk_dq rfl)).trans f_sg) ((m_2.1 0 4 _ sM_0 (dk_dq rfl)).trans f_sa) ((m_2.1 0 6 _ sM_0 (dk_dq rfl)).trans f_va) hk5.out (c := 62) (by have h9 := w_796_1; rw [show (62 : Int32).toInt = 62 from by decide +kernel] at h9; exact h9)) (by omega)
                            clear w_796_1
                            refine lv_aload_n hx hb dX12_goesOn_219 rfl (lv_at hl 3 rfl) ?_
                            refine lv_bipush (v := 61) hx hb dX12_goesOn_220 (by decide +kernel) ?_
                            refine dg_calli hS hA1 hA (va_runV (As := [.int 61]) (rest := []) F (c_m_isSign l g D o S_2 61 sg ((m_2.1 0 3 _ sM_0 (dk_dq rfl)).trans f_sg) (by omega) va ((m_2.1 0 6 _ sM_0 (dk_dq rfl)).trans f_va) (by omega) I_2 H.size) (cwV 1 hts (bw_V wB_314 wB_315 wB_316 wB_297 wB_313) rfl rfl rfl (by decide +kernel) ⟨Nat.le_of_ble_eq_true rfl, Nat.le_of_ble_eq_true rfl⟩) (dg_preV sM_0 rfl K ST hP hS hA1 hA) rfl rfl hl.1 rfl (lv_room (Nat.le_of_ble_eq_true rfl)) dX12_goesOn_222 ⟨Nat.le_of_ble_eq_true rfl, Nat.le_of_ble_eq_true rfl⟩) (fun x_799 S_800 hw_800 H locs hP hS => ?_)
                            rw [hw_800.1] at hP
                            obtain ⟨hq_800, w_800_0, w_800_1, -⟩ := hw_800
                            have hz_801 : (61 : Int32).toInt = 61 := by decide +kernel
                            have w_800_0 : 0 ≤ (x_799).toInt ∧ (x_799).toInt ≤ 1 := w_800_0
                            have w_800_1 : (x_799).toInt = 1 ↔ ((sg).toInt = 3 ∧ (va).toInt = ((61 : Int32)).toInt) := w_800_1
                            refine lv_if_eq (tgt := 285) hx hb dX12_goesOn_225 (dk_dq rfl) (fun c_802 => ?_) (fun c_802 => ?_)
                            · have jc_802 := dk_eqc (k := 0) (by decide +kernel) c_802
                              have qw_800_1 : g_s (T_kd tb tn) (T_vl tb tn) 61 (t_ix tb tn (sa : Int32).toNatClampNeg) = false := g_iff_f (TKM.iss (TKM.keep TK m_2 (dk_dq rfl) (dk_dq rfl) (dk_dq rfl) (dk_dq rfl) (dk_dq rfl) (dk_dq rfl) (dk_dq rfl) (dk_dq rfl)) ((m_2.1 0 3 _ sM_0 (dk_dq rfl)).trans f_sg) ((m_2.1 0 4 _ sM_0 (dk_dq rfl)).trans f_sa) ((m_2.1 0 6 _ sM_0 (dk_dq rfl)).trans f_va) hk5.out (c := 61) (by have h9 := w_800_1; rw [show (61 : Int32).toInt = 61 from by decide +kernel] at h9; exact h9)) (by omega)
                              clear w_800_1
                              exact J_352 ()  (m_hid.mk (fun _ _ => g_co_f qw_666_1 qw_796_1 qw_800_1)) _ _ hP hS _ (lv_sub hl [0, 1, 2, 3] rfl)
                            · have jc_802 := dk_neqc (k := 0) (by decide +kernel) c_802
                              have jbc_802 : 1 ≤ (x_799).toInt := by omega
                              clear jc_802
                              have qw_800_1 : g_s (T_kd tb tn) (T_vl tb tn) 61 (t_ix tb tn (sa : Int32).toNatClampNeg) = true := (TKM.iss (TKM.keep TK m_2 (dk_dq rfl) (dk_dq rfl) (dk_dq rfl) (dk_dq rfl) (dk_dq rfl) (dk_dq rfl) (dk_dq rfl) (dk_dq rfl)) ((m_2.1 0 3 _ sM_0 (dk_dq rfl)).trans f_sg) ((m_2.1 0 4 _ sM_0 (dk_dq rfl)).trans f_sa) ((m_2.1 0 6 _ sM_0 (dk_dq rfl)).trans f_va) hk5.out (c := 61) (by have h9 := w_800_1; rw [show (61 : Int32).toInt = 61 from by decide +kernel] at h9; exact h9)).mp (by omega)
                              have w_800_1_r := w_800_1.mp (by omega)
                              obtain ⟨w_800_1_r1, w_800_1_r2⟩ := w_800_1_r
                              clear w_800_1
                              have hlx_2r := hlx_2 (by omega)
                              clear hlx_2
                              exact J_717 ()  (by omega) (m_hid.mk (g_co_3 qw_800_1)) _ _ hP hS _ (lv_sub hl [0, 1, 2, 3] rfl)
        refine lv_icmp_ge (tgt := 188) hx hb dX12_goesOn_39 (dk_dq rfl) (fun c_803 => ?_) (fun c_803 => ?_)
        · have jc_803 := dk_gec (k := 2) (by decide +kernel) c_803
          exact J_192 ()  (m_hid.mk (fun q9 => by exfalso; omega)) _ _ hP hS _ (lv_sub hl [0, 1, 2, 3] rfl)
        · as_aux_lemma =>
            have jc_803 := dk_ngec (k := 2) (by decide +kernel) c_803
            refine lv_aload_n hx hb dX12_goesOn_42 rfl (lv_at hl 3 rfl) ?_
            refine lv_bipush (v := 43) hx hb dX12_goesOn_43 (by decide +kernel) ?_
            refine dg_calli hS hA1 hA (va_runV (As := [.int 43]) (rest := []) F (c_m_isSign l g D o S_2 43 sg ((m_2.1 0 3 _ sM_0 (dk_dq rfl)).trans f_sg) (by omega) va ((m_2.1 0 6 _ sM_0 (dk_dq rfl)).trans f_va) (by omega) I_2 H.size) (cwV 1 hts (bw_V wB_314 wB_315 wB_316 wB_297 wB_313) rfl rfl rfl (by decide +kernel) ⟨Nat.le_of_ble_eq_true rfl, Nat.le_of_ble_eq_true rfl⟩) (dg_preV sM_0 rfl K ST hP hS hA1 hA) rfl rfl hl.1 rfl (lv_room (Nat.le_of_ble_eq_true rfl)) dX12_goesOn_45 ⟨Nat.le_of_ble_eq_true rfl, Nat.le_of_ble_eq_true rfl⟩) (fun x_804 S_805 hw_805 H locs hP hS => ?_)
            rw [hw_805.1] at hP
            obtain ⟨hq_805, w_805_0, w_805_1, -⟩ := hw_805
            have hz_806 : (43 : Int32).toInt = 43 := by decide +kernel
            have w_805_0 : 0 ≤ (x_804).toInt ∧ (x_804).toInt ≤ 1 := w_805_0
            have w_805_1 : (x_804).toInt = 1 ↔ ((sg).toInt = 3 ∧ (va).toInt = ((43 : Int32)).toInt) := w_805_1
            have J_824 : ∀ (u9 : Unit), ((sg).toInt = 3) → ((va).toInt = 43 ∨ (va).toInt = 45 ∨ (va).toInt = 42 ∨ (va).toInt = 47 ∨ (va).toInt = 37) → (m_hid (g_so (T_kd tb tn) (T_vl tb tn) (t_ix tb tn (sa : Int32).toNatClampNeg) = true ∨ g_po (T_kd tb tn) (T_vl tb tn) (t_ix tb tn (sa : Int32).toNatClampNeg) = true)) → ∀ (H : Heap) (locs : List Loc), va_P D vwCl (dg_w g shM o rfM S_2) H → va_S A s.heap H locs → ∀ ls : Array Slot, lv_has ls 5 [(3, .int x_8), (2, .int x_7), (1, .int x_5), (0, .ref (o + 0))] → W p l e ({ frames := 3, cells := 0, slots := 0, locals := 77 } : Room) s m args below meth c H locs 0 0 Q9 (F0 m 87 ls []) := by
              intro u9 rel_0 rel_1 rel_2 H locs hP hS ls hl
              clear w_805_1
              have hop := rel_2
              have hlx_2r := hlx_2 (by omega)
              clear hlx_2
              exact absurd ⟨by omega, hop.out⟩ HnA
            refine lv_if_ne (tgt := 87) hx hb dX12_goesOn_48 (dk_dq rfl) (fun c_825 => ?_) (fun c_825 => ?_)
            · have jc_825 := dk_neqc (k := 0) (by decide +kernel) c_825
              have jbc_825 : 1 ≤ (x_804).toInt := by omega
              clear jc_825
              have qw_805_1 : g_s (T_kd tb tn) (T_vl tb tn) 43 (t_ix tb tn (sa : Int32).toNatClampNeg) = true := (TKM.iss (TKM.keep TK m_2 (dk_dq rfl) (dk_dq rfl) (dk_dq rfl) (dk_dq rfl) (dk_dq rfl) (dk_dq rfl) (dk_dq rfl) (dk_dq rfl)) ((m_2.1 0 3 _ sM_0 (dk_dq rfl)).trans f_sg) ((m_2.1 0 4 _ sM_0 (dk_dq rfl)).trans f_sa) ((m_2.1 0 6 _ sM_0 (dk_dq rfl)).trans f_va) hk5.out (c := 43) (by have h9 := w_805_1; rw [show (43 : Int32).toInt = 43 from by decide +kernel] at h9; exact h9)).mp (by omega)
              have w_805_1_r := w_805_1.mp (by omega)
              obtain ⟨w_805_1_r1, w_805_1_r2⟩ := w_805_1_r
              clear w_805_1
              have hlx_2r := hlx_2 (by omega)
              clear hlx_2
              exact J_824 ()  (by omega) (by omega) (m_hid.mk (g_so_1 qw_805_1)) _ _ hP hS _ (lv_sub hl [0, 1, 2, 3] rfl)
            · as_aux_lemma =>
                have jc_825 := dk_eqc (k := 0) (by decide +kernel) c_825
                have qw_805_1 : g_s (T_kd tb tn) (T_vl tb tn) 43 (t_ix tb tn (sa : Int32).toNatClampNeg) = false := g_iff_f (TKM.iss (TKM.keep TK m_2 (dk_dq rfl) (dk_dq rfl) (dk_dq rfl) (dk_dq rfl) (dk_dq rfl) (dk_dq rfl) (dk_dq rfl) (dk_dq rfl)) ((m_2.1 0 3 _ sM_0 (dk_dq rfl)).trans f_sg) ((m_2.1 0 4 _ sM_0 (dk_dq rfl)).trans f_sa) ((m_2.1 0 6 _ sM_0 (dk_dq rfl)).trans f_va) hk5.out (c := 43) (by have h9 := w_805_1; rw [show (43 : Int32).toInt = 43 from by decide +kernel] at h9; exact h9)) (by omega)
                clear w_805_1
                refine lv_aload_n hx hb dX12_goesOn_51 rfl (lv_at hl 3 rfl) ?_
                refine lv_bipush (v := 45) hx hb dX12_goesOn_52 (by decide +kernel) ?_
                refine dg_calli hS hA1 hA (va_runV (As := [.int 45]) (rest := []) F (c_m_isSign l g D o S_2 45 sg ((m_2.1 0 3 _ sM_0 (dk_dq rfl)).trans f_sg) (by omega) va ((m_2.1 0 6 _ sM_0 (dk_dq rfl)).trans f_va) (by omega) I_2 H.size) (cwV 1 hts (bw_V wB_314 wB_315 wB_316 wB_297 wB_313) rfl rfl rfl (by decide +kernel) ⟨Nat.le_of_ble_eq_true rfl, Nat.le_of_ble_eq_true rfl⟩) (dg_preV sM_0 rfl K ST hP hS hA1 hA) rfl rfl hl.1 rfl (lv_room (Nat.le_of_ble_eq_true rfl)) dX12_goesOn_54 ⟨Nat.le_of_ble_eq_true rfl, Nat.le_of_ble_eq_true rfl⟩) (fun x_826 S_827 hw_827 H locs hP hS => ?_)
                rw [hw_827.1] at hP
                obtain ⟨hq_827, w_827_0, w_827_1, -⟩ := hw_827
                have hz_828 : (45 : Int32).toInt = 45 := by decide +kernel
                have w_827_0 : 0 ≤ (x_826).toInt ∧ (x_826).toInt ≤ 1 := w_827_0
                have w_827_1 : (x_826).toInt = 1 ↔ ((sg).toInt = 3 ∧ (va).toInt = ((45 : Int32)).toInt) := w_827_1
                refine lv_if_ne (tgt := 87) hx hb dX12_goesOn_57 (dk_dq rfl) (fun c_829 => ?_) (fun c_829 => ?_)
                · have jc_829 := dk_neqc (k := 0) (by decide +kernel) c_829
                  have jbc_829 : 1 ≤ (x_826).toInt := by omega
                  clear jc_829
                  have qw_827_1 : g_s (T_kd tb tn) (T_vl tb tn) 45 (t_ix tb tn (sa : Int32).toNatClampNeg) = true := (TKM.iss (TKM.keep TK m_2 (dk_dq rfl) (dk_dq rfl) (dk_dq rfl) (dk_dq rfl) (dk_dq rfl) (dk_dq rfl) (dk_dq rfl) (dk_dq rfl)) ((m_2.1 0 3 _ sM_0 (dk_dq rfl)).trans f_sg) ((m_2.1 0 4 _ sM_0 (dk_dq rfl)).trans f_sa) ((m_2.1 0 6 _ sM_0 (dk_dq rfl)).trans f_va) hk5.out (c := 45) (by have h9 := w_827_1; rw [show (45 : Int32).toInt = 45 from by decide +kernel] at h9; exact h9)).mp (by omega)
                  have w_827_1_r := w_827_1.mp (by omega)
                  obtain ⟨w_827_1_r1, w_827_1_r2⟩ := w_827_1_r
                  clear w_827_1
                  have hlx_2r := hlx_2 (by omega)
                  clear hlx_2
                  exact J_824 ()  (by omega) (by omega) (m_hid.mk (g_so_2 qw_827_1)) _ _ hP hS _ (lv_sub hl [0, 1, 2, 3] rfl)
                · as_aux_lemma =>
                    have jc_829 := dk_eqc (k := 0) (by decide +kernel) c_829
                    have qw_827_1 : g_s (T_kd tb tn) (T_vl tb tn) 45 (t_ix tb tn (sa : Int32).toNatClampNeg) = false := g_iff_f (TKM.iss (TKM.keep TK m_2 (dk_dq rfl) (dk_dq rfl) (dk_dq rfl) (dk_dq rfl) (dk_dq rfl) (dk_dq rfl) (dk_dq rfl) (dk_dq rfl)) ((m_2.1 0 3 _ sM_0 (dk_dq rfl)).trans f_sg) ((m_2.1 0 4 _ sM_0 (dk_dq rfl)).trans f_sa) ((m_2.1 0 6 _ sM_0 (dk_dq rfl)).trans f_va) hk5.out (c := 45) (by have h9 := w_827_1; rw [show (45 : Int32).toInt = 45 from by decide +kernel] at h9; exact h9)) (by omega)
                    clear w_827_1
                    refine lv_aload_n hx hb dX12_goesOn_60 rfl (lv_at hl 3 rfl) ?_
                    refine lv_bipush (v := 42) hx hb dX12_goesOn_61 (by decide +kernel) ?_
                    refine dg_calli hS hA1 hA (va_runV (As := [.int 42]) (rest := []) F (c_m_isSign l g D o S_2 42 sg ((m_2.1 0 3 _ sM_0 (dk_dq rfl)).trans f_sg) (by omega) va ((m_2.1 0 6 _ sM_0 (dk_dq rfl)).trans f_va) (by omega) I_2 H.size) (cwV 1 hts (bw_V wB_314 wB_315 wB_316 wB_297 wB_313) rfl rfl rfl (by decide +kernel) ⟨Nat.le_of_ble_eq_true rfl, Nat.le_of_ble_eq_true rfl⟩) (dg_preV sM_0 rfl K ST hP hS hA1 hA) rfl rfl hl.1 rfl (lv_room (Nat.le_of_ble_eq_true rfl)) dX12_goesOn_63 ⟨Nat.le_of_ble_eq_true rfl, Nat.le_of_ble_eq_true rfl⟩) (fun x_830 S_831 hw_831 H locs hP hS => ?_)
                    rw [hw_831.1] at hP
                    obtain ⟨hq_831, w_831_0, w_831_1, -⟩ := hw_831
                    have hz_832 : (42 : Int32).toInt = 42 := by decide +kernel
                    have w_831_0 : 0 ≤ (x_830).toInt ∧ (x_830).toInt ≤ 1 := w_831_0
                    have w_831_1 : (x_830).toInt = 1 ↔ ((sg).toInt = 3 ∧ (va).toInt = ((42 : Int32)).toInt) := w_831_1
                    refine lv_if_ne (tgt := 87) hx hb dX12_goesOn_66 (dk_dq rfl) (fun c_833 => ?_) (fun c_833 => ?_)
                    · have jc_833 := dk_neqc (k := 0) (by decide +kernel) c_833
                      have jbc_833 : 1 ≤ (x_830).toInt := by omega
                      clear jc_833
                      have qw_831_1 : g_s (T_kd tb tn) (T_vl tb tn) 42 (t_ix tb tn (sa : Int32).toNatClampNeg) = true := (TKM.iss (TKM.keep TK m_2 (dk_dq rfl) (dk_dq rfl) (dk_dq rfl) (dk_dq rfl) (dk_dq rfl) (dk_dq rfl) (dk_dq rfl) (dk_dq rfl)) ((m_2.1 0 3 _ sM_0 (dk_dq rfl)).trans f_sg) ((m_2.1 0 4 _ sM_0 (dk_dq rfl)).trans f_sa) ((m_2.1 0 6 _ sM_0 (dk_dq rfl)).trans f_va) hk5.out (c := 42) (by have h9 := w_831_1; rw [show (42 : Int32).toInt = 42 from by decide +kernel] at h9; exact h9)).mp (by omega)
                      have w_831_1_r := w_831_1.mp (by omega)
                      obtain ⟨w_831_1_r1, w_831_1_r2⟩ := w_831_1_r
                      clear w_831_1
                      have hlx_2r := hlx_2 (by omega)
                      clear hlx_2
                      exact J_824 ()  (by omega) (by omega) (m_hid.mk (g_po_1 qw_831_1)) _ _ hP hS _ (lv_sub hl [0, 1, 2, 3] rfl)
                    · as_aux_lemma =>
                        have jc_833 := dk_eqc (k := 0) (by decide +kernel) c_833
                        have qw_831_1 : g_s (T_kd tb tn) (T_vl tb tn) 42 (t_ix tb tn (sa : Int32).toNatClampNeg) = false := g_iff_f (TKM.iss (TKM.keep TK m_2 (dk_dq rfl) (dk_dq rfl) (dk_dq rfl) (dk_dq rfl) (dk_dq rfl) (dk_dq rfl) (dk_dq rfl) (dk_dq rfl)) ((m_2.1 0 3 _ sM_0 (dk_dq rfl)).trans f_sg) ((m_2.1 0 4 _ sM_0 (dk_dq rfl)).trans f_sa) ((m_2.1 0 6 _ sM_0 (dk_dq rfl)).trans f_va) hk5.out (c := 42) (by have h9 := w_831_1; rw [show (42 : Int32).toInt = 42 from by decide +kernel] at h9; exact h9)) (by omega)
                        clear w_831_1
                        refine lv_aload_n hx hb dX12_goesOn_69 rfl (lv_at hl 3 rfl) ?_
                        refine lv_bipush (v := 47) hx hb dX12_goesOn_70 (by decide +kernel) ?_
                        refine dg_calli hS hA1 hA (va_runV (As := [.int 47]) (rest := []) F (c_m_isSign l g D o S_2 47 sg ((m_2.1 0 3 _ sM_0 (dk_dq rfl)).trans f_sg) (by omega) va ((m_2.1 0 6 _ sM_0 (dk_dq rfl)).trans f_va) (by omega) I_2 H.size) (cwV 1 hts (bw_V wB_314 wB_315 wB_316 wB_297 wB_313) rfl rfl rfl (by decide +kernel) ⟨Nat.le_of_ble_eq_true rfl, Nat.le_of_ble_eq_true rfl⟩) (dg_preV sM_0 rfl K ST hP hS hA1 hA) rfl rfl hl.1 rfl (lv_room (Nat.le_of_ble_eq_true rfl)) dX12_goesOn_72 ⟨Nat.le_of_ble_eq_true rfl, Nat.le_of_ble_eq_true rfl⟩) (fun x_834 S_835 hw_835 H locs hP hS => ?_)
                        rw [hw_835.1] at hP
                        obtain ⟨hq_835, w_835_0, w_835_1, -⟩ := hw_835
                        have hz_836 : (47 : Int32).toInt = 47 := by decide +kernel
                        have w_835_0 : 0 ≤ (x_834).toInt ∧ (x_834).toInt ≤ 1 := w_835_0
                        have w_835_1 : (x_834).toInt = 1 ↔ ((sg).toInt = 3 ∧ (va).toInt = ((47 : Int32)).toInt) := w_835_1
                        refine lv_if_ne (tgt := 87) hx hb dX12_goesOn_75 (dk_dq rfl) (fun c_837 => ?_) (fun c_837 => ?_)
                        · have jc_837 := dk_neqc (k := 0) (by decide +kernel) c_837
                          have jbc_837 : 1 ≤ (x_834).toInt := by omega
                          clear jc_837
                          have qw_835_1 : g_s (T_kd tb tn) (T_vl tb tn) 47 (t_ix tb tn (sa : Int32).toNatClampNeg) = true := (TKM.iss (TKM.keep TK m_2 (dk_dq rfl) (dk_dq rfl) (dk_dq rfl) (dk_dq rfl) (dk_dq rfl) (dk_dq rfl) (dk_dq rfl) (dk_dq rfl)) ((m_2.1 0 3 _ sM_0 (dk_dq rfl)).trans f_sg) ((m_2.1 0 4 _ sM_0 (dk_dq rfl)).trans f_sa) ((m_2.1 0 6 _ sM_0 (dk_dq rfl)).trans f_va) hk5.out (c := 47) (by have h9 := w_835_1; rw [show (47 : Int32).toInt = 47 from by decide +kernel] at h9; exact h9)).mp (by omega)
                          have w_835_1_r := w_835_1.mp (by omega)
                          obtain ⟨w_835_1_r1, w_835_1_r2⟩ := w_835_1_r
                          clear w_835_1
                          have hlx_2r := hlx_2 (by omega)
                          clear hlx_2
                          exact J_824 ()  (by omega) (by omega) (m_hid.mk (g_po_2 qw_835_1)) _ _ hP hS _ (lv_sub hl [0, 1, 2, 3] rfl)
                        · as_aux_lemma =>
                            have jc_837 := dk_eqc (k := 0) (by decide +kernel) c_837
                            have qw_835_1 : g_s (T_kd tb tn) (T_vl tb tn) 47 (t_ix tb tn (sa : Int32).toNatClampNeg) = false := g_iff_f (TKM.iss (TKM.keep TK m_2 (dk_dq rfl) (dk_dq rfl) (dk_dq rfl) (dk_dq rfl) (dk_dq rfl) (dk_dq rfl) (dk_dq rfl) (dk_dq rfl)) ((m_2.1 0 3 _ sM_0 (dk_dq rfl)).trans f_sg) ((m_2.1 0 4 _ sM_0 (dk_dq rfl)).trans f_sa) ((m_2.1 0 6 _ sM_0 (dk_dq rfl)).trans f_va) hk5.out (c := 47) (by have h9 := w_835_1; rw [show (47 : Int32).toInt = 47 from by decide +kernel] at h9; exact h9)) (by omega)
                            clear w_835_1
                            refine lv_aload_n hx hb dX12_goesOn_78 rfl (lv_at hl 3 rfl) ?_
                            refine lv_bipush (v := 37) hx hb dX12_goesOn_79 (by decide +kernel) ?_
                            refine dg_calli hS hA1 hA (va_runV (As := [.int 37]) (rest := []) F (c_m_isSign l g D o S_2 37 sg ((m_2.1 0 3 _ sM_0 (dk_dq rfl)).trans f_sg) (by omega) va ((m_2.1 0 6 _ sM_0 (dk_dq rfl)).trans f_va) (by omega) I_2 H.size) (cwV 1 hts (bw_V wB_314 wB_315 wB_316 wB_297 wB_313) rfl rfl rfl (by decide +kernel) ⟨Nat.le_of_ble_eq_true rfl, Nat.le_of_ble_eq_true rfl⟩) (dg_preV sM_0 rfl K ST hP hS hA1 hA) rfl rfl hl.1 rfl (lv_room (Nat.le_of_ble_eq_true rfl)) dX12_goesOn_81 ⟨Nat.le_of_ble_eq_true rfl, Nat.le_of_ble_eq_true rfl⟩) (fun x_838 S_839 hw_839 H locs hP hS => ?_)
                            rw [hw_839.1] at hP
                            obtain ⟨hq_839, w_839_0, w_839_1, -⟩ := hw_839
                            have hz_840 : (37 : Int32).toInt = 37 := by decide +kernel
                            have w_839_0 : 0 ≤ (x_838).toInt ∧ (x_838).toInt ≤ 1 := w_839_0
                            have w_839_1 : (x_838).toInt = 1 ↔ ((sg).toInt = 3 ∧ (va).toInt = ((37 : Int32)).toInt) := w_839_1
                            refine lv_if_eq (tgt := 188) hx hb dX12_goesOn_84 (dk_dq rfl) (fun c_841 => ?_) (fun c_841 => ?_)
                            · have jc_841 := dk_eqc (k := 0) (by decide +kernel) c_841
                              have qw_839_1 : g_s (T_kd tb tn) (T_vl tb tn) 37 (t_ix tb tn (sa : Int32).toNatClampNeg) = false := g_iff_f (TKM.iss (TKM.keep TK m_2 (dk_dq rfl) (dk_dq rfl) (dk_dq rfl) (dk_dq rfl) (dk_dq rfl) (dk_dq rfl) (dk_dq rfl) (dk_dq rfl)) ((m_2.1 0 3 _ sM_0 (dk_dq rfl)).trans f_sg) ((m_2.1 0 4 _ sM_0 (dk_dq rfl)).trans f_sa) ((m_2.1 0 6 _ sM_0 (dk_dq rfl)).trans f_va) hk5.out (c := 37) (by have h9 := w_839_1; rw [show (37 : Int32).toInt = 37 from by decide +kernel] at h9; exact h9)) (by omega)
                              clear w_839_1
                              exact J_192 ()  (m_hid.mk (fun _ => ⟨g_so_f qw_805_1 qw_827_1, g_po_f qw_831_1 qw_835_1 qw_839_1⟩)) _ _ hP hS _ (lv_sub hl [0, 1, 2, 3] rfl)
                            · have jc_841 := dk_neqc (k := 0) (by decide +kernel) c_841
                              have jbc_841 : 1 ≤ (x_838).toInt := by omega
                              clear jc_841
                              have qw_839_1 : g_s (T_kd tb tn) (T_vl tb tn) 37 (t_ix tb tn (sa : Int32).toNatClampNeg) = true := (TKM.iss (TKM.keep TK m_2 (dk_dq rfl) (dk_dq rfl) (dk_dq rfl) (dk_dq rfl) (dk_dq rfl) (dk_dq rfl) (dk_dq rfl) (dk_dq rfl)) ((m_2.1 0 3 _ sM_0 (dk_dq rfl)).trans f_sg) ((m_2.1 0 4 _ sM_0 (dk_dq rfl)).trans f_sa) ((m_2.1 0 6 _ sM_0 (dk_dq rfl)).trans f_va) hk5.out (c := 37) (by have h9 := w_839_1; rw [show (37 : Int32).toInt = 37 from by decide +kernel] at h9; exact h9)).mp (by omega)
                              have w_839_1_r := w_839_1.mp (by omega)
                              obtain ⟨w_839_1_r1, w_839_1_r2⟩ := w_839_1_r
                              clear w_839_1
                              have hlx_2r := hlx_2 (by omega)
                              clear hlx_2
                              exact J_824 ()  (by omega) (by omega) (m_hid.mk (g_po_3 qw_839_1)) _ _ hP hS _ (lv_sub hl [0, 1, 2, 3] rfl)
  · have jc_4 := dk_nlec (k := 0) (by decide +kernel) c_4
    refine lv_iconst (v := 0) hx hb dX12_goesOn_11 (by decide +kernel) ?_
    have hz_842 : (0 : Int32).toInt = 0 := by decide +kernel
    have hz_843 : (0 : Int32).toInt = 0 := by decide +kernel
    have hz_844 : (0 : Int32).toInt = 0 := by decide +kernel
    have hz_845 : (0 : Int32).toInt = 0 := by decide +kernel
    have hz_846 : (0 : Int32).toInt = 0 := by decide +kernel
    have hz_847 : (0 : Int32).toInt = 0 := by decide +kernel
    have hz_848 : (0 : Int32).toInt = 0 := by decide +kernel
    refine W.widen (k := 0) (n := 0) (Nat.le_of_ble_eq_true rfl) (Nat.le_of_ble_eq_true rfl) ?_
    rw [hQ9]
    exact dg_iret hx hb hr hlocks (by decide +kernel) hP hS ⟨I_2, M_2, (by decide +kernel), ⟨sg, sa, se, y_3, cd, dp, om, oo, ((m_2.1 0 3 _ sM_0 (dk_dq rfl)).trans f_sg), ((m_2.1 0 4 _ sM_0 (dk_dq rfl)).trans f_sa), ((m_2.1 0 5 _ sM_0 (dk_dq rfl)).trans f_se), f_y_3, ((m_2.1 0 34 _ sM_0 (dk_dq rfl)).trans f_cd), ((m_2.1 0 42 _ sM_0 (dk_dq rfl)).trans f_dp), ((m_2.1 0 45 _ sM_0 (dk_dq rfl)).trans f_om), ((m_2.1 0 46 _ sM_0 (dk_dq rfl)).trans f_oo), ⟨lxh_hlx_2.out, (by omega)⟩⟩, (fun k9 hk9 hk0 => by have q9 := (f_y_3).symm.trans hk9; cases q9; omega), (GOK.no f_sa f_fk f_y_3 (by omega) (fun h0 => GO5 P1 f_dp f_on f_om (by omega))), (GON.no f_y_3 (by omega)), (TKM.keep TK m_2 (dk_dq rfl) (dk_dq rfl) (dk_dq rfl) (dk_dq rfl) (dk_dq rfl) (dk_dq rfl) (dk_dq rfl) (dk_dq rfl)), (ZWM.keep ZW m_2 (dk_dq rfl) (dk_dq rfl) (dk_dq rfl) (dk_dq rfl)), (G8M.keep G8 m_2 (dk_dq rfl) (dk_dq rfl) (dk_dq rfl)), trivial⟩ dX12_goesOn_12
