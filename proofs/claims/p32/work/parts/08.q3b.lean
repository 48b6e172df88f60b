/-! goesOn: what is left, and all -/
set_option maxHeartbeats 8000000 in
set_option maxRecDepth 100000 in
theorem c_m_goesOn_C (l : Launch) (g : Nat → ClassId) (D : va_G) (o : Nat) (S : dg_S) (tb : Nat → Int32) (tn : Nat) (sg : Int32) (f_sg : S.1 0 3 = .int sg) (b_sg : 0 ≤ (sg).toInt ∧ (sg).toInt ≤ 3) (sa : Int32) (f_sa : S.1 0 4 = .int sa) (b_sa : 0 ≤ (sa).toInt ∧ (sa).toInt ≤ 1600) (se : Int32) (f_se : S.1 0 5 = .int se) (b_se : 0 ≤ (se).toInt ∧ (se).toInt ≤ 1600) (sl : Int32) (f_sl : S.1 0 2 = .int sl) (b_sl : 0 ≤ (sl).toInt ∧ (sl).toInt ≤ 1600) (fk : Int32) (f_fk : S.1 0 8 = .int fk) (b_fk : 0 ≤ (fk).toInt ∧ (fk).toInt ≤ 6) (va : Int32) (f_va : S.1 0 6 = .int va) (b_va : 0 ≤ (va).toInt ∧ (va).toInt ≤ 9999) (cd : Int32) (f_cd : S.1 0 34 = .int cd) (b_cd : 0 ≤ (cd).toInt ∧ (cd).toInt ≤ 1600) (dp : Int32) (f_dp : S.1 0 42 = .int dp) (b_dp : 0 ≤ (dp).toInt ∧ (dp).toInt ≤ 20) (on : Int32) (f_on : S.1 0 43 = .int on) (om : Int32) (f_om : S.1 0 45 = .int om) (b_om : 0 ≤ (om).toInt ∧ (om).toInt ≤ 500) (oo : Int32) (f_oo : S.1 0 46 = .int oo) (b_oo : 1 ≤ (oo).toInt ∧ (oo).toInt ≤ 1) (lw : Int32) (f_lw : S.1 0 36 = .int lw) (b_lw : 0 ≤ (lw).toInt ∧ (lw).toInt ≤ 2) (hlx : (sa).toInt ≤ (se).toInt ∧ (se).toInt ≤ (sl).toInt ∧ ((sg).toInt ≠ 0 → (sa).toInt + 1 ≤ (se).toInt)) (hro : (cd).toInt + (om).toInt + (dp).toInt ≤ (sa).toInt) (TK : TKM tb tn S) (ZW : ZWM S) (ZK : ZKM S) (P1 : P1M S) (HnA : ¬ ((S.2.1 23 ((dp : Int32).toNatClampNeg - 1)).toInt < 2 ∧ (g_so (T_kd tb tn) (T_vl tb tn) (t_ix tb tn (sa : Int32).toNatClampNeg) = true ∨ g_po (T_kd tb tn) (T_vl tb tn) (t_ix tb tn (sa : Int32).toNatClampNeg) = true))) (HnB : ¬ (((S.2.1 22 ((dp : Int32).toNatClampNeg - 1)).toInt = 1 ∨ (S.2.1 22 ((dp : Int32).toNatClampNeg - 1)).toInt = 5 ∨ (S.2.1 22 ((dp : Int32).toNatClampNeg - 1)).toInt = 6) ∧ (((S.2.1 23 ((dp : Int32).toNatClampNeg - 1)).toInt = 0 ∧ g_co (T_kd tb tn) (T_vl tb tn) (t_ix tb tn (sa : Int32).toNatClampNeg) = true) ∨ (g_o (T_kd tb tn) (T_vl tb tn) 22 (t_ix tb tn (sa : Int32).toNatClampNeg) = true ∨ g_o (T_kd tb tn) (T_vl tb tn) 21 (t_ix tb tn (sa : Int32).toNatClampNeg) = true)))) (I : CM o S) (sz : Nat) : Met l yX12_goesOn (bw yX12_goesOn cX12_goesOn 5 (some .boolean)) ({ frames := 3, cells := 0, slots := 0, locals := 77 } : Room) (dk_Pc g D (dg_w g shM o rfM S) sz [.ref (o + 0)]) (va_Qi (fun (r : Int32) S' => CM o S' ∧ dg_sm shM [(0, 3), (0, 4), (0, 5), (0, 6), (0, 7), (0, 8), (0, 9), (0, 12), (0, 34), (0, 42), (0, 43), (0, 45), (0, 46)] [18, 19, 22, 23, 24, 27] S S' ∧ (0 ≤ (r).toInt ∧ (r).toInt ≤ 1) ∧ (∃ y9_3 y9_4 y9_5 y9_8 y9_34 y9_42 y9_45 y9_46 : Int32, S'.1 0 3 = .int y9_3 ∧ S'.1 0 4 = .int y9_4 ∧ S'.1 0 5 = .int y9_5 ∧ S'.1 0 8 = .int y9_8 ∧ S'.1 0 34 = .int y9_34 ∧ S'.1 0 42 = .int y9_42 ∧ S'.1 0 45 = .int y9_45 ∧ S'.1 0 46 = .int y9_46 ∧ (((y9_4).toInt ≤ (y9_5).toInt ∧ (y9_5).toInt ≤ (sl).toInt ∧ ((y9_3).toInt ≠ 0 → (y9_4).toInt + 1 ≤ (y9_5).toInt)) ∧ (sa).toInt ≤ (y9_4).toInt ∧ ((fk).toInt ≠ 0 → (y9_8).toInt ≠ 0) ∧ (((y9_8).toInt = 0 → (r).toInt = 1 → (sa).toInt + 1 ≤ (y9_4).toInt) ∧ ((y9_8).toInt = 0 → (y9_34).toInt + (y9_45).toInt + (y9_42).toInt ≤ (y9_4).toInt)))) ∧ (∀ k9 : Int32, S'.1 0 8 = .int k9 → k9.toInt = 0 → POM S') ∧ (GOK tb tn (lw).toInt S S' r) ∧ TKM tb tn S' ∧ ZWM S' ∧ True) (dg_B g D shM o rfM) (dg_A o shM.length sz)) 0 0 (dg_A o shM.length sz) := by
  refine dg_met (cc := cX12_goesOn) (maxL := 5) (ret := (some .boolean)) (by decide) rfl (Nat.le_of_ble_eq_true rfl) ?_
  intro p e s m args below meth c A hAe harg hx hb hr hml hts hown hlocks hin hP K hS hA1 hA ST hsz ls hl
  rw [← hAe]
  have F : CallFix p m c cX12_goesOn 5 s args (bw yX12_goesOn cX12_goesOn 5 (some .boolean)) RX12 := ⟨hx, hb, hml, hown, hts⟩
  have hl : lv_has ls 5 [(0, .ref (o + 0))] := hl
  have M_0 : dg_sm shM [(0, 3), (0, 4), (0, 5), (0, 6), (0, 7), (0, 8), (0, 9), (0, 12), (0, 34), (0, 42), (0, 43), (0, 45), (0, 46)] [18, 19, 22, 23, 24, 27] S S := dg_sm.rf
  obtain ⟨Q9, hQ9⟩ : ∃ Q : State → Prop, Q = MQ below (va_Qi (fun (r : Int32) S' => CM o S' ∧ dg_sm shM [(0, 3), (0, 4), (0, 5), (0, 6), (0, 7), (0, 8), (0, 9), (0, 12), (0, 34), (0, 42), (0, 43), (0, 45), (0, 46)] [18, 19, 22, 23, 24, 27] S S' ∧ (0 ≤ (r).toInt ∧ (r).toInt ≤ 1) ∧ (∃ y9_3 y9_4 y9_5 y9_8 y9_34 y9_42 y9_45 y9_46 : Int32, S'.1 0 3 = .int y9_3 ∧ S'.1 0 4 = .int y9_4 ∧ S'.1 0 5 = .int y9_5 ∧ S'.1 0 8 = .int y9_8 ∧ S'.1 0 34 = .int y9_34 ∧ S'.1 0 42 = .int y9_42 ∧ S'.1 0 45 = .int y9_45 ∧ S'.1 0 46 = .int y9_46 ∧ (((y9_4).toInt ≤ (y9_5).toInt ∧ (y9_5).toInt ≤ (sl).toInt ∧ ((y9_3).toInt ≠ 0 → (y9_4).toInt + 1 ≤ (y9_5).toInt)) ∧ (sa).toInt ≤ (y9_4).toInt ∧ ((fk).toInt ≠ 0 → (y9_8).toInt ≠ 0) ∧ (((y9_8).toInt = 0 → (r).toInt = 1 → (sa).toInt + 1 ≤ (y9_4).toInt) ∧ ((y9_8).toInt = 0 → (y9_34).toInt + (y9_45).toInt + (y9_42).toInt ≤ (y9_4).toInt)))) ∧ (∀ k9 : Int32, S'.1 0 8 = .int k9 → k9.toInt = 0 → POM S') ∧ (GOK tb tn (lw).toInt S S' r) ∧ TKM tb tn S' ∧ ZWM S' ∧ True) (dg_B g D shM o rfM) A) args s 0 0 A := ⟨_, rfl⟩
  rw [← hQ9]
  obtain ⟨hlx_0, hlx_1, hlx_2⟩ := hlx
  have lxh_hlx_2 : m_hid ((sa).toInt ≤ (se).toInt ∧ (se).toInt ≤ (sl).toInt ∧ ((sg).toInt ≠ 0 → (sa).toInt + 1 ≤ (se).toInt)) := m_hid.mk ⟨hlx_0, hlx_1, hlx_2⟩
  have hdm_0 := PSM.dims P1 f_dp f_on f_om
  refine lv_aload_n hx hb dX12_goesOn_0 rfl (lv_at hl 0 rfl) ?_
  refine dg_callv hS hA1 hA (va_runV (As := []) (rest := []) F (c_m_lex l g D o S tb tn fk f_fk (by omega) sa f_sa (by omega) TK I s.heap.size) (cwV 0 hts (bw_V wB_310 wB_311 wB_312 wB_297 wB_309) rfl rfl rfl (by decide +kernel) ⟨Nat.le_of_ble_eq_true rfl, Nat.le_of_ble_eq_true rfl⟩) (dg_preV sM_0 rfl K ST hP hS hA1 hA) rfl rfl hl.1 rfl (lv_room (Nat.le_of_ble_eq_true rfl)) dX12_goesOn_1 ⟨Nat.le_of_ble_eq_true rfl, Nat.le_of_ble_eq_true rfl⟩) (fun S_2 hw_2 H locs hP hS => ?_)
  obtain ⟨I_2, m_2, w_2_0, -⟩ := hw_2
  have M_2 := dg_sm.tr M_0 m_2 (by decide) (by decide)
  obtain ⟨y_3, f_y_3, w_2_0⟩ := w_2_0
  have w_2_0 : ((fk).toInt ≠ 0 → (y_3).toInt = (fk).toInt) ∧ ((fk).toInt = 0 → ((y_3).toInt = 0 ↔ (T_kd tb tn (t_ix tb tn (sa : Int32).toNatClampNeg)).toInt ≠ 5)) := w_2_0
  obtain ⟨w_2_0_0, w_2_0_1⟩ := w_2_0
  have b_y_3 : 0 ≤ (y_3).toInt ∧ (y_3).toInt ≤ 6 := dg_I.intb (lo := 0) (hi := 6) I_2 sM_0 (by decide +kernel) f_y_3
  refine lv_aload_n hx hb dX12_goesOn_4 rfl (lv_at hl 0 rfl) ?_
  refine dg_get (C := RX12) (T := TX12) (N := 77) hx hb hts (fun w h => bw_mem (wU_X12 w h)) hown K hP sM_0 rfl 8 (by decide) (hts _ (bw_mem wB_303)) (fun _ h9 => h9) (v := .int y_3) f_y_3 dX12_goesOn_5 ?_
  refine lv_if_le (tgt := 13) hx hb dX12_goesOn_8 (by decide) (fun c_4 => ?_) (fun c_4 => ?_)
  · have jc_4 := dk_lec (k := 0) (by decide +kernel) c_4
    have w_2_0_0c : (fk).toInt = 0 := by omega
    clear w_2_0_0
    have w_2_0_1r := w_2_0_1 (by omega)
    clear w_2_0_1
    have hk5 := m_hid.mk (show (T_kd tb tn (t_ix tb tn (sa : Int32).toNatClampNeg)).toInt ≠ 5 from by omega)
    clear w_2_0_1r
    refine lv_aload_n hx hb dX12_goesOn_13 rfl (lv_at hl 0 rfl) ?_
    refine dg_get (C := RX12) (T := TX12) (N := 77) hx hb hts (fun w h => bw_mem (wU_X12 w h)) hown K hP sM_0 rfl 42 (by decide) (hts _ (bw_mem wB_406)) (fun _ h9 => h9) (v := .int dp) ((m_2.1 0 42 _ sM_0 (by decide)).trans f_dp) dX12_goesOn_14 ?_
    refine lv_iconst (v := 1) hx hb dX12_goesOn_17 (by decide +kernel) ?_
    refine lv_isub hx hb dX12_goesOn_18 ?_
    refine lv_topi (fun x_5 ex_5 => ?_)
    have jx_5 : (x_5).toInt = (dp).toInt - 1 := by rw [ex_5]; exact dk_subT rfl (by decide +kernel) (by omega) (by omega)
    refine lv_istore_n (lv' := [(1, .int x_5), (0, .ref (o + 0))]) hx hb dX12_goesOn_19 rfl hl (by decide) rfl (fun ls hl => ?_)
    refine lv_aload_n hx hb dX12_goesOn_20 rfl (lv_at hl 1 rfl) ?_
    refine dg_get (C := RX12) (T := TX12) (N := 77) hx hb hts (fun w h => bw_mem (wU_X12 w h)) hown K hP sM_0 rfl 37 (by decide) (hts _ (bw_mem wB_416)) (fun _ h9 => h9) (v := .ref (o + 22)) (show S_2.1 0 37 = .ref (o + 22) from dg_I.rel (d := 22) I_2 sM_0 (by decide +kernel)) dX12_goesOn_21 ?_
    refine lv_iload_n hx hb dX12_goesOn_24 rfl (lv_at hl 0 rfl) ?_
    have hin_6 : vp_in x_5 20 := (dk_inv (by omega) (by omega))
    refine dg_iald hx hb K hP sM_22 hin_6 dX12_goesOn_25 (fun x_7 ex_7 => ?_)
    have b_x_7 := dk_all_at (dg_I.row (lo := 0) (hi := 6) I_2 sM_22 (by decide +kernel)) hin_6 ex_7
    refine lv_istore_n (lv' := [(2, .int x_7), (1, .int x_5), (0, .ref (o + 0))]) hx hb dX12_goesOn_26 rfl hl (by decide) rfl (fun ls hl => ?_)
    refine lv_iload_n hx hb dX12_goesOn_27 rfl (lv_at hl 0 rfl) ?_
    refine dg_calli hS hA1 hA (va_runS (As := [.int x_7]) (rest := []) F (c_m_isTest l g D o S_2 x_7 I_2 H.size) (va_cwS 1 hts (bw_S wB_424 wB_425 wB_297 wB_423) rfl rfl rfl (by decide +kernel) ⟨Nat.le_of_ble_eq_true rfl, Nat.le_of_ble_eq_true rfl⟩) (dg_preS K ST hP hS hA1 hA) rfl rfl hl.1 rfl (lv_room (Nat.le_of_ble_eq_true rfl)) dX12_goesOn_28 ⟨Nat.le_of_ble_eq_true rfl, Nat.le_of_ble_eq_true rfl⟩) (fun x_8 S_9 hw_9 H locs hP hS => ?_)
    rw [hw_9.1] at hP
    obtain ⟨hq_9, w_9_0, w_9_1, -⟩ := hw_9
    have w_9_0 : 0 ≤ (x_8).toInt ∧ (x_8).toInt ≤ 1 := w_9_0
    have w_9_1 : (x_8).toInt = 1 ↔ ((x_7).toInt = 1 ∨ (x_7).toInt = 5 ∨ (x_7).toInt = 6) := w_9_1
    refine lv_istore_n (lv' := [(3, .int x_8), (2, .int x_7), (1, .int x_5), (0, .ref (o + 0))]) hx hb dX12_goesOn_31 rfl hl (by decide) rfl (fun ls hl => ?_)
    refine lv_aload_n hx hb dX12_goesOn_32 rfl (lv_at hl 3 rfl) ?_
    refine dg_get (C := RX12) (T := TX12) (N := 77) hx hb hts (fun w h => bw_mem (wU_X12 w h)) hown K hP sM_0 rfl 38 (by decide) (hts _ (bw_mem wB_417)) (fun _ h9 => h9) (v := .ref (o + 23)) (show S_2.1 0 38 = .ref (o + 23) from dg_I.rel (d := 23) I_2 sM_0 (by decide +kernel)) dX12_goesOn_33 ?_
    refine lv_iload_n hx hb dX12_goesOn_36 rfl (lv_at hl 2 rfl) ?_
    have hin_10 : vp_in x_5 20 := (dk_inv (by omega) (by omega))
    refine dg_iald hx hb K hP sM_23 hin_10 dX12_goesOn_37 (fun x_11 ex_11 => ?_)
    have b_x_11 := dk_all_at (dg_I.row (lo := 0) (hi := 2) I_2 sM_23 (by decide +kernel)) hin_10 ex_11
    obtain ⟨nt0, R0, TF0⟩ := TFM.start (P1M.keep P1 m_2 (by decide) (by decide) (by decide) (by decide) (by decide) (by decide) (by decide) (by decide) (by decide) (by decide) (by decide) (by decide) (by decide) (by decide) (by decide)) ((m_2.1 0 42 _ sM_0 (by decide)).trans f_dp) ((m_2.1 0 43 _ sM_0 (by decide)).trans f_on) ((m_2.1 0 45 _ sM_0 (by decide)).trans f_om) (fx := x_5) (by omega) ex_7.symm ex_11.symm
    obtain ⟨bg0, hbg0⟩ : ∃ b, b = decide ((S_2.2.1 24 (x_5 : Int32).toNatClampNeg).toInt = 1) := ⟨_, rfl⟩
    rw [← hbg0] at TF0
    clear hbg0
    have hM0 : MSv S (t_ix tb tn (sa : Int32).toNatClampNeg) true = (0, ((x_7).toInt, (x_11).toInt, bg0, nt0) :: R0, (on).toNatClampNeg, (t_ix tb tn (sa : Int32).toNatClampNeg), true) := (MSv.keep m_2 (by decide) (by decide) (by decide) (by decide) (by decide) (by decide) (by decide) (by decide)).trans TF0.ms
    replace w_9_1 := m_hid.mk w_9_1
    have hpv9 : (S.2.1 23 ((dp : Int32).toNatClampNeg - 1)).toInt = (x_11).toInt := by rw [show (dp : Int32).toNatClampNeg - 1 = (x_5 : Int32).toNatClampNeg from by have h8 := dk_clN dp; have h9 := dk_clN x_5; omega]; exact congrArg Int32.toInt ((congrFun (m_2.2 23 _ sM_23 (by decide)).1 _).symm.trans ex_11.symm)
    have hfv9 : (S.2.1 22 ((dp : Int32).toNatClampNeg - 1)).toInt = (x_7).toInt := by rw [show (dp : Int32).toNatClampNeg - 1 = (x_5 : Int32).toNatClampNeg from by have h8 := dk_clN dp; have h9 := dk_clN x_5; omega]; exact congrArg Int32.toInt ((congrFun (m_2.2 22 _ sM_22 (by decide)).1 _).symm.trans ex_7.symm)
    refine lv_iconst (v := 2) hx hb dX12_goesOn_38 (by decide +kernel) ?_
    have J_259 : ∀ (u9 : Unit), (m_hid ((x_11).toInt < 2 → g_so (T_kd tb tn) (T_vl tb tn) (t_ix tb tn (sa : Int32).toNatClampNeg) = false ∧ g_po (T_kd tb tn) (T_vl tb tn) (t_ix tb tn (sa : Int32).toNatClampNeg) = false)) → ∀ (H : Heap) (locs : List Loc), va_P D vwCl (dg_w g shM o rfM S_2) H → va_S A s.heap H locs → ∀ ls : Array Slot, lv_has ls 5 [(3, .int x_8), (2, .int x_7), (1, .int x_5), (0, .ref (o + 0))] → W p l e ({ frames := 3, cells := 0, slots := 0, locals := 77 } : Room) s m args below meth c H locs 0 0 Q9 (F0 m 188 ls []) := by
      intro u9 rel_0 H locs hP hS ls hl
      have hnop := rel_0
      refine lv_iload_n hx hb dX12_goesOn_188 rfl (lv_at hl 0 rfl) ?_
      have J_486 : ∀ (u9 : Unit), (m_hid ((x_8).toInt = 1 → (x_11).toInt = 0 → g_co (T_kd tb tn) (T_vl tb tn) (t_ix tb tn (sa : Int32).toNatClampNeg) = false)) → ∀ (H : Heap) (locs : List Loc), va_P D vwCl (dg_w g shM o rfM S_2) H → va_S A s.heap H locs → ∀ ls : Array Slot, lv_has ls 5 [(3, .int x_8), (2, .int x_7), (1, .int x_5), (0, .ref (o + 0))] → W p l e ({ frames := 3, cells := 0, slots := 0, locals := 77 } : Room) s m args below meth c H locs 0 0 Q9 (F0 m 285 ls []) := by
        intro u9 rel_0 H locs hP hS ls hl
        have hnco := rel_0
        refine lv_iload_n hx hb dX12_goesOn_285 rfl (lv_at hl 0 rfl) ?_
        have J_697 : ∀ (u9 : Unit), (m_hid ((x_8).toInt = 1 → g_o (T_kd tb tn) (T_vl tb tn) 22 (t_ix tb tn (sa : Int32).toNatClampNeg) = false ∧ g_o (T_kd tb tn) (T_vl tb tn) 21 (t_ix tb tn (sa : Int32).toNatClampNeg) = false)) → ∀ (H : Heap) (locs : List Loc), va_P D vwCl (dg_w g shM o rfM S_2) H → va_S A s.heap H locs → ∀ ls : Array Slot, lv_has ls 5 [(3, .int x_8), (2, .int x_7), (1, .int x_5), (0, .ref (o + 0))] → W p l e ({ frames := 3, cells := 0, slots := 0, locals := 77 } : Room) s m args below meth c H locs 0 0 Q9 (F0 m 400 ls []) := by
          intro u9 rel_0 H locs hP hS ls hl
          have hnao := rel_0
          refine lv_iload_n hx hb dX12_goesOn_400 rfl (lv_at hl 0 rfl) ?_
          have J_899 : ∀ (u9 : Unit), (m_hid (¬ ((x_8).toInt = 1 ∧ (x_11).toInt = 0))) → ∀ (H : Heap) (locs : List Loc), va_P D vwCl (dg_w g shM o rfM S_2) H → va_S A s.heap H locs → ∀ ls : Array Slot, lv_has ls 5 [(3, .int x_8), (2, .int x_7), (1, .int x_5), (0, .ref (o + 0))] → W p l e ({ frames := 3, cells := 0, slots := 0, locals := 77 } : Room) s m args below meth c H locs 0 0 Q9 (F0 m 422 ls []) := by
            intro u9 rel_0 H locs hP hS ls hl
            have h422 := rel_0
            refine lv_iload_n hx hb dX12_goesOn_422 rfl (lv_at hl 1 rfl) ?_
            refine lv_iconst (v := 2) hx hb dX12_goesOn_423 (by decide +kernel) ?_
            refine lv_icmp_ge (tgt := 441) hx hb dX12_goesOn_424 (by decide) (fun c_900 => ?_) (fun c_900 => ?_)
            · have jc_900 := dk_gec (k := 2) (by decide +kernel) c_900
              refine lv_iload_n hx hb dX12_goesOn_441 rfl (lv_at hl 1 rfl) ?_
              refine lv_iconst (v := 3) hx hb dX12_goesOn_442 (by decide +kernel) ?_
              have J_1037 : ∀ (u9 : Unit), ((x_7 : Int32).toInt = 3 ∨ (x_7 : Int32).toInt = 6) → ∀ (H : Heap) (locs : List Loc), va_P D vwCl (dg_w g shM o rfM S_2) H → va_S A s.heap H locs → ∀ ls : Array Slot, lv_has ls 5 [(3, .int x_8), (2, .int x_7), (1, .int x_5), (0, .ref (o + 0))] → W p l e ({ frames := 3, cells := 0, slots := 0, locals := 77 } : Room) s m args below meth c H locs 0 0 Q9 (F0 m 452 ls []) := by
                intro u9 rel_0 H locs hP hS ls hl
                refine lv_aload_n hx hb dX12_goesOn_452 rfl (lv_at hl 3 rfl) ?_
                refine lv_bipush (v := 44) hx hb dX12_goesOn_453 (by decide +kernel) ?_
                refine dg_calli hS hA1 hA (va_runV (As := [.int 44]) (rest := []) F (c_m_isSign l g D o S_2 44 sg ((m_2.1 0 3 _ sM_0 (by decide)).trans f_sg) (by omega) va ((m_2.1 0 6 _ sM_0 (by decide)).trans f_va) (by omega) I_2 H.size) (cwV 1 hts (bw_V wB_314 wB_315 wB_316 wB_297 wB_313) rfl rfl rfl (by decide +kernel) ⟨Nat.le_of_ble_eq_true rfl, Nat.le_of_ble_eq_true rfl⟩) (dg_preV sM_0 rfl K ST hP hS hA1 hA) rfl rfl hl.1 rfl (lv_room (Nat.le_of_ble_eq_true rfl)) dX12_goesOn_455 ⟨Nat.le_of_ble_eq_true rfl, Nat.le_of_ble_eq_true rfl⟩) (fun x_1038 S_1039 hw_1039 H locs hP hS => ?_)
                rw [hw_1039.1] at hP
                obtain ⟨hq_1039, w_1039_0, w_1039_1, -⟩ := hw_1039
                have hz_1040 : (44 : Int32).toInt = 44 := by decide +kernel
                have w_1039_0 : 0 ≤ (x_1038).toInt ∧ (x_1038).toInt ≤ 1 := w_1039_0
                have w_1039_1 : (x_1038).toInt = 1 ↔ ((sg).toInt = 3 ∧ (va).toInt = ((44 : Int32)).toInt) := w_1039_1
                refine lv_if_ne (tgt := 470) hx hb dX12_goesOn_458 (by decide) (fun c_1041 => ?_) (fun c_1041 => ?_)
                · have jc_1041 := dk_neqc (k := 0) (by decide +kernel) c_1041
                  have jbc_1041 : 1 ≤ (x_1038).toInt := by omega
                  clear jc_1041
                  have qw_1039_1 : g_s (T_kd tb tn) (T_vl tb tn) 44 (t_ix tb tn (sa : Int32).toNatClampNeg) = true := (TKM.iss (TKM.keep TK m_2 (by decide) (by decide) (by decide) (by decide) (by decide) (by decide) (by decide) (by decide)) ((m_2.1 0 3 _ sM_0 (by decide)).trans f_sg) ((m_2.1 0 4 _ sM_0 (by decide)).trans f_sa) ((m_2.1 0 6 _ sM_0 (by decide)).trans f_va) hk5.out (c := 44) (by have h9 := w_1039_1; rw [show (44 : Int32).toInt = 44 from by decide +kernel] at h9; exact h9)).mp (by omega)
                  have w_1039_1_r := w_1039_1.mp (by omega)
                  obtain ⟨w_1039_1_r1, w_1039_1_r2⟩ := w_1039_1_r
                  clear w_1039_1
                  have hlx_2r := hlx_2 (by omega)
                  clear hlx_2
                  refine lv_aload_n hx hb dX12_goesOn_470 rfl (lv_at hl 3 rfl) ?_
                  refine dg_get (C := RX12) (T := TX12) (N := 77) hx hb hts (fun w h => bw_mem (wU_X12 w h)) hown K hP sM_0 rfl 8 (by decide) (hts _ (bw_mem wB_303)) (fun _ h9 => h9) (v := .int y_3) f_y_3 dX12_goesOn_471 ?_
                  refine lv_if_le (tgt := 479) hx hb dX12_goesOn_474 (by decide) (fun _ => ?_) (fun c => absurd (dk_lep (k := 0) (by decide +kernel) (by omega)) c)
                  refine lv_aload_n hx hb dX12_goesOn_479 rfl (lv_at hl 3 rfl) ?_
                  refine lv_iconst (v := 1) hx hb dX12_goesOn_480 (by decide +kernel) ?_
                  have hz_1042 : (1 : Int32).toInt = 1 := by decide +kernel
                  refine dg_callv hS hA1 hA (va_runV (As := [.int 1]) (rest := []) F (c_m_joins l g D o S_2 1 (by decide +kernel) cd ((m_2.1 0 34 _ sM_0 (by decide)).trans f_cd) (by omega) om ((m_2.1 0 45 _ sM_0 (by decide)).trans f_om) (by omega) (by omega) (ZWM.keep ZW m_2 (by decide) (by decide) (by decide) (by decide)) (ZKM.keep ZK m_2 (by decide) (by decide)) (P1M.keep P1 m_2 (by decide) (by decide) (by decide) (by decide) (by decide) (by decide) (by decide) (by decide) (by decide) (by decide) (by decide) (by decide) (by decide) (by decide) (by decide)) I_2 H.size) (cwV 1 hts (bw_V wB_437 wB_438 wB_439 wB_297 wB_436) rfl rfl rfl (by decide +kernel) ⟨Nat.le_of_ble_eq_true rfl, Nat.le_of_ble_eq_true rfl⟩) (dg_preV sM_0 rfl K ST hP hS hA1 hA) rfl rfl hl.1 rfl (lv_room (Nat.le_of_ble_eq_true rfl)) dX12_goesOn_481 ⟨Nat.le_of_ble_eq_true rfl, Nat.le_of_ble_eq_true rfl⟩) (fun S_1043 hw_1043 H locs hP hS => ?_)
                  obtain ⟨I_1043, m_1043, w_1043_0, w_1043_1, w_1043_2, w_1043_3, w_1043_4, -⟩ := hw_1043
                  have M_1043 := dg_sm.tr M_2 m_1043 (by decide) (by decide)
                  have hz_1044 : (1 : Int32).toInt = 1 := by decide +kernel
                  obtain ⟨y_1045, y_1046, f_y_1045, f_y_1046, w_1043_0⟩ := w_1043_0
                  have w_1043_0 : (y_1045).toInt + (y_1046).toInt = (cd).toInt + (om).toInt := w_1043_0
                  have b_y_1045 : 0 ≤ (y_1045).toInt ∧ (y_1045).toInt ≤ 1600 := dg_I.intb (lo := 0) (hi := 1600) I_1043 sM_0 (by decide +kernel) f_y_1045
                  have b_y_1046 : 0 ≤ (y_1046).toInt ∧ (y_1046).toInt ≤ 500 := dg_I.intb (lo := 0) (hi := 500) I_1043 sM_0 (by decide +kernel) f_y_1046
                  replace w_1043_1 : TOPM S_1043 (1 : Int32) := w_1043_1
                  obtain ⟨x_1047, f_x_1047, b_x_1047⟩ := dg_I.int (i := 0) (k := 43) (lo := (-2147483648)) (hi := 2147483647) I_1043 sM_0 (by decide +kernel)
                  replace w_1043_2 : JNM S_2 S_1043 (1 : Int32) := w_1043_2
                  have TF_1043 : TFM (x_7).toInt (x_11).toInt bg0 0 R0 ((on).toNatClampNeg - nt0) S_1043 := (TFM.join TF0 (P1M.keep P1 m_2 (by decide) (by decide) (by decide) (by decide) (by decide) (by decide) (by decide) (by decide) (by decide) (by decide) (by decide) (by decide) (by decide) (by decide) (by decide)) ((m_2.1 0 42 _ sM_0 (by decide)).trans f_dp) ((m_2.1 0 43 _ sM_0 (by decide)).trans f_on) ((m_2.1 0 45 _ sM_0 (by decide)).trans f_om) w_1043_2 w_1043_1 m_1043 (by decide) (by decide) (by decide) (by decide) (by decide) (by decide)).2 (by decide +kernel) (by decide +kernel)
                  have hdm_1047 := PSM.dims w_1043_4 (((m_1043.1 0 42 _ sM_0 (by decide)).trans (m_2.1 0 42 _ sM_0 (by decide))).trans f_dp) f_x_1047 f_y_1046
                  refine lv_aload_n hx hb dX12_goesOn_484 rfl (lv_at hl 3 rfl) ?_
                  refine dg_get (C := RX12) (T := TX12) (N := 77) hx hb hts (fun w h => bw_mem (wU_X12 w h)) hown K hP sM_0 rfl 37 (by decide) (hts _ (bw_mem wB_416)) (fun _ h9 => h9) (v := .ref (o + 22)) (show S_1043.1 0 37 = .ref (o + 22) from dg_I.rel (d := 22) I_1043 sM_0 (by decide +kernel)) dX12_goesOn_485 ?_
                  refine lv_iload_n hx hb dX12_goesOn_488 rfl (lv_at hl 2 rfl) ?_
                  refine lv_iload_n hx hb dX12_goesOn_489 rfl (lv_at hl 1 rfl) ?_
                  refine lv_iconst (v := 3) hx hb dX12_goesOn_490 (by decide +kernel) ?_
                  refine lv_icmp_ne (tgt := 498) hx hb dX12_goesOn_491 (by decide) (fun c_1049 => ?_) (fun c_1049 => ?_)
                  · have jc_1049 := dk_neqc (k := 3) (by decide +kernel) c_1049
                    have jbc_1049 : 6 ≤ (x_7).toInt := by omega
                    clear jc_1049
                    refine lv_iconst (v := 3) hx hb dX12_goesOn_498 (by decide +kernel) ?_
                    have hin_1050 : vp_in x_5 20 := (dk_inv (by omega) (by omega))
                    have hz_1052 : (3 : Int32).toInt = 3 := by decide +kernel
                    refine dg_iast hx hb K hP hS hA1 sM_22 hin_1050 dX12_goesOn_499 (fun S_1051 e_1051 H locs hP hS => ?_)
                    have I_1051 := dg_I.ufu (lo := 0) (hi := 6) I_1043 e_1051 sM_22 (by decide +kernel) (show 0 ≤ ((3 : Int32)).toInt ∧ ((3 : Int32)).toInt ≤ 6 from (by decide +kernel))
                    have M_1051 := dg_sm.uf M_1043 e_1051 sM_22 (by decide)
                    have hz_1053 : (3 : Int32).toInt = 3 := by decide +kernel
                    have hz_1054 : (3 : Int32).toInt = 3 := by decide +kernel
                    have TF_1051 : TFM 3 (x_11).toInt bg0 0 R0 ((on).toNatClampNeg - nt0) S_1051 := (by have h9 := (TFM.fr' TF_1043 (((m_1043.1 0 42 _ sM_0 (by decide)).trans (m_2.1 0 42 _ sM_0 (by decide))).trans f_dp) f_x_1047 f_y_1046 (fx := x_5) (by omega) (by omega) e_1051); rw [show (3 : Int32).toInt = 3 from by decide +kernel] at h9; exact h9)
                    refine lv_aload_n hx hb dX12_goesOn_500 rfl (lv_at hl 3 rfl) ?_
                    refine dg_get (C := RX12) (T := TX12) (N := 77) hx hb hts (fun w h => bw_mem (wU_X12 w h)) hown K hP sM_0 rfl 38 (by decide) (hts _ (bw_mem wB_417)) (fun _ h9 => h9) (v := .ref (o + 23)) (show S_1051.1 0 38 = .ref (o + 23) from dg_I.rel (d := 23) I_1051 sM_0 (by decide +kernel)) dX12_goesOn_501 ?_
                    refine lv_iload_n hx hb dX12_goesOn_504 rfl (lv_at hl 2 rfl) ?_
                    refine lv_iconst (v := 0) hx hb dX12_goesOn_505 (by decide +kernel) ?_
                    have hin_1055 : vp_in x_5 20 := (dk_inv (by omega) (by omega))
                    have hz_1057 : (0 : Int32).toInt = 0 := by decide +kernel
                    refine dg_iast hx hb K hP hS hA1 sM_23 hin_1055 dX12_goesOn_506 (fun S_1056 e_1056 H locs hP hS => ?_)
                    have I_1056 := dg_I.ufu (lo := 0) (hi := 2) I_1051 e_1056 sM_23 (by decide +kernel) (show 0 ≤ ((0 : Int32)).toInt ∧ ((0 : Int32)).toInt ≤ 2 from (by decide +kernel))
                    have M_1056 := dg_sm.uf M_1051 e_1056 sM_23 (by decide)
                    have hz_1058 : (0 : Int32).toInt = 0 := by decide +kernel
                    have P0_1056 : P0M S_1056 := P1M.comma w_1043_4 (((m_1043.1 0 42 _ sM_0 (by decide)).trans (m_2.1 0 42 _ sM_0 (by decide))).trans f_dp) f_x_1047 f_y_1046 w_1043_1 (by omega) (fx := x_5) (by omega) ((congrFun (m_1043.2 22 _ sM_22 (by decide)).1 _).trans ex_7.symm) (by omega) e_1051 e_1056
                    have hz_1059 : (0 : Int32).toInt = 0 := by decide +kernel
                    have TF_1056 : TFM 3 0 bg0 0 R0 ((on).toNatClampNeg - nt0) S_1056 := (by have h9 := (TFM.ph' TF_1051 (((dg_uf_F e_1051 0 42).trans ((m_1043.1 0 42 _ sM_0 (by decide)).trans (m_2.1 0 42 _ sM_0 (by decide)))).trans f_dp) ((dg_uf_F e_1051 0 43).trans f_x_1047) ((dg_uf_F e_1051 0 45).trans f_y_1046) (fx := x_5) (by omega) (by omega) e_1056); rw [show (0 : Int32).toInt = 0 from by decide +kernel] at h9; exact h9)
                    refine lv_aload_n hx hb dX12_goesOn_507 rfl (lv_at hl 3 rfl) ?_
                    refine dg_callv hS hA1 hA (va_runV (As := []) (rest := []) F (c_m_ahead l g D o S_1056 tb tn se (((dg_uf_F e_1056 0 5).trans ((dg_uf_F e_1051 0 5).trans ((m_1043.1 0 5 _ sM_0 (by decide)).trans (m_2.1 0 5 _ sM_0 (by decide))))).trans f_se) (by omega) sl (((dg_uf_F e_1056 0 2).trans ((dg_uf_F e_1051 0 2).trans ((m_1043.1 0 2 _ sM_0 (by decide)).trans (m_2.1 0 2 _ sM_0 (by decide))))).trans f_sl) (by omega) (by omega) (TKM.keep (TKM.keep (TKM.keep (TKM.keep TK m_2 (by decide) (by decide) (by decide) (by decide) (by decide) (by decide) (by decide) (by decide)) m_1043 (by decide) (by decide) (by decide) (by decide) (by decide) (by decide) (by decide) (by decide)) (dg_sm.uf (WF := []) (WA := [22]) dg_sm.rf e_1051 sM_22 (by decide)) (by decide) (by decide) (by decide) (by decide) (by decide) (by decide) (by decide) (by decide)) (dg_sm.uf (WF := []) (WA := [23]) dg_sm.rf e_1056 sM_23 (by decide)) (by decide) (by decide) (by decide) (by decide) (by decide) (by decide) (by decide) (by decide)).1 I_1056 H.size) (cwV 0 hts (bw_V wB_318 wB_319 wB_320 wB_297 wB_317) rfl rfl rfl (by decide +kernel) ⟨Nat.le_of_ble_eq_true rfl, Nat.le_of_ble_eq_true rfl⟩) (dg_preV sM_0 rfl K ST hP hS hA1 hA) rfl rfl hl.1 rfl (lv_room (Nat.le_of_ble_eq_true rfl)) dX12_goesOn_508 ⟨Nat.le_of_ble_eq_true rfl, Nat.le_of_ble_eq_true rfl⟩) (fun S_1060 hw_1060 H locs hP hS => ?_)
                    obtain ⟨I_1060, m_1060, w_1060_0, w_1060_1, -⟩ := hw_1060
                    have M_1060 := dg_sm.tr M_1056 m_1060 (by decide) (by decide)
                    obtain ⟨y_1061, y_1062, y_1063, f_y_1061, f_y_1062, f_y_1063, w_1060_0⟩ := w_1060_0
                    have w_1060_0 : (se).toInt ≤ (y_1062).toInt ∧ (y_1062).toInt ≤ (y_1063).toInt ∧ (y_1063).toInt ≤ (sl).toInt ∧ ((y_1061).toInt ≠ 0 → (y_1062).toInt + 1 ≤ (y_1063).toInt) := w_1060_0
                    obtain ⟨w_1060_0_0, w_1060_0_1, w_1060_0_2, w_1060_0_3⟩ := w_1060_0
                    have lxh_w_1060_0_3 : m_hid ((y_1062).toInt ≤ (y_1063).toInt ∧ (y_1063).toInt ≤ (sl).toInt ∧ ((y_1061).toInt ≠ 0 → (y_1062).toInt + 1 ≤ (y_1063).toInt)) := m_hid.mk ⟨w_1060_0_1, w_1060_0_2, w_1060_0_3⟩
                    have b_y_1061 : 0 ≤ (y_1061).toInt ∧ (y_1061).toInt ≤ 3 := dg_I.intb (lo := 0) (hi := 3) I_1060 sM_0 (by decide +kernel) f_y_1061
                    have b_y_1062 : 0 ≤ (y_1062).toInt ∧ (y_1062).toInt ≤ 1600 := dg_I.intb (lo := 0) (hi := 1600) I_1060 sM_0 (by decide +kernel) f_y_1062
                    have b_y_1063 : 0 ≤ (y_1063).toInt ∧ (y_1063).toInt ≤ 1600 := dg_I.intb (lo := 0) (hi := 1600) I_1060 sM_0 (by decide +kernel) f_y_1063
                    replace w_1060_1 : TNX tb tn se S_1060 := w_1060_1
                    obtain ⟨TK_1060, nx_1060, -⟩ := TKM.nx (TKM.keep (TKM.keep (TKM.keep (TKM.keep TK m_2 (by decide) (by decide) (by decide) (by decide) (by decide) (by decide) (by decide) (by decide)) m_1043 (by decide) (by decide) (by decide) (by decide) (by decide) (by decide) (by decide) (by decide)) (dg_sm.uf (WF := []) (WA := [22]) dg_sm.rf e_1051 sM_22 (by decide)) (by decide) (by decide) (by decide) (by decide) (by decide) (by decide) (by decide) (by decide)) (dg_sm.uf (WF := []) (WA := [23]) dg_sm.rf e_1056 sM_23 (by decide)) (by decide) (by decide) (by decide) (by decide) (by decide) (by decide) (by decide) (by decide)) (((dg_uf_F e_1056 0 4).trans ((dg_uf_F e_1051 0 4).trans ((m_1043.1 0 4 _ sM_0 (by decide)).trans (m_2.1 0 4 _ sM_0 (by decide))))).trans f_sa) (((dg_uf_F e_1056 0 5).trans ((dg_uf_F e_1051 0 5).trans ((m_1043.1 0 5 _ sM_0 (by decide)).trans (m_2.1 0 5 _ sM_0 (by decide))))).trans f_se) w_1060_1 m_1060 (by decide) (by decide) f_y_1062
                    replace nx_1060 := nx_1060 (fun q9 => absurd ((TKM.zero (TKM.keep (TKM.keep (TKM.keep (TKM.keep TK m_2 (by decide) (by decide) (by decide) (by decide) (by decide) (by decide) (by decide) (by decide)) m_1043 (by decide) (by decide) (by decide) (by decide) (by decide) (by decide) (by decide) (by decide)) (dg_sm.uf (WF := []) (WA := [22]) dg_sm.rf e_1051 sM_22 (by decide)) (by decide) (by decide) (by decide) (by decide) (by decide) (by decide) (by decide) (by decide)) (dg_sm.uf (WF := []) (WA := [23]) dg_sm.rf e_1056 sM_23 (by decide)) (by decide) (by decide) (by decide) (by decide) (by decide) (by decide) (by decide) (by decide)) (((dg_uf_F e_1056 0 3).trans ((dg_uf_F e_1051 0 3).trans ((m_1043.1 0 3 _ sM_0 (by decide)).trans (m_2.1 0 3 _ sM_0 (by decide))))).trans f_sg) (((dg_uf_F e_1056 0 4).trans ((dg_uf_F e_1051 0 4).trans ((m_1043.1 0 4 _ sM_0 (by decide)).trans (m_2.1 0 4 _ sM_0 (by decide))))).trans f_sa)).mpr q9) (by omega))
                    refine lv_aload_n hx hb dX12_goesOn_511 rfl (lv_at hl 3 rfl) ?_
                    refine lv_iconst (v := 0) hx hb dX12_goesOn_512 (by decide +kernel) ?_
                    have hz_1064 : (0 : Int32).toInt = 0 := by decide +kernel
                    refine dg_put (ci := 12) (v := .int 0) (ty := tyX12 46) (C := RX12) (T := TX12) (N := 77) hx hb hts (fun w h => bw_mem (wU_X12 w h)) tyX12 tyX12_ok nmX12 hown K hP hS hA1 sM_0 rfl 46 (by decide) (hts _ (bw_mem wB_440)) (fun _ h9 => h9) rfl (by decide +kernel) (by decide +kernel) (by decide +kernel) dX12_goesOn_513 (fun S_1065 e_1065 H locs hP hS => ?_)
                    have I_1065 := dg_I.uFi (lo := 0) (hi := 1) I_1060 e_1065 sM_0 (by decide +kernel) (show 0 ≤ ((0 : Int32)).toInt ∧ ((0 : Int32)).toInt ≤ 1 from (by decide +kernel))
                    have M_1065 := dg_sm.uF M_1060 e_1065 sM_0 (by decide)
                    refine lv_iconst (v := 1) hx hb dX12_goesOn_516 (by decide +kernel) ?_
                    have hz_1066 : (1 : Int32).toInt = 1 := by decide +kernel
                    have hz_1067 : (1 : Int32).toInt = 1 := by decide +kernel
                    have hz_1068 : (0 : Int32).toInt = 0 := by decide +kernel
                    have hz_1069 : (1 : Int32).toInt = 1 := by decide +kernel
                    have hz_1070 : (0 : Int32).toInt = 0 := by decide +kernel
                    have hz_1071 : (1 : Int32).toInt = 1 := by decide +kernel
                    have hz_1072 : (1 : Int32).toInt = 1 := by decide +kernel
                    have hz_1073 : (0 : Int32).toInt = 0 := by decide +kernel
                    refine W.widen (k := 0) (n := 0) (Nat.le_of_ble_eq_true rfl) (Nat.le_of_ble_eq_true rfl) ?_
                    rw [hQ9]
                    exact dg_iret hx hb hr hlocks (by decide +kernel) hP hS ⟨I_1065, M_1065, (by decide +kernel), ⟨y_1061, y_1062, y_1063, y_3, y_1045, dp, y_1046, 0, ((dg_uF_ne e_1065 (fun z => absurd z.2 (by decide))).trans f_y_1061), ((dg_uF_ne e_1065 (fun z => absurd z.2 (by decide))).trans f_y_1062), ((dg_uF_ne e_1065 (fun z => absurd z.2 (by decide))).trans f_y_1063), (((dg_uF_ne e_1065 (fun z => absurd z.2 (by decide))).trans ((m_1060.1 0 8 _ sM_0 (by decide)).trans ((dg_uf_F e_1056 0 8).trans ((dg_uf_F e_1051 0 8).trans (m_1043.1 0 8 _ sM_0 (by decide)))))).trans f_y_3), (((dg_uF_ne e_1065 (fun z => absurd z.2 (by decide))).trans ((m_1060.1 0 34 _ sM_0 (by decide)).trans ((dg_uf_F e_1056 0 34).trans (dg_uf_F e_1051 0 34)))).trans f_y_1045), (((dg_uF_ne e_1065 (fun z => absurd z.2 (by decide))).trans ((m_1060.1 0 42 _ sM_0 (by decide)).trans ((dg_uf_F e_1056 0 42).trans ((dg_uf_F e_1051 0 42).trans ((m_1043.1 0 42 _ sM_0 (by decide)).trans (m_2.1 0 42 _ sM_0 (by decide))))))).trans f_dp), (((dg_uF_ne e_1065 (fun z => absurd z.2 (by decide))).trans ((m_1060.1 0 45 _ sM_0 (by decide)).trans ((dg_uf_F e_1056 0 45).trans (dg_uf_F e_1051 0 45)))).trans f_y_1046), (dg_uF_at e_1065), ⟨lxh_w_1060_0_3.out, (by omega)⟩⟩, (fun k9 hk9 hk0 => POM.mk0 (P0M.keep (P0M.keep P0_1056 m_1060 (by decide) (by decide) (by decide) (by decide) (by decide) (by decide) (by decide) (by decide) (by decide) (by decide) (by decide) (by decide) (by decide) (by decide) (by decide)) (dg_sm.uF (WF := [(0, 46)]) (WA := []) dg_sm.rf e_1065 sM_0 (by decide)) (by decide) (by decide) (by decide) (by decide) (by decide) (by decide) (by decide) (by decide) (by decide) (by decide) (by decide) (by decide) (by decide) (by decide) (by decide)) (dg_uF_at e_1065) (by omega)), (GOK.ok f_sa (((dg_uF_ne e_1065 (fun z => absurd z.2 (by decide))).trans ((m_1060.1 0 8 _ sM_0 (by decide)).trans ((dg_uf_F e_1056 0 8).trans ((dg_uf_F e_1051 0 8).trans (m_1043.1 0 8 _ sM_0 (by decide)))))).trans f_y_3) ((dg_uF_ne e_1065 (fun z => absurd z.2 (by decide))).trans f_y_1062) (dg_uF_at e_1065) (by omega) hM0 (TFM.keep (TFM.keep TF_1056 m_1060 (by decide) (by decide) (by decide) (by decide) (by decide) (by decide) (by decide) (by decide)) (dg_sm.uF (WF := [(0, 46)]) (WA := []) dg_sm.rf e_1065 sM_0 (by decide)) (by decide) (by decide) (by decide) (by decide) (by decide) (by decide) (by decide) (by decide)) (m_st_t.trans ((m_go_com hnop.out (by by_cases q8 : (x_7).toInt = 3; exact Or.inl q8; exact Or.inr ⟨by omega, (by have h9 := h422.out; have h8 := (w_9_1.out.mpr (Or.inr (Or.inr (by omega)))); omega), (hnao.out (w_9_1.out.mpr (Or.inr (Or.inr (by omega))))).1, (hnao.out (w_9_1.out.mpr (Or.inr (Or.inr (by omega))))).2⟩) qw_1039_1).trans (by rw [if_neg (by omega)]))) (by omega) (by decide +kernel) (by first | decide +kernel | exact decide_eq_true (by omega))), (TKM.keep TK_1060 (dg_sm.uF (WF := [(0, 46)]) (WA := []) dg_sm.rf e_1065 sM_0 (by decide)) (by decide) (by decide) (by decide) (by decide) (by decide) (by decide) (by decide) (by decide)), (ZWM.keep (ZWM.keep (ZWM.keep (ZWM.keep w_1043_3 (dg_sm.uf (WF := []) (WA := [22]) dg_sm.rf e_1051 sM_22 (by decide)) (by decide) (by decide) (by decide) (by decide)) (dg_sm.uf (WF := []) (WA := [23]) dg_sm.rf e_1056 sM_23 (by decide)) (by decide) (by decide) (by decide) (by decide)) m_1060 (by decide) (by decide) (by decide) (by decide)) (dg_sm.uF (WF := [(0, 46)]) (WA := []) dg_sm.rf e_1065 sM_0 (by decide)) (by decide) (by decide) (by decide) (by decide)), trivial⟩ dX12_goesOn_517
                  · have jc_1049 := dk_eqc (k := 3) (by decide +kernel) c_1049
                    refine lv_iconst (v := 4) hx hb dX12_goesOn_494 (by decide +kernel) ?_
                    refine lv_goto (tgt := 499) hx hb dX12_goesOn_495 (by decide) ?_
                    have hin_1074 : vp_in x_5 20 := (dk_inv (by omega) (by omega))
                    have hz_1076 : (4 : Int32).toInt = 4 := by decide +kernel
                    refine dg_iast hx hb K hP hS hA1 sM_22 hin_1074 dX12_goesOn_499 (fun S_1075 e_1075 H locs hP hS => ?_)
                    have I_1075 := dg_I.ufu (lo := 0) (hi := 6) I_1043 e_1075 sM_22 (by decide +kernel) (show 0 ≤ ((4 : Int32)).toInt ∧ ((4 : Int32)).toInt ≤ 6 from (by decide +kernel))
                    have M_1075 := dg_sm.uf M_1043 e_1075 sM_22 (by decide)
                    have hz_1077 : (4 : Int32).toInt = 4 := by decide +kernel
                    have hz_1078 : (4 : Int32).toInt = 4 := by decide +kernel
                    have TF_1075 : TFM 4 (x_11).toInt bg0 0 R0 ((on).toNatClampNeg - nt0) S_1075 := (by have h9 := (TFM.fr' TF_1043 (((m_1043.1 0 42 _ sM_0 (by decide)).trans (m_2.1 0 42 _ sM_0 (by decide))).trans f_dp) f_x_1047 f_y_1046 (fx := x_5) (by omega) (by omega) e_1075); rw [show (4 : Int32).toInt = 4 from by decide +kernel] at h9; exact h9)
                    refine lv_aload_n hx hb dX12_goesOn_500 rfl (lv_at hl 3 rfl) ?_
                    refine dg_get (C := RX12) (T := TX12) (N := 77) hx hb hts (fun w h => bw_mem (wU_X12 w h)) hown K hP sM_0 rfl 38 (by decide) (hts _ (bw_mem wB_417)) (fun _ h9 => h9) (v := .ref (o + 23)) (show S_1075.1 0 38 = .ref (o + 23) from dg_I.rel (d := 23) I_1075 sM_0 (by decide +kernel)) dX12_goesOn_501 ?_
                    refine lv_iload_n hx hb dX12_goesOn_504 rfl (lv_at hl 2 rfl) ?_
                    refine lv_iconst (v := 0) hx hb dX12_goesOn_505 (by decide +kernel) ?_
                    have hin_1079 : vp_in x_5 20 := (dk_inv (by omega) (by omega))
                    have hz_1081 : (0 : Int32).toInt = 0 := by decide +kernel
                    refine dg_iast hx hb K hP hS hA1 sM_23 hin_1079 dX12_goesOn_506 (fun S_1080 e_1080 H locs hP hS => ?_)
                    have I_1080 := dg_I.ufu (lo := 0) (hi := 2) I_1075 e_1080 sM_23 (by decide +kernel) (show 0 ≤ ((0 : Int32)).toInt ∧ ((0 : Int32)).toInt ≤ 2 from (by decide +kernel))
                    have M_1080 := dg_sm.uf M_1075 e_1080 sM_23 (by decide)
                    have hz_1082 : (0 : Int32).toInt = 0 := by decide +kernel
                    have P0_1080 : P0M S_1080 := P1M.comma w_1043_4 (((m_1043.1 0 42 _ sM_0 (by decide)).trans (m_2.1 0 42 _ sM_0 (by decide))).trans f_dp) f_x_1047 f_y_1046 w_1043_1 (by omega) (fx := x_5) (by omega) ((congrFun (m_1043.2 22 _ sM_22 (by decide)).1 _).trans ex_7.symm) (by omega) e_1075 e_1080
                    have hz_1083 : (0 : Int32).toInt = 0 := by decide +kernel
                    have TF_1080 : TFM 4 0 bg0 0 R0 ((on).toNatClampNeg - nt0) S_1080 := (by have h9 := (TFM.ph' TF_1075 (((dg_uf_F e_1075 0 42).trans ((m_1043.1 0 42 _ sM_0 (by decide)).trans (m_2.1 0 42 _ sM_0 (by decide)))).trans f_dp) ((dg_uf_F e_1075 0 43).trans f_x_1047) ((dg_uf_F e_1075 0 45).trans f_y_1046) (fx := x_5) (by omega) (by omega) e_1080); rw [show (0 : Int32).toInt = 0 from by decide +kernel] at h9; exact h9)
                    refine lv_aload_n hx hb dX12_goesOn_507 rfl (lv_at hl 3 rfl) ?_
                    refine dg_callv hS hA1 hA (va_runV (As := []) (rest := []) F (c_m_ahead l g D o S_1080 tb tn se (((dg_uf_F e_1080 0 5).trans ((dg_uf_F e_1075 0 5).trans ((m_1043.1 0 5 _ sM_0 (by decide)).trans (m_2.1 0 5 _ sM_0 (by decide))))).trans f_se) (by omega) sl (((dg_uf_F e_1080 0 2).trans ((dg_uf_F e_1075 0 2).trans ((m_1043.1 0 2 _ sM_0 (by decide)).trans (m_2.1 0 2 _ sM_0 (by decide))))).trans f_sl) (by omega) (by omega) (TKM.keep (TKM.keep (TKM.keep (TKM.keep TK m_2 (by decide) (by decide) (by decide) (by decide) (by decide) (by decide) (by decide) (by decide)) m_1043 (by decide) (by decide) (by decide) (by decide) (by decide) (by decide) (by decide) (by decide)) (dg_sm.uf (WF := []) (WA := [22]) dg_sm.rf e_1075 sM_22 (by decide)) (by decide) (by decide) (by decide) (by decide) (by decide) (by decide) (by decide) (by decide)) (dg_sm.uf (WF := []) (WA := [23]) dg_sm.rf e_1080 sM_23 (by decide)) (by decide) (by decide) (by decide) (by decide) (by decide) (by decide) (by decide) (by decide)).1 I_1080 H.size) (cwV 0 hts (bw_V wB_318 wB_319 wB_320 wB_297 wB_317) rfl rfl rfl (by decide +kernel) ⟨Nat.le_of_ble_eq_true rfl, Nat.le_of_ble_eq_true rfl⟩) (dg_preV sM_0 rfl K ST hP hS hA1 hA) rfl rfl hl.1 rfl (lv_room (Nat.le_of_ble_eq_true rfl)) dX12_goesOn_508 ⟨Nat.le_of_ble_eq_true rfl, Nat.le_of_ble_eq_true rfl⟩) (fun S_1084 hw_1084 H locs hP hS => ?_)
                    obtain ⟨I_1084, m_1084, w_1084_0, w_1084_1, -⟩ := hw_1084
                    have M_1084 := dg_sm.tr M_1080 m_1084 (by decide) (by decide)
                    obtain ⟨y_1085, y_1086, y_1087, f_y_1085, f_y_1086, f_y_1087, w_1084_0⟩ := w_1084_0
                    have w_1084_0 : (se).toInt ≤ (y_1086).toInt ∧ (y_1086).toInt ≤ (y_1087).toInt ∧ (y_1087).toInt ≤ (sl).toInt ∧ ((y_1085).toInt ≠ 0 → (y_1086).toInt + 1 ≤ (y_1087).toInt) := w_1084_0
                    obtain ⟨w_1084_0_0, w_1084_0_1, w_1084_0_2, w_1084_0_3⟩ := w_1084_0
                    have lxh_w_1084_0_3 : m_hid ((y_1086).toInt ≤ (y_1087).toInt ∧ (y_1087).toInt ≤ (sl).toInt ∧ ((y_1085).toInt ≠ 0 → (y_1086).toInt + 1 ≤ (y_1087).toInt)) := m_hid.mk ⟨w_1084_0_1, w_1084_0_2, w_1084_0_3⟩
                    have b_y_1085 : 0 ≤ (y_1085).toInt ∧ (y_1085).toInt ≤ 3 := dg_I.intb (lo := 0) (hi := 3) I_1084 sM_0 (by decide +kernel) f_y_1085
                    have b_y_1086 : 0 ≤ (y_1086).toInt ∧ (y_1086).toInt ≤ 1600 := dg_I.intb (lo := 0) (hi := 1600) I_1084 sM_0 (by decide +kernel) f_y_1086
                    have b_y_1087 : 0 ≤ (y_1087).toInt ∧ (y_1087).toInt ≤ 1600 := dg_I.intb (lo := 0) (hi := 1600) I_1084 sM_0 (by decide +kernel) f_y_1087
                    replace w_1084_1 : TNX tb tn se S_1084 := w_1084_1
                    obtain ⟨TK_1084, nx_1084, -⟩ := TKM.nx (TKM.keep (TKM.keep (TKM.keep (TKM.keep TK m_2 (by decide) (by decide) (by decide) (by decide) (by decide) (by decide) (by decide) (by decide)) m_1043 (by decide) (by decide) (by decide) (by decide) (by decide) (by decide) (by decide) (by decide)) (dg_sm.uf (WF := []) (WA := [22]) dg_sm.rf e_1075 sM_22 (by decide)) (by decide) (by decide) (by decide) (by decide) (by decide) (by decide) (by decide) (by decide)) (dg_sm.uf (WF := []) (WA := [23]) dg_sm.rf e_1080 sM_23 (by decide)) (by decide) (by decide) (by decide) (by decide) (by decide) (by decide) (by decide) (by decide)) (((dg_uf_F e_1080 0 4).trans ((dg_uf_F e_1075 0 4).trans ((m_1043.1 0 4 _ sM_0 (by decide)).trans (m_2.1 0 4 _ sM_0 (by decide))))).trans f_sa) (((dg_uf_F e_1080 0 5).trans ((dg_uf_F e_1075 0 5).trans ((m_1043.1 0 5 _ sM_0 (by decide)).trans (m_2.1 0 5 _ sM_0 (by decide))))).trans f_se) w_1084_1 m_1084 (by decide) (by decide) f_y_1086
                    replace nx_1084 := nx_1084 (fun q9 => absurd ((TKM.zero (TKM.keep (TKM.keep (TKM.keep (TKM.keep TK m_2 (by decide) (by decide) (by decide) (by decide) (by decide) (by decide) (by decide) (by decide)) m_1043 (by decide) (by decide) (by decide) (by decide) (by decide) (by decide) (by decide) (by decide)) (dg_sm.uf (WF := []) (WA := [22]) dg_sm.rf e_1075 sM_22 (by decide)) (by decide) (by decide) (by decide) (by decide) (by decide) (by decide) (by decide) (by decide)) (dg_sm.uf (WF := []) (WA := [23]) dg_sm.rf e_1080 sM_23 (by decide)) (by decide) (by decide) (by decide) (by decide) (by decide) (by decide) (by decide) (by decide)) (((dg_uf_F e_1080 0 3).trans ((dg_uf_F e_1075 0 3).trans ((m_1043.1 0 3 _ sM_0 (by decide)).trans (m_2.1 0 3 _ sM_0 (by decide))))).trans f_sg) (((dg_uf_F e_1080 0 4).trans ((dg_uf_F e_1075 0 4).trans ((m_1043.1 0 4 _ sM_0 (by decide)).trans (m_2.1 0 4 _ sM_0 (by decide))))).trans f_sa)).mpr q9) (by omega))
                    refine lv_aload_n hx hb dX12_goesOn_511 rfl (lv_at hl 3 rfl) ?_
                    refine lv_iconst (v := 0) hx hb dX12_goesOn_512 (by decide +kernel) ?_
                    have hz_1088 : (0 : Int32).toInt = 0 := by decide +kernel
                    refine dg_put (ci := 12) (v := .int 0) (ty := tyX12 46) (C := RX12) (T := TX12) (N := 77) hx hb hts (fun w h => bw_mem (wU_X12 w h)) tyX12 tyX12_ok nmX12 hown K hP hS hA1 sM_0 rfl 46 (by decide) (hts _ (bw_mem wB_440)) (fun _ h9 => h9) rfl (by decide +kernel) (by decide +kernel) (by decide +kernel) dX12_goesOn_513 (fun S_1089 e_1089 H locs hP hS => ?_)
                    have I_1089 := dg_I.uFi (lo := 0) (hi := 1) I_1084 e_1089 sM_0 (by decide +kernel) (show 0 ≤ ((0 : Int32)).toInt ∧ ((0 : Int32)).toInt ≤ 1 from (by decide +kernel))
                    have M_1089 := dg_sm.uF M_1084 e_1089 sM_0 (by decide)
                    refine lv_iconst (v := 1) hx hb dX12_goesOn_516 (by decide +kernel) ?_
                    have hz_1090 : (1 : Int32).toInt = 1 := by decide +kernel
                    have hz_1091 : (1 : Int32).toInt = 1 := by decide +kernel
                    have hz_1092 : (0 : Int32).toInt = 0 := by decide +kernel
                    have hz_1093 : (1 : Int32).toInt = 1 := by decide +kernel
                    have hz_1094 : (0 : Int32).toInt = 0 := by decide +kernel
                    have hz_1095 : (1 : Int32).toInt = 1 := by decide +kernel
                    have hz_1096 : (1 : Int32).toInt = 1 := by decide +kernel
                    have hz_1097 : (0 : Int32).toInt = 0 := by decide +kernel
                    refine W.widen (k := 0) (n := 0) (Nat.le_of_ble_eq_true rfl) (Nat.le_of_ble_eq_true rfl) ?_
                    rw [hQ9]
                    exact dg_iret hx hb hr hlocks (by decide +kernel) hP hS ⟨I_1089, M_1089, (by decide +kernel), ⟨y_1085, y_1086, y_1087, y_3, y_1045, dp, y_1046, 0, ((dg_uF_ne e_1089 (fun z => absurd z.2 (by decide))).trans f_y_1085), ((dg_uF_ne e_1089 (fun z => absurd z.2 (by decide))).trans f_y_1086), ((dg_uF_ne e_1089 (fun z => absurd z.2 (by decide))).trans f_y_1087), (((dg_uF_ne e_1089 (fun z => absurd z.2 (by decide))).trans ((m_1084.1 0 8 _ sM_0 (by decide)).trans ((dg_uf_F e_1080 0 8).trans ((dg_uf_F e_1075 0 8).trans (m_1043.1 0 8 _ sM_0 (by decide)))))).trans f_y_3), (((dg_uF_ne e_1089 (fun z => absurd z.2 (by decide))).trans ((m_1084.1 0 34 _ sM_0 (by decide)).trans ((dg_uf_F e_1080 0 34).trans (dg_uf_F e_1075 0 34)))).trans f_y_1045), (((dg_uF_ne e_1089 (fun z => absurd z.2 (by decide))).trans ((m_1084.1 0 42 _ sM_0 (by decide)).trans ((dg_uf_F e_1080 0 42).trans ((dg_uf_F e_1075 0 42).trans ((m_1043.1 0 42 _ sM_0 (by decide)).trans (m_2.1 0 42 _ sM_0 (by decide))))))).trans f_dp), (((dg_uF_ne e_1089 (fun z => absurd z.2 (by decide))).trans ((m_1084.1 0 45 _ sM_0 (by decide)).trans ((dg_uf_F e_1080 0 45).trans (dg_uf_F e_1075 0 45)))).trans f_y_1046), (dg_uF_at e_1089), ⟨lxh_w_1084_0_3.out, (by omega)⟩⟩, (fun k9 hk9 hk0 => POM.mk0 (P0M.keep (P0M.keep P0_1080 m_1084 (by decide) (by decide) (by decide) (by decide) (by decide) (by decide) (by decide) (by decide) (by decide) (by decide) (by decide) (by decide) (by decide) (by decide) (by decide)) (dg_sm.uF (WF := [(0, 46)]) (WA := []) dg_sm.rf e_1089 sM_0 (by decide)) (by decide) (by decide) (by decide) (by decide) (by decide) (by decide) (by decide) (by decide) (by decide) (by decide) (by decide) (by decide) (by decide) (by decide) (by decide)) (dg_uF_at e_1089) (by omega)), (GOK.ok f_sa (((dg_uF_ne e_1089 (fun z => absurd z.2 (by decide))).trans ((m_1084.1 0 8 _ sM_0 (by decide)).trans ((dg_uf_F e_1080 0 8).trans ((dg_uf_F e_1075 0 8).trans (m_1043.1 0 8 _ sM_0 (by decide)))))).trans f_y_3) ((dg_uF_ne e_1089 (fun z => absurd z.2 (by decide))).trans f_y_1086) (dg_uF_at e_1089) (by omega) hM0 (TFM.keep (TFM.keep TF_1080 m_1084 (by decide) (by decide) (by decide) (by decide) (by decide) (by decide) (by decide) (by decide)) (dg_sm.uF (WF := [(0, 46)]) (WA := []) dg_sm.rf e_1089 sM_0 (by decide)) (by decide) (by decide) (by decide) (by decide) (by decide) (by decide) (by decide) (by decide)) (m_st_t.trans ((m_go_com hnop.out (by by_cases q8 : (x_7).toInt = 3; exact Or.inl q8; exact Or.inr ⟨by omega, (by have h9 := h422.out; have h8 := (w_9_1.out.mpr (Or.inr (Or.inr (by omega)))); omega), (hnao.out (w_9_1.out.mpr (Or.inr (Or.inr (by omega))))).1, (hnao.out (w_9_1.out.mpr (Or.inr (Or.inr (by omega))))).2⟩) qw_1039_1).trans (by rw [if_pos (by omega)]))) (by omega) (by decide +kernel) (by first | decide +kernel | exact decide_eq_true (by omega))), (TKM.keep TK_1084 (dg_sm.uF (WF := [(0, 46)]) (WA := []) dg_sm.rf e_1089 sM_0 (by decide)) (by decide) (by decide) (by decide) (by decide) (by decide) (by decide) (by decide) (by decide)), (ZWM.keep (ZWM.keep (ZWM.keep (ZWM.keep w_1043_3 (dg_sm.uf (WF := []) (WA := [22]) dg_sm.rf e_1075 sM_22 (by decide)) (by decide) (by decide) (by decide) (by decide)) (dg_sm.uf (WF := []) (WA := [23]) dg_sm.rf e_1080 sM_23 (by decide)) (by decide) (by decide) (by decide) (by decide)) m_1084 (by decide) (by decide) (by decide) (by decide)) (dg_sm.uF (WF := [(0, 46)]) (WA := []) dg_sm.rf e_1089 sM_0 (by decide)) (by decide) (by decide) (by decide) (by decide)), trivial⟩ dX12_goesOn_517
                · have jc_1041 := dk_eqc (k := 0) (by decide +kernel) c_1041
                  have qw_1039_1 : g_s (T_kd tb tn) (T_vl tb tn) 44 (t_ix tb tn (sa : Int32).toNatClampNeg) = false := g_iff_f (TKM.iss (TKM.keep TK m_2 (by decide) (by decide) (by decide) (by decide) (by decide) (by decide) (by decide) (by decide)) ((m_2.1 0 3 _ sM_0 (by decide)).trans f_sg) ((m_2.1 0 4 _ sM_0 (by decide)).trans f_sa) ((m_2.1 0 6 _ sM_0 (by decide)).trans f_va) hk5.out (c := 44) (by have h9 := w_1039_1; rw [show (44 : Int32).toInt = 44 from by decide +kernel] at h9; exact h9)) (by omega)
                  clear w_1039_1
                  refine lv_aload_n hx hb dX12_goesOn_461 rfl (lv_at hl 3 rfl) ?_
                  refine lv_iconst (v := 1) hx hb dX12_goesOn_462 (by decide +kernel) ?_
                  refine lv_aload_n hx hb dX12_goesOn_463 rfl (lv_at hl 3 rfl) ?_
                  refine dg_get (C := RX12) (T := TX12) (N := 77) hx hb hts (fun w h => bw_mem (wU_X12 w h)) hown K hP sM_0 rfl 4 (by decide) (hts _ (bw_mem wB_291)) (fun _ h9 => h9) (v := .int sa) ((m_2.1 0 4 _ sM_0 (by decide)).trans f_sa) dX12_goesOn_464 ?_
                  have hz_1098 : (1 : Int32).toInt = 1 := by decide +kernel
                  refine dg_callv hS hA1 hA (va_runV (As := [.int 1, .int sa]) (rest := []) F (c_m_blame l g D o S_2 1 (by decide +kernel) sa y_3 f_y_3 (by omega) I_2 H.size) (cwV 2 hts (bw_V wB_306 wB_307 wB_308 wB_297 wB_305) rfl rfl rfl (by decide +kernel) ⟨Nat.le_of_ble_eq_true rfl, Nat.le_of_ble_eq_true rfl⟩) (dg_preV sM_0 rfl K ST hP hS hA1 hA) rfl rfl hl.1 rfl (lv_room (Nat.le_of_ble_eq_true rfl)) dX12_goesOn_467 ⟨Nat.le_of_ble_eq_true rfl, Nat.le_of_ble_eq_true rfl⟩) (fun S_1099 hw_1099 H locs hP hS => ?_)
                  obtain ⟨I_1099, m_1099, w_1099_0, -⟩ := hw_1099
                  have M_1099 := dg_sm.tr M_2 m_1099 (by decide) (by decide)
                  have hz_1100 : (1 : Int32).toInt = 1 := by decide +kernel
                  obtain ⟨y_1101, f_y_1101, w_1099_0⟩ := w_1099_0
                  have w_1099_0 : ((y_3).toInt ≠ 0 → (y_1101).toInt = (y_3).toInt) ∧ ((y_3).toInt = 0 → (y_1101).toInt = ((1 : Int32)).toInt) := w_1099_0
                  obtain ⟨w_1099_0_0, w_1099_0_1⟩ := w_1099_0
                  clear w_1099_0_0
                  have w_1099_0_1r := w_1099_0_1 (by omega)
                  clear w_1099_0_1
                  have b_y_1101 : 0 ≤ (y_1101).toInt ∧ (y_1101).toInt ≤ 6 := dg_I.intb (lo := 0) (hi := 6) I_1099 sM_0 (by decide +kernel) f_y_1101
                  have hbl_y_1101 : 1 ≤ (y_1101).toInt := by omega
                  refine lv_aload_n hx hb dX12_goesOn_470 rfl (lv_at hl 3 rfl) ?_
                  refine dg_get (C := RX12) (T := TX12) (N := 77) hx hb hts (fun w h => bw_mem (wU_X12 w h)) hown K hP sM_0 rfl 8 (by decide) (hts _ (bw_mem wB_303)) (fun _ h9 => h9) (v := .int y_1101) f_y_1101 dX12_goesOn_471 ?_
                  refine lv_if_le (tgt := 479) hx hb dX12_goesOn_474 (by decide) (fun c => absurd c (fun z => absurd (dk_lec (k := 0) (by decide +kernel) z) (by omega))) (fun _ => ?_)
                  refine lv_iconst (v := 0) hx hb dX12_goesOn_477 (by decide +kernel) ?_
                  have hz_1102 : (0 : Int32).toInt = 0 := by decide +kernel
                  have hz_1103 : (0 : Int32).toInt = 0 := by decide +kernel
                  have hz_1104 : (0 : Int32).toInt = 0 := by decide +kernel
                  have hz_1105 : (0 : Int32).toInt = 0 := by decide +kernel
                  have hz_1106 : (0 : Int32).toInt = 0 := by decide +kernel
                  refine W.widen (k := 0) (n := 0) (Nat.le_of_ble_eq_true rfl) (Nat.le_of_ble_eq_true rfl) ?_
                  rw [hQ9]
                  exact dg_iret hx hb hr hlocks (by decide +kernel) hP hS ⟨I_1099, M_1099, (by decide +kernel), ⟨sg, sa, se, y_1101, cd, dp, om, oo, (((m_1099.1 0 3 _ sM_0 (by decide)).trans (m_2.1 0 3 _ sM_0 (by decide))).trans f_sg), (((m_1099.1 0 4 _ sM_0 (by decide)).trans (m_2.1 0 4 _ sM_0 (by decide))).trans f_sa), (((m_1099.1 0 5 _ sM_0 (by decide)).trans (m_2.1 0 5 _ sM_0 (by decide))).trans f_se), f_y_1101, (((m_1099.1 0 34 _ sM_0 (by decide)).trans (m_2.1 0 34 _ sM_0 (by decide))).trans f_cd), (((m_1099.1 0 42 _ sM_0 (by decide)).trans (m_2.1 0 42 _ sM_0 (by decide))).trans f_dp), (((m_1099.1 0 45 _ sM_0 (by decide)).trans (m_2.1 0 45 _ sM_0 (by decide))).trans f_om), (((m_1099.1 0 46 _ sM_0 (by decide)).trans (m_2.1 0 46 _ sM_0 (by decide))).trans f_oo), ⟨lxh_hlx_2.out, (by omega)⟩⟩, (fun k9 hk9 hk0 => by have q9 := (f_y_1101).symm.trans hk9; cases q9; omega), (GOK.no f_sa f_fk f_y_1101 (by omega) (fun h0 => Or.inl (by rw [hM0]; exact m_st_t.trans (m_go_bad hnop.out (Or.inr ⟨by omega, (fun q8 q9 => hnco.out (by have h9 := m_tst_iff.mp q8; have h8 := w_9_1.out.mpr h9; omega) q9), (fun q8 => hnao.out (by have h9 := m_tst_iff.mp q8; have h8 := w_9_1.out.mpr h9; omega)), (fun _ => qw_1039_1), (fun q9 => by exfalso; omega), (fun q9 q8 q7 => by exfalso; omega)⟩))))), (TKM.keep (TKM.keep TK m_2 (by decide) (by decide) (by decide) (by decide) (by decide) (by decide) (by decide) (by decide)) m_1099 (by decide) (by decide) (by decide) (by decide) (by decide) (by decide) (by decide) (by decide)), (ZWM.keep (ZWM.keep ZW m_2 (by decide) (by decide) (by decide) (by decide)) m_1099 (by decide) (by decide) (by decide) (by decide)), trivial⟩ dX12_goesOn_478
              refine lv_icmp_eq (tgt := 452) hx hb dX12_goesOn_443 (by decide) (fun c_1107 => ?_) (fun c_1107 => ?_)
              · have jc_1107 := dk_eqc (k := 3) (by decide +kernel) c_1107
                exact J_1037 ()  (by omega) _ _ hP hS _ (lv_sub hl [0, 1, 2, 3] rfl)
              · have jc_1107 := dk_neqc (k := 3) (by decide +kernel) c_1107
                refine lv_iload_n hx hb dX12_goesOn_446 rfl (lv_at hl 1 rfl) ?_
                refine lv_bipush (v := 6) hx hb dX12_goesOn_447 (by decide +kernel) ?_
                refine lv_icmp_ne (tgt := 518) hx hb dX12_goesOn_449 (by decide) (fun c_1108 => ?_) (fun c_1108 => ?_)
                · have jc_1108 := dk_neqc (k := 6) (by decide +kernel) c_1108
                  have jtc_1108 : (x_7).toInt ≤ 5 := by omega
                  clear jc_1108
                  refine lv_aload_n hx hb dX12_goesOn_518 rfl (lv_at hl 3 rfl) ?_
                  refine lv_iload_n hx hb dX12_goesOn_519 rfl (lv_at hl 1 rfl) ?_
                  refine lv_iconst (v := 5) hx hb dX12_goesOn_520 (by decide +kernel) ?_
                  have J_1174 : ∀ (x_1110 : Int32), (41 ≤ (x_1110).toInt ∧ (x_1110).toInt ≤ 93) → ((x_7 : Int32).toInt = 2 ∨ (x_7 : Int32).toInt = 4 ∨ (x_7 : Int32).toInt = 5) → (m_hid (((x_7 : Int32).toInt = 5 → (x_1110 : Int32).toInt = 93) ∧ ((x_7 : Int32).toInt ≠ 5 → (x_1110 : Int32).toInt = 41))) → ∀ (H : Heap) (locs : List Loc), va_P D vwCl (dg_w g shM o rfM S_2) H → va_S A s.heap H locs → ∀ ls : Array Slot, lv_has ls 5 [(3, .int x_8), (2, .int x_7), (1, .int x_5), (0, .ref (o + 0))] → W p l e ({ frames := 3, cells := 0, slots := 0, locals := 77 } : Room) s m args below meth c H locs 0 0 Q9 (F0 m 531 ls [.int x_1110, .ref (o + 0)]) := by
                    intro x_1110 b_x_1110 rel_0 rel_1 H locs hP hS ls hl
                    have h531 := rel_1
                    refine dg_calli hS hA1 hA (va_runV (As := [.int x_1110]) (rest := []) F (c_m_isSign l g D o S_2 x_1110 sg ((m_2.1 0 3 _ sM_0 (by decide)).trans f_sg) (by omega) va ((m_2.1 0 6 _ sM_0 (by decide)).trans f_va) (by omega) I_2 H.size) (cwV 1 hts (bw_V wB_314 wB_315 wB_316 wB_297 wB_313) rfl rfl rfl (by decide +kernel) ⟨Nat.le_of_ble_eq_true rfl, Nat.le_of_ble_eq_true rfl⟩) (dg_preV sM_0 rfl K ST hP hS hA1 hA) rfl rfl hl.1 rfl (lv_room (Nat.le_of_ble_eq_true rfl)) dX12_goesOn_531 ⟨Nat.le_of_ble_eq_true rfl, Nat.le_of_ble_eq_true rfl⟩) (fun x_1175 S_1176 hw_1176 H locs hP hS => ?_)
                    rw [hw_1176.1] at hP
                    obtain ⟨hq_1176, w_1176_0, w_1176_1, -⟩ := hw_1176
                    have w_1176_0 : 0 ≤ (x_1175).toInt ∧ (x_1175).toInt ≤ 1 := w_1176_0
                    have w_1176_1 : (x_1175).toInt = 1 ↔ ((sg).toInt = 3 ∧ (va).toInt = (x_1110).toInt) := w_1176_1
                    refine lv_if_ne (tgt := 546) hx hb dX12_goesOn_534 (by decide) (fun c_1177 => ?_) (fun c_1177 => ?_)
                    · have jc_1177 := dk_neqc (k := 0) (by decide +kernel) c_1177
                      have jbc_1177 : 1 ≤ (x_1175).toInt := by omega
                      clear jc_1177
                      have qw_1176_1 : g_s (T_kd tb tn) (T_vl tb tn) (x_1110).toInt (t_ix tb tn (sa : Int32).toNatClampNeg) = true := (TKM.iss (TKM.keep TK m_2 (by decide) (by decide) (by decide) (by decide) (by decide) (by decide) (by decide) (by decide)) ((m_2.1 0 3 _ sM_0 (by decide)).trans f_sg) ((m_2.1 0 4 _ sM_0 (by decide)).trans f_sa) ((m_2.1 0 6 _ sM_0 (by decide)).trans f_va) hk5.out (c := (x_1110).toInt) (by have h9 := w_1176_1; exact h9)).mp (by omega)
                      have w_1176_1_r := w_1176_1.mp (by omega)
                      obtain ⟨w_1176_1_r1, w_1176_1_r2⟩ := w_1176_1_r
                      clear w_1176_1
                      have hlx_2r := hlx_2 (by omega)
                      clear hlx_2
                      refine lv_aload_n hx hb dX12_goesOn_546 rfl (lv_at hl 3 rfl) ?_
                      refine dg_get (C := RX12) (T := TX12) (N := 77) hx hb hts (fun w h => bw_mem (wU_X12 w h)) hown K hP sM_0 rfl 8 (by decide) (hts _ (bw_mem wB_303)) (fun _ h9 => h9) (v := .int y_3) f_y_3 dX12_goesOn_547 ?_
                      refine lv_if_le (tgt := 555) hx hb dX12_goesOn_550 (by decide) (fun _ => ?_) (fun c => absurd (dk_lep (k := 0) (by decide +kernel) (by omega)) c)
                      refine lv_aload_n hx hb dX12_goesOn_555 rfl (lv_at hl 3 rfl) ?_
                      refine lv_iconst (v := 1) hx hb dX12_goesOn_556 (by decide +kernel) ?_
                      have hz_1178 : (1 : Int32).toInt = 1 := by decide +kernel
                      refine dg_callv hS hA1 hA (va_runV (As := [.int 1]) (rest := []) F (c_m_joins l g D o S_2 1 (by decide +kernel) cd ((m_2.1 0 34 _ sM_0 (by decide)).trans f_cd) (by omega) om ((m_2.1 0 45 _ sM_0 (by decide)).trans f_om) (by omega) (by omega) (ZWM.keep ZW m_2 (by decide) (by decide) (by decide) (by decide)) (ZKM.keep ZK m_2 (by decide) (by decide)) (P1M.keep P1 m_2 (by decide) (by decide) (by decide) (by decide) (by decide) (by decide) (by decide) (by decide) (by decide) (by decide) (by decide) (by decide) (by decide) (by decide) (by decide)) I_2 H.size) (cwV 1 hts (bw_V wB_437 wB_438 wB_439 wB_297 wB_436) rfl rfl rfl (by decide +kernel) ⟨Nat.le_of_ble_eq_true rfl, Nat.le_of_ble_eq_true rfl⟩) (dg_preV sM_0 rfl K ST hP hS hA1 hA) rfl rfl hl.1 rfl (lv_room (Nat.le_of_ble_eq_true rfl)) dX12_goesOn_557 ⟨Nat.le_of_ble_eq_true rfl, Nat.le_of_ble_eq_true rfl⟩) (fun S_1179 hw_1179 H locs hP hS => ?_)
                      obtain ⟨I_1179, m_1179, w_1179_0, w_1179_1, w_1179_2, w_1179_3, w_1179_4, -⟩ := hw_1179
                      have M_1179 := dg_sm.tr M_2 m_1179 (by decide) (by decide)
                      have hz_1180 : (1 : Int32).toInt = 1 := by decide +kernel
                      obtain ⟨y_1181, y_1182, f_y_1181, f_y_1182, w_1179_0⟩ := w_1179_0
                      have w_1179_0 : (y_1181).toInt + (y_1182).toInt = (cd).toInt + (om).toInt := w_1179_0
                      have b_y_1181 : 0 ≤ (y_1181).toInt ∧ (y_1181).toInt ≤ 1600 := dg_I.intb (lo := 0) (hi := 1600) I_1179 sM_0 (by decide +kernel) f_y_1181
                      have b_y_1182 : 0 ≤ (y_1182).toInt ∧ (y_1182).toInt ≤ 500 := dg_I.intb (lo := 0) (hi := 500) I_1179 sM_0 (by decide +kernel) f_y_1182
                      replace w_1179_1 : TOPM S_1179 (1 : Int32) := w_1179_1
                      obtain ⟨x_1183, f_x_1183, b_x_1183⟩ := dg_I.int (i := 0) (k := 43) (lo := (-2147483648)) (hi := 2147483647) I_1179 sM_0 (by decide +kernel)
                      replace w_1179_2 : JNM S_2 S_1179 (1 : Int32) := w_1179_2
                      have TF_1179 : TFM (x_7).toInt (x_11).toInt bg0 0 R0 ((on).toNatClampNeg - nt0) S_1179 := (TFM.join TF0 (P1M.keep P1 m_2 (by decide) (by decide) (by decide) (by decide) (by decide) (by decide) (by decide) (by decide) (by decide) (by decide) (by decide) (by decide) (by decide) (by decide) (by decide)) ((m_2.1 0 42 _ sM_0 (by decide)).trans f_dp) ((m_2.1 0 43 _ sM_0 (by decide)).trans f_on) ((m_2.1 0 45 _ sM_0 (by decide)).trans f_om) w_1179_2 w_1179_1 m_1179 (by decide) (by decide) (by decide) (by decide) (by decide) (by decide)).2 (by decide +kernel) (by decide +kernel)
                      have hdm_1183 := PSM.dims w_1179_4 (((m_1179.1 0 42 _ sM_0 (by decide)).trans (m_2.1 0 42 _ sM_0 (by decide))).trans f_dp) f_x_1183 f_y_1182
                      have hkd := PSM.kind w_1179_4 (((m_1179.1 0 42 _ sM_0 (by decide)).trans (m_2.1 0 42 _ sM_0 (by decide))).trans f_dp) f_x_1183 f_y_1182 (fx := x_5) (by omega) ((congrFun (m_1179.2 22 _ sM_22 (by decide)).1 _).trans ex_7.symm) (rfl : S_1179.2.1 25 (x_5 : Int32).toNatClampNeg = _)
                      unfold dk_fk at hkd
                      have hcl9 : (((x_5 : Int32).toNatClampNeg : Nat) : Int) = (x_5).toInt := (by rw [dk_clN]; omega)
                      have hj9 : 1 ≤ (x_5).toInt := by omega
                      have hkdh := m_hid.mk hkd
                      clear hkd
                      refine lv_aload_n hx hb dX12_goesOn_560 rfl (lv_at hl 3 rfl) ?_
                      refine lv_dup hx hb dX12_goesOn_561 rfl ?_
                      refine dg_get (C := RX12) (T := TX12) (N := 77) hx hb hts (fun w h => bw_mem (wU_X12 w h)) hown K hP sM_0 rfl 42 (by decide) (hts _ (bw_mem wB_406)) (fun _ h9 => h9) (v := .int dp) (((m_1179.1 0 42 _ sM_0 (by decide)).trans (m_2.1 0 42 _ sM_0 (by decide))).trans f_dp) dX12_goesOn_562 ?_
                      refine lv_iconst (v := 1) hx hb dX12_goesOn_565 (by decide +kernel) ?_
                      refine lv_isub hx hb dX12_goesOn_566 ?_
                      refine lv_topi (fun x_1185 ex_1185 => ?_)
                      have jx_1185 : (x_1185).toInt = (dp).toInt - 1 := by rw [ex_1185]; exact dk_subT rfl (by decide +kernel) (by omega) (by omega)
                      refine dg_put (ci := 12) (v := .int x_1185) (ty := tyX12 42) (C := RX12) (T := TX12) (N := 77) hx hb hts (fun w h => bw_mem (wU_X12 w h)) tyX12 tyX12_ok nmX12 hown K hP hS hA1 sM_0 rfl 42 (by decide) (hts _ (bw_mem wB_406)) (fun _ h9 => h9) rfl (by decide +kernel) rfl rfl dX12_goesOn_567 (fun S_1186 e_1186 H locs hP hS => ?_)
                      have I_1186 := dg_I.uFi (lo := 0) (hi := 20) I_1179 e_1186 sM_0 (by decide +kernel) (show 0 ≤ (x_1185).toInt ∧ (x_1185).toInt ≤ 20 from (by omega))
                      have M_1186 := dg_sm.uF M_1179 e_1186 sM_0 (by decide)
                      obtain ⟨pa, pb, pc9, pn, pR, hpR, TF_1186⟩ := TFM.pop TF_1179 w_1179_4 (((m_1179.1 0 42 _ sM_0 (by decide)).trans (m_2.1 0 42 _ sM_0 (by decide))).trans f_dp) f_x_1183 f_y_1182 w_1179_1 (by decide +kernel) e_1186 (by omega) (by omega)
                      refine lv_aload_n hx hb dX12_goesOn_570 rfl (lv_at hl 3 rfl) ?_
                      refine lv_dup hx hb dX12_goesOn_571 rfl ?_
                      refine dg_get (C := RX12) (T := TX12) (N := 77) hx hb hts (fun w h => bw_mem (wU_X12 w h)) hown K hP sM_0 rfl 43 (by decide) (hts _ (bw_mem wB_415)) (fun _ h9 => h9) (v := .int x_1183) ((dg_uF_ne e_1186 (fun z => absurd z.2 (by decide))).trans f_x_1183) dX12_goesOn_572 ?_
                      refine lv_iconst (v := 1) hx hb dX12_goesOn_575 (by decide +kernel) ?_
                      refine lv_isub hx hb dX12_goesOn_576 ?_
                      refine lv_topi (fun x_1187 ex_1187 => ?_)
                      have jx_1187 : (x_1187).toInt = (x_1183).toInt - 1 := by rw [ex_1187]; exact dk_subT rfl (by decide +kernel) (by omega) (by omega)
                      refine dg_put (ci := 12) (v := .int x_1187) (ty := tyX12 43) (C := RX12) (T := TX12) (N := 77) hx hb hts (fun w h => bw_mem (wU_X12 w h)) tyX12 tyX12_ok nmX12 hown K hP hS hA1 sM_0 rfl 43 (by decide) (hts _ (bw_mem wB_415)) (fun _ h9 => h9) rfl (by decide +kernel) rfl rfl dX12_goesOn_577 (fun S_1188 e_1188 H locs hP hS => ?_)
                      have I_1188 := dg_I.uFi (lo := (-2147483648)) (hi := 2147483647) I_1186 e_1188 sM_0 (by decide +kernel) (show (-2147483648) ≤ (x_1187).toInt ∧ (x_1187).toInt ≤ 2147483647 from (dk_full _))
                      have M_1188 := dg_sm.uF M_1186 e_1188 sM_0 (by decide)
                      have TF_1188 : TFM pa pb pc9 pn pR (((on).toNatClampNeg - nt0) - 1) S_1188 := TFM.opm TF_1186 ((dg_uF_ne e_1186 (fun z => absurd z.2 (by decide))).trans f_x_1183) e_1188 (by omega)
                      refine lv_iload_n hx hb dX12_goesOn_580 rfl (lv_at hl 1 rfl) ?_
                      refine lv_iconst (v := 4) hx hb dX12_goesOn_581 (by decide +kernel) ?_
                      refine lv_icmp_ne (tgt := 596) hx hb dX12_goesOn_582 (by decide) (fun c_1189 => ?_) (fun c_1189 => ?_)
                      · have jc_1189 := dk_neqc (k := 4) (by decide +kernel) c_1189
                        have P1_1188 : P1M S_1188 := P1M.close2 w_1179_4 (((m_1179.1 0 42 _ sM_0 (by decide)).trans (m_2.1 0 42 _ sM_0 (by decide))).trans f_dp) f_x_1183 f_y_1182 w_1179_1 (by omega) (fx := x_5) (by omega) ((congrFun (m_1179.2 22 _ sM_22 (by decide)).1 _).trans ex_7.symm) (by omega) e_1186 (by omega) e_1188 (by omega)
                        refine lv_iload_n hx hb dX12_goesOn_596 rfl (lv_at hl 1 rfl) ?_
                        refine lv_iconst (v := 5) hx hb dX12_goesOn_597 (by decide +kernel) ?_
                        refine lv_icmp_ne (tgt := 613) hx hb dX12_goesOn_598 (by decide) (fun c_1190 => ?_) (fun c_1190 => ?_)
                        · have jc_1190 := dk_neqc (k := 5) (by decide +kernel) c_1190
                          have jtc_1190 : (x_7).toInt ≤ 2 := by omega
                          clear jc_1190
                          refine lv_aload_n hx hb dX12_goesOn_613 rfl (lv_at hl 3 rfl) ?_
                          refine dg_callv hS hA1 hA (va_runV (As := []) (rest := []) F (c_m_ahead l g D o S_1188 tb tn se (((dg_uF_ne e_1188 (fun z => absurd z.2 (by decide))).trans ((dg_uF_ne e_1186 (fun z => absurd z.2 (by decide))).trans ((m_1179.1 0 5 _ sM_0 (by decide)).trans (m_2.1 0 5 _ sM_0 (by decide))))).trans f_se) (by omega) sl (((dg_uF_ne e_1188 (fun z => absurd z.2 (by decide))).trans ((dg_uF_ne e_1186 (fun z => absurd z.2 (by decide))).trans ((m_1179.1 0 2 _ sM_0 (by decide)).trans (m_2.1 0 2 _ sM_0 (by decide))))).trans f_sl) (by omega) (by omega) (TKM.keep (TKM.keep (TKM.keep (TKM.keep TK m_2 (by decide) (by decide) (by decide) (by decide) (by decide) (by decide) (by decide) (by decide)) m_1179 (by decide) (by decide) (by decide) (by decide) (by decide) (by decide) (by decide) (by decide)) (dg_sm.uF (WF := [(0, 42)]) (WA := []) dg_sm.rf e_1186 sM_0 (by decide)) (by decide) (by decide) (by decide) (by decide) (by decide) (by decide) (by decide) (by decide)) (dg_sm.uF (WF := [(0, 43)]) (WA := []) dg_sm.rf e_1188 sM_0 (by decide)) (by decide) (by decide) (by decide) (by decide) (by decide) (by decide) (by decide) (by decide)).1 I_1188 H.size) (cwV 0 hts (bw_V wB_318 wB_319 wB_320 wB_297 wB_317) rfl rfl rfl (by decide +kernel) ⟨Nat.le_of_ble_eq_true rfl, Nat.le_of_ble_eq_true rfl⟩) (dg_preV sM_0 rfl K ST hP hS hA1 hA) rfl rfl hl.1 rfl (lv_room (Nat.le_of_ble_eq_true rfl)) dX12_goesOn_614 ⟨Nat.le_of_ble_eq_true rfl, Nat.le_of_ble_eq_true rfl⟩) (fun S_1191 hw_1191 H locs hP hS => ?_)
                          obtain ⟨I_1191, m_1191, w_1191_0, w_1191_1, -⟩ := hw_1191
                          have M_1191 := dg_sm.tr M_1188 m_1191 (by decide) (by decide)
                          obtain ⟨y_1192, y_1193, y_1194, f_y_1192, f_y_1193, f_y_1194, w_1191_0⟩ := w_1191_0
                          have w_1191_0 : (se).toInt ≤ (y_1193).toInt ∧ (y_1193).toInt ≤ (y_1194).toInt ∧ (y_1194).toInt ≤ (sl).toInt ∧ ((y_1192).toInt ≠ 0 → (y_1193).toInt + 1 ≤ (y_1194).toInt) := w_1191_0
                          obtain ⟨w_1191_0_0, w_1191_0_1, w_1191_0_2, w_1191_0_3⟩ := w_1191_0
                          have lxh_w_1191_0_3 : m_hid ((y_1193).toInt ≤ (y_1194).toInt ∧ (y_1194).toInt ≤ (sl).toInt ∧ ((y_1192).toInt ≠ 0 → (y_1193).toInt + 1 ≤ (y_1194).toInt)) := m_hid.mk ⟨w_1191_0_1, w_1191_0_2, w_1191_0_3⟩
                          have b_y_1192 : 0 ≤ (y_1192).toInt ∧ (y_1192).toInt ≤ 3 := dg_I.intb (lo := 0) (hi := 3) I_1191 sM_0 (by decide +kernel) f_y_1192
                          have b_y_1193 : 0 ≤ (y_1193).toInt ∧ (y_1193).toInt ≤ 1600 := dg_I.intb (lo := 0) (hi := 1600) I_1191 sM_0 (by decide +kernel) f_y_1193
                          have b_y_1194 : 0 ≤ (y_1194).toInt ∧ (y_1194).toInt ≤ 1600 := dg_I.intb (lo := 0) (hi := 1600) I_1191 sM_0 (by decide +kernel) f_y_1194
                          replace w_1191_1 : TNX tb tn se S_1191 := w_1191_1
                          obtain ⟨TK_1191, nx_1191, -⟩ := TKM.nx (TKM.keep (TKM.keep (TKM.keep (TKM.keep TK m_2 (by decide) (by decide) (by decide) (by decide) (by decide) (by decide) (by decide) (by decide)) m_1179 (by decide) (by decide) (by decide) (by decide) (by decide) (by decide) (by decide) (by decide)) (dg_sm.uF (WF := [(0, 42)]) (WA := []) dg_sm.rf e_1186 sM_0 (by decide)) (by decide) (by decide) (by decide) (by decide) (by decide) (by decide) (by decide) (by decide)) (dg_sm.uF (WF := [(0, 43)]) (WA := []) dg_sm.rf e_1188 sM_0 (by decide)) (by decide) (by decide) (by decide) (by decide) (by decide) (by decide) (by decide) (by decide)) (((dg_uF_ne e_1188 (fun z => absurd z.2 (by decide))).trans ((dg_uF_ne e_1186 (fun z => absurd z.2 (by decide))).trans ((m_1179.1 0 4 _ sM_0 (by decide)).trans (m_2.1 0 4 _ sM_0 (by decide))))).trans f_sa) (((dg_uF_ne e_1188 (fun z => absurd z.2 (by decide))).trans ((dg_uF_ne e_1186 (fun z => absurd z.2 (by decide))).trans ((m_1179.1 0 5 _ sM_0 (by decide)).trans (m_2.1 0 5 _ sM_0 (by decide))))).trans f_se) w_1191_1 m_1191 (by decide) (by decide) f_y_1193
                          replace nx_1191 := nx_1191 (fun q9 => absurd ((TKM.zero (TKM.keep (TKM.keep (TKM.keep (TKM.keep TK m_2 (by decide) (by decide) (by decide) (by decide) (by decide) (by decide) (by decide) (by decide)) m_1179 (by decide) (by decide) (by decide) (by decide) (by decide) (by decide) (by decide) (by decide)) (dg_sm.uF (WF := [(0, 42)]) (WA := []) dg_sm.rf e_1186 sM_0 (by decide)) (by decide) (by decide) (by decide) (by decide) (by decide) (by decide) (by decide) (by decide)) (dg_sm.uF (WF := [(0, 43)]) (WA := []) dg_sm.rf e_1188 sM_0 (by decide)) (by decide) (by decide) (by decide) (by decide) (by decide) (by decide) (by decide) (by decide)) (((dg_uF_ne e_1188 (fun z => absurd z.2 (by decide))).trans ((dg_uF_ne e_1186 (fun z => absurd z.2 (by decide))).trans ((m_1179.1 0 3 _ sM_0 (by decide)).trans (m_2.1 0 3 _ sM_0 (by decide))))).trans f_sg) (((dg_uF_ne e_1188 (fun z => absurd z.2 (by decide))).trans ((dg_uF_ne e_1186 (fun z => absurd z.2 (by decide))).trans ((m_1179.1 0 4 _ sM_0 (by decide)).trans (m_2.1 0 4 _ sM_0 (by decide))))).trans f_sa)).mpr q9) (by omega))
                          refine lv_iconst (v := 1) hx hb dX12_goesOn_617 (by decide +kernel) ?_
                          have hz_1195 : (1 : Int32).toInt = 1 := by decide +kernel
                          have hz_1196 : (1 : Int32).toInt = 1 := by decide +kernel
                          have hz_1197 : (1 : Int32).toInt = 1 := by decide +kernel
                          have hz_1198 : (1 : Int32).toInt = 1 := by decide +kernel
                          have hz_1199 : (1 : Int32).toInt = 1 := by decide +kernel
                          refine W.widen (k := 0) (n := 0) (Nat.le_of_ble_eq_true rfl) (Nat.le_of_ble_eq_true rfl) ?_
                          rw [hQ9]
                          exact dg_iret hx hb hr hlocks (by decide +kernel) hP hS ⟨I_1191, M_1191, (by decide +kernel), ⟨y_1192, y_1193, y_1194, y_3, y_1181, x_1185, y_1182, oo, f_y_1192, f_y_1193, f_y_1194, (((m_1191.1 0 8 _ sM_0 (by decide)).trans ((dg_uF_ne e_1188 (fun z => absurd z.2 (by decide))).trans ((dg_uF_ne e_1186 (fun z => absurd z.2 (by decide))).trans (m_1179.1 0 8 _ sM_0 (by decide))))).trans f_y_3), (((m_1191.1 0 34 _ sM_0 (by decide)).trans ((dg_uF_ne e_1188 (fun z => absurd z.2 (by decide))).trans (dg_uF_ne e_1186 (fun z => absurd z.2 (by decide))))).trans f_y_1181), (((m_1191.1 0 42 _ sM_0 (by decide)).trans (dg_uF_ne e_1188 (fun z => absurd z.2 (by decide)))).trans (dg_uF_at e_1186)), (((m_1191.1 0 45 _ sM_0 (by decide)).trans ((dg_uF_ne e_1188 (fun z => absurd z.2 (by decide))).trans (dg_uF_ne e_1186 (fun z => absurd z.2 (by decide))))).trans f_y_1182), (((m_1191.1 0 46 _ sM_0 (by decide)).trans ((dg_uF_ne e_1188 (fun z => absurd z.2 (by decide))).trans ((dg_uF_ne e_1186 (fun z => absurd z.2 (by decide))).trans ((m_1179.1 0 46 _ sM_0 (by decide)).trans (m_2.1 0 46 _ sM_0 (by decide)))))).trans f_oo), ⟨lxh_w_1191_0_3.out, (by omega)⟩⟩, (fun k9 hk9 hk0 => POM.mk1 (P1M.keep P1_1188 m_1191 (by decide) (by decide) (by decide) (by decide) (by decide) (by decide) (by decide) (by decide) (by decide) (by decide) (by decide) (by decide) (by decide) (by decide) (by decide)) (((m_1191.1 0 46 _ sM_0 (by decide)).trans ((dg_uF_ne e_1188 (fun z => absurd z.2 (by decide))).trans ((dg_uF_ne e_1186 (fun z => absurd z.2 (by decide))).trans ((m_1179.1 0 46 _ sM_0 (by decide)).trans (m_2.1 0 46 _ sM_0 (by decide)))))).trans f_oo) (by omega)), (GOK.ok f_sa (((m_1191.1 0 8 _ sM_0 (by decide)).trans ((dg_uF_ne e_1188 (fun z => absurd z.2 (by decide))).trans ((dg_uF_ne e_1186 (fun z => absurd z.2 (by decide))).trans (m_1179.1 0 8 _ sM_0 (by decide))))).trans f_y_3) f_y_1193 (((m_1191.1 0 46 _ sM_0 (by decide)).trans ((dg_uF_ne e_1188 (fun z => absurd z.2 (by decide))).trans ((dg_uF_ne e_1186 (fun z => absurd z.2 (by decide))).trans ((m_1179.1 0 46 _ sM_0 (by decide)).trans (m_2.1 0 46 _ sM_0 (by decide)))))).trans f_oo) (by omega) hM0 (TFM.keep TF_1188 m_1191 (by decide) (by decide) (by decide) (by decide) (by decide) (by decide) (by decide) (by decide)) (m_st_t.trans ((m_go_cls hnop.out (Or.inl ⟨by omega, (by have h9 := qw_1176_1; rw [show (x_1110).toInt = 41 from by have h8 := h531.out.2 (by omega); omega] at h9; exact h9)⟩)).trans (by rw [hpR]; show (0, (pa, (if (x_7).toInt = 5 then 2 else pb), pc9, pn) :: pR, _ - _ - 1, _, _) = _; rw [if_neg (by omega)]))) (by omega) (by decide +kernel) (by first | decide +kernel | exact decide_eq_true (by omega))), TK_1191, (ZWM.keep (ZWM.keep (ZWM.keep w_1179_3 (dg_sm.uF (WF := [(0, 42)]) (WA := []) dg_sm.rf e_1186 sM_0 (by decide)) (by decide) (by decide) (by decide) (by decide)) (dg_sm.uF (WF := [(0, 43)]) (WA := []) dg_sm.rf e_1188 sM_0 (by decide)) (by decide) (by decide) (by decide) (by decide)) m_1191 (by decide) (by decide) (by decide) (by decide)), trivial⟩ dX12_goesOn_618
                        · have jc_1190 := dk_eqc (k := 5) (by decide +kernel) c_1190
                          refine lv_aload_n hx hb dX12_goesOn_601 rfl (lv_at hl 3 rfl) ?_
                          refine dg_get (C := RX12) (T := TX12) (N := 77) hx hb hts (fun w h => bw_mem (wU_X12 w h)) hown K hP sM_0 rfl 38 (by decide) (hts _ (bw_mem wB_417)) (fun _ h9 => h9) (v := .ref (o + 23)) (show S_1188.1 0 38 = .ref (o + 23) from dg_I.rel (d := 23) I_1188 sM_0 (by decide +kernel)) dX12_goesOn_602 ?_
                          refine lv_aload_n hx hb dX12_goesOn_605 rfl (lv_at hl 3 rfl) ?_
                          refine dg_get (C := RX12) (T := TX12) (N := 77) hx hb hts (fun w h => bw_mem (wU_X12 w h)) hown K hP sM_0 rfl 42 (by decide) (hts _ (bw_mem wB_406)) (fun _ h9 => h9) (v := .int x_1185) ((dg_uF_ne e_1188 (fun z => absurd z.2 (by decide))).trans (dg_uF_at e_1186)) dX12_goesOn_606 ?_
                          refine lv_iconst (v := 1) hx hb dX12_goesOn_609 (by decide +kernel) ?_
                          refine lv_isub hx hb dX12_goesOn_610 ?_
                          refine lv_topi (fun x_1200 ex_1200 => ?_)
                          have jx_1200 : (x_1200).toInt = (x_1185).toInt - 1 := by rw [ex_1200]; exact dk_subT rfl (by decide +kernel) (by omega) (by omega)
                          refine lv_iconst (v := 2) hx hb dX12_goesOn_611 (by decide +kernel) ?_
                          have hin_1201 : vp_in x_1200 20 := (dk_inv (by omega) (by omega))
                          have hz_1203 : (2 : Int32).toInt = 2 := by decide +kernel
                          refine dg_iast hx hb K hP hS hA1 sM_23 hin_1201 dX12_goesOn_612 (fun S_1202 e_1202 H locs hP hS => ?_)
                          have I_1202 := dg_I.ufu (lo := 0) (hi := 2) I_1188 e_1202 sM_23 (by decide +kernel) (show 0 ≤ ((2 : Int32)).toInt ∧ ((2 : Int32)).toInt ≤ 2 from (by decide +kernel))
                          have M_1202 := dg_sm.uf M_1188 e_1202 sM_23 (by decide)
                          have hz_1204 : (2 : Int32).toInt = 2 := by decide +kernel
                          have P1_1202 : P1M S_1202 := P1M.close5 P1_1188 ((dg_uF_ne e_1188 (fun z => absurd z.2 (by decide))).trans (dg_uF_at e_1186)) (by omega) (by omega) (by omega) e_1202
                          have hz_1205 : (2 : Int32).toInt = 2 := by decide +kernel
                          have TF_1202 : TFM pa 2 pc9 pn pR (((on).toNatClampNeg - nt0) - 1) S_1202 := (by have h9 := (TFM.ph' TF_1188 ((dg_uF_ne e_1188 (fun z => absurd z.2 (by decide))).trans (dg_uF_at e_1186)) (dg_uF_at e_1188) (((dg_uF_ne e_1188 (fun z => absurd z.2 (by decide))).trans (dg_uF_ne e_1186 (fun z => absurd z.2 (by decide)))).trans f_y_1182) (fx := x_1200) (by omega) (by omega) e_1202); rw [show (2 : Int32).toInt = 2 from by decide +kernel] at h9; exact h9)
                          refine lv_aload_n hx hb dX12_goesOn_613 rfl (lv_at hl 3 rfl) ?_
                          refine dg_callv hS hA1 hA (va_runV (As := []) (rest := []) F (c_m_ahead l g D o S_1202 tb tn se (((dg_uf_F e_1202 0 5).trans ((dg_uF_ne e_1188 (fun z => absurd z.2 (by decide))).trans ((dg_uF_ne e_1186 (fun z => absurd z.2 (by decide))).trans ((m_1179.1 0 5 _ sM_0 (by decide)).trans (m_2.1 0 5 _ sM_0 (by decide)))))).trans f_se) (by omega) sl (((dg_uf_F e_1202 0 2).trans ((dg_uF_ne e_1188 (fun z => absurd z.2 (by decide))).trans ((dg_uF_ne e_1186 (fun z => absurd z.2 (by decide))).trans ((m_1179.1 0 2 _ sM_0 (by decide)).trans (m_2.1 0 2 _ sM_0 (by decide)))))).trans f_sl) (by omega) (by omega) (TKM.keep (TKM.keep (TKM.keep (TKM.keep (TKM.keep TK m_2 (by decide) (by decide) (by decide) (by decide) (by decide) (by decide) (by decide) (by decide)) m_1179 (by decide) (by decide) (by decide) (by decide) (by decide) (by decide) (by decide) (by decide)) (dg_sm.uF (WF := [(0, 42)]) (WA := []) dg_sm.rf e_1186 sM_0 (by decide)) (by decide) (by decide) (by decide) (by decide) (by decide) (by decide) (by decide) (by decide)) (dg_sm.uF (WF := [(0, 43)]) (WA := []) dg_sm.rf e_1188 sM_0 (by decide)) (by decide) (by decide) (by decide) (by decide) (by decide) (by decide) (by decide) (by decide)) (dg_sm.uf (WF := []) (WA := [23]) dg_sm.rf e_1202 sM_23 (by decide)) (by decide) (by decide) (by decide) (by decide) (by decide) (by decide) (by decide) (by decide)).1 I_1202 H.size) (cwV 0 hts (bw_V wB_318 wB_319 wB_320 wB_297 wB_317) rfl rfl rfl (by decide +kernel) ⟨Nat.le_of_ble_eq_true rfl, Nat.le_of_ble_eq_true rfl⟩) (dg_preV sM_0 rfl K ST hP hS hA1 hA) rfl rfl hl.1 rfl (lv_room (Nat.le_of_ble_eq_true rfl)) dX12_goesOn_614 ⟨Nat.le_of_ble_eq_true rfl, Nat.le_of_ble_eq_true rfl⟩) (fun S_1206 hw_1206 H locs hP hS => ?_)
                          obtain ⟨I_1206, m_1206, w_1206_0, w_1206_1, -⟩ := hw_1206
                          have M_1206 := dg_sm.tr M_1202 m_1206 (by decide) (by decide)
                          obtain ⟨y_1207, y_1208, y_1209, f_y_1207, f_y_1208, f_y_1209, w_1206_0⟩ := w_1206_0
                          have w_1206_0 : (se).toInt ≤ (y_1208).toInt ∧ (y_1208).toInt ≤ (y_1209).toInt ∧ (y_1209).toInt ≤ (sl).toInt ∧ ((y_1207).toInt ≠ 0 → (y_1208).toInt + 1 ≤ (y_1209).toInt) := w_1206_0
                          obtain ⟨w_1206_0_0, w_1206_0_1, w_1206_0_2, w_1206_0_3⟩ := w_1206_0
                          have lxh_w_1206_0_3 : m_hid ((y_1208).toInt ≤ (y_1209).toInt ∧ (y_1209).toInt ≤ (sl).toInt ∧ ((y_1207).toInt ≠ 0 → (y_1208).toInt + 1 ≤ (y_1209).toInt)) := m_hid.mk ⟨w_1206_0_1, w_1206_0_2, w_1206_0_3⟩
                          have b_y_1207 : 0 ≤ (y_1207).toInt ∧ (y_1207).toInt ≤ 3 := dg_I.intb (lo := 0) (hi := 3) I_1206 sM_0 (by decide +kernel) f_y_1207
                          have b_y_1208 : 0 ≤ (y_1208).toInt ∧ (y_1208).toInt ≤ 1600 := dg_I.intb (lo := 0) (hi := 1600) I_1206 sM_0 (by decide +kernel) f_y_1208
                          have b_y_1209 : 0 ≤ (y_1209).toInt ∧ (y_1209).toInt ≤ 1600 := dg_I.intb (lo := 0) (hi := 1600) I_1206 sM_0 (by decide +kernel) f_y_1209
                          replace w_1206_1 : TNX tb tn se S_1206 := w_1206_1
                          obtain ⟨TK_1206, nx_1206, -⟩ := TKM.nx (TKM.keep (TKM.keep (TKM.keep (TKM.keep (TKM.keep TK m_2 (by decide) (by decide) (by decide) (by decide) (by decide) (by decide) (by decide) (by decide)) m_1179 (by decide) (by decide) (by decide) (by decide) (by decide) (by decide) (by decide) (by decide)) (dg_sm.uF (WF := [(0, 42)]) (WA := []) dg_sm.rf e_1186 sM_0 (by decide)) (by decide) (by decide) (by decide) (by decide) (by decide) (by decide) (by decide) (by decide)) (dg_sm.uF (WF := [(0, 43)]) (WA := []) dg_sm.rf e_1188 sM_0 (by decide)) (by decide) (by decide) (by decide) (by decide) (by decide) (by decide) (by decide) (by decide)) (dg_sm.uf (WF := []) (WA := [23]) dg_sm.rf e_1202 sM_23 (by decide)) (by decide) (by decide) (by decide) (by decide) (by decide) (by decide) (by decide) (by decide)) (((dg_uf_F e_1202 0 4).trans ((dg_uF_ne e_1188 (fun z => absurd z.2 (by decide))).trans ((dg_uF_ne e_1186 (fun z => absurd z.2 (by decide))).trans ((m_1179.1 0 4 _ sM_0 (by decide)).trans (m_2.1 0 4 _ sM_0 (by decide)))))).trans f_sa) (((dg_uf_F e_1202 0 5).trans ((dg_uF_ne e_1188 (fun z => absurd z.2 (by decide))).trans ((dg_uF_ne e_1186 (fun z => absurd z.2 (by decide))).trans ((m_1179.1 0 5 _ sM_0 (by decide)).trans (m_2.1 0 5 _ sM_0 (by decide)))))).trans f_se) w_1206_1 m_1206 (by decide) (by decide) f_y_1208
                          replace nx_1206 := nx_1206 (fun q9 => absurd ((TKM.zero (TKM.keep (TKM.keep (TKM.keep (TKM.keep (TKM.keep TK m_2 (by decide) (by decide) (by decide) (by decide) (by decide) (by decide) (by decide) (by decide)) m_1179 (by decide) (by decide) (by decide) (by decide) (by decide) (by decide) (by decide) (by decide)) (dg_sm.uF (WF := [(0, 42)]) (WA := []) dg_sm.rf e_1186 sM_0 (by decide)) (by decide) (by decide) (by decide) (by decide) (by decide) (by decide) (by decide) (by decide)) (dg_sm.uF (WF := [(0, 43)]) (WA := []) dg_sm.rf e_1188 sM_0 (by decide)) (by decide) (by decide) (by decide) (by decide) (by decide) (by decide) (by decide) (by decide)) (dg_sm.uf (WF := []) (WA := [23]) dg_sm.rf e_1202 sM_23 (by decide)) (by decide) (by decide) (by decide) (by decide) (by decide) (by decide) (by decide) (by decide)) (((dg_uf_F e_1202 0 3).trans ((dg_uF_ne e_1188 (fun z => absurd z.2 (by decide))).trans ((dg_uF_ne e_1186 (fun z => absurd z.2 (by decide))).trans ((m_1179.1 0 3 _ sM_0 (by decide)).trans (m_2.1 0 3 _ sM_0 (by decide)))))).trans f_sg) (((dg_uf_F e_1202 0 4).trans ((dg_uF_ne e_1188 (fun z => absurd z.2 (by decide))).trans ((dg_uF_ne e_1186 (fun z => absurd z.2 (by decide))).trans ((m_1179.1 0 4 _ sM_0 (by decide)).trans (m_2.1 0 4 _ sM_0 (by decide)))))).trans f_sa)).mpr q9) (by omega))
                          refine lv_iconst (v := 1) hx hb dX12_goesOn_617 (by decide +kernel) ?_
                          have hz_1210 : (1 : Int32).toInt = 1 := by decide +kernel
                          have hz_1211 : (1 : Int32).toInt = 1 := by decide +kernel
                          have hz_1212 : (1 : Int32).toInt = 1 := by decide +kernel
                          have hz_1213 : (1 : Int32).toInt = 1 := by decide +kernel
                          have hz_1214 : (1 : Int32).toInt = 1 := by decide +kernel
                          refine W.widen (k := 0) (n := 0) (Nat.le_of_ble_eq_true rfl) (Nat.le_of_ble_eq_true rfl) ?_
                          rw [hQ9]
                          exact dg_iret hx hb hr hlocks (by decide +kernel) hP hS ⟨I_1206, M_1206, (by decide +kernel), ⟨y_1207, y_1208, y_1209, y_3, y_1181, x_1185, y_1182, oo, f_y_1207, f_y_1208, f_y_1209, (((m_1206.1 0 8 _ sM_0 (by decide)).trans ((dg_uf_F e_1202 0 8).trans ((dg_uF_ne e_1188 (fun z => absurd z.2 (by decide))).trans ((dg_uF_ne e_1186 (fun z => absurd z.2 (by decide))).trans (m_1179.1 0 8 _ sM_0 (by decide)))))).trans f_y_3), (((m_1206.1 0 34 _ sM_0 (by decide)).trans ((dg_uf_F e_1202 0 34).trans ((dg_uF_ne e_1188 (fun z => absurd z.2 (by decide))).trans (dg_uF_ne e_1186 (fun z => absurd z.2 (by decide)))))).trans f_y_1181), (((m_1206.1 0 42 _ sM_0 (by decide)).trans ((dg_uf_F e_1202 0 42).trans (dg_uF_ne e_1188 (fun z => absurd z.2 (by decide))))).trans (dg_uF_at e_1186)), (((m_1206.1 0 45 _ sM_0 (by decide)).trans ((dg_uf_F e_1202 0 45).trans ((dg_uF_ne e_1188 (fun z => absurd z.2 (by decide))).trans (dg_uF_ne e_1186 (fun z => absurd z.2 (by decide)))))).trans f_y_1182), (((m_1206.1 0 46 _ sM_0 (by decide)).trans ((dg_uf_F e_1202 0 46).trans ((dg_uF_ne e_1188 (fun z => absurd z.2 (by decide))).trans ((dg_uF_ne e_1186 (fun z => absurd z.2 (by decide))).trans ((m_1179.1 0 46 _ sM_0 (by decide)).trans (m_2.1 0 46 _ sM_0 (by decide))))))).trans f_oo), ⟨lxh_w_1206_0_3.out, (by omega)⟩⟩, (fun k9 hk9 hk0 => POM.mk1 (P1M.keep P1_1202 m_1206 (by decide) (by decide) (by decide) (by decide) (by decide) (by decide) (by decide) (by decide) (by decide) (by decide) (by decide) (by decide) (by decide) (by decide) (by decide)) (((m_1206.1 0 46 _ sM_0 (by decide)).trans ((dg_uf_F e_1202 0 46).trans ((dg_uF_ne e_1188 (fun z => absurd z.2 (by decide))).trans ((dg_uF_ne e_1186 (fun z => absurd z.2 (by decide))).trans ((m_1179.1 0 46 _ sM_0 (by decide)).trans (m_2.1 0 46 _ sM_0 (by decide))))))).trans f_oo) (by omega)), (GOK.ok f_sa (((m_1206.1 0 8 _ sM_0 (by decide)).trans ((dg_uf_F e_1202 0 8).trans ((dg_uF_ne e_1188 (fun z => absurd z.2 (by decide))).trans ((dg_uF_ne e_1186 (fun z => absurd z.2 (by decide))).trans (m_1179.1 0 8 _ sM_0 (by decide)))))).trans f_y_3) f_y_1208 (((m_1206.1 0 46 _ sM_0 (by decide)).trans ((dg_uf_F e_1202 0 46).trans ((dg_uF_ne e_1188 (fun z => absurd z.2 (by decide))).trans ((dg_uF_ne e_1186 (fun z => absurd z.2 (by decide))).trans ((m_1179.1 0 46 _ sM_0 (by decide)).trans (m_2.1 0 46 _ sM_0 (by decide))))))).trans f_oo) (by omega) hM0 (TFM.keep TF_1202 m_1206 (by decide) (by decide) (by decide) (by decide) (by decide) (by decide) (by decide) (by decide)) (m_st_t.trans ((m_go_cls hnop.out (Or.inr ⟨by omega, (by have h9 := h422.out; have h8 := (w_9_1.out.mpr (Or.inr (Or.inl (by omega)))); omega), (hnao.out (w_9_1.out.mpr (Or.inr (Or.inl (by omega))))).1, (hnao.out (w_9_1.out.mpr (Or.inr (Or.inl (by omega))))).2, (by have h9 := qw_1176_1; rw [show (x_1110).toInt = 93 from by have h8 := h531.out.1 (by omega); omega] at h9; exact h9)⟩)).trans (by rw [hpR]; show (0, (pa, (if (x_7).toInt = 5 then 2 else pb), pc9, pn) :: pR, _ - _ - 1, _, _) = _; rw [if_pos (by omega)]))) (by omega) (by decide +kernel) (by first | decide +kernel | exact decide_eq_true (by omega))), TK_1206, (ZWM.keep (ZWM.keep (ZWM.keep (ZWM.keep w_1179_3 (dg_sm.uF (WF := [(0, 42)]) (WA := []) dg_sm.rf e_1186 sM_0 (by decide)) (by decide) (by decide) (by decide) (by decide)) (dg_sm.uF (WF := [(0, 43)]) (WA := []) dg_sm.rf e_1188 sM_0 (by decide)) (by decide) (by decide) (by decide) (by decide)) (dg_sm.uf (WF := []) (WA := [23]) dg_sm.rf e_1202 sM_23 (by decide)) (by decide) (by decide) (by decide) (by decide)) m_1206 (by decide) (by decide) (by decide) (by decide)), trivial⟩ dX12_goesOn_618
                      · have jc_1189 := dk_eqc (k := 4) (by decide +kernel) c_1189
                        refine lv_aload_n hx hb dX12_goesOn_585 rfl (lv_at hl 3 rfl) ?_
                        refine lv_aload_n hx hb dX12_goesOn_586 rfl (lv_at hl 3 rfl) ?_
                        refine dg_get (C := RX12) (T := TX12) (N := 77) hx hb hts (fun w h => bw_mem (wU_X12 w h)) hown K hP sM_0 rfl 40 (by decide) (hts _ (bw_mem wB_435)) (fun _ h9 => h9) (v := .ref (o + 25)) (show S_1188.1 0 40 = .ref (o + 25) from dg_I.rel (d := 25) I_1188 sM_0 (by decide +kernel)) dX12_goesOn_587 ?_
                        refine lv_iload_n hx hb dX12_goesOn_590 rfl (lv_at hl 2 rfl) ?_
                        have hin_1215 : vp_in x_5 20 := (dk_inv (by omega) (by omega))
                        refine dg_iald hx hb K hP sM_25 hin_1215 dX12_goesOn_591 (fun x_1216 ex_1216 => ?_)
                        have hp25_x_1216 : S_1179.2.1 25 (x_5 : Int32).toNatClampNeg = x_1216 := by rw [ex_1216, (((dg_uF_f e_1188 25).trans (dg_uF_f e_1186 25)))]
                        have hkd := hkdh.out
                        rw [hp25_x_1216] at hkd
                        refine lv_iconst (v := 0) hx hb dX12_goesOn_592 (by decide +kernel) ?_
                        refine dg_callv hS hA1 hA (va_runV (As := [.int x_1216, .int 0]) (rest := []) F (c_m_add l g D o S_1188 x_1216 (by omega) 0 y_1181 (((dg_uF_ne e_1188 (fun z => absurd z.2 (by decide))).trans (dg_uF_ne e_1186 (fun z => absurd z.2 (by decide)))).trans f_y_1181) (by omega) (ZWM.keep (ZWM.keep w_1179_3 (dg_sm.uF (WF := [(0, 42)]) (WA := []) dg_sm.rf e_1186 sM_0 (by decide)) (by decide) (by decide) (by decide) (by decide)) (dg_sm.uF (WF := [(0, 43)]) (WA := []) dg_sm.rf e_1188 sM_0 (by decide)) (by decide) (by decide) (by decide) (by decide)) (ZKM.keep (ZKM.keep (ZKM.keep (ZKM.keep ZK m_2 (by decide) (by decide)) m_1179 (by decide) (by decide)) (dg_sm.uF (WF := [(0, 42)]) (WA := []) dg_sm.rf e_1186 sM_0 (by decide)) (by decide) (by decide)) (dg_sm.uF (WF := [(0, 43)]) (WA := []) dg_sm.rf e_1188 sM_0 (by decide)) (by decide) (by decide)) I_1188 H.size) (cwV 2 hts (bw_V wB_412 wB_413 wB_414 wB_297 wB_411) rfl rfl rfl (by decide +kernel) ⟨Nat.le_of_ble_eq_true rfl, Nat.le_of_ble_eq_true rfl⟩) (dg_preV sM_0 rfl K ST hP hS hA1 hA) rfl rfl hl.1 rfl (lv_room (Nat.le_of_ble_eq_true rfl)) dX12_goesOn_593 ⟨Nat.le_of_ble_eq_true rfl, Nat.le_of_ble_eq_true rfl⟩) (fun S_1217 hw_1217 H locs hP hS => ?_)
                        obtain ⟨I_1217, m_1217, w_1217_0, w_1217_1, w_1217_2, -⟩ := hw_1217
                        have M_1217 := dg_sm.tr M_1188 m_1217 (by decide) (by decide)
                        have hz_1218 : (0 : Int32).toInt = 0 := by decide +kernel
                        obtain ⟨y_1219, f_y_1219, w_1217_0⟩ := w_1217_0
                        have w_1217_0 : (y_1219).toInt = (y_1181).toInt + 1 := w_1217_0
                        have b_y_1219 : 0 ≤ (y_1219).toInt ∧ (y_1219).toInt ≤ 1600 := dg_I.intb (lo := 0) (hi := 1600) I_1217 sM_0 (by decide +kernel) f_y_1219
                        replace w_1217_1 : ADM S_1188 S_1217 x_1216 := w_1217_1
                        have P1_1217 : P1M S_1217 := P1M.close4 w_1179_4 (((m_1179.1 0 42 _ sM_0 (by decide)).trans (m_2.1 0 42 _ sM_0 (by decide))).trans f_dp) f_x_1183 f_y_1182 w_1179_1 (by omega) (fx := x_5) (by omega) ((congrFun (m_1179.2 22 _ sM_22 (by decide)).1 _).trans ex_7.symm) (by omega) e_1186 (by omega) e_1188 (by omega) hp25_x_1216 m_1217 w_1217_1
                        refine lv_iload_n hx hb dX12_goesOn_596 rfl (lv_at hl 1 rfl) ?_
                        refine lv_iconst (v := 5) hx hb dX12_goesOn_597 (by decide +kernel) ?_
                        refine lv_icmp_ne (tgt := 613) hx hb dX12_goesOn_598 (by decide) (fun _ => ?_) (fun c => absurd c (fun z => absurd (dk_eqc (k := 5) (by decide +kernel) z) (by omega)))
                        refine lv_aload_n hx hb dX12_goesOn_613 rfl (lv_at hl 3 rfl) ?_
                        refine dg_callv hS hA1 hA (va_runV (As := []) (rest := []) F (c_m_ahead l g D o S_1217 tb tn se (((m_1217.1 0 5 _ sM_0 (by decide)).trans ((dg_uF_ne e_1188 (fun z => absurd z.2 (by decide))).trans ((dg_uF_ne e_1186 (fun z => absurd z.2 (by decide))).trans ((m_1179.1 0 5 _ sM_0 (by decide)).trans (m_2.1 0 5 _ sM_0 (by decide)))))).trans f_se) (by omega) sl (((m_1217.1 0 2 _ sM_0 (by decide)).trans ((dg_uF_ne e_1188 (fun z => absurd z.2 (by decide))).trans ((dg_uF_ne e_1186 (fun z => absurd z.2 (by decide))).trans ((m_1179.1 0 2 _ sM_0 (by decide)).trans (m_2.1 0 2 _ sM_0 (by decide)))))).trans f_sl) (by omega) (by omega) (TKM.keep (TKM.keep (TKM.keep (TKM.keep (TKM.keep TK m_2 (by decide) (by decide) (by decide) (by decide) (by decide) (by decide) (by decide) (by decide)) m_1179 (by decide) (by decide) (by decide) (by decide) (by decide) (by decide) (by decide) (by decide)) (dg_sm.uF (WF := [(0, 42)]) (WA := []) dg_sm.rf e_1186 sM_0 (by decide)) (by decide) (by decide) (by decide) (by decide) (by decide) (by decide) (by decide) (by decide)) (dg_sm.uF (WF := [(0, 43)]) (WA := []) dg_sm.rf e_1188 sM_0 (by decide)) (by decide) (by decide) (by decide) (by decide) (by decide) (by decide) (by decide) (by decide)) m_1217 (by decide) (by decide) (by decide) (by decide) (by decide) (by decide) (by decide) (by decide)).1 I_1217 H.size) (cwV 0 hts (bw_V wB_318 wB_319 wB_320 wB_297 wB_317) rfl rfl rfl (by decide +kernel) ⟨Nat.le_of_ble_eq_true rfl, Nat.le_of_ble_eq_true rfl⟩) (dg_preV sM_0 rfl K ST hP hS hA1 hA) rfl rfl hl.1 rfl (lv_room (Nat.le_of_ble_eq_true rfl)) dX12_goesOn_614 ⟨Nat.le_of_ble_eq_true rfl, Nat.le_of_ble_eq_true rfl⟩) (fun S_1220 hw_1220 H locs hP hS => ?_)
                        obtain ⟨I_1220, m_1220, w_1220_0, w_1220_1, -⟩ := hw_1220
                        have M_1220 := dg_sm.tr M_1217 m_1220 (by decide) (by decide)
                        obtain ⟨y_1221, y_1222, y_1223, f_y_1221, f_y_1222, f_y_1223, w_1220_0⟩ := w_1220_0
                        have w_1220_0 : (se).toInt ≤ (y_1222).toInt ∧ (y_1222).toInt ≤ (y_1223).toInt ∧ (y_1223).toInt ≤ (sl).toInt ∧ ((y_1221).toInt ≠ 0 → (y_1222).toInt + 1 ≤ (y_1223).toInt) := w_1220_0
                        obtain ⟨w_1220_0_0, w_1220_0_1, w_1220_0_2, w_1220_0_3⟩ := w_1220_0
                        have lxh_w_1220_0_3 : m_hid ((y_1222).toInt ≤ (y_1223).toInt ∧ (y_1223).toInt ≤ (sl).toInt ∧ ((y_1221).toInt ≠ 0 → (y_1222).toInt + 1 ≤ (y_1223).toInt)) := m_hid.mk ⟨w_1220_0_1, w_1220_0_2, w_1220_0_3⟩
                        have b_y_1221 : 0 ≤ (y_1221).toInt ∧ (y_1221).toInt ≤ 3 := dg_I.intb (lo := 0) (hi := 3) I_1220 sM_0 (by decide +kernel) f_y_1221
                        have b_y_1222 : 0 ≤ (y_1222).toInt ∧ (y_1222).toInt ≤ 1600 := dg_I.intb (lo := 0) (hi := 1600) I_1220 sM_0 (by decide +kernel) f_y_1222
                        have b_y_1223 : 0 ≤ (y_1223).toInt ∧ (y_1223).toInt ≤ 1600 := dg_I.intb (lo := 0) (hi := 1600) I_1220 sM_0 (by decide +kernel) f_y_1223
                        replace w_1220_1 : TNX tb tn se S_1220 := w_1220_1
                        obtain ⟨TK_1220, nx_1220, -⟩ := TKM.nx (TKM.keep (TKM.keep (TKM.keep (TKM.keep (TKM.keep TK m_2 (by decide) (by decide) (by decide) (by decide) (by decide) (by decide) (by decide) (by decide)) m_1179 (by decide) (by decide) (by decide) (by decide) (by decide) (by decide) (by decide) (by decide)) (dg_sm.uF (WF := [(0, 42)]) (WA := []) dg_sm.rf e_1186 sM_0 (by decide)) (by decide) (by decide) (by decide) (by decide) (by decide) (by decide) (by decide) (by decide)) (dg_sm.uF (WF := [(0, 43)]) (WA := []) dg_sm.rf e_1188 sM_0 (by decide)) (by decide) (by decide) (by decide) (by decide) (by decide) (by decide) (by decide) (by decide)) m_1217 (by decide) (by decide) (by decide) (by decide) (by decide) (by decide) (by decide) (by decide)) (((m_1217.1 0 4 _ sM_0 (by decide)).trans ((dg_uF_ne e_1188 (fun z => absurd z.2 (by decide))).trans ((dg_uF_ne e_1186 (fun z => absurd z.2 (by decide))).trans ((m_1179.1 0 4 _ sM_0 (by decide)).trans (m_2.1 0 4 _ sM_0 (by decide)))))).trans f_sa) (((m_1217.1 0 5 _ sM_0 (by decide)).trans ((dg_uF_ne e_1188 (fun z => absurd z.2 (by decide))).trans ((dg_uF_ne e_1186 (fun z => absurd z.2 (by decide))).trans ((m_1179.1 0 5 _ sM_0 (by decide)).trans (m_2.1 0 5 _ sM_0 (by decide)))))).trans f_se) w_1220_1 m_1220 (by decide) (by decide) f_y_1222
                        replace nx_1220 := nx_1220 (fun q9 => absurd ((TKM.zero (TKM.keep (TKM.keep (TKM.keep (TKM.keep (TKM.keep TK m_2 (by decide) (by decide) (by decide) (by decide) (by decide) (by decide) (by decide) (by decide)) m_1179 (by decide) (by decide) (by decide) (by decide) (by decide) (by decide) (by decide) (by decide)) (dg_sm.uF (WF := [(0, 42)]) (WA := []) dg_sm.rf e_1186 sM_0 (by decide)) (by decide) (by decide) (by decide) (by decide) (by decide) (by decide) (by decide) (by decide)) (dg_sm.uF (WF := [(0, 43)]) (WA := []) dg_sm.rf e_1188 sM_0 (by decide)) (by decide) (by decide) (by decide) (by decide) (by decide) (by decide) (by decide) (by decide)) m_1217 (by decide) (by decide) (by decide) (by decide) (by decide) (by decide) (by decide) (by decide)) (((m_1217.1 0 3 _ sM_0 (by decide)).trans ((dg_uF_ne e_1188 (fun z => absurd z.2 (by decide))).trans ((dg_uF_ne e_1186 (fun z => absurd z.2 (by decide))).trans ((m_1179.1 0 3 _ sM_0 (by decide)).trans (m_2.1 0 3 _ sM_0 (by decide)))))).trans f_sg) (((m_1217.1 0 4 _ sM_0 (by decide)).trans ((dg_uF_ne e_1188 (fun z => absurd z.2 (by decide))).trans ((dg_uF_ne e_1186 (fun z => absurd z.2 (by decide))).trans ((m_1179.1 0 4 _ sM_0 (by decide)).trans (m_2.1 0 4 _ sM_0 (by decide)))))).trans f_sa)).mpr q9) (by omega))
                        refine lv_iconst (v := 1) hx hb dX12_goesOn_617 (by decide +kernel) ?_
                        have hz_1224 : (1 : Int32).toInt = 1 := by decide +kernel
                        have hz_1225 : (1 : Int32).toInt = 1 := by decide +kernel
                        have hz_1226 : (1 : Int32).toInt = 1 := by decide +kernel
                        have hz_1227 : (1 : Int32).toInt = 1 := by decide +kernel
                        have hz_1228 : (1 : Int32).toInt = 1 := by decide +kernel
                        refine W.widen (k := 0) (n := 0) (Nat.le_of_ble_eq_true rfl) (Nat.le_of_ble_eq_true rfl) ?_
                        rw [hQ9]
                        exact dg_iret hx hb hr hlocks (by decide +kernel) hP hS ⟨I_1220, M_1220, (by decide +kernel), ⟨y_1221, y_1222, y_1223, y_3, y_1219, x_1185, y_1182, oo, f_y_1221, f_y_1222, f_y_1223, (((m_1220.1 0 8 _ sM_0 (by decide)).trans ((m_1217.1 0 8 _ sM_0 (by decide)).trans ((dg_uF_ne e_1188 (fun z => absurd z.2 (by decide))).trans ((dg_uF_ne e_1186 (fun z => absurd z.2 (by decide))).trans (m_1179.1 0 8 _ sM_0 (by decide)))))).trans f_y_3), ((m_1220.1 0 34 _ sM_0 (by decide)).trans f_y_1219), (((m_1220.1 0 42 _ sM_0 (by decide)).trans ((m_1217.1 0 42 _ sM_0 (by decide)).trans (dg_uF_ne e_1188 (fun z => absurd z.2 (by decide))))).trans (dg_uF_at e_1186)), (((m_1220.1 0 45 _ sM_0 (by decide)).trans ((m_1217.1 0 45 _ sM_0 (by decide)).trans ((dg_uF_ne e_1188 (fun z => absurd z.2 (by decide))).trans (dg_uF_ne e_1186 (fun z => absurd z.2 (by decide)))))).trans f_y_1182), (((m_1220.1 0 46 _ sM_0 (by decide)).trans ((m_1217.1 0 46 _ sM_0 (by decide)).trans ((dg_uF_ne e_1188 (fun z => absurd z.2 (by decide))).trans ((dg_uF_ne e_1186 (fun z => absurd z.2 (by decide))).trans ((m_1179.1 0 46 _ sM_0 (by decide)).trans (m_2.1 0 46 _ sM_0 (by decide))))))).trans f_oo), ⟨lxh_w_1220_0_3.out, (by omega)⟩⟩, (fun k9 hk9 hk0 => POM.mk1 (P1M.keep P1_1217 m_1220 (by decide) (by decide) (by decide) (by decide) (by decide) (by decide) (by decide) (by decide) (by decide) (by decide) (by decide) (by decide) (by decide) (by decide) (by decide)) (((m_1220.1 0 46 _ sM_0 (by decide)).trans ((m_1217.1 0 46 _ sM_0 (by decide)).trans ((dg_uF_ne e_1188 (fun z => absurd z.2 (by decide))).trans ((dg_uF_ne e_1186 (fun z => absurd z.2 (by decide))).trans ((m_1179.1 0 46 _ sM_0 (by decide)).trans (m_2.1 0 46 _ sM_0 (by decide))))))).trans f_oo) (by omega)), (GOK.ok f_sa (((m_1220.1 0 8 _ sM_0 (by decide)).trans ((m_1217.1 0 8 _ sM_0 (by decide)).trans ((dg_uF_ne e_1188 (fun z => absurd z.2 (by decide))).trans ((dg_uF_ne e_1186 (fun z => absurd z.2 (by decide))).trans (m_1179.1 0 8 _ sM_0 (by decide)))))).trans f_y_3) f_y_1222 (((m_1220.1 0 46 _ sM_0 (by decide)).trans ((m_1217.1 0 46 _ sM_0 (by decide)).trans ((dg_uF_ne e_1188 (fun z => absurd z.2 (by decide))).trans ((dg_uF_ne e_1186 (fun z => absurd z.2 (by decide))).trans ((m_1179.1 0 46 _ sM_0 (by decide)).trans (m_2.1 0 46 _ sM_0 (by decide))))))).trans f_oo) (by omega) hM0 (TFM.keep (TFM.keep TF_1188 m_1217 (by decide) (by decide) (by decide) (by decide) (by decide) (by decide) (by decide) (by decide)) m_1220 (by decide) (by decide) (by decide) (by decide) (by decide) (by decide) (by decide) (by decide)) (m_st_t.trans ((m_go_cls hnop.out (Or.inl ⟨by omega, (by have h9 := qw_1176_1; rw [show (x_1110).toInt = 41 from by have h8 := h531.out.2 (by omega); omega] at h9; exact h9)⟩)).trans (by rw [hpR]; show (0, (pa, (if (x_7).toInt = 5 then 2 else pb), pc9, pn) :: pR, _ - _ - 1, _, _) = _; rw [if_neg (by omega)]))) (by omega) (by decide +kernel) (by first | decide +kernel | exact decide_eq_true (by omega))), TK_1220, (ZWM.keep w_1217_2 m_1220 (by decide) (by decide) (by decide) (by decide)), trivial⟩ dX12_goesOn_618
                    · have jc_1177 := dk_eqc (k := 0) (by decide +kernel) c_1177
                      have qw_1176_1 : g_s (T_kd tb tn) (T_vl tb tn) (x_1110).toInt (t_ix tb tn (sa : Int32).toNatClampNeg) = false := g_iff_f (TKM.iss (TKM.keep TK m_2 (by decide) (by decide) (by decide) (by decide) (by decide) (by decide) (by decide) (by decide)) ((m_2.1 0 3 _ sM_0 (by decide)).trans f_sg) ((m_2.1 0 4 _ sM_0 (by decide)).trans f_sa) ((m_2.1 0 6 _ sM_0 (by decide)).trans f_va) hk5.out (c := (x_1110).toInt) (by have h9 := w_1176_1; exact h9)) (by omega)
                      clear w_1176_1
                      refine lv_aload_n hx hb dX12_goesOn_537 rfl (lv_at hl 3 rfl) ?_
                      refine lv_iconst (v := 1) hx hb dX12_goesOn_538 (by decide +kernel) ?_
                      refine lv_aload_n hx hb dX12_goesOn_539 rfl (lv_at hl 3 rfl) ?_
                      refine dg_get (C := RX12) (T := TX12) (N := 77) hx hb hts (fun w h => bw_mem (wU_X12 w h)) hown K hP sM_0 rfl 4 (by decide) (hts _ (bw_mem wB_291)) (fun _ h9 => h9) (v := .int sa) ((m_2.1 0 4 _ sM_0 (by decide)).trans f_sa) dX12_goesOn_540 ?_
                      have hz_1229 : (1 : Int32).toInt = 1 := by decide +kernel
                      refine dg_callv hS hA1 hA (va_runV (As := [.int 1, .int sa]) (rest := []) F (c_m_blame l g D o S_2 1 (by decide +kernel) sa y_3 f_y_3 (by omega) I_2 H.size) (cwV 2 hts (bw_V wB_306 wB_307 wB_308 wB_297 wB_305) rfl rfl rfl (by decide +kernel) ⟨Nat.le_of_ble_eq_true rfl, Nat.le_of_ble_eq_true rfl⟩) (dg_preV sM_0 rfl K ST hP hS hA1 hA) rfl rfl hl.1 rfl (lv_room (Nat.le_of_ble_eq_true rfl)) dX12_goesOn_543 ⟨Nat.le_of_ble_eq_true rfl, Nat.le_of_ble_eq_true rfl⟩) (fun S_1230 hw_1230 H locs hP hS => ?_)
                      obtain ⟨I_1230, m_1230, w_1230_0, -⟩ := hw_1230
                      have M_1230 := dg_sm.tr M_2 m_1230 (by decide) (by decide)
                      have hz_1231 : (1 : Int32).toInt = 1 := by decide +kernel
                      obtain ⟨y_1232, f_y_1232, w_1230_0⟩ := w_1230_0
                      have w_1230_0 : ((y_3).toInt ≠ 0 → (y_1232).toInt = (y_3).toInt) ∧ ((y_3).toInt = 0 → (y_1232).toInt = ((1 : Int32)).toInt) := w_1230_0
                      obtain ⟨w_1230_0_0, w_1230_0_1⟩ := w_1230_0
                      clear w_1230_0_0
                      have w_1230_0_1r := w_1230_0_1 (by omega)
                      clear w_1230_0_1
                      have b_y_1232 : 0 ≤ (y_1232).toInt ∧ (y_1232).toInt ≤ 6 := dg_I.intb (lo := 0) (hi := 6) I_1230 sM_0 (by decide +kernel) f_y_1232
                      have hbl_y_1232 : 1 ≤ (y_1232).toInt := by omega
                      refine lv_aload_n hx hb dX12_goesOn_546 rfl (lv_at hl 3 rfl) ?_
                      refine dg_get (C := RX12) (T := TX12) (N := 77) hx hb hts (fun w h => bw_mem (wU_X12 w h)) hown K hP sM_0 rfl 8 (by decide) (hts _ (bw_mem wB_303)) (fun _ h9 => h9) (v := .int y_1232) f_y_1232 dX12_goesOn_547 ?_
                      refine lv_if_le (tgt := 555) hx hb dX12_goesOn_550 (by decide) (fun c => absurd c (fun z => absurd (dk_lec (k := 0) (by decide +kernel) z) (by omega))) (fun _ => ?_)
                      refine lv_iconst (v := 0) hx hb dX12_goesOn_553 (by decide +kernel) ?_
                      have hz_1233 : (0 : Int32).toInt = 0 := by decide +kernel
                      have hz_1234 : (0 : Int32).toInt = 0 := by decide +kernel
                      have hz_1235 : (0 : Int32).toInt = 0 := by decide +kernel
                      have hz_1236 : (0 : Int32).toInt = 0 := by decide +kernel
                      have hz_1237 : (0 : Int32).toInt = 0 := by decide +kernel
                      refine W.widen (k := 0) (n := 0) (Nat.le_of_ble_eq_true rfl) (Nat.le_of_ble_eq_true rfl) ?_
                      rw [hQ9]
                      exact dg_iret hx hb hr hlocks (by decide +kernel) hP hS ⟨I_1230, M_1230, (by decide +kernel), ⟨sg, sa, se, y_1232, cd, dp, om, oo, (((m_1230.1 0 3 _ sM_0 (by decide)).trans (m_2.1 0 3 _ sM_0 (by decide))).trans f_sg), (((m_1230.1 0 4 _ sM_0 (by decide)).trans (m_2.1 0 4 _ sM_0 (by decide))).trans f_sa), (((m_1230.1 0 5 _ sM_0 (by decide)).trans (m_2.1 0 5 _ sM_0 (by decide))).trans f_se), f_y_1232, (((m_1230.1 0 34 _ sM_0 (by decide)).trans (m_2.1 0 34 _ sM_0 (by decide))).trans f_cd), (((m_1230.1 0 42 _ sM_0 (by decide)).trans (m_2.1 0 42 _ sM_0 (by decide))).trans f_dp), (((m_1230.1 0 45 _ sM_0 (by decide)).trans (m_2.1 0 45 _ sM_0 (by decide))).trans f_om), (((m_1230.1 0 46 _ sM_0 (by decide)).trans (m_2.1 0 46 _ sM_0 (by decide))).trans f_oo), ⟨lxh_hlx_2.out, (by omega)⟩⟩, (fun k9 hk9 hk0 => by have q9 := (f_y_1232).symm.trans hk9; cases q9; omega), (GOK.no f_sa f_fk f_y_1232 (by omega) (fun h0 => Or.inl (by rw [hM0]; exact m_st_t.trans (m_go_bad hnop.out (Or.inr ⟨by omega, (fun q8 q9 => hnco.out (by have h9 := m_tst_iff.mp q8; have h8 := w_9_1.out.mpr h9; omega) q9), (fun q8 => hnao.out (by have h9 := m_tst_iff.mp q8; have h8 := w_9_1.out.mpr h9; omega)), (fun q9 => by exfalso; omega), (fun q9 => by have h9 := qw_1176_1; rw [show (x_1110).toInt = 93 from by have h8 := h531.out.1 (by omega); omega] at h9; exact h9), (fun _ _ q9 => by have h9 := qw_1176_1; rw [show (x_1110).toInt = 41 from by have h8 := h531.out.2 (by omega); omega] at h9; exact h9)⟩))))), (TKM.keep (TKM.keep TK m_2 (by decide) (by decide) (by decide) (by decide) (by decide) (by decide) (by decide) (by decide)) m_1230 (by decide) (by decide) (by decide) (by decide) (by decide) (by decide) (by decide) (by decide)), (ZWM.keep (ZWM.keep ZW m_2 (by decide) (by decide) (by decide) (by decide)) m_1230 (by decide) (by decide) (by decide) (by decide)), trivial⟩ dX12_goesOn_554
                  refine lv_icmp_ne (tgt := 529) hx hb dX12_goesOn_521 (by decide) (fun c_1238 => ?_) (fun c_1238 => ?_)
                  · have jc_1238 := dk_neqc (k := 5) (by decide +kernel) c_1238
                    have jtc_1238 : (x_7).toInt ≤ 4 := by omega
                    clear jc_1238
                    refine lv_bipush (v := 41) hx hb dX12_goesOn_529 (by decide +kernel) ?_
                    have hz_1239 : (41 : Int32).toInt = 41 := by decide +kernel
                    have hz_1240 : (41 : Int32).toInt = 41 := by decide +kernel
                    have hz_1241 : (41 : Int32).toInt = 41 := by decide +kernel
                    have hz_1242 : (41 : Int32).toInt = 41 := by decide +kernel
                    exact J_1174 41 (by decide +kernel) (by omega) (m_hid.mk ⟨fun q9 => by omega, fun q9 => by omega⟩) _ _ hP hS _ (lv_sub hl [0, 1, 2, 3] rfl)
                  · have jc_1238 := dk_eqc (k := 5) (by decide +kernel) c_1238
                    refine lv_bipush (v := 93) hx hb dX12_goesOn_524 (by decide +kernel) ?_
                    refine lv_goto (tgt := 531) hx hb dX12_goesOn_526 (by decide) ?_
                    have hz_1243 : (93 : Int32).toInt = 93 := by decide +kernel
                    have hz_1244 : (93 : Int32).toInt = 93 := by decide +kernel
                    have hz_1245 : (93 : Int32).toInt = 93 := by decide +kernel
                    have hz_1246 : (93 : Int32).toInt = 93 := by decide +kernel
                    exact J_1174 93 (by decide +kernel) (by omega) (m_hid.mk ⟨fun q9 => by omega, fun q9 => by omega⟩) _ _ hP hS _ (lv_sub hl [0, 1, 2, 3] rfl)
                · have jc_1108 := dk_eqc (k := 6) (by decide +kernel) c_1108
                  exact J_1037 ()  (by omega) _ _ hP hS _ (lv_sub hl [0, 1, 2, 3] rfl)
            · have jc_900 := dk_ngec (k := 2) (by decide +kernel) c_900
              refine lv_aload_n hx hb dX12_goesOn_427 rfl (lv_at hl 3 rfl) ?_
              refine dg_get (C := RX12) (T := TX12) (N := 77) hx hb hts (fun w h => bw_mem (wU_X12 w h)) hown K hP sM_0 rfl 8 (by decide) (hts _ (bw_mem wB_303)) (fun _ h9 => h9) (v := .int y_3) f_y_3 dX12_goesOn_428 ?_
              refine lv_if_ne (tgt := 439) hx hb dX12_goesOn_431 (by decide) (fun c => absurd (dk_eqp (k := 0) (by decide +kernel) (by omega)) c) (fun _ => ?_)
              refine lv_aload_n hx hb dX12_goesOn_434 rfl (lv_at hl 3 rfl) ?_
              refine lv_iconst (v := 1) hx hb dX12_goesOn_435 (by decide +kernel) ?_
              have hz_1247 : (1 : Int32).toInt = 1 := by decide +kernel
              refine dg_callv hS hA1 hA (va_runV (As := [.int 1]) (rest := []) F (c_m_joins l g D o S_2 1 (by decide +kernel) cd ((m_2.1 0 34 _ sM_0 (by decide)).trans f_cd) (by omega) om ((m_2.1 0 45 _ sM_0 (by decide)).trans f_om) (by omega) (by omega) (ZWM.keep ZW m_2 (by decide) (by decide) (by decide) (by decide)) (ZKM.keep ZK m_2 (by decide) (by decide)) (P1M.keep P1 m_2 (by decide) (by decide) (by decide) (by decide) (by decide) (by decide) (by decide) (by decide) (by decide) (by decide) (by decide) (by decide) (by decide) (by decide) (by decide)) I_2 H.size) (cwV 1 hts (bw_V wB_437 wB_438 wB_439 wB_297 wB_436) rfl rfl rfl (by decide +kernel) ⟨Nat.le_of_ble_eq_true rfl, Nat.le_of_ble_eq_true rfl⟩) (dg_preV sM_0 rfl K ST hP hS hA1 hA) rfl rfl hl.1 rfl (lv_room (Nat.le_of_ble_eq_true rfl)) dX12_goesOn_436 ⟨Nat.le_of_ble_eq_true rfl, Nat.le_of_ble_eq_true rfl⟩) (fun S_1248 hw_1248 H locs hP hS => ?_)
              obtain ⟨I_1248, m_1248, w_1248_0, w_1248_1, w_1248_2, w_1248_3, w_1248_4, -⟩ := hw_1248
              have M_1248 := dg_sm.tr M_2 m_1248 (by decide) (by decide)
              have hz_1249 : (1 : Int32).toInt = 1 := by decide +kernel
              obtain ⟨y_1250, y_1251, f_y_1250, f_y_1251, w_1248_0⟩ := w_1248_0
              have w_1248_0 : (y_1250).toInt + (y_1251).toInt = (cd).toInt + (om).toInt := w_1248_0
              have b_y_1250 : 0 ≤ (y_1250).toInt ∧ (y_1250).toInt ≤ 1600 := dg_I.intb (lo := 0) (hi := 1600) I_1248 sM_0 (by decide +kernel) f_y_1250
              have b_y_1251 : 0 ≤ (y_1251).toInt ∧ (y_1251).toInt ≤ 500 := dg_I.intb (lo := 0) (hi := 500) I_1248 sM_0 (by decide +kernel) f_y_1251
              replace w_1248_1 : TOPM S_1248 (1 : Int32) := w_1248_1
              obtain ⟨x_1252, f_x_1252, b_x_1252⟩ := dg_I.int (i := 0) (k := 43) (lo := (-2147483648)) (hi := 2147483647) I_1248 sM_0 (by decide +kernel)
              replace w_1248_2 : JNM S_2 S_1248 (1 : Int32) := w_1248_2
              have TF_1248 : TFM (x_7).toInt (x_11).toInt bg0 0 R0 ((on).toNatClampNeg - nt0) S_1248 := (TFM.join TF0 (P1M.keep P1 m_2 (by decide) (by decide) (by decide) (by decide) (by decide) (by decide) (by decide) (by decide) (by decide) (by decide) (by decide) (by decide) (by decide) (by decide) (by decide)) ((m_2.1 0 42 _ sM_0 (by decide)).trans f_dp) ((m_2.1 0 43 _ sM_0 (by decide)).trans f_on) ((m_2.1 0 45 _ sM_0 (by decide)).trans f_om) w_1248_2 w_1248_1 m_1248 (by decide) (by decide) (by decide) (by decide) (by decide) (by decide)).2 (by decide +kernel) (by decide +kernel)
              refine lv_iconst (v := 0) hx hb dX12_goesOn_439 (by decide +kernel) ?_
              have hz_1253 : (0 : Int32).toInt = 0 := by decide +kernel
              have hz_1254 : (0 : Int32).toInt = 0 := by decide +kernel
              have hz_1255 : (0 : Int32).toInt = 0 := by decide +kernel
              have hz_1256 : (0 : Int32).toInt = 0 := by decide +kernel
              have hz_1257 : (0 : Int32).toInt = 0 := by decide +kernel
              refine W.widen (k := 0) (n := 0) (Nat.le_of_ble_eq_true rfl) (Nat.le_of_ble_eq_true rfl) ?_
              rw [hQ9]
              exact dg_iret hx hb hr hlocks (by decide +kernel) hP hS ⟨I_1248, M_1248, (by decide +kernel), ⟨sg, sa, se, y_3, y_1250, dp, y_1251, oo, (((m_1248.1 0 3 _ sM_0 (by decide)).trans (m_2.1 0 3 _ sM_0 (by decide))).trans f_sg), (((m_1248.1 0 4 _ sM_0 (by decide)).trans (m_2.1 0 4 _ sM_0 (by decide))).trans f_sa), (((m_1248.1 0 5 _ sM_0 (by decide)).trans (m_2.1 0 5 _ sM_0 (by decide))).trans f_se), ((m_1248.1 0 8 _ sM_0 (by decide)).trans f_y_3), f_y_1250, (((m_1248.1 0 42 _ sM_0 (by decide)).trans (m_2.1 0 42 _ sM_0 (by decide))).trans f_dp), f_y_1251, (((m_1248.1 0 46 _ sM_0 (by decide)).trans (m_2.1 0 46 _ sM_0 (by decide))).trans f_oo), ⟨lxh_hlx_2.out, (by omega)⟩⟩, (fun k9 hk9 hk0 => POM.mk1 w_1248_4 (((m_1248.1 0 46 _ sM_0 (by decide)).trans (m_2.1 0 46 _ sM_0 (by decide))).trans f_oo) (by omega)), (GOK.fin f_sa ((m_1248.1 0 8 _ sM_0 (by decide)).trans f_y_3) (((m_1248.1 0 4 _ sM_0 (by decide)).trans (m_2.1 0 4 _ sM_0 (by decide))).trans f_sa) (by omega) hM0 (m_st_t.trans (m_go_end hnop.out (by by_cases q8 : (x_7).toInt = 0; exact Or.inl q8; exact Or.inr ⟨by omega, (by have h9 := h422.out; have h8 := (w_9_1.out.mpr (Or.inl (by omega))); omega), (hnao.out (w_9_1.out.mpr (Or.inl (by omega)))).1, (hnao.out (w_9_1.out.mpr (Or.inl (by omega)))).2⟩))) (by omega) (by decide +kernel)), (TKM.keep (TKM.keep TK m_2 (by decide) (by decide) (by decide) (by decide) (by decide) (by decide) (by decide) (by decide)) m_1248 (by decide) (by decide) (by decide) (by decide) (by decide) (by decide) (by decide) (by decide)), w_1248_3, trivial⟩ dX12_goesOn_440
          refine lv_if_eq (tgt := 422) hx hb dX12_goesOn_401 (by decide) (fun c_1258 => ?_) (fun c_1258 => ?_)
          · have jc_1258 := dk_eqc (k := 0) (by decide +kernel) c_1258
            clear w_9_1
            exact J_899 ()  (m_hid.mk (fun q9 => by omega)) _ _ hP hS _ (lv_sub hl [0, 1, 2, 3] rfl)
          · have jc_1258 := dk_neqc (k := 0) (by decide +kernel) c_1258
            have jbc_1258 : 1 ≤ (x_8).toInt := by omega
            clear jc_1258
            have hts1 := m_hid.mk (w_9_1.out.mp (by omega))
            clear w_9_1
            refine lv_aload_n hx hb dX12_goesOn_404 rfl (lv_at hl 3 rfl) ?_
            refine dg_get (C := RX12) (T := TX12) (N := 77) hx hb hts (fun w h => bw_mem (wU_X12 w h)) hown K hP sM_0 rfl 38 (by decide) (hts _ (bw_mem wB_417)) (fun _ h9 => h9) (v := .ref (o + 23)) (show S_2.1 0 38 = .ref (o + 23) from dg_I.rel (d := 23) I_2 sM_0 (by decide +kernel)) dX12_goesOn_405 ?_
            refine lv_iload_n hx hb dX12_goesOn_408 rfl (lv_at hl 2 rfl) ?_
            have hin_1259 : vp_in x_5 20 := (dk_inv (by omega) (by omega))
            refine dg_iald hx hb K hP sM_23 hin_1259 dX12_goesOn_409 (fun y_1260 ey_1260 => ?_)
            obtain rfl : x_11 = y_1260 := (ey_1260.trans ex_11.symm).symm
            refine lv_if_ne (tgt := 422) hx hb dX12_goesOn_410 (by decide) (fun c_1261 => ?_) (fun c_1261 => ?_)
            · have jc_1261 := dk_neqc (k := 0) (by decide +kernel) c_1261
              have jbc_1261 : 1 ≤ (x_11).toInt := by omega
              clear jc_1261
              exact J_899 ()  (m_hid.mk (fun q9 => by omega)) _ _ hP hS _ (lv_sub hl [0, 1, 2, 3] rfl)
            · have jc_1261 := dk_eqc (k := 0) (by decide +kernel) c_1261
              refine lv_aload_n hx hb dX12_goesOn_413 rfl (lv_at hl 3 rfl) ?_
              refine lv_iconst (v := 1) hx hb dX12_goesOn_414 (by decide +kernel) ?_
              refine lv_aload_n hx hb dX12_goesOn_415 rfl (lv_at hl 3 rfl) ?_
              refine dg_get (C := RX12) (T := TX12) (N := 77) hx hb hts (fun w h => bw_mem (wU_X12 w h)) hown K hP sM_0 rfl 4 (by decide) (hts _ (bw_mem wB_291)) (fun _ h9 => h9) (v := .int sa) ((m_2.1 0 4 _ sM_0 (by decide)).trans f_sa) dX12_goesOn_416 ?_
              have hz_1262 : (1 : Int32).toInt = 1 := by decide +kernel
              refine dg_callv hS hA1 hA (va_runV (As := [.int 1, .int sa]) (rest := []) F (c_m_blame l g D o S_2 1 (by decide +kernel) sa y_3 f_y_3 (by omega) I_2 H.size) (cwV 2 hts (bw_V wB_306 wB_307 wB_308 wB_297 wB_305) rfl rfl rfl (by decide +kernel) ⟨Nat.le_of_ble_eq_true rfl, Nat.le_of_ble_eq_true rfl⟩) (dg_preV sM_0 rfl K ST hP hS hA1 hA) rfl rfl hl.1 rfl (lv_room (Nat.le_of_ble_eq_true rfl)) dX12_goesOn_419 ⟨Nat.le_of_ble_eq_true rfl, Nat.le_of_ble_eq_true rfl⟩) (fun S_1263 hw_1263 H locs hP hS => ?_)
              obtain ⟨I_1263, m_1263, w_1263_0, -⟩ := hw_1263
              have M_1263 := dg_sm.tr M_2 m_1263 (by decide) (by decide)
              have hz_1264 : (1 : Int32).toInt = 1 := by decide +kernel
              obtain ⟨y_1265, f_y_1265, w_1263_0⟩ := w_1263_0
              have w_1263_0 : ((y_3).toInt ≠ 0 → (y_1265).toInt = (y_3).toInt) ∧ ((y_3).toInt = 0 → (y_1265).toInt = ((1 : Int32)).toInt) := w_1263_0
              obtain ⟨w_1263_0_0, w_1263_0_1⟩ := w_1263_0
              clear w_1263_0_0
              have w_1263_0_1r := w_1263_0_1 (by omega)
              clear w_1263_0_1
              have b_y_1265 : 0 ≤ (y_1265).toInt ∧ (y_1265).toInt ≤ 6 := dg_I.intb (lo := 0) (hi := 6) I_1263 sM_0 (by decide +kernel) f_y_1265
              have hbl_y_1265 : 1 ≤ (y_1265).toInt := by omega
              refine lv_iload_n hx hb dX12_goesOn_422 rfl (lv_at hl 1 rfl) ?_
              refine lv_iconst (v := 2) hx hb dX12_goesOn_423 (by decide +kernel) ?_
              refine lv_icmp_ge (tgt := 441) hx hb dX12_goesOn_424 (by decide) (fun c_1266 => ?_) (fun c_1266 => ?_)
              · have jc_1266 := dk_gec (k := 2) (by decide +kernel) c_1266
                refine lv_iload_n hx hb dX12_goesOn_441 rfl (lv_at hl 1 rfl) ?_
                refine lv_iconst (v := 3) hx hb dX12_goesOn_442 (by decide +kernel) ?_
                have J_1306 : ∀ (u9 : Unit), ((x_7 : Int32).toInt = 3 ∨ (x_7 : Int32).toInt = 6) → ∀ (H : Heap) (locs : List Loc), va_P D vwCl (dg_w g shM o rfM S_1263) H → va_S A s.heap H locs → ∀ ls : Array Slot, lv_has ls 5 [(3, .int x_8), (2, .int x_7), (1, .int x_5), (0, .ref (o + 0))] → W p l e ({ frames := 3, cells := 0, slots := 0, locals := 77 } : Room) s m args below meth c H locs 0 0 Q9 (F0 m 452 ls []) := by
                  intro u9 rel_0 H locs hP hS ls hl
                  refine lv_aload_n hx hb dX12_goesOn_452 rfl (lv_at hl 3 rfl) ?_
                  refine lv_bipush (v := 44) hx hb dX12_goesOn_453 (by decide +kernel) ?_
                  refine dg_calli hS hA1 hA (va_runV (As := [.int 44]) (rest := []) F (c_m_isSign l g D o S_1263 44 sg (((m_1263.1 0 3 _ sM_0 (by decide)).trans (m_2.1 0 3 _ sM_0 (by decide))).trans f_sg) (by omega) va (((m_1263.1 0 6 _ sM_0 (by decide)).trans (m_2.1 0 6 _ sM_0 (by decide))).trans f_va) (by omega) I_1263 H.size) (cwV 1 hts (bw_V wB_314 wB_315 wB_316 wB_297 wB_313) rfl rfl rfl (by decide +kernel) ⟨Nat.le_of_ble_eq_true rfl, Nat.le_of_ble_eq_true rfl⟩) (dg_preV sM_0 rfl K ST hP hS hA1 hA) rfl rfl hl.1 rfl (lv_room (Nat.le_of_ble_eq_true rfl)) dX12_goesOn_455 ⟨Nat.le_of_ble_eq_true rfl, Nat.le_of_ble_eq_true rfl⟩) (fun x_1307 S_1308 hw_1308 H locs hP hS => ?_)
                  rw [hw_1308.1] at hP
                  obtain ⟨hq_1308, w_1308_0, w_1308_1, -⟩ := hw_1308
                  have hz_1309 : (44 : Int32).toInt = 44 := by decide +kernel
                  have w_1308_0 : 0 ≤ (x_1307).toInt ∧ (x_1307).toInt ≤ 1 := w_1308_0
                  have w_1308_1 : (x_1307).toInt = 1 ↔ ((sg).toInt = 3 ∧ (va).toInt = ((44 : Int32)).toInt) := w_1308_1
                  refine lv_if_ne (tgt := 470) hx hb dX12_goesOn_458 (by decide) (fun c_1310 => ?_) (fun c_1310 => ?_)
                  · have jc_1310 := dk_neqc (k := 0) (by decide +kernel) c_1310
                    have jbc_1310 : 1 ≤ (x_1307).toInt := by omega
                    clear jc_1310
                    have qw_1308_1 : g_s (T_kd tb tn) (T_vl tb tn) 44 (t_ix tb tn (sa : Int32).toNatClampNeg) = true := (TKM.iss (TKM.keep (TKM.keep TK m_2 (by decide) (by decide) (by decide) (by decide) (by decide) (by decide) (by decide) (by decide)) m_1263 (by decide) (by decide) (by decide) (by decide) (by decide) (by decide) (by decide) (by decide)) (((m_1263.1 0 3 _ sM_0 (by decide)).trans (m_2.1 0 3 _ sM_0 (by decide))).trans f_sg) (((m_1263.1 0 4 _ sM_0 (by decide)).trans (m_2.1 0 4 _ sM_0 (by decide))).trans f_sa) (((m_1263.1 0 6 _ sM_0 (by decide)).trans (m_2.1 0 6 _ sM_0 (by decide))).trans f_va) hk5.out (c := 44) (by have h9 := w_1308_1; rw [show (44 : Int32).toInt = 44 from by decide +kernel] at h9; exact h9)).mp (by omega)
                    have w_1308_1_r := w_1308_1.mp (by omega)
                    obtain ⟨w_1308_1_r1, w_1308_1_r2⟩ := w_1308_1_r
                    clear w_1308_1
                    have hlx_2r := hlx_2 (by omega)
                    clear hlx_2
                    refine lv_aload_n hx hb dX12_goesOn_470 rfl (lv_at hl 3 rfl) ?_
                    refine dg_get (C := RX12) (T := TX12) (N := 77) hx hb hts (fun w h => bw_mem (wU_X12 w h)) hown K hP sM_0 rfl 8 (by decide) (hts _ (bw_mem wB_303)) (fun _ h9 => h9) (v := .int y_1265) f_y_1265 dX12_goesOn_471 ?_
                    refine lv_if_le (tgt := 479) hx hb dX12_goesOn_474 (by decide) (fun c => absurd c (fun z => absurd (dk_lec (k := 0) (by decide +kernel) z) (by omega))) (fun _ => ?_)
                    refine lv_iconst (v := 0) hx hb dX12_goesOn_477 (by decide +kernel) ?_
                    have hz_1311 : (0 : Int32).toInt = 0 := by decide +kernel
                    have hz_1312 : (0 : Int32).toInt = 0 := by decide +kernel
                    have hz_1313 : (0 : Int32).toInt = 0 := by decide +kernel
                    have hz_1314 : (0 : Int32).toInt = 0 := by decide +kernel
                    have hz_1315 : (0 : Int32).toInt = 0 := by decide +kernel
                    refine W.widen (k := 0) (n := 0) (Nat.le_of_ble_eq_true rfl) (Nat.le_of_ble_eq_true rfl) ?_
                    rw [hQ9]
                    exact dg_iret hx hb hr hlocks (by decide +kernel) hP hS ⟨I_1263, M_1263, (by decide +kernel), ⟨sg, sa, se, y_1265, cd, dp, om, oo, (((m_1263.1 0 3 _ sM_0 (by decide)).trans (m_2.1 0 3 _ sM_0 (by decide))).trans f_sg), (((m_1263.1 0 4 _ sM_0 (by decide)).trans (m_2.1 0 4 _ sM_0 (by decide))).trans f_sa), (((m_1263.1 0 5 _ sM_0 (by decide)).trans (m_2.1 0 5 _ sM_0 (by decide))).trans f_se), f_y_1265, (((m_1263.1 0 34 _ sM_0 (by decide)).trans (m_2.1 0 34 _ sM_0 (by decide))).trans f_cd), (((m_1263.1 0 42 _ sM_0 (by decide)).trans (m_2.1 0 42 _ sM_0 (by decide))).trans f_dp), (((m_1263.1 0 45 _ sM_0 (by decide)).trans (m_2.1 0 45 _ sM_0 (by decide))).trans f_om), (((m_1263.1 0 46 _ sM_0 (by decide)).trans (m_2.1 0 46 _ sM_0 (by decide))).trans f_oo), ⟨lxh_hlx_2.out, (by omega)⟩⟩, (fun k9 hk9 hk0 => by have q9 := (f_y_1265).symm.trans hk9; cases q9; omega), (GOK.no f_sa f_fk f_y_1265 (by omega) (fun h0 => Or.inl (by rw [hM0]; exact m_st_t.trans (m_go_bad hnop.out (Or.inl ⟨(m_tst_iff.mpr hts1.out), by omega, hnco.out (by omega) (by omega)⟩))))), (TKM.keep (TKM.keep TK m_2 (by decide) (by decide) (by decide) (by decide) (by decide) (by decide) (by decide) (by decide)) m_1263 (by decide) (by decide) (by decide) (by decide) (by decide) (by decide) (by decide) (by decide)), (ZWM.keep (ZWM.keep ZW m_2 (by decide) (by decide) (by decide) (by decide)) m_1263 (by decide) (by decide) (by decide) (by decide)), trivial⟩ dX12_goesOn_478
                  · have jc_1310 := dk_eqc (k := 0) (by decide +kernel) c_1310
                    have qw_1308_1 : g_s (T_kd tb tn) (T_vl tb tn) 44 (t_ix tb tn (sa : Int32).toNatClampNeg) = false := g_iff_f (TKM.iss (TKM.keep (TKM.keep TK m_2 (by decide) (by decide) (by decide) (by decide) (by decide) (by decide) (by decide) (by decide)) m_1263 (by decide) (by decide) (by decide) (by decide) (by decide) (by decide) (by decide) (by decide)) (((m_1263.1 0 3 _ sM_0 (by decide)).trans (m_2.1 0 3 _ sM_0 (by decide))).trans f_sg) (((m_1263.1 0 4 _ sM_0 (by decide)).trans (m_2.1 0 4 _ sM_0 (by decide))).trans f_sa) (((m_1263.1 0 6 _ sM_0 (by decide)).trans (m_2.1 0 6 _ sM_0 (by decide))).trans f_va) hk5.out (c := 44) (by have h9 := w_1308_1; rw [show (44 : Int32).toInt = 44 from by decide +kernel] at h9; exact h9)) (by omega)
                    clear w_1308_1
                    refine lv_aload_n hx hb dX12_goesOn_461 rfl (lv_at hl 3 rfl) ?_
                    refine lv_iconst (v := 1) hx hb dX12_goesOn_462 (by decide +kernel) ?_
                    refine lv_aload_n hx hb dX12_goesOn_463 rfl (lv_at hl 3 rfl) ?_
                    refine dg_get (C := RX12) (T := TX12) (N := 77) hx hb hts (fun w h => bw_mem (wU_X12 w h)) hown K hP sM_0 rfl 4 (by decide) (hts _ (bw_mem wB_291)) (fun _ h9 => h9) (v := .int sa) (((m_1263.1 0 4 _ sM_0 (by decide)).trans (m_2.1 0 4 _ sM_0 (by decide))).trans f_sa) dX12_goesOn_464 ?_
                    have hz_1316 : (1 : Int32).toInt = 1 := by decide +kernel
                    refine dg_callv hS hA1 hA (va_runV (As := [.int 1, .int sa]) (rest := []) F (c_m_blame l g D o S_1263 1 (by decide +kernel) sa y_1265 f_y_1265 (by omega) I_1263 H.size) (cwV 2 hts (bw_V wB_306 wB_307 wB_308 wB_297 wB_305) rfl rfl rfl (by decide +kernel) ⟨Nat.le_of_ble_eq_true rfl, Nat.le_of_ble_eq_true rfl⟩) (dg_preV sM_0 rfl K ST hP hS hA1 hA) rfl rfl hl.1 rfl (lv_room (Nat.le_of_ble_eq_true rfl)) dX12_goesOn_467 ⟨Nat.le_of_ble_eq_true rfl, Nat.le_of_ble_eq_true rfl⟩) (fun S_1317 hw_1317 H locs hP hS => ?_)
                    obtain ⟨I_1317, m_1317, w_1317_0, -⟩ := hw_1317
                    have M_1317 := dg_sm.tr M_1263 m_1317 (by decide) (by decide)
                    have hz_1318 : (1 : Int32).toInt = 1 := by decide +kernel
                    obtain ⟨y_1319, f_y_1319, w_1317_0⟩ := w_1317_0
                    have w_1317_0 : ((y_1265).toInt ≠ 0 → (y_1319).toInt = (y_1265).toInt) ∧ ((y_1265).toInt = 0 → (y_1319).toInt = ((1 : Int32)).toInt) := w_1317_0
                    obtain ⟨w_1317_0_0, w_1317_0_1⟩ := w_1317_0
                    have w_1317_0_0r := w_1317_0_0 (by omega)
                    clear w_1317_0_0
                    clear w_1317_0_1
                    have b_y_1319 : 0 ≤ (y_1319).toInt ∧ (y_1319).toInt ≤ 6 := dg_I.intb (lo := 0) (hi := 6) I_1317 sM_0 (by decide +kernel) f_y_1319
                    have hbl_y_1319 : 1 ≤ (y_1319).toInt := by omega
                    refine lv_aload_n hx hb dX12_goesOn_470 rfl (lv_at hl 3 rfl) ?_
                    refine dg_get (C := RX12) (T := TX12) (N := 77) hx hb hts (fun w h => bw_mem (wU_X12 w h)) hown K hP sM_0 rfl 8 (by decide) (hts _ (bw_mem wB_303)) (fun _ h9 => h9) (v := .int y_1319) f_y_1319 dX12_goesOn_471 ?_
                    refine lv_if_le (tgt := 479) hx hb dX12_goesOn_474 (by decide) (fun c => absurd c (fun z => absurd (dk_lec (k := 0) (by decide +kernel) z) (by omega))) (fun _ => ?_)
                    refine lv_iconst (v := 0) hx hb dX12_goesOn_477 (by decide +kernel) ?_
                    have hz_1320 : (0 : Int32).toInt = 0 := by decide +kernel
                    have hz_1321 : (0 : Int32).toInt = 0 := by decide +kernel
                    have hz_1322 : (0 : Int32).toInt = 0 := by decide +kernel
                    have hz_1323 : (0 : Int32).toInt = 0 := by decide +kernel
                    have hz_1324 : (0 : Int32).toInt = 0 := by decide +kernel
                    refine W.widen (k := 0) (n := 0) (Nat.le_of_ble_eq_true rfl) (Nat.le_of_ble_eq_true rfl) ?_
                    rw [hQ9]
                    exact dg_iret hx hb hr hlocks (by decide +kernel) hP hS ⟨I_1317, M_1317, (by decide +kernel), ⟨sg, sa, se, y_1319, cd, dp, om, oo, (((m_1317.1 0 3 _ sM_0 (by decide)).trans ((m_1263.1 0 3 _ sM_0 (by decide)).trans (m_2.1 0 3 _ sM_0 (by decide)))).trans f_sg), (((m_1317.1 0 4 _ sM_0 (by decide)).trans ((m_1263.1 0 4 _ sM_0 (by decide)).trans (m_2.1 0 4 _ sM_0 (by decide)))).trans f_sa), (((m_1317.1 0 5 _ sM_0 (by decide)).trans ((m_1263.1 0 5 _ sM_0 (by decide)).trans (m_2.1 0 5 _ sM_0 (by decide)))).trans f_se), f_y_1319, (((m_1317.1 0 34 _ sM_0 (by decide)).trans ((m_1263.1 0 34 _ sM_0 (by decide)).trans (m_2.1 0 34 _ sM_0 (by decide)))).trans f_cd), (((m_1317.1 0 42 _ sM_0 (by decide)).trans ((m_1263.1 0 42 _ sM_0 (by decide)).trans (m_2.1 0 42 _ sM_0 (by decide)))).trans f_dp), (((m_1317.1 0 45 _ sM_0 (by decide)).trans ((m_1263.1 0 45 _ sM_0 (by decide)).trans (m_2.1 0 45 _ sM_0 (by decide)))).trans f_om), (((m_1317.1 0 46 _ sM_0 (by decide)).trans ((m_1263.1 0 46 _ sM_0 (by decide)).trans (m_2.1 0 46 _ sM_0 (by decide)))).trans f_oo), ⟨lxh_hlx_2.out, (by omega)⟩⟩, (fun k9 hk9 hk0 => by have q9 := (f_y_1319).symm.trans hk9; cases q9; omega), (GOK.no f_sa f_fk f_y_1319 (by omega) (fun h0 => Or.inl (by rw [hM0]; exact m_st_t.trans (m_go_bad hnop.out (Or.inr ⟨by omega, (fun q8 q9 => hnco.out (by omega) q9), (fun q8 => hnao.out (by omega)), (fun _ => qw_1308_1), (fun q9 => by exfalso; omega), (fun q9 q8 q7 => by exfalso; omega)⟩))))), (TKM.keep (TKM.keep (TKM.keep TK m_2 (by decide) (by decide) (by decide) (by decide) (by decide) (by decide) (by decide) (by decide)) m_1263 (by decide) (by decide) (by decide) (by decide) (by decide) (by decide) (by decide) (by decide)) m_1317 (by decide) (by decide) (by decide) (by decide) (by decide) (by decide) (by decide) (by decide)), (ZWM.keep (ZWM.keep (ZWM.keep ZW m_2 (by decide) (by decide) (by decide) (by decide)) m_1263 (by decide) (by decide) (by decide) (by decide)) m_1317 (by decide) (by decide) (by decide) (by decide)), trivial⟩ dX12_goesOn_478
                refine lv_icmp_eq (tgt := 452) hx hb dX12_goesOn_443 (by decide) (fun c_1325 => ?_) (fun c_1325 => ?_)
                · have jc_1325 := dk_eqc (k := 3) (by decide +kernel) c_1325
                  exact J_1306 ()  (by omega) _ _ hP hS _ (lv_sub hl [0, 1, 2, 3] rfl)
                · have jc_1325 := dk_neqc (k := 3) (by decide +kernel) c_1325
                  refine lv_iload_n hx hb dX12_goesOn_446 rfl (lv_at hl 1 rfl) ?_
                  refine lv_bipush (v := 6) hx hb dX12_goesOn_447 (by decide +kernel) ?_
                  refine lv_icmp_ne (tgt := 518) hx hb dX12_goesOn_449 (by decide) (fun c_1326 => ?_) (fun c_1326 => ?_)
                  · have jc_1326 := dk_neqc (k := 6) (by decide +kernel) c_1326
                    have jtc_1326 : (x_7).toInt ≤ 5 := by omega
                    clear jc_1326
                    refine lv_aload_n hx hb dX12_goesOn_518 rfl (lv_at hl 3 rfl) ?_
                    refine lv_iload_n hx hb dX12_goesOn_519 rfl (lv_at hl 1 rfl) ?_
                    refine lv_iconst (v := 5) hx hb dX12_goesOn_520 (by decide +kernel) ?_
                    have J_1346 : ∀ (x_1328 : Int32), (41 ≤ (x_1328).toInt ∧ (x_1328).toInt ≤ 93) → ((x_7 : Int32).toInt = 2 ∨ (x_7 : Int32).toInt = 4 ∨ (x_7 : Int32).toInt = 5) → (m_hid (((x_7 : Int32).toInt = 5 → (x_1328 : Int32).toInt = 93) ∧ ((x_7 : Int32).toInt ≠ 5 → (x_1328 : Int32).toInt = 41))) → ∀ (H : Heap) (locs : List Loc), va_P D vwCl (dg_w g shM o rfM S_1263) H → va_S A s.heap H locs → ∀ ls : Array Slot, lv_has ls 5 [(3, .int x_8), (2, .int x_7), (1, .int x_5), (0, .ref (o + 0))] → W p l e ({ frames := 3, cells := 0, slots := 0, locals := 77 } : Room) s m args below meth c H locs 0 0 Q9 (F0 m 531 ls [.int x_1328, .ref (o + 0)]) := by
                      intro x_1328 b_x_1328 rel_0 rel_1 H locs hP hS ls hl
                      have h531 := rel_1
                      refine dg_calli hS hA1 hA (va_runV (As := [.int x_1328]) (rest := []) F (c_m_isSign l g D o S_1263 x_1328 sg (((m_1263.1 0 3 _ sM_0 (by decide)).trans (m_2.1 0 3 _ sM_0 (by decide))).trans f_sg) (by omega) va (((m_1263.1 0 6 _ sM_0 (by decide)).trans (m_2.1 0 6 _ sM_0 (by decide))).trans f_va) (by omega) I_1263 H.size) (cwV 1 hts (bw_V wB_314 wB_315 wB_316 wB_297 wB_313) rfl rfl rfl (by decide +kernel) ⟨Nat.le_of_ble_eq_true rfl, Nat.le_of_ble_eq_true rfl⟩) (dg_preV sM_0 rfl K ST hP hS hA1 hA) rfl rfl hl.1 rfl (lv_room (Nat.le_of_ble_eq_true rfl)) dX12_goesOn_531 ⟨Nat.le_of_ble_eq_true rfl, Nat.le_of_ble_eq_true rfl⟩) (fun x_1347 S_1348 hw_1348 H locs hP hS => ?_)
                      rw [hw_1348.1] at hP
                      obtain ⟨hq_1348, w_1348_0, w_1348_1, -⟩ := hw_1348
                      have w_1348_0 : 0 ≤ (x_1347).toInt ∧ (x_1347).toInt ≤ 1 := w_1348_0
                      have w_1348_1 : (x_1347).toInt = 1 ↔ ((sg).toInt = 3 ∧ (va).toInt = (x_1328).toInt) := w_1348_1
                      refine lv_if_ne (tgt := 546) hx hb dX12_goesOn_534 (by decide) (fun c_1349 => ?_) (fun c_1349 => ?_)
                      · have jc_1349 := dk_neqc (k := 0) (by decide +kernel) c_1349
                        have jbc_1349 : 1 ≤ (x_1347).toInt := by omega
                        clear jc_1349
                        have qw_1348_1 : g_s (T_kd tb tn) (T_vl tb tn) (x_1328).toInt (t_ix tb tn (sa : Int32).toNatClampNeg) = true := (TKM.iss (TKM.keep (TKM.keep TK m_2 (by decide) (by decide) (by decide) (by decide) (by decide) (by decide) (by decide) (by decide)) m_1263 (by decide) (by decide) (by decide) (by decide) (by decide) (by decide) (by decide) (by decide)) (((m_1263.1 0 3 _ sM_0 (by decide)).trans (m_2.1 0 3 _ sM_0 (by decide))).trans f_sg) (((m_1263.1 0 4 _ sM_0 (by decide)).trans (m_2.1 0 4 _ sM_0 (by decide))).trans f_sa) (((m_1263.1 0 6 _ sM_0 (by decide)).trans (m_2.1 0 6 _ sM_0 (by decide))).trans f_va) hk5.out (c := (x_1328).toInt) (by have h9 := w_1348_1; exact h9)).mp (by omega)
                        have w_1348_1_r := w_1348_1.mp (by omega)
                        obtain ⟨w_1348_1_r1, w_1348_1_r2⟩ := w_1348_1_r
                        clear w_1348_1
                        have hlx_2r := hlx_2 (by omega)
                        clear hlx_2
                        refine lv_aload_n hx hb dX12_goesOn_546 rfl (lv_at hl 3 rfl) ?_
                        refine dg_get (C := RX12) (T := TX12) (N := 77) hx hb hts (fun w h => bw_mem (wU_X12 w h)) hown K hP sM_0 rfl 8 (by decide) (hts _ (bw_mem wB_303)) (fun _ h9 => h9) (v := .int y_1265) f_y_1265 dX12_goesOn_547 ?_
                        refine lv_if_le (tgt := 555) hx hb dX12_goesOn_550 (by decide) (fun c => absurd c (fun z => absurd (dk_lec (k := 0) (by decide +kernel) z) (by omega))) (fun _ => ?_)
                        refine lv_iconst (v := 0) hx hb dX12_goesOn_553 (by decide +kernel) ?_
                        have hz_1350 : (0 : Int32).toInt = 0 := by decide +kernel
                        have hz_1351 : (0 : Int32).toInt = 0 := by decide +kernel
                        have hz_1352 : (0 : Int32).toInt = 0 := by decide +kernel
                        have hz_1353 : (0 : Int32).toInt = 0 := by decide +kernel
                        have hz_1354 : (0 : Int32).toInt = 0 := by decide +kernel
                        refine W.widen (k := 0) (n := 0) (Nat.le_of_ble_eq_true rfl) (Nat.le_of_ble_eq_true rfl) ?_
                        rw [hQ9]
                        exact dg_iret hx hb hr hlocks (by decide +kernel) hP hS ⟨I_1263, M_1263, (by decide +kernel), ⟨sg, sa, se, y_1265, cd, dp, om, oo, (((m_1263.1 0 3 _ sM_0 (by decide)).trans (m_2.1 0 3 _ sM_0 (by decide))).trans f_sg), (((m_1263.1 0 4 _ sM_0 (by decide)).trans (m_2.1 0 4 _ sM_0 (by decide))).trans f_sa), (((m_1263.1 0 5 _ sM_0 (by decide)).trans (m_2.1 0 5 _ sM_0 (by decide))).trans f_se), f_y_1265, (((m_1263.1 0 34 _ sM_0 (by decide)).trans (m_2.1 0 34 _ sM_0 (by decide))).trans f_cd), (((m_1263.1 0 42 _ sM_0 (by decide)).trans (m_2.1 0 42 _ sM_0 (by decide))).trans f_dp), (((m_1263.1 0 45 _ sM_0 (by decide)).trans (m_2.1 0 45 _ sM_0 (by decide))).trans f_om), (((m_1263.1 0 46 _ sM_0 (by decide)).trans (m_2.1 0 46 _ sM_0 (by decide))).trans f_oo), ⟨lxh_hlx_2.out, (by omega)⟩⟩, (fun k9 hk9 hk0 => by have q9 := (f_y_1265).symm.trans hk9; cases q9; omega), (GOK.no f_sa f_fk f_y_1265 (by omega) (fun h0 => Or.inl (by rw [hM0]; exact m_st_t.trans (m_go_bad hnop.out (Or.inl ⟨(m_tst_iff.mpr hts1.out), by omega, hnco.out (by omega) (by omega)⟩))))), (TKM.keep (TKM.keep TK m_2 (by decide) (by decide) (by decide) (by decide) (by decide) (by decide) (by decide) (by decide)) m_1263 (by decide) (by decide) (by decide) (by decide) (by decide) (by decide) (by decide) (by decide)), (ZWM.keep (ZWM.keep ZW m_2 (by decide) (by decide) (by decide) (by decide)) m_1263 (by decide) (by decide) (by decide) (by decide)), trivial⟩ dX12_goesOn_554
                      · have jc_1349 := dk_eqc (k := 0) (by decide +kernel) c_1349
                        have qw_1348_1 : g_s (T_kd tb tn) (T_vl tb tn) (x_1328).toInt (t_ix tb tn (sa : Int32).toNatClampNeg) = false := g_iff_f (TKM.iss (TKM.keep (TKM.keep TK m_2 (by decide) (by decide) (by decide) (by decide) (by decide) (by decide) (by decide) (by decide)) m_1263 (by decide) (by decide) (by decide) (by decide) (by decide) (by decide) (by decide) (by decide)) (((m_1263.1 0 3 _ sM_0 (by decide)).trans (m_2.1 0 3 _ sM_0 (by decide))).trans f_sg) (((m_1263.1 0 4 _ sM_0 (by decide)).trans (m_2.1 0 4 _ sM_0 (by decide))).trans f_sa) (((m_1263.1 0 6 _ sM_0 (by decide)).trans (m_2.1 0 6 _ sM_0 (by decide))).trans f_va) hk5.out (c := (x_1328).toInt) (by have h9 := w_1348_1; exact h9)) (by omega)
                        clear w_1348_1
                        refine lv_aload_n hx hb dX12_goesOn_537 rfl (lv_at hl 3 rfl) ?_
                        refine lv_iconst (v := 1) hx hb dX12_goesOn_538 (by decide +kernel) ?_
                        refine lv_aload_n hx hb dX12_goesOn_539 rfl (lv_at hl 3 rfl) ?_
                        refine dg_get (C := RX12) (T := TX12) (N := 77) hx hb hts (fun w h => bw_mem (wU_X12 w h)) hown K hP sM_0 rfl 4 (by decide) (hts _ (bw_mem wB_291)) (fun _ h9 => h9) (v := .int sa) (((m_1263.1 0 4 _ sM_0 (by decide)).trans (m_2.1 0 4 _ sM_0 (by decide))).trans f_sa) dX12_goesOn_540 ?_
                        have hz_1355 : (1 : Int32).toInt = 1 := by decide +kernel
                        refine dg_callv hS hA1 hA (va_runV (As := [.int 1, .int sa]) (rest := []) F (c_m_blame l g D o S_1263 1 (by decide +kernel) sa y_1265 f_y_1265 (by omega) I_1263 H.size) (cwV 2 hts (bw_V wB_306 wB_307 wB_308 wB_297 wB_305) rfl rfl rfl (by decide +kernel) ⟨Nat.le_of_ble_eq_true rfl, Nat.le_of_ble_eq_true rfl⟩) (dg_preV sM_0 rfl K ST hP hS hA1 hA) rfl rfl hl.1 rfl (lv_room (Nat.le_of_ble_eq_true rfl)) dX12_goesOn_543 ⟨Nat.le_of_ble_eq_true rfl, Nat.le_of_ble_eq_true rfl⟩) (fun S_1356 hw_1356 H locs hP hS => ?_)
                        obtain ⟨I_1356, m_1356, w_1356_0, -⟩ := hw_1356
                        have M_1356 := dg_sm.tr M_1263 m_1356 (by decide) (by decide)
                        have hz_1357 : (1 : Int32).toInt = 1 := by decide +kernel
                        obtain ⟨y_1358, f_y_1358, w_1356_0⟩ := w_1356_0
                        have w_1356_0 : ((y_1265).toInt ≠ 0 → (y_1358).toInt = (y_1265).toInt) ∧ ((y_1265).toInt = 0 → (y_1358).toInt = ((1 : Int32)).toInt) := w_1356_0
                        obtain ⟨w_1356_0_0, w_1356_0_1⟩ := w_1356_0
                        have w_1356_0_0r := w_1356_0_0 (by omega)
                        clear w_1356_0_0
                        clear w_1356_0_1
                        have b_y_1358 : 0 ≤ (y_1358).toInt ∧ (y_1358).toInt ≤ 6 := dg_I.intb (lo := 0) (hi := 6) I_1356 sM_0 (by decide +kernel) f_y_1358
                        have hbl_y_1358 : 1 ≤ (y_1358).toInt := by omega
                        refine lv_aload_n hx hb dX12_goesOn_546 rfl (lv_at hl 3 rfl) ?_
                        refine dg_get (C := RX12) (T := TX12) (N := 77) hx hb hts (fun w h => bw_mem (wU_X12 w h)) hown K hP sM_0 rfl 8 (by decide) (hts _ (bw_mem wB_303)) (fun _ h9 => h9) (v := .int y_1358) f_y_1358 dX12_goesOn_547 ?_
                        refine lv_if_le (tgt := 555) hx hb dX12_goesOn_550 (by decide) (fun c => absurd c (fun z => absurd (dk_lec (k := 0) (by decide +kernel) z) (by omega))) (fun _ => ?_)
                        refine lv_iconst (v := 0) hx hb dX12_goesOn_553 (by decide +kernel) ?_
                        have hz_1359 : (0 : Int32).toInt = 0 := by decide +kernel
                        have hz_1360 : (0 : Int32).toInt = 0 := by decide +kernel
                        have hz_1361 : (0 : Int32).toInt = 0 := by decide +kernel
                        have hz_1362 : (0 : Int32).toInt = 0 := by decide +kernel
                        have hz_1363 : (0 : Int32).toInt = 0 := by decide +kernel
                        refine W.widen (k := 0) (n := 0) (Nat.le_of_ble_eq_true rfl) (Nat.le_of_ble_eq_true rfl) ?_
                        rw [hQ9]
                        exact dg_iret hx hb hr hlocks (by decide +kernel) hP hS ⟨I_1356, M_1356, (by decide +kernel), ⟨sg, sa, se, y_1358, cd, dp, om, oo, (((m_1356.1 0 3 _ sM_0 (by decide)).trans ((m_1263.1 0 3 _ sM_0 (by decide)).trans (m_2.1 0 3 _ sM_0 (by decide)))).trans f_sg), (((m_1356.1 0 4 _ sM_0 (by decide)).trans ((m_1263.1 0 4 _ sM_0 (by decide)).trans (m_2.1 0 4 _ sM_0 (by decide)))).trans f_sa), (((m_1356.1 0 5 _ sM_0 (by decide)).trans ((m_1263.1 0 5 _ sM_0 (by decide)).trans (m_2.1 0 5 _ sM_0 (by decide)))).trans f_se), f_y_1358, (((m_1356.1 0 34 _ sM_0 (by decide)).trans ((m_1263.1 0 34 _ sM_0 (by decide)).trans (m_2.1 0 34 _ sM_0 (by decide)))).trans f_cd), (((m_1356.1 0 42 _ sM_0 (by decide)).trans ((m_1263.1 0 42 _ sM_0 (by decide)).trans (m_2.1 0 42 _ sM_0 (by decide)))).trans f_dp), (((m_1356.1 0 45 _ sM_0 (by decide)).trans ((m_1263.1 0 45 _ sM_0 (by decide)).trans (m_2.1 0 45 _ sM_0 (by decide)))).trans f_om), (((m_1356.1 0 46 _ sM_0 (by decide)).trans ((m_1263.1 0 46 _ sM_0 (by decide)).trans (m_2.1 0 46 _ sM_0 (by decide)))).trans f_oo), ⟨lxh_hlx_2.out, (by omega)⟩⟩, (fun k9 hk9 hk0 => by have q9 := (f_y_1358).symm.trans hk9; cases q9; omega), (GOK.no f_sa f_fk f_y_1358 (by omega) (fun h0 => Or.inl (by rw [hM0]; exact m_st_t.trans (m_go_bad hnop.out (Or.inr ⟨by omega, (fun q8 q9 => hnco.out (by omega) q9), (fun q8 => hnao.out (by omega)), (fun q9 => by exfalso; omega), (fun q9 => by have h9 := qw_1348_1; rw [show (x_1328).toInt = 93 from by have h8 := h531.out.1 (by omega); omega] at h9; exact h9), (fun _ _ q9 => by have h9 := qw_1348_1; rw [show (x_1328).toInt = 41 from by have h8 := h531.out.2 (by omega); omega] at h9; exact h9)⟩))))), (TKM.keep (TKM.keep (TKM.keep TK m_2 (by decide) (by decide) (by decide) (by decide) (by decide) (by decide) (by decide) (by decide)) m_1263 (by decide) (by decide) (by decide) (by decide) (by decide) (by decide) (by decide) (by decide)) m_1356 (by decide) (by decide) (by decide) (by decide) (by decide) (by decide) (by decide) (by decide)), (ZWM.keep (ZWM.keep (ZWM.keep ZW m_2 (by decide) (by decide) (by decide) (by decide)) m_1263 (by decide) (by decide) (by decide) (by decide)) m_1356 (by decide) (by decide) (by decide) (by decide)), trivial⟩ dX12_goesOn_554
                    refine lv_icmp_ne (tgt := 529) hx hb dX12_goesOn_521 (by decide) (fun c_1364 => ?_) (fun c_1364 => ?_)
                    · have jc_1364 := dk_neqc (k := 5) (by decide +kernel) c_1364
                      have jtc_1364 : (x_7).toInt ≤ 4 := by omega
                      clear jc_1364
                      refine lv_bipush (v := 41) hx hb dX12_goesOn_529 (by decide +kernel) ?_
                      have hz_1365 : (41 : Int32).toInt = 41 := by decide +kernel
                      have hz_1366 : (41 : Int32).toInt = 41 := by decide +kernel
                      have hz_1367 : (41 : Int32).toInt = 41 := by decide +kernel
                      have hz_1368 : (41 : Int32).toInt = 41 := by decide +kernel
                      exact J_1346 41 (by decide +kernel) (by omega) (m_hid.mk ⟨fun q9 => by omega, fun q9 => by omega⟩) _ _ hP hS _ (lv_sub hl [0, 1, 2, 3] rfl)
                    · have jc_1364 := dk_eqc (k := 5) (by decide +kernel) c_1364
                      refine lv_bipush (v := 93) hx hb dX12_goesOn_524 (by decide +kernel) ?_
                      refine lv_goto (tgt := 531) hx hb dX12_goesOn_526 (by decide) ?_
                      have hz_1369 : (93 : Int32).toInt = 93 := by decide +kernel
                      have hz_1370 : (93 : Int32).toInt = 93 := by decide +kernel
                      have hz_1371 : (93 : Int32).toInt = 93 := by decide +kernel
                      have hz_1372 : (93 : Int32).toInt = 93 := by decide +kernel
                      exact J_1346 93 (by decide +kernel) (by omega) (m_hid.mk ⟨fun q9 => by omega, fun q9 => by omega⟩) _ _ hP hS _ (lv_sub hl [0, 1, 2, 3] rfl)
                  · have jc_1326 := dk_eqc (k := 6) (by decide +kernel) c_1326
                    exact J_1306 ()  (by omega) _ _ hP hS _ (lv_sub hl [0, 1, 2, 3] rfl)
              · have jc_1266 := dk_ngec (k := 2) (by decide +kernel) c_1266
                refine lv_aload_n hx hb dX12_goesOn_427 rfl (lv_at hl 3 rfl) ?_
                refine dg_get (C := RX12) (T := TX12) (N := 77) hx hb hts (fun w h => bw_mem (wU_X12 w h)) hown K hP sM_0 rfl 8 (by decide) (hts _ (bw_mem wB_303)) (fun _ h9 => h9) (v := .int y_1265) f_y_1265 dX12_goesOn_428 ?_
                refine lv_if_ne (tgt := 439) hx hb dX12_goesOn_431 (by decide) (fun _ => ?_) (fun c => absurd c (fun z => absurd (dk_eqc (k := 0) (by decide +kernel) z) (by omega)))
                refine lv_iconst (v := 0) hx hb dX12_goesOn_439 (by decide +kernel) ?_
                have hz_1373 : (0 : Int32).toInt = 0 := by decide +kernel
                have hz_1374 : (0 : Int32).toInt = 0 := by decide +kernel
                have hz_1375 : (0 : Int32).toInt = 0 := by decide +kernel
                have hz_1376 : (0 : Int32).toInt = 0 := by decide +kernel
                have hz_1377 : (0 : Int32).toInt = 0 := by decide +kernel
                refine W.widen (k := 0) (n := 0) (Nat.le_of_ble_eq_true rfl) (Nat.le_of_ble_eq_true rfl) ?_
                rw [hQ9]
                exact dg_iret hx hb hr hlocks (by decide +kernel) hP hS ⟨I_1263, M_1263, (by decide +kernel), ⟨sg, sa, se, y_1265, cd, dp, om, oo, (((m_1263.1 0 3 _ sM_0 (by decide)).trans (m_2.1 0 3 _ sM_0 (by decide))).trans f_sg), (((m_1263.1 0 4 _ sM_0 (by decide)).trans (m_2.1 0 4 _ sM_0 (by decide))).trans f_sa), (((m_1263.1 0 5 _ sM_0 (by decide)).trans (m_2.1 0 5 _ sM_0 (by decide))).trans f_se), f_y_1265, (((m_1263.1 0 34 _ sM_0 (by decide)).trans (m_2.1 0 34 _ sM_0 (by decide))).trans f_cd), (((m_1263.1 0 42 _ sM_0 (by decide)).trans (m_2.1 0 42 _ sM_0 (by decide))).trans f_dp), (((m_1263.1 0 45 _ sM_0 (by decide)).trans (m_2.1 0 45 _ sM_0 (by decide))).trans f_om), (((m_1263.1 0 46 _ sM_0 (by decide)).trans (m_2.1 0 46 _ sM_0 (by decide))).trans f_oo), ⟨lxh_hlx_2.out, (by omega)⟩⟩, (fun k9 hk9 hk0 => by have q9 := (f_y_1265).symm.trans hk9; cases q9; omega), (GOK.no f_sa f_fk f_y_1265 (by omega) (fun h0 => Or.inl (by rw [hM0]; exact m_st_t.trans (m_go_bad hnop.out (Or.inl ⟨(m_tst_iff.mpr hts1.out), by omega, hnco.out (by omega) (by omega)⟩))))), (TKM.keep (TKM.keep TK m_2 (by decide) (by decide) (by decide) (by decide) (by decide) (by decide) (by decide) (by decide)) m_1263 (by decide) (by decide) (by decide) (by decide) (by decide) (by decide) (by decide) (by decide)), (ZWM.keep (ZWM.keep ZW m_2 (by decide) (by decide) (by decide) (by decide)) m_1263 (by decide) (by decide) (by decide) (by decide)), trivial⟩ dX12_goesOn_440
        refine lv_if_eq (tgt := 400) hx hb dX12_goesOn_286 (by decide) (fun c_1378 => ?_) (fun c_1378 => ?_)
        · have jc_1378 := dk_eqc (k := 0) (by decide +kernel) c_1378
          clear w_9_1
          exact J_697 ()  (m_hid.mk (fun q9 => by exfalso; omega)) _ _ hP hS _ (lv_sub hl [0, 1, 2, 3] rfl)
        · have jc_1378 := dk_neqc (k := 0) (by decide +kernel) c_1378
          have jbc_1378 : 1 ≤ (x_8).toInt := by omega
          clear jc_1378
          have hts1 := m_hid.mk (w_9_1.out.mp (by omega))
          clear w_9_1
          refine lv_aload_n hx hb dX12_goesOn_289 rfl (lv_at hl 3 rfl) ?_
          refine lv_ldc2 hx hb hown (hts _ (bw_mem wB_347)) dX12_goesOn_290 ?_
          refine dg_calli hS hA1 hA (va_runV (As := [.long 6385252]) (rest := []) F (c_m_isWord l g D o S_2 6385252 sg ((m_2.1 0 3 _ sM_0 (by decide)).trans f_sg) (by omega) I_2 H.size) (cwV 1 hts (bw_V wB_322 wB_323 wB_324 wB_297 wB_321) rfl rfl rfl (by decide +kernel) ⟨Nat.le_of_ble_eq_true rfl, Nat.le_of_ble_eq_true rfl⟩) (dg_preV sM_0 rfl K ST hP hS hA1 hA) rfl rfl hl.1 rfl (lv_room (Nat.le_of_ble_eq_true rfl)) dX12_goesOn_293 ⟨Nat.le_of_ble_eq_true rfl, Nat.le_of_ble_eq_true rfl⟩) (fun x_1379 S_1380 hw_1380 H locs hP hS => ?_)
          rw [hw_1380.1] at hP
          obtain ⟨hq_1380, w_1380_0, w_1380_1, -⟩ := hw_1380
          try rw [hq_1380] at w_1380_1
          have w_1380_0 : 0 ≤ (x_1379).toInt ∧ (x_1379).toInt ≤ 1 := w_1380_0
          replace w_1380_1 : ∀ w9 : Int64, S_2.1 0 7 = .long w9 → ((x_1379).toInt = 1 ↔ ((sg).toInt = 1 ∧ w9.toInt = ((6385252 : Int64)).toInt)) := w_1380_1
          have J_1387 : ∀ (u9 : Unit), ((sg).toInt = 1) → (m_hid (g_o (T_kd tb tn) (T_vl tb tn) 22 (t_ix tb tn (sa : Int32).toNatClampNeg) = true ∨ g_o (T_kd tb tn) (T_vl tb tn) 21 (t_ix tb tn (sa : Int32).toNatClampNeg) = true)) → ∀ (H : Heap) (locs : List Loc), va_P D vwCl (dg_w g shM o rfM S_2) H → va_S A s.heap H locs → ∀ ls : Array Slot, lv_has ls 5 [(3, .int x_8), (2, .int x_7), (1, .int x_5), (0, .ref (o + 0))] → W p l e ({ frames := 3, cells := 0, slots := 0, locals := 77 } : Room) s m args below meth c H locs 0 0 Q9 (F0 m 309 ls []) := by
            intro u9 rel_0 rel_1 H locs hP hS ls hl
            clear w_1380_1
            have hwd := rel_1
            exact absurd ⟨by have h9 := hts1.out; omega, Or.inr hwd.out⟩ HnB
          refine lv_if_ne (tgt := 309) hx hb dX12_goesOn_296 (by decide) (fun c_1388 => ?_) (fun c_1388 => ?_)
          · have jc_1388 := dk_neqc (k := 0) (by decide +kernel) c_1388
            have jbc_1388 : 1 ≤ (x_1379).toInt := by omega
            clear jc_1388
            have qw_1380_1 : g_o (T_kd tb tn) (T_vl tb tn) 22 (t_ix tb tn (sa : Int32).toNatClampNeg) = true := (TKM.isw (TKM.keep TK m_2 (by decide) (by decide) (by decide) (by decide) (by decide) (by decide) (by decide) (by decide)) ((m_2.1 0 3 _ sM_0 (by decide)).trans f_sg) ((m_2.1 0 4 _ sM_0 (by decide)).trans f_sa) hk5.out (j := 22) (C := 6385252) (by decide) (by decide +kernel) w_1380_1).mp (by omega)
            obtain ⟨x_1389, f_x_1389⟩ := dg_I.long (i := 0) (k := 7) I_2 sM_0 (by decide +kernel)
            have w_1380_1_r : (sg).toInt = 1 := by obtain ⟨w9, hw9⟩ : ∃ w9, S_2.1 0 7 = .long w9 := ⟨_, f_x_1389⟩; exact ((w_1380_1 w9 hw9).mp (by omega)).1
            clear w_1380_1
            have hlx_2r := hlx_2 (by omega)
            clear hlx_2
            exact J_1387 ()  (by omega) (m_hid.mk (Or.inl qw_1380_1)) _ _ hP hS _ (lv_sub hl [0, 1, 2, 3] rfl)
          · have jc_1388 := dk_eqc (k := 0) (by decide +kernel) c_1388
            have qw_1380_1 : g_o (T_kd tb tn) (T_vl tb tn) 22 (t_ix tb tn (sa : Int32).toNatClampNeg) = false := g_iff_f (TKM.isw (TKM.keep TK m_2 (by decide) (by decide) (by decide) (by decide) (by decide) (by decide) (by decide) (by decide)) ((m_2.1 0 3 _ sM_0 (by decide)).trans f_sg) ((m_2.1 0 4 _ sM_0 (by decide)).trans f_sa) hk5.out (j := 22) (C := 6385252) (by decide) (by decide +kernel) w_1380_1) (by omega)
            clear w_1380_1
            refine lv_aload_n hx hb dX12_goesOn_299 rfl (lv_at hl 3 rfl) ?_
            refine lv_ldc2 hx hb hown (hts _ (bw_mem wB_346)) dX12_goesOn_300 ?_
            refine dg_calli hS hA1 hA (va_runV (As := [.long 28530]) (rest := []) F (c_m_isWord l g D o S_2 28530 sg ((m_2.1 0 3 _ sM_0 (by decide)).trans f_sg) (by omega) I_2 H.size) (cwV 1 hts (bw_V wB_322 wB_323 wB_324 wB_297 wB_321) rfl rfl rfl (by decide +kernel) ⟨Nat.le_of_ble_eq_true rfl, Nat.le_of_ble_eq_true rfl⟩) (dg_preV sM_0 rfl K ST hP hS hA1 hA) rfl rfl hl.1 rfl (lv_room (Nat.le_of_ble_eq_true rfl)) dX12_goesOn_303 ⟨Nat.le_of_ble_eq_true rfl, Nat.le_of_ble_eq_true rfl⟩) (fun x_1390 S_1391 hw_1391 H locs hP hS => ?_)
            rw [hw_1391.1] at hP
            obtain ⟨hq_1391, w_1391_0, w_1391_1, -⟩ := hw_1391
            try rw [hq_1391] at w_1391_1
            have w_1391_0 : 0 ≤ (x_1390).toInt ∧ (x_1390).toInt ≤ 1 := w_1391_0
            replace w_1391_1 : ∀ w9 : Int64, S_2.1 0 7 = .long w9 → ((x_1390).toInt = 1 ↔ ((sg).toInt = 1 ∧ w9.toInt = ((28530 : Int64)).toInt)) := w_1391_1
            refine lv_if_eq (tgt := 400) hx hb dX12_goesOn_306 (by decide) (fun c_1392 => ?_) (fun c_1392 => ?_)
            · have jc_1392 := dk_eqc (k := 0) (by decide +kernel) c_1392
              have qw_1391_1 : g_o (T_kd tb tn) (T_vl tb tn) 21 (t_ix tb tn (sa : Int32).toNatClampNeg) = false := g_iff_f (TKM.isw (TKM.keep TK m_2 (by decide) (by decide) (by decide) (by decide) (by decide) (by decide) (by decide) (by decide)) ((m_2.1 0 3 _ sM_0 (by decide)).trans f_sg) ((m_2.1 0 4 _ sM_0 (by decide)).trans f_sa) hk5.out (j := 21) (C := 28530) (by decide) (by decide +kernel) w_1391_1) (by omega)
              clear w_1391_1
              exact J_697 ()  (m_hid.mk (fun _ => ⟨qw_1380_1, qw_1391_1⟩)) _ _ hP hS _ (lv_sub hl [0, 1, 2, 3] rfl)
            · have jc_1392 := dk_neqc (k := 0) (by decide +kernel) c_1392
              have jbc_1392 : 1 ≤ (x_1390).toInt := by omega
              clear jc_1392
              have qw_1391_1 : g_o (T_kd tb tn) (T_vl tb tn) 21 (t_ix tb tn (sa : Int32).toNatClampNeg) = true := (TKM.isw (TKM.keep TK m_2 (by decide) (by decide) (by decide) (by decide) (by decide) (by decide) (by decide) (by decide)) ((m_2.1 0 3 _ sM_0 (by decide)).trans f_sg) ((m_2.1 0 4 _ sM_0 (by decide)).trans f_sa) hk5.out (j := 21) (C := 28530) (by decide) (by decide +kernel) w_1391_1).mp (by omega)
              obtain ⟨x_1393, f_x_1393⟩ := dg_I.long (i := 0) (k := 7) I_2 sM_0 (by decide +kernel)
              have w_1391_1_r : (sg).toInt = 1 := by obtain ⟨w9, hw9⟩ : ∃ w9, S_2.1 0 7 = .long w9 := ⟨_, f_x_1393⟩; exact ((w_1391_1 w9 hw9).mp (by omega)).1
              clear w_1391_1
              have hlx_2r := hlx_2 (by omega)
              clear hlx_2
              exact J_1387 ()  (by omega) (m_hid.mk (Or.inr qw_1391_1)) _ _ hP hS _ (lv_sub hl [0, 1, 2, 3] rfl)
      refine lv_if_eq (tgt := 285) hx hb dX12_goesOn_189 (by decide) (fun c_1394 => ?_) (fun c_1394 => ?_)
      · have jc_1394 := dk_eqc (k := 0) (by decide +kernel) c_1394
        clear w_9_1
        exact J_486 ()  (m_hid.mk (fun q8 q9 => by exfalso; omega)) _ _ hP hS _ (lv_sub hl [0, 1, 2, 3] rfl)
      · have jc_1394 := dk_neqc (k := 0) (by decide +kernel) c_1394
        have jbc_1394 : 1 ≤ (x_8).toInt := by omega
        clear jc_1394
        have hts1 := m_hid.mk (w_9_1.out.mp (by omega))
        clear w_9_1
        refine lv_aload_n hx hb dX12_goesOn_192 rfl (lv_at hl 3 rfl) ?_
        refine dg_get (C := RX12) (T := TX12) (N := 77) hx hb hts (fun w h => bw_mem (wU_X12 w h)) hown K hP sM_0 rfl 38 (by decide) (hts _ (bw_mem wB_417)) (fun _ h9 => h9) (v := .ref (o + 23)) (show S_2.1 0 38 = .ref (o + 23) from dg_I.rel (d := 23) I_2 sM_0 (by decide +kernel)) dX12_goesOn_193 ?_
        refine lv_iload_n hx hb dX12_goesOn_196 rfl (lv_at hl 2 rfl) ?_
        have hin_1395 : vp_in x_5 20 := (dk_inv (by omega) (by omega))
        refine dg_iald hx hb K hP sM_23 hin_1395 dX12_goesOn_197 (fun y_1396 ey_1396 => ?_)
        obtain rfl : x_11 = y_1396 := (ey_1396.trans ex_11.symm).symm
        refine lv_if_ne (tgt := 285) hx hb dX12_goesOn_198 (by decide) (fun c_1397 => ?_) (fun c_1397 => ?_)
        · have jc_1397 := dk_neqc (k := 0) (by decide +kernel) c_1397
          have jbc_1397 : 1 ≤ (x_11).toInt := by omega
          clear jc_1397
          exact J_486 ()  (m_hid.mk (fun q8 q9 => by exfalso; omega)) _ _ hP hS _ (lv_sub hl [0, 1, 2, 3] rfl)
        · have jc_1397 := dk_eqc (k := 0) (by decide +kernel) c_1397
          refine lv_aload_n hx hb dX12_goesOn_201 rfl (lv_at hl 3 rfl) ?_
          refine lv_bipush (v := 60) hx hb dX12_goesOn_202 (by decide +kernel) ?_
          refine dg_calli hS hA1 hA (va_runV (As := [.int 60]) (rest := []) F (c_m_isSign l g D o S_2 60 sg ((m_2.1 0 3 _ sM_0 (by decide)).trans f_sg) (by omega) va ((m_2.1 0 6 _ sM_0 (by decide)).trans f_va) (by omega) I_2 H.size) (cwV 1 hts (bw_V wB_314 wB_315 wB_316 wB_297 wB_313) rfl rfl rfl (by decide +kernel) ⟨Nat.le_of_ble_eq_true rfl, Nat.le_of_ble_eq_true rfl⟩) (dg_preV sM_0 rfl K ST hP hS hA1 hA) rfl rfl hl.1 rfl (lv_room (Nat.le_of_ble_eq_true rfl)) dX12_goesOn_204 ⟨Nat.le_of_ble_eq_true rfl, Nat.le_of_ble_eq_true rfl⟩) (fun x_1398 S_1399 hw_1399 H locs hP hS => ?_)
          rw [hw_1399.1] at hP
          obtain ⟨hq_1399, w_1399_0, w_1399_1, -⟩ := hw_1399
          have hz_1400 : (60 : Int32).toInt = 60 := by decide +kernel
          have w_1399_0 : 0 ≤ (x_1398).toInt ∧ (x_1398).toInt ≤ 1 := w_1399_0
          have w_1399_1 : (x_1398).toInt = 1 ↔ ((sg).toInt = 3 ∧ (va).toInt = ((60 : Int32)).toInt) := w_1399_1
          have J_1410 : ∀ (u9 : Unit), ((sg).toInt = 3) → (m_hid (g_co (T_kd tb tn) (T_vl tb tn) (t_ix tb tn (sa : Int32).toNatClampNeg) = true)) → ∀ (H : Heap) (locs : List Loc), va_P D vwCl (dg_w g shM o rfM S_2) H → va_S A s.heap H locs → ∀ ls : Array Slot, lv_has ls 5 [(3, .int x_8), (2, .int x_7), (1, .int x_5), (0, .ref (o + 0))] → W p l e ({ frames := 3, cells := 0, slots := 0, locals := 77 } : Room) s m args below meth c H locs 0 0 Q9 (F0 m 228 ls []) := by
            intro u9 rel_0 rel_1 H locs hP hS ls hl
            clear w_1399_1
            have hcmp := rel_1
            exact absurd ⟨by have h9 := hts1.out; omega, Or.inl ⟨by omega, hcmp.out⟩⟩ HnB
          refine lv_if_ne (tgt := 228) hx hb dX12_goesOn_207 (by decide) (fun c_1411 => ?_) (fun c_1411 => ?_)
          · have jc_1411 := dk_neqc (k := 0) (by decide +kernel) c_1411
            have jbc_1411 : 1 ≤ (x_1398).toInt := by omega
            clear jc_1411
            have qw_1399_1 : g_s (T_kd tb tn) (T_vl tb tn) 60 (t_ix tb tn (sa : Int32).toNatClampNeg) = true := (TKM.iss (TKM.keep TK m_2 (by decide) (by decide) (by decide) (by decide) (by decide) (by decide) (by decide) (by decide)) ((m_2.1 0 3 _ sM_0 (by decide)).trans f_sg) ((m_2.1 0 4 _ sM_0 (by decide)).trans f_sa) ((m_2.1 0 6 _ sM_0 (by decide)).trans f_va) hk5.out (c := 60) (by have h9 := w_1399_1; rw [show (60 : Int32).toInt = 60 from by decide +kernel] at h9; exact h9)).mp (by omega)
            have w_1399_1_r := w_1399_1.mp (by omega)
            obtain ⟨w_1399_1_r1, w_1399_1_r2⟩ := w_1399_1_r
            clear w_1399_1
            have hlx_2r := hlx_2 (by omega)
            clear hlx_2
            exact J_1410 ()  (by omega) (m_hid.mk (g_co_1 qw_1399_1)) _ _ hP hS _ (lv_sub hl [0, 1, 2, 3] rfl)
          · have jc_1411 := dk_eqc (k := 0) (by decide +kernel) c_1411
            have qw_1399_1 : g_s (T_kd tb tn) (T_vl tb tn) 60 (t_ix tb tn (sa : Int32).toNatClampNeg) = false := g_iff_f (TKM.iss (TKM.keep TK m_2 (by decide) (by decide) (by decide) (by decide) (by decide) (by decide) (by decide) (by decide)) ((m_2.1 0 3 _ sM_0 (by decide)).trans f_sg) ((m_2.1 0 4 _ sM_0 (by decide)).trans f_sa) ((m_2.1 0 6 _ sM_0 (by decide)).trans f_va) hk5.out (c := 60) (by have h9 := w_1399_1; rw [show (60 : Int32).toInt = 60 from by decide +kernel] at h9; exact h9)) (by omega)
            clear w_1399_1
            refine lv_aload_n hx hb dX12_goesOn_210 rfl (lv_at hl 3 rfl) ?_
            refine lv_bipush (v := 62) hx hb dX12_goesOn_211 (by decide +kernel) ?_
            refine dg_calli hS hA1 hA (va_runV (As := [.int 62]) (rest := []) F (c_m_isSign l g D o S_2 62 sg ((m_2.1 0 3 _ sM_0 (by decide)).trans f_sg) (by omega) va ((m_2.1 0 6 _ sM_0 (by decide)).trans f_va) (by omega) I_2 H.size) (cwV 1 hts (bw_V wB_314 wB_315 wB_316 wB_297 wB_313) rfl rfl rfl (by decide +kernel) ⟨Nat.le_of_ble_eq_true rfl, Nat.le_of_ble_eq_true rfl⟩) (dg_preV sM_0 rfl K ST hP hS hA1 hA) rfl rfl hl.1 rfl (lv_room (Nat.le_of_ble_eq_true rfl)) dX12_goesOn_213 ⟨Nat.le_of_ble_eq_true rfl, Nat.le_of_ble_eq_true rfl⟩) (fun x_1412 S_1413 hw_1413 H locs hP hS => ?_)
            rw [hw_1413.1] at hP
            obtain ⟨hq_1413, w_1413_0, w_1413_1, -⟩ := hw_1413
            have hz_1414 : (62 : Int32).toInt = 62 := by decide +kernel
            have w_1413_0 : 0 ≤ (x_1412).toInt ∧ (x_1412).toInt ≤ 1 := w_1413_0
            have w_1413_1 : (x_1412).toInt = 1 ↔ ((sg).toInt = 3 ∧ (va).toInt = ((62 : Int32)).toInt) := w_1413_1
            refine lv_if_ne (tgt := 228) hx hb dX12_goesOn_216 (by decide) (fun c_1415 => ?_) (fun c_1415 => ?_)
            · have jc_1415 := dk_neqc (k := 0) (by decide +kernel) c_1415
              have jbc_1415 : 1 ≤ (x_1412).toInt := by omega
              clear jc_1415
              have qw_1413_1 : g_s (T_kd tb tn) (T_vl tb tn) 62 (t_ix tb tn (sa : Int32).toNatClampNeg) = true := (TKM.iss (TKM.keep TK m_2 (by decide) (by decide) (by decide) (by decide) (by decide) (by decide) (by decide) (by decide)) ((m_2.1 0 3 _ sM_0 (by decide)).trans f_sg) ((m_2.1 0 4 _ sM_0 (by decide)).trans f_sa) ((m_2.1 0 6 _ sM_0 (by decide)).trans f_va) hk5.out (c := 62) (by have h9 := w_1413_1; rw [show (62 : Int32).toInt = 62 from by decide +kernel] at h9; exact h9)).mp (by omega)
              have w_1413_1_r := w_1413_1.mp (by omega)
              obtain ⟨w_1413_1_r1, w_1413_1_r2⟩ := w_1413_1_r
              clear w_1413_1
              have hlx_2r := hlx_2 (by omega)
              clear hlx_2
              exact J_1410 ()  (by omega) (m_hid.mk (g_co_2 qw_1413_1)) _ _ hP hS _ (lv_sub hl [0, 1, 2, 3] rfl)
            · have jc_1415 := dk_eqc (k := 0) (by decide +kernel) c_1415
              have qw_1413_1 : g_s (T_kd tb tn) (T_vl tb tn) 62 (t_ix tb tn (sa : Int32).toNatClampNeg) = false := g_iff_f (TKM.iss (TKM.keep TK m_2 (by decide) (by decide) (by decide) (by decide) (by decide) (by decide) (by decide) (by decide)) ((m_2.1 0 3 _ sM_0 (by decide)).trans f_sg) ((m_2.1 0 4 _ sM_0 (by decide)).trans f_sa) ((m_2.1 0 6 _ sM_0 (by decide)).trans f_va) hk5.out (c := 62) (by have h9 := w_1413_1; rw [show (62 : Int32).toInt = 62 from by decide +kernel] at h9; exact h9)) (by omega)
              clear w_1413_1
              refine lv_aload_n hx hb dX12_goesOn_219 rfl (lv_at hl 3 rfl) ?_
              refine lv_bipush (v := 61) hx hb dX12_goesOn_220 (by decide +kernel) ?_
              refine dg_calli hS hA1 hA (va_runV (As := [.int 61]) (rest := []) F (c_m_isSign l g D o S_2 61 sg ((m_2.1 0 3 _ sM_0 (by decide)).trans f_sg) (by omega) va ((m_2.1 0 6 _ sM_0 (by decide)).trans f_va) (by omega) I_2 H.size) (cwV 1 hts (bw_V wB_314 wB_315 wB_316 wB_297 wB_313) rfl rfl rfl (by decide +kernel) ⟨Nat.le_of_ble_eq_true rfl, Nat.le_of_ble_eq_true rfl⟩) (dg_preV sM_0 rfl K ST hP hS hA1 hA) rfl rfl hl.1 rfl (lv_room (Nat.le_of_ble_eq_true rfl)) dX12_goesOn_222 ⟨Nat.le_of_ble_eq_true rfl, Nat.le_of_ble_eq_true rfl⟩) (fun x_1416 S_1417 hw_1417 H locs hP hS => ?_)
              rw [hw_1417.1] at hP
              obtain ⟨hq_1417, w_1417_0, w_1417_1, -⟩ := hw_1417
              have hz_1418 : (61 : Int32).toInt = 61 := by decide +kernel
              have w_1417_0 : 0 ≤ (x_1416).toInt ∧ (x_1416).toInt ≤ 1 := w_1417_0
              have w_1417_1 : (x_1416).toInt = 1 ↔ ((sg).toInt = 3 ∧ (va).toInt = ((61 : Int32)).toInt) := w_1417_1
              refine lv_if_eq (tgt := 285) hx hb dX12_goesOn_225 (by decide) (fun c_1419 => ?_) (fun c_1419 => ?_)
              · have jc_1419 := dk_eqc (k := 0) (by decide +kernel) c_1419
                have qw_1417_1 : g_s (T_kd tb tn) (T_vl tb tn) 61 (t_ix tb tn (sa : Int32).toNatClampNeg) = false := g_iff_f (TKM.iss (TKM.keep TK m_2 (by decide) (by decide) (by decide) (by decide) (by decide) (by decide) (by decide) (by decide)) ((m_2.1 0 3 _ sM_0 (by decide)).trans f_sg) ((m_2.1 0 4 _ sM_0 (by decide)).trans f_sa) ((m_2.1 0 6 _ sM_0 (by decide)).trans f_va) hk5.out (c := 61) (by have h9 := w_1417_1; rw [show (61 : Int32).toInt = 61 from by decide +kernel] at h9; exact h9)) (by omega)
                clear w_1417_1
                exact J_486 ()  (m_hid.mk (fun _ _ => g_co_f qw_1399_1 qw_1413_1 qw_1417_1)) _ _ hP hS _ (lv_sub hl [0, 1, 2, 3] rfl)
              · have jc_1419 := dk_neqc (k := 0) (by decide +kernel) c_1419
                have jbc_1419 : 1 ≤ (x_1416).toInt := by omega
                clear jc_1419
                have qw_1417_1 : g_s (T_kd tb tn) (T_vl tb tn) 61 (t_ix tb tn (sa : Int32).toNatClampNeg) = true := (TKM.iss (TKM.keep TK m_2 (by decide) (by decide) (by decide) (by decide) (by decide) (by decide) (by decide) (by decide)) ((m_2.1 0 3 _ sM_0 (by decide)).trans f_sg) ((m_2.1 0 4 _ sM_0 (by decide)).trans f_sa) ((m_2.1 0 6 _ sM_0 (by decide)).trans f_va) hk5.out (c := 61) (by have h9 := w_1417_1; rw [show (61 : Int32).toInt = 61 from by decide +kernel] at h9; exact h9)).mp (by omega)
                have w_1417_1_r := w_1417_1.mp (by omega)
                obtain ⟨w_1417_1_r1, w_1417_1_r2⟩ := w_1417_1_r
                clear w_1417_1
                have hlx_2r := hlx_2 (by omega)
                clear hlx_2
                exact J_1410 ()  (by omega) (m_hid.mk (g_co_3 qw_1417_1)) _ _ hP hS _ (lv_sub hl [0, 1, 2, 3] rfl)
    refine lv_icmp_ge (tgt := 188) hx hb dX12_goesOn_39 (by decide) (fun c_1420 => ?_) (fun c_1420 => ?_)
    · have jc_1420 := dk_gec (k := 2) (by decide +kernel) c_1420
      exact J_259 ()  (m_hid.mk (fun q9 => by exfalso; omega)) _ _ hP hS _ (lv_sub hl [0, 1, 2, 3] rfl)
    · have jc_1420 := dk_ngec (k := 2) (by decide +kernel) c_1420
      refine lv_aload_n hx hb dX12_goesOn_42 rfl (lv_at hl 3 rfl) ?_
      refine lv_bipush (v := 43) hx hb dX12_goesOn_43 (by decide +kernel) ?_
      refine dg_calli hS hA1 hA (va_runV (As := [.int 43]) (rest := []) F (c_m_isSign l g D o S_2 43 sg ((m_2.1 0 3 _ sM_0 (by decide)).trans f_sg) (by omega) va ((m_2.1 0 6 _ sM_0 (by decide)).trans f_va) (by omega) I_2 H.size) (cwV 1 hts (bw_V wB_314 wB_315 wB_316 wB_297 wB_313) rfl rfl rfl (by decide +kernel) ⟨Nat.le_of_ble_eq_true rfl, Nat.le_of_ble_eq_true rfl⟩) (dg_preV sM_0 rfl K ST hP hS hA1 hA) rfl rfl hl.1 rfl (lv_room (Nat.le_of_ble_eq_true rfl)) dX12_goesOn_45 ⟨Nat.le_of_ble_eq_true rfl, Nat.le_of_ble_eq_true rfl⟩) (fun x_1421 S_1422 hw_1422 H locs hP hS => ?_)
      rw [hw_1422.1] at hP
      obtain ⟨hq_1422, w_1422_0, w_1422_1, -⟩ := hw_1422
      have hz_1423 : (43 : Int32).toInt = 43 := by decide +kernel
      have w_1422_0 : 0 ≤ (x_1421).toInt ∧ (x_1421).toInt ≤ 1 := w_1422_0
      have w_1422_1 : (x_1421).toInt = 1 ↔ ((sg).toInt = 3 ∧ (va).toInt = ((43 : Int32)).toInt) := w_1422_1
      have J_1441 : ∀ (u9 : Unit), ((sg).toInt = 3) → ((va).toInt = 43 ∨ (va).toInt = 45 ∨ (va).toInt = 42 ∨ (va).toInt = 47 ∨ (va).toInt = 37) → (m_hid (g_so (T_kd tb tn) (T_vl tb tn) (t_ix tb tn (sa : Int32).toNatClampNeg) = true ∨ g_po (T_kd tb tn) (T_vl tb tn) (t_ix tb tn (sa : Int32).toNatClampNeg) = true)) → ∀ (H : Heap) (locs : List Loc), va_P D vwCl (dg_w g shM o rfM S_2) H → va_S A s.heap H locs → ∀ ls : Array Slot, lv_has ls 5 [(3, .int x_8), (2, .int x_7), (1, .int x_5), (0, .ref (o + 0))] → W p l e ({ frames := 3, cells := 0, slots := 0, locals := 77 } : Room) s m args below meth c H locs 0 0 Q9 (F0 m 87 ls []) := by
        intro u9 rel_0 rel_1 rel_2 H locs hP hS ls hl
        clear w_1422_1
        have hop := rel_2
        have hlx_2r := hlx_2 (by omega)
        clear hlx_2
        exact absurd ⟨by omega, hop.out⟩ HnA
      refine lv_if_ne (tgt := 87) hx hb dX12_goesOn_48 (by decide) (fun c_1442 => ?_) (fun c_1442 => ?_)
      · have jc_1442 := dk_neqc (k := 0) (by decide +kernel) c_1442
        have jbc_1442 : 1 ≤ (x_1421).toInt := by omega
        clear jc_1442
        have qw_1422_1 : g_s (T_kd tb tn) (T_vl tb tn) 43 (t_ix tb tn (sa : Int32).toNatClampNeg) = true := (TKM.iss (TKM.keep TK m_2 (by decide) (by decide) (by decide) (by decide) (by decide) (by decide) (by decide) (by decide)) ((m_2.1 0 3 _ sM_0 (by decide)).trans f_sg) ((m_2.1 0 4 _ sM_0 (by decide)).trans f_sa) ((m_2.1 0 6 _ sM_0 (by decide)).trans f_va) hk5.out (c := 43) (by have h9 := w_1422_1; rw [show (43 : Int32).toInt = 43 from by decide +kernel] at h9; exact h9)).mp (by omega)
        have w_1422_1_r := w_1422_1.mp (by omega)
        obtain ⟨w_1422_1_r1, w_1422_1_r2⟩ := w_1422_1_r
        clear w_1422_1
        have hlx_2r := hlx_2 (by omega)
        clear hlx_2
        exact J_1441 ()  (by omega) (by omega) (m_hid.mk (g_so_1 qw_1422_1)) _ _ hP hS _ (lv_sub hl [0, 1, 2, 3] rfl)
      · have jc_1442 := dk_eqc (k := 0) (by decide +kernel) c_1442
        have qw_1422_1 : g_s (T_kd tb tn) (T_vl tb tn) 43 (t_ix tb tn (sa : Int32).toNatClampNeg) = false := g_iff_f (TKM.iss (TKM.keep TK m_2 (by decide) (by decide) (by decide) (by decide) (by decide) (by decide) (by decide) (by decide)) ((m_2.1 0 3 _ sM_0 (by decide)).trans f_sg) ((m_2.1 0 4 _ sM_0 (by decide)).trans f_sa) ((m_2.1 0 6 _ sM_0 (by decide)).trans f_va) hk5.out (c := 43) (by have h9 := w_1422_1; rw [show (43 : Int32).toInt = 43 from by decide +kernel] at h9; exact h9)) (by omega)
        clear w_1422_1
        refine lv_aload_n hx hb dX12_goesOn_51 rfl (lv_at hl 3 rfl) ?_
        refine lv_bipush (v := 45) hx hb dX12_goesOn_52 (by decide +kernel) ?_
        refine dg_calli hS hA1 hA (va_runV (As := [.int 45]) (rest := []) F (c_m_isSign l g D o S_2 45 sg ((m_2.1 0 3 _ sM_0 (by decide)).trans f_sg) (by omega) va ((m_2.1 0 6 _ sM_0 (by decide)).trans f_va) (by omega) I_2 H.size) (cwV 1 hts (bw_V wB_314 wB_315 wB_316 wB_297 wB_313) rfl rfl rfl (by decide +kernel) ⟨Nat.le_of_ble_eq_true rfl, Nat.le_of_ble_eq_true rfl⟩) (dg_preV sM_0 rfl K ST hP hS hA1 hA) rfl rfl hl.1 rfl (lv_room (Nat.le_of_ble_eq_true rfl)) dX12_goesOn_54 ⟨Nat.le_of_ble_eq_true rfl, Nat.le_of_ble_eq_true rfl⟩) (fun x_1443 S_1444 hw_1444 H locs hP hS => ?_)
        rw [hw_1444.1] at hP
        obtain ⟨hq_1444, w_1444_0, w_1444_1, -⟩ := hw_1444
        have hz_1445 : (45 : Int32).toInt = 45 := by decide +kernel
        have w_1444_0 : 0 ≤ (x_1443).toInt ∧ (x_1443).toInt ≤ 1 := w_1444_0
        have w_1444_1 : (x_1443).toInt = 1 ↔ ((sg).toInt = 3 ∧ (va).toInt = ((45 : Int32)).toInt) := w_1444_1
        refine lv_if_ne (tgt := 87) hx hb dX12_goesOn_57 (by decide) (fun c_1446 => ?_) (fun c_1446 => ?_)
        · have jc_1446 := dk_neqc (k := 0) (by decide +kernel) c_1446
          have jbc_1446 : 1 ≤ (x_1443).toInt := by omega
          clear jc_1446
          have qw_1444_1 : g_s (T_kd tb tn) (T_vl tb tn) 45 (t_ix tb tn (sa : Int32).toNatClampNeg) = true := (TKM.iss (TKM.keep TK m_2 (by decide) (by decide) (by decide) (by decide) (by decide) (by decide) (by decide) (by decide)) ((m_2.1 0 3 _ sM_0 (by decide)).trans f_sg) ((m_2.1 0 4 _ sM_0 (by decide)).trans f_sa) ((m_2.1 0 6 _ sM_0 (by decide)).trans f_va) hk5.out (c := 45) (by have h9 := w_1444_1; rw [show (45 : Int32).toInt = 45 from by decide +kernel] at h9; exact h9)).mp (by omega)
          have w_1444_1_r := w_1444_1.mp (by omega)
          obtain ⟨w_1444_1_r1, w_1444_1_r2⟩ := w_1444_1_r
          clear w_1444_1
          have hlx_2r := hlx_2 (by omega)
          clear hlx_2
          exact J_1441 ()  (by omega) (by omega) (m_hid.mk (g_so_2 qw_1444_1)) _ _ hP hS _ (lv_sub hl [0, 1, 2, 3] rfl)
        · have jc_1446 := dk_eqc (k := 0) (by decide +kernel) c_1446
          have qw_1444_1 : g_s (T_kd tb tn) (T_vl tb tn) 45 (t_ix tb tn (sa : Int32).toNatClampNeg) = false := g_iff_f (TKM.iss (TKM.keep TK m_2 (by decide) (by decide) (by decide) (by decide) (by decide) (by decide) (by decide) (by decide)) ((m_2.1 0 3 _ sM_0 (by decide)).trans f_sg) ((m_2.1 0 4 _ sM_0 (by decide)).trans f_sa) ((m_2.1 0 6 _ sM_0 (by decide)).trans f_va) hk5.out (c := 45) (by have h9 := w_1444_1; rw [show (45 : Int32).toInt = 45 from by decide +kernel] at h9; exact h9)) (by omega)
          clear w_1444_1
          refine lv_aload_n hx hb dX12_goesOn_60 rfl (lv_at hl 3 rfl) ?_
          refine lv_bipush (v := 42) hx hb dX12_goesOn_61 (by decide +kernel) ?_
          refine dg_calli hS hA1 hA (va_runV (As := [.int 42]) (rest := []) F (c_m_isSign l g D o S_2 42 sg ((m_2.1 0 3 _ sM_0 (by decide)).trans f_sg) (by omega) va ((m_2.1 0 6 _ sM_0 (by decide)).trans f_va) (by omega) I_2 H.size) (cwV 1 hts (bw_V wB_314 wB_315 wB_316 wB_297 wB_313) rfl rfl rfl (by decide +kernel) ⟨Nat.le_of_ble_eq_true rfl, Nat.le_of_ble_eq_true rfl⟩) (dg_preV sM_0 rfl K ST hP hS hA1 hA) rfl rfl hl.1 rfl (lv_room (Nat.le_of_ble_eq_true rfl)) dX12_goesOn_63 ⟨Nat.le_of_ble_eq_true rfl, Nat.le_of_ble_eq_true rfl⟩) (fun x_1447 S_1448 hw_1448 H locs hP hS => ?_)
          rw [hw_1448.1] at hP
          obtain ⟨hq_1448, w_1448_0, w_1448_1, -⟩ := hw_1448
          have hz_1449 : (42 : Int32).toInt = 42 := by decide +kernel
          have w_1448_0 : 0 ≤ (x_1447).toInt ∧ (x_1447).toInt ≤ 1 := w_1448_0
          have w_1448_1 : (x_1447).toInt = 1 ↔ ((sg).toInt = 3 ∧ (va).toInt = ((42 : Int32)).toInt) := w_1448_1
          refine lv_if_ne (tgt := 87) hx hb dX12_goesOn_66 (by decide) (fun c_1450 => ?_) (fun c_1450 => ?_)
          · have jc_1450 := dk_neqc (k := 0) (by decide +kernel) c_1450
            have jbc_1450 : 1 ≤ (x_1447).toInt := by omega
            clear jc_1450
            have qw_1448_1 : g_s (T_kd tb tn) (T_vl tb tn) 42 (t_ix tb tn (sa : Int32).toNatClampNeg) = true := (TKM.iss (TKM.keep TK m_2 (by decide) (by decide) (by decide) (by decide) (by decide) (by decide) (by decide) (by decide)) ((m_2.1 0 3 _ sM_0 (by decide)).trans f_sg) ((m_2.1 0 4 _ sM_0 (by decide)).trans f_sa) ((m_2.1 0 6 _ sM_0 (by decide)).trans f_va) hk5.out (c := 42) (by have h9 := w_1448_1; rw [show (42 : Int32).toInt = 42 from by decide +kernel] at h9; exact h9)).mp (by omega)
            have w_1448_1_r := w_1448_1.mp (by omega)
            obtain ⟨w_1448_1_r1, w_1448_1_r2⟩ := w_1448_1_r
            clear w_1448_1
            have hlx_2r := hlx_2 (by omega)
            clear hlx_2
            exact J_1441 ()  (by omega) (by omega) (m_hid.mk (g_po_1 qw_1448_1)) _ _ hP hS _ (lv_sub hl [0, 1, 2, 3] rfl)
          · have jc_1450 := dk_eqc (k := 0) (by decide +kernel) c_1450
            have qw_1448_1 : g_s (T_kd tb tn) (T_vl tb tn) 42 (t_ix tb tn (sa : Int32).toNatClampNeg) = false := g_iff_f (TKM.iss (TKM.keep TK m_2 (by decide) (by decide) (by decide) (by decide) (by decide) (by decide) (by decide) (by decide)) ((m_2.1 0 3 _ sM_0 (by decide)).trans f_sg) ((m_2.1 0 4 _ sM_0 (by decide)).trans f_sa) ((m_2.1 0 6 _ sM_0 (by decide)).trans f_va) hk5.out (c := 42) (by have h9 := w_1448_1; rw [show (42 : Int32).toInt = 42 from by decide +kernel] at h9; exact h9)) (by omega)
            clear w_1448_1
            refine lv_aload_n hx hb dX12_goesOn_69 rfl (lv_at hl 3 rfl) ?_
            refine lv_bipush (v := 47) hx hb dX12_goesOn_70 (by decide +kernel) ?_
            refine dg_calli hS hA1 hA (va_runV (As := [.int 47]) (rest := []) F (c_m_isSign l g D o S_2 47 sg ((m_2.1 0 3 _ sM_0 (by decide)).trans f_sg) (by omega) va ((m_2.1 0 6 _ sM_0 (by decide)).trans f_va) (by omega) I_2 H.size) (cwV 1 hts (bw_V wB_314 wB_315 wB_316 wB_297 wB_313) rfl rfl rfl (by decide +kernel) ⟨Nat.le_of_ble_eq_true rfl, Nat.le_of_ble_eq_true rfl⟩) (dg_preV sM_0 rfl K ST hP hS hA1 hA) rfl rfl hl.1 rfl (lv_room (Nat.le_of_ble_eq_true rfl)) dX12_goesOn_72 ⟨Nat.le_of_ble_eq_true rfl, Nat.le_of_ble_eq_true rfl⟩) (fun x_1451 S_1452 hw_1452 H locs hP hS => ?_)
            rw [hw_1452.1] at hP
            obtain ⟨hq_1452, w_1452_0, w_1452_1, -⟩ := hw_1452
            have hz_1453 : (47 : Int32).toInt = 47 := by decide +kernel
            have w_1452_0 : 0 ≤ (x_1451).toInt ∧ (x_1451).toInt ≤ 1 := w_1452_0
            have w_1452_1 : (x_1451).toInt = 1 ↔ ((sg).toInt = 3 ∧ (va).toInt = ((47 : Int32)).toInt) := w_1452_1
            refine lv_if_ne (tgt := 87) hx hb dX12_goesOn_75 (by decide) (fun c_1454 => ?_) (fun c_1454 => ?_)
            · have jc_1454 := dk_neqc (k := 0) (by decide +kernel) c_1454
              have jbc_1454 : 1 ≤ (x_1451).toInt := by omega
              clear jc_1454
              have qw_1452_1 : g_s (T_kd tb tn) (T_vl tb tn) 47 (t_ix tb tn (sa : Int32).toNatClampNeg) = true := (TKM.iss (TKM.keep TK m_2 (by decide) (by decide) (by decide) (by decide) (by decide) (by decide) (by decide) (by decide)) ((m_2.1 0 3 _ sM_0 (by decide)).trans f_sg) ((m_2.1 0 4 _ sM_0 (by decide)).trans f_sa) ((m_2.1 0 6 _ sM_0 (by decide)).trans f_va) hk5.out (c := 47) (by have h9 := w_1452_1; rw [show (47 : Int32).toInt = 47 from by decide +kernel] at h9; exact h9)).mp (by omega)
              have w_1452_1_r := w_1452_1.mp (by omega)
              obtain ⟨w_1452_1_r1, w_1452_1_r2⟩ := w_1452_1_r
              clear w_1452_1
              have hlx_2r := hlx_2 (by omega)
              clear hlx_2
              exact J_1441 ()  (by omega) (by omega) (m_hid.mk (g_po_2 qw_1452_1)) _ _ hP hS _ (lv_sub hl [0, 1, 2, 3] rfl)
            · have jc_1454 := dk_eqc (k := 0) (by decide +kernel) c_1454
              have qw_1452_1 : g_s (T_kd tb tn) (T_vl tb tn) 47 (t_ix tb tn (sa : Int32).toNatClampNeg) = false := g_iff_f (TKM.iss (TKM.keep TK m_2 (by decide) (by decide) (by decide) (by decide) (by decide) (by decide) (by decide) (by decide)) ((m_2.1 0 3 _ sM_0 (by decide)).trans f_sg) ((m_2.1 0 4 _ sM_0 (by decide)).trans f_sa) ((m_2.1 0 6 _ sM_0 (by decide)).trans f_va) hk5.out (c := 47) (by have h9 := w_1452_1; rw [show (47 : Int32).toInt = 47 from by decide +kernel] at h9; exact h9)) (by omega)
              clear w_1452_1
              refine lv_aload_n hx hb dX12_goesOn_78 rfl (lv_at hl 3 rfl) ?_
              refine lv_bipush (v := 37) hx hb dX12_goesOn_79 (by decide +kernel) ?_
              refine dg_calli hS hA1 hA (va_runV (As := [.int 37]) (rest := []) F (c_m_isSign l g D o S_2 37 sg ((m_2.1 0 3 _ sM_0 (by decide)).trans f_sg) (by omega) va ((m_2.1 0 6 _ sM_0 (by decide)).trans f_va) (by omega) I_2 H.size) (cwV 1 hts (bw_V wB_314 wB_315 wB_316 wB_297 wB_313) rfl rfl rfl (by decide +kernel) ⟨Nat.le_of_ble_eq_true rfl, Nat.le_of_ble_eq_true rfl⟩) (dg_preV sM_0 rfl K ST hP hS hA1 hA) rfl rfl hl.1 rfl (lv_room (Nat.le_of_ble_eq_true rfl)) dX12_goesOn_81 ⟨Nat.le_of_ble_eq_true rfl, Nat.le_of_ble_eq_true rfl⟩) (fun x_1455 S_1456 hw_1456 H locs hP hS => ?_)
              rw [hw_1456.1] at hP
              obtain ⟨hq_1456, w_1456_0, w_1456_1, -⟩ := hw_1456
              have hz_1457 : (37 : Int32).toInt = 37 := by decide +kernel
              have w_1456_0 : 0 ≤ (x_1455).toInt ∧ (x_1455).toInt ≤ 1 := w_1456_0
              have w_1456_1 : (x_1455).toInt = 1 ↔ ((sg).toInt = 3 ∧ (va).toInt = ((37 : Int32)).toInt) := w_1456_1
              refine lv_if_eq (tgt := 188) hx hb dX12_goesOn_84 (by decide) (fun c_1458 => ?_) (fun c_1458 => ?_)
              · have jc_1458 := dk_eqc (k := 0) (by decide +kernel) c_1458
                have qw_1456_1 : g_s (T_kd tb tn) (T_vl tb tn) 37 (t_ix tb tn (sa : Int32).toNatClampNeg) = false := g_iff_f (TKM.iss (TKM.keep TK m_2 (by decide) (by decide) (by decide) (by decide) (by decide) (by decide) (by decide) (by decide)) ((m_2.1 0 3 _ sM_0 (by decide)).trans f_sg) ((m_2.1 0 4 _ sM_0 (by decide)).trans f_sa) ((m_2.1 0 6 _ sM_0 (by decide)).trans f_va) hk5.out (c := 37) (by have h9 := w_1456_1; rw [show (37 : Int32).toInt = 37 from by decide +kernel] at h9; exact h9)) (by omega)
                clear w_1456_1
                exact J_259 ()  (m_hid.mk (fun _ => ⟨g_so_f qw_1422_1 qw_1444_1, g_po_f qw_1448_1 qw_1452_1 qw_1456_1⟩)) _ _ hP hS _ (lv_sub hl [0, 1, 2, 3] rfl)
              · have jc_1458 := dk_neqc (k := 0) (by decide +kernel) c_1458
                have jbc_1458 : 1 ≤ (x_1455).toInt := by omega
                clear jc_1458
                have qw_1456_1 : g_s (T_kd tb tn) (T_vl tb tn) 37 (t_ix tb tn (sa : Int32).toNatClampNeg) = true := (TKM.iss (TKM.keep TK m_2 (by decide) (by decide) (by decide) (by decide) (by decide) (by decide) (by decide) (by decide)) ((m_2.1 0 3 _ sM_0 (by decide)).trans f_sg) ((m_2.1 0 4 _ sM_0 (by decide)).trans f_sa) ((m_2.1 0 6 _ sM_0 (by decide)).trans f_va) hk5.out (c := 37) (by have h9 := w_1456_1; rw [show (37 : Int32).toInt = 37 from by decide +kernel] at h9; exact h9)).mp (by omega)
                have w_1456_1_r := w_1456_1.mp (by omega)
                obtain ⟨w_1456_1_r1, w_1456_1_r2⟩ := w_1456_1_r
                clear w_1456_1
                have hlx_2r := hlx_2 (by omega)
                clear hlx_2
                exact J_1441 ()  (by omega) (by omega) (m_hid.mk (g_po_3 qw_1456_1)) _ _ hP hS _ (lv_sub hl [0, 1, 2, 3] rfl)
  · have jc_4 := dk_nlec (k := 0) (by decide +kernel) c_4
    refine lv_iconst (v := 0) hx hb dX12_goesOn_11 (by decide +kernel) ?_
    have hz_1459 : (0 : Int32).toInt = 0 := by decide +kernel
    have hz_1460 : (0 : Int32).toInt = 0 := by decide +kernel
    have hz_1461 : (0 : Int32).toInt = 0 := by decide +kernel
    have hz_1462 : (0 : Int32).toInt = 0 := by decide +kernel
    have hz_1463 : (0 : Int32).toInt = 0 := by decide +kernel
    refine W.widen (k := 0) (n := 0) (Nat.le_of_ble_eq_true rfl) (Nat.le_of_ble_eq_true rfl) ?_
    rw [hQ9]
    exact dg_iret hx hb hr hlocks (by decide +kernel) hP hS ⟨I_2, M_2, (by decide +kernel), ⟨sg, sa, se, y_3, cd, dp, om, oo, ((m_2.1 0 3 _ sM_0 (by decide)).trans f_sg), ((m_2.1 0 4 _ sM_0 (by decide)).trans f_sa), ((m_2.1 0 5 _ sM_0 (by decide)).trans f_se), f_y_3, ((m_2.1 0 34 _ sM_0 (by decide)).trans f_cd), ((m_2.1 0 42 _ sM_0 (by decide)).trans f_dp), ((m_2.1 0 45 _ sM_0 (by decide)).trans f_om), ((m_2.1 0 46 _ sM_0 (by decide)).trans f_oo), ⟨lxh_hlx_2.out, (by omega)⟩⟩, (fun k9 hk9 hk0 => by have q9 := (f_y_3).symm.trans hk9; cases q9; omega), (GOK.no f_sa f_fk f_y_3 (by omega) (fun h0 => GO5 P1 f_dp f_on f_om (by omega))), (TKM.keep TK m_2 (by decide) (by decide) (by decide) (by decide) (by decide) (by decide) (by decide) (by decide)), (ZWM.keep ZW m_2 (by decide) (by decide) (by decide) (by decide)), trivial⟩ dX12_goesOn_12
set_option maxHeartbeats 8000000 in
set_option maxRecDepth 100000 in
theorem c_m_goesOn (l : Launch) (g : Nat → ClassId) (D : va_G) (o : Nat) (S : dg_S) (tb : Nat → Int32) (tn : Nat) (sg : Int32) (f_sg : S.1 0 3 = .int sg) (b_sg : 0 ≤ (sg).toInt ∧ (sg).toInt ≤ 3) (sa : Int32) (f_sa : S.1 0 4 = .int sa) (b_sa : 0 ≤ (sa).toInt ∧ (sa).toInt ≤ 1600) (se : Int32) (f_se : S.1 0 5 = .int se) (b_se : 0 ≤ (se).toInt ∧ (se).toInt ≤ 1600) (sl : Int32) (f_sl : S.1 0 2 = .int sl) (b_sl : 0 ≤ (sl).toInt ∧ (sl).toInt ≤ 1600) (fk : Int32) (f_fk : S.1 0 8 = .int fk) (b_fk : 0 ≤ (fk).toInt ∧ (fk).toInt ≤ 6) (va : Int32) (f_va : S.1 0 6 = .int va) (b_va : 0 ≤ (va).toInt ∧ (va).toInt ≤ 9999) (cd : Int32) (f_cd : S.1 0 34 = .int cd) (b_cd : 0 ≤ (cd).toInt ∧ (cd).toInt ≤ 1600) (dp : Int32) (f_dp : S.1 0 42 = .int dp) (b_dp : 0 ≤ (dp).toInt ∧ (dp).toInt ≤ 20) (on : Int32) (f_on : S.1 0 43 = .int on) (om : Int32) (f_om : S.1 0 45 = .int om) (b_om : 0 ≤ (om).toInt ∧ (om).toInt ≤ 500) (oo : Int32) (f_oo : S.1 0 46 = .int oo) (b_oo : 1 ≤ (oo).toInt ∧ (oo).toInt ≤ 1) (lw : Int32) (f_lw : S.1 0 36 = .int lw) (b_lw : 0 ≤ (lw).toInt ∧ (lw).toInt ≤ 2) (hlx : (sa).toInt ≤ (se).toInt ∧ (se).toInt ≤ (sl).toInt ∧ ((sg).toInt ≠ 0 → (sa).toInt + 1 ≤ (se).toInt)) (hro : (cd).toInt + (om).toInt + (dp).toInt ≤ (sa).toInt) (TK : TKM tb tn S) (ZW : ZWM S) (ZK : ZKM S) (P1 : P1M S) (I : CM o S) (sz : Nat) : Met l yX12_goesOn (bw yX12_goesOn cX12_goesOn 5 (some .boolean)) ({ frames := 3, cells := 0, slots := 0, locals := 77 } : Room) (dk_Pc g D (dg_w g shM o rfM S) sz [.ref (o + 0)]) (va_Qi (fun (r : Int32) S' => CM o S' ∧ dg_sm shM [(0, 3), (0, 4), (0, 5), (0, 6), (0, 7), (0, 8), (0, 9), (0, 12), (0, 34), (0, 42), (0, 43), (0, 45), (0, 46)] [18, 19, 22, 23, 24, 27] S S' ∧ (0 ≤ (r).toInt ∧ (r).toInt ≤ 1) ∧ (∃ y9_3 y9_4 y9_5 y9_8 y9_34 y9_42 y9_45 y9_46 : Int32, S'.1 0 3 = .int y9_3 ∧ S'.1 0 4 = .int y9_4 ∧ S'.1 0 5 = .int y9_5 ∧ S'.1 0 8 = .int y9_8 ∧ S'.1 0 34 = .int y9_34 ∧ S'.1 0 42 = .int y9_42 ∧ S'.1 0 45 = .int y9_45 ∧ S'.1 0 46 = .int y9_46 ∧ (((y9_4).toInt ≤ (y9_5).toInt ∧ (y9_5).toInt ≤ (sl).toInt ∧ ((y9_3).toInt ≠ 0 → (y9_4).toInt + 1 ≤ (y9_5).toInt)) ∧ (sa).toInt ≤ (y9_4).toInt ∧ ((fk).toInt ≠ 0 → (y9_8).toInt ≠ 0) ∧ (((y9_8).toInt = 0 → (r).toInt = 1 → (sa).toInt + 1 ≤ (y9_4).toInt) ∧ ((y9_8).toInt = 0 → (y9_34).toInt + (y9_45).toInt + (y9_42).toInt ≤ (y9_4).toInt)))) ∧ (∀ k9 : Int32, S'.1 0 8 = .int k9 → k9.toInt = 0 → POM S') ∧ (GOK tb tn (lw).toInt S S' r) ∧ TKM tb tn S' ∧ ZWM S' ∧ True) (dg_B g D shM o rfM) (dg_A o shM.length sz)) 0 0 (dg_A o shM.length sz) := by
  by_cases HA : (S.2.1 23 ((dp : Int32).toNatClampNeg - 1)).toInt < 2 ∧ (g_so (T_kd tb tn) (T_vl tb tn) (t_ix tb tn (sa : Int32).toNatClampNeg) = true ∨ g_po (T_kd tb tn) (T_vl tb tn) (t_ix tb tn (sa : Int32).toNatClampNeg) = true)
  · exact c_m_goesOn_A l g D o S tb tn sg f_sg b_sg sa f_sa b_sa se f_se b_se sl f_sl b_sl fk f_fk b_fk va f_va b_va cd f_cd b_cd dp f_dp b_dp on f_on om f_om b_om oo f_oo b_oo lw f_lw b_lw hlx hro TK ZW ZK P1 HA I sz
  · by_cases HB : ((S.2.1 22 ((dp : Int32).toNatClampNeg - 1)).toInt = 1 ∨ (S.2.1 22 ((dp : Int32).toNatClampNeg - 1)).toInt = 5 ∨ (S.2.1 22 ((dp : Int32).toNatClampNeg - 1)).toInt = 6) ∧ (((S.2.1 23 ((dp : Int32).toNatClampNeg - 1)).toInt = 0 ∧ g_co (T_kd tb tn) (T_vl tb tn) (t_ix tb tn (sa : Int32).toNatClampNeg) = true) ∨ (g_o (T_kd tb tn) (T_vl tb tn) 22 (t_ix tb tn (sa : Int32).toNatClampNeg) = true ∨ g_o (T_kd tb tn) (T_vl tb tn) 21 (t_ix tb tn (sa : Int32).toNatClampNeg) = true))
    · exact c_m_goesOn_B l g D o S tb tn sg f_sg b_sg sa f_sa b_sa se f_se b_se sl f_sl b_sl fk f_fk b_fk va f_va b_va cd f_cd b_cd dp f_dp b_dp on f_on om f_om b_om oo f_oo b_oo lw f_lw b_lw hlx hro TK ZW ZK P1 HA HB I sz
    · exact c_m_goesOn_C l g D o S tb tn sg f_sg b_sg sa f_sa b_sa se f_se b_se sl f_sl b_sl fk f_fk b_fk va f_va b_va cd f_cd b_cd dp f_dp b_dp on f_on om f_om b_om oo f_oo b_oo lw f_lw b_lw hlx hro TK ZW ZK P1 HA HB I sz
