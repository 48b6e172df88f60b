/-! 26.read3.lean.txt -/
theorem dX6_readRule_0 : decode cX6_readRule 0 = .ok (.aload_n 0, 1) := by decide +kernel
theorem dX6_readRule_1 : decode cX6_readRule 1 = .ok (.getfield 22, 3) := by decide +kernel
theorem dX6_readRule_4 : decode cX6_readRule 4 = .ok (.iload_n 1, 1) := by decide +kernel
theorem dX6_readRule_5 : decode cX6_readRule 5 = .ok (.invokevirtual 167, 3) := by decide +kernel
theorem dX6_readRule_8 : decode cX6_readRule 8 = .ok (.ifCond .eq 10, 3) := by decide +kernel
theorem dX6_readRule_11 : decode cX6_readRule 11 = .ok (.aload_n 0, 1) := by decide +kernel
theorem dX6_readRule_12 : decode cX6_readRule 12 = .ok (.bipush 6, 2) := by decide +kernel
theorem dX6_readRule_14 : decode cX6_readRule 14 = .ok (.invokevirtual 55, 3) := by decide +kernel
theorem dX6_readRule_17 : decode cX6_readRule 17 = .ok (.ireturn, 1) := by decide +kernel
theorem dX6_readRule_18 : decode cX6_readRule 18 = .ok (.aload_n 0, 1) := by decide +kernel
theorem dX6_readRule_19 : decode cX6_readRule 19 = .ok (.invokevirtual 92, 3) := by decide +kernel
theorem dX6_readRule_22 : decode cX6_readRule 22 = .ok (.aload_n 0, 1) := by decide +kernel
theorem dX6_readRule_23 : decode cX6_readRule 23 = .ok (.iload_n 1, 1) := by decide +kernel
theorem dX6_readRule_24 : decode cX6_readRule 24 = .ok (.putfield 170, 3) := by decide +kernel
theorem dX6_readRule_27 : decode cX6_readRule 27 = .ok (.aload_n 0, 1) := by decide +kernel
theorem dX6_readRule_28 : decode cX6_readRule 28 = .ok (.getfield 22, 3) := by decide +kernel
theorem dX6_readRule_31 : decode cX6_readRule 31 = .ok (.getfield 173, 3) := by decide +kernel
theorem dX6_readRule_34 : decode cX6_readRule 34 = .ok (.aload_n 0, 1) := by decide +kernel
theorem dX6_readRule_35 : decode cX6_readRule 35 = .ok (.getfield 170, 3) := by decide +kernel
theorem dX6_readRule_38 : decode cX6_readRule 38 = .ok (.aload_n 0, 1) := by decide +kernel
theorem dX6_readRule_39 : decode cX6_readRule 39 = .ok (.getfield 37, 3) := by decide +kernel
theorem dX6_readRule_42 : decode cX6_readRule 42 = .ok (.iastore, 1) := by decide +kernel
theorem dX6_readRule_43 : decode cX6_readRule 43 = .ok (.aload_n 0, 1) := by decide +kernel
theorem dX6_readRule_44 : decode cX6_readRule 44 = .ok (.getfield 170, 3) := by decide +kernel
theorem dX6_readRule_47 : decode cX6_readRule 47 = .ok (.iconst 1, 1) := by decide +kernel
theorem dX6_readRule_48 : decode cX6_readRule 48 = .ok (.if_icmp .ne 11, 3) := by decide +kernel
theorem dX6_readRule_51 : decode cX6_readRule 51 = .ok (.aload_n 0, 1) := by decide +kernel
theorem dX6_readRule_52 : decode cX6_readRule 52 = .ok (.iconst 0, 1) := by decide +kernel
theorem dX6_readRule_53 : decode cX6_readRule 53 = .ok (.invokevirtual 176, 3) := by decide +kernel
theorem dX6_readRule_56 : decode cX6_readRule 56 = .ok (.goto 8, 3) := by decide +kernel
theorem dX6_readRule_59 : decode cX6_readRule 59 = .ok (.aload_n 0, 1) := by decide +kernel
theorem dX6_readRule_60 : decode cX6_readRule 60 = .ok (.iconst 0, 1) := by decide +kernel
theorem dX6_readRule_61 : decode cX6_readRule 61 = .ok (.invokevirtual 179, 3) := by decide +kernel
theorem dX6_readRule_64 : decode cX6_readRule 64 = .ok (.istore_n 2, 1) := by decide +kernel
theorem dX6_readRule_65 : decode cX6_readRule 65 = .ok (.aload_n 0, 1) := by decide +kernel
theorem dX6_readRule_66 : decode cX6_readRule 66 = .ok (.getfield 22, 3) := by decide +kernel
theorem dX6_readRule_69 : decode cX6_readRule 69 = .ok (.getfield 182, 3) := by decide +kernel
theorem dX6_readRule_72 : decode cX6_readRule 72 = .ok (.aload_n 0, 1) := by decide +kernel
theorem dX6_readRule_73 : decode cX6_readRule 73 = .ok (.getfield 170, 3) := by decide +kernel
theorem dX6_readRule_76 : decode cX6_readRule 76 = .ok (.aload_n 0, 1) := by decide +kernel
theorem dX6_readRule_77 : decode cX6_readRule 77 = .ok (.getfield 37, 3) := by decide +kernel
theorem dX6_readRule_80 : decode cX6_readRule 80 = .ok (.iastore, 1) := by decide +kernel
theorem dX6_readRule_81 : decode cX6_readRule 81 = .ok (.iload_n 2, 1) := by decide +kernel
theorem dX6_readRule_82 : decode cX6_readRule 82 = .ok (.ireturn, 1) := by decide +kernel
theorem wB_155 : Cond.code yX2_hasRule cX2_hasRule 2 (some .boolean) ∈ dgB := List.mem_filter.mpr ⟨tbl_4 _ (List.mem_of_getElem? (i := 42) rfl), rfl⟩
theorem wB_156 : Cond.methodLink RX6 167 yX2_hasRule ∈ dgB := List.mem_filter.mpr ⟨tbl_4 _ (List.mem_of_getElem? (i := 39) (by decide +kernel)), by decide +kernel⟩
theorem wB_157 : Cond.instanceMethod yX2_hasRule ∈ dgB := List.mem_filter.mpr ⟨tbl_4 _ (List.mem_of_getElem? (i := 40) (by decide +kernel)), by decide +kernel⟩
theorem wB_158 : Cond.selects RX2 yX2_hasRule yX2_hasRule ∈ dgB := List.mem_filter.mpr ⟨tbl_4 _ (List.mem_of_getElem? (i := 41) (by decide +kernel)), by decide +kernel⟩
theorem wB_159 : Cond.fieldLink RX6 173 "DarkMine$Ground" "ruleFrom" "[I" ∈ dgB := List.mem_filter.mpr ⟨tbl_2 _ (List.mem_of_getElem? (i := 5) (by decide +kernel)), by decide +kernel⟩
theorem wB_160 : Cond.fieldLink RX6 182 "DarkMine$Ground" "ruleEnd" "[I" ∈ dgB := List.mem_filter.mpr ⟨tbl_2 _ (List.mem_of_getElem? (i := 8) (by decide +kernel)), by decide +kernel⟩
set_option maxHeartbeats 8000000 in
set_option maxRecDepth 100000 in
theorem c_rd_readRule (l : Launch) (g : Nat → ClassId) (D : va_G) (o : Nat) (S : dg_S) (a1 : Int32) (b_a1 : 0 ≤ (a1).toInt ∧ (a1).toInt ≤ 2) (en : Int32) (kd : Nat → Int32) (vl : Nat → Int32) (fr : Nat → Int32) (fe : Nat → Int32) (gd : Nat) (hk_gd : rX gd) (f_gd : S.1 209 3 = .ref (o + gd)) (n0 : Int32) (f_n0 : S.1 209 4 = .int n0) (b_n0 : 0 ≤ (n0).toInt ∧ (n0).toInt ≤ 1600) (sc : Int32) (f_sc : S.1 209 7 = .int sc) (b_sc : 0 ≤ (sc).toInt ∧ (sc).toInt ≤ 1600) (ke : Int32) (f_ke : S.2.1 211 (en : Int32).toNatClampNeg = ke) (b_ke : 0 ≤ (ke).toInt ∧ (ke).toInt ≤ 0) (hne : (n0).toInt ≤ (en).toInt ∧ (en).toInt ≤ 1600 ∧ 0 ≤ (en).toInt) (hkd : ∀ k9 : Nat, k9 ≤ (en : Int32).toNatClampNeg → S.2.1 211 k9 = kd k9) (hvl : ∀ k9 : Nat, k9 ≤ (en : Int32).toNatClampNeg → S.2.1 213 k9 = vl k9) (hsc : (sc).toInt ≤ (n0).toInt) (hkn : (kd (n0 : Int32).toNatClampNeg).toInt ≠ 0) (hfr : S.2.1 (gd + 10) = fr) (hfe : S.2.1 (gd + 11) = fe) (I : CX o S) (sz : Nat) : Met l yX6_readRule (bw yX6_readRule cX6_readRule 3 (some .boolean)) ({ frames := 68, cells := 0, slots := 0, locals := 1561 } : Room) (dk_Pc g D (dg_w g shX o rfX S) sz [.ref (o + 209), .int a1]) (va_Qi (fun (r : Int32) S' => CX o S' ∧ dg_sm shX [(31, 0), (31, 1), (31, 4), (31, 6), (31, 7)] [28, 29, 30] S S' ∧ (0 ≤ (r).toInt ∧ (r).toInt ≤ 1) ∧ ((r).toInt = 1 → ∃ c8 c9 : Int32, c8.toInt < c9.toInt ∧ S'.2.1 (gd + 10) = upd fr (a1 : Int32).toNatClampNeg c8 ∧ S'.2.1 (gd + 11) = upd fe (a1 : Int32).toNatClampNeg c9) ∧ (∃ y9_4 y9_7 : Int32, S'.1 209 4 = .int y9_4 ∧ S'.1 209 7 = .int y9_7 ∧ (((y9_4).toInt ≤ (en).toInt ∧ ((r).toInt = 1 → ((sc).toInt + 1 ≤ (y9_7).toInt ∧ (y9_7).toInt - (sc).toInt ≤ (y9_4).toInt - (n0).toInt))) ∧ g_ans r (if (fr (a1 : Int32).toNatClampNeg).toInt < (fe (a1 : Int32).toNatClampNeg).toInt then none else y_rule kd vl (a1).toInt ((n0 : Int32).toNatClampNeg + 1)) (y9_4 : Int32).toNatClampNeg)) ∧ True) (dg_B g D shX o rfX) (dg_A o shX.length sz)) 0 0 (dg_A o shX.length sz) := by
  refine dg_met (cc := cX6_readRule) (maxL := 3) (ret := (some .boolean)) (by decide) rfl (Nat.le_of_ble_eq_true rfl) ?_
  intro p e s m args below meth c A hAe harg hx hb hr hml hts hown hlocks hin hP K hS hA1 hA ST hsz ls hl
  rw [← hAe]
  have F : CallFix p m c cX6_readRule 3 s args (bw yX6_readRule cX6_readRule 3 (some .boolean)) RX6 := ⟨hx, hb, hml, hown, hts⟩
  have hl : lv_has ls 3 [(0, .ref (o + 209)), (1, .int a1)] := hl
  have M_0 : dg_sm shX [(31, 0), (31, 1), (31, 4), (31, 6), (31, 7)] [28, 29, 30] S S := dg_sm.rf
  refine lv_aload_n hx hb dX6_readRule_0 rfl (lv_at hl 0 rfl) ?_
  refine dg_get (C := RX6) (T := TX6) (N := 8) hx hb hts (fun w h => bw_mem (wU_X6 w h)) hown K hP sX_209 rfl 3 (by decide) (hts _ (bw_mem wB_38)) (fun _ h9 => h9) (v := .ref (o + gd)) f_gd dX6_readRule_1 ?_
  refine lv_iload_n hx hb dX6_readRule_4 rfl (lv_at hl 1 rfl) ?_
  refine dg_calli hS hA1 hA (va_runV (As := [.int a1]) (rest := []) F (c_g_hasRule l g D o S gd hk_gd a1 (by omega) fr fe hfr hfe I s.heap.size) (cwV 1 hts (bw_V wB_156 wB_157 wB_158 wB_7 wB_155) rfl rfl rfl (by decide +kernel) ⟨Nat.le_of_ble_eq_true rfl, Nat.le_of_ble_eq_true rfl⟩) (dg_preV (rX_0 gd hk_gd) rfl K ST hP hS hA1 hA) rfl rfl hl.1 rfl (lv_room (Nat.le_of_ble_eq_true rfl)) dX6_readRule_5 ⟨Nat.le_of_ble_eq_true rfl, Nat.le_of_ble_eq_true rfl⟩) (fun x_1 S_2 hw_2 H locs hP hS => ?_)
  rw [hw_2.1] at hP
  obtain ⟨hq_2, w_2_0, w_2_1, -⟩ := hw_2
  have w_2_0 : 0 ≤ (x_1).toInt ∧ (x_1).toInt ≤ 1 := w_2_0
  have w_2_1 : (x_1).toInt = 1 ↔ (fr (a1 : Int32).toNatClampNeg).toInt < (fe (a1 : Int32).toNatClampNeg).toInt := w_2_1
  refine lv_if_eq (tgt := 18) hx hb dX6_readRule_8 (by decide) (fun c_3 => ?_) (fun c_3 => ?_)
  · have jc_3 := dk_eqc (k := 0) (by decide +kernel) c_3
    have qw_2_1 := fun h9 => absurd (w_2_1.mpr h9) (by omega)
    refine lv_aload_n hx hb dX6_readRule_18 rfl (lv_at hl 0 rfl) ?_
    refine dg_callv hS hA1 hA (va_runV (As := []) (rest := []) F (c_rd_pass l g D o S en kd vl n0 f_n0 (by omega) ke f_ke (by omega) (by omega) hkd hvl I H.size) (cwV 0 hts (bw_V wB_26 wB_27 wB_28 wB_24 wB_25) rfl rfl rfl (by decide +kernel) ⟨Nat.le_of_ble_eq_true rfl, Nat.le_of_ble_eq_true rfl⟩) (dg_preV sX_209 rfl K ST hP hS hA1 hA) rfl rfl hl.1 rfl (lv_room (Nat.le_of_ble_eq_true rfl)) dX6_readRule_19 ⟨Nat.le_of_ble_eq_true rfl, Nat.le_of_ble_eq_true rfl⟩) (fun S_4 hw_4 H locs hP hS => ?_)
    obtain ⟨I_4, m_4, w_4_0, -⟩ := hw_4
    have M_4 := dg_sm.tr M_0 m_4 (by decide) (by decide)
    obtain ⟨y_5, f_y_5, w_4_0⟩ := w_4_0
    have w_4_0 : (y_5).toInt ≤ (en).toInt ∧ ((kd (n0 : Int32).toNatClampNeg).toInt ≠ 0 → (y_5 : Int32).toNatClampNeg = (n0 : Int32).toNatClampNeg + 1) := w_4_0
    have b_y_5 : 0 ≤ (y_5).toInt ∧ (y_5).toInt ≤ 1600 := dg_I.intb (lo := 0) (hi := 1600) I_4 sX_209 (by decide +kernel) f_y_5
    have nq_y_5 : (y_5 : Int32).toNatClampNeg = (n0 : Int32).toNatClampNeg + 1 := by have h9 := w_4_0.2 hkn; omega
    refine lv_aload_n hx hb dX6_readRule_22 rfl (lv_at hl 0 rfl) ?_
    refine lv_iload_n hx hb dX6_readRule_23 rfl (lv_at hl 1 rfl) ?_
    refine dg_put (ci := 6) (v := .int a1) (ty := tyX6 6) (C := RX6) (T := TX6) (N := 8) hx hb hts (fun w h => bw_mem (wU_X6 w h)) tyX6 tyX6_ok nmX6 hown K hP hS hA1 sX_209 rfl 6 (by decide) (hts _ (bw_mem wB_40)) (fun _ h9 => h9) rfl (by decide +kernel) rfl rfl dX6_readRule_24 (fun S_6 e_6 H locs hP hS => ?_)
    have I_6 := dg_I.uFi (lo := 0) (hi := 2) I_4 e_6 sX_209 (by decide +kernel) (show 0 ≤ (a1).toInt ∧ (a1).toInt ≤ 2 from (by omega))
    have M_6 := dg_sm.uF M_4 e_6 sX_209 (by decide)
    refine lv_aload_n hx hb dX6_readRule_27 rfl (lv_at hl 0 rfl) ?_
    refine dg_get (C := RX6) (T := TX6) (N := 8) hx hb hts (fun w h => bw_mem (wU_X6 w h)) hown K hP sX_209 rfl 3 (by decide) (hts _ (bw_mem wB_38)) (fun _ h9 => h9) (v := .ref (o + gd)) (((dg_uF_ne e_6 (fun z => absurd z.2 (by decide))).trans (m_4.1 209 3 _ sX_209 (by decide))).trans f_gd) dX6_readRule_28 ?_
    refine dg_get (C := RX2) (T := TX2) (N := 19) hx hb hts (fun w h => bw_mem (wU_X2 w h)) hown K hP (rX_0 gd hk_gd) rfl 17 (by decide) (hts _ (bw_mem wB_159)) (fun _ h9 => h9) (v := .ref (o + (gd + 10))) (show S_6.1 gd 17 = .ref (o + (gd + 10)) from dg_I.rel (d := 10) I_6 (rX_0 gd hk_gd) (by decide +kernel)) dX6_readRule_31 ?_
    refine lv_aload_n hx hb dX6_readRule_34 rfl (lv_at hl 0 rfl) ?_
    refine dg_get (C := RX6) (T := TX6) (N := 8) hx hb hts (fun w h => bw_mem (wU_X6 w h)) hown K hP sX_209 rfl 6 (by decide) (hts _ (bw_mem wB_40)) (fun _ h9 => h9) (v := .int a1) (dg_uF_at e_6) dX6_readRule_35 ?_
    refine lv_aload_n hx hb dX6_readRule_38 rfl (lv_at hl 0 rfl) ?_
    refine dg_get (C := RX6) (T := TX6) (N := 8) hx hb hts (fun w h => bw_mem (wU_X6 w h)) hown K hP sX_209 rfl 7 (by decide) (hts _ (bw_mem wB_37)) (fun _ h9 => h9) (v := .int sc) (((dg_uF_ne e_6 (fun z => absurd z.2 (by decide))).trans (m_4.1 209 7 _ sX_209 (by decide))).trans f_sc) dX6_readRule_39 ?_
    have hin_7 : vp_in a1 3 := (dk_inv (by omega) (by omega))
    refine dg_iast hx hb K hP hS hA1 (rX_10 gd hk_gd) hin_7 dX6_readRule_42 (fun S_8 e_8 H locs hP hS => ?_)
    have I_8 := dg_I.ufu (lo := 0) (hi := 1600) I_6 e_8 (rX_10 gd hk_gd) (by decide +kernel) (show 0 ≤ (sc).toInt ∧ (sc).toInt ≤ 1600 from (by omega))
    have M_8 := dg_sm.uf M_6 e_8 (rX_10 gd hk_gd) (by decide)
    refine lv_aload_n hx hb dX6_readRule_43 rfl (lv_at hl 0 rfl) ?_
    refine dg_get (C := RX6) (T := TX6) (N := 8) hx hb hts (fun w h => bw_mem (wU_X6 w h)) hown K hP sX_209 rfl 6 (by decide) (hts _ (bw_mem wB_40)) (fun _ h9 => h9) (v := .int a1) ((dg_uf_F e_8 209 6).trans (dg_uF_at e_6)) dX6_readRule_44 ?_
    refine lv_iconst (v := 1) hx hb dX6_readRule_47 (by decide +kernel) ?_
    refine lv_icmp_ne (tgt := 59) hx hb dX6_readRule_48 (by decide) (fun c_9 => ?_) (fun c_9 => ?_)
    · have jc_9 := dk_neqc (k := 1) (by decide +kernel) c_9
      refine lv_aload_n hx hb dX6_readRule_59 rfl (lv_at hl 0 rfl) ?_
      refine lv_iconst (v := 0) hx hb dX6_readRule_60 (by decide +kernel) ?_
      refine dg_calli hS hA1 hA (va_runV (As := [.int 0]) (rest := []) F (c_rd_readSum_0 l g D o S_8 en kd vl y_5 (((dg_uf_F e_8 209 4).trans (dg_uF_ne e_6 (fun z => absurd z.2 (by decide)))).trans f_y_5) (by omega) a1 ((dg_uf_F e_8 209 6).trans (dg_uF_at e_6)) (by omega) sc (((dg_uf_F e_8 209 7).trans ((dg_uF_ne e_6 (fun z => absurd z.2 (by decide))).trans (m_4.1 209 7 _ sX_209 (by decide)))).trans f_sc) (by omega) ke ((congrFun ((dg_uf_ne e_8 (fun z => by have h9 := sX_211; rw [z, (rX_10 gd hk_gd)] at h9; cases h9)).trans ((dg_uF_f e_6 211).trans (m_4.2 211 _ sX_211 (by decide)).1)) _).trans f_ke) (by omega) (by omega) (fun k9 h9 => (congrFun ((dg_uf_ne e_8 (fun z => by have h9 := sX_211; rw [z, (rX_10 gd hk_gd)] at h9; cases h9)).trans ((dg_uF_f e_6 211).trans (m_4.2 211 _ sX_211 (by decide)).1)) k9).trans (hkd k9 h9)) (fun k9 h9 => (congrFun ((dg_uf_ne e_8 (fun z => by have h9 := sX_213; rw [z, (rX_10 gd hk_gd)] at h9; cases h9)).trans ((dg_uF_f e_6 213).trans (m_4.2 213 _ sX_213 (by decide)).1)) k9).trans (hvl k9 h9)) (by omega) I_8 H.size) (cwV 1 hts (bw_V wB_128 wB_129 wB_130 wB_24 wB_127) rfl rfl rfl (by decide +kernel) ⟨Nat.le_of_ble_eq_true rfl, Nat.le_of_ble_eq_true rfl⟩) (dg_preV sX_209 rfl K ST hP hS hA1 hA) rfl rfl hl.1 rfl (lv_room (Nat.le_of_ble_eq_true rfl)) dX6_readRule_61 ⟨Nat.le_of_ble_eq_true rfl, Nat.le_of_ble_eq_true rfl⟩) (fun x_10 S_11 hw_11 H locs hP hS => ?_)
      obtain ⟨I_11, m_11, w_11_0, w_11_1, -⟩ := hw_11
      have M_11 := dg_sm.tr M_8 m_11 (by decide) (by decide)
      have w_11_0 : 0 ≤ (x_10).toInt ∧ (x_10).toInt ≤ 1 := w_11_0
      obtain ⟨y_12, y_13, f_y_12, f_y_13, w_11_1⟩ := w_11_1
      have w_11_1 : ((y_12).toInt ≤ (en).toInt ∧ ((x_10).toInt = 1 → ((sc).toInt + 1 ≤ (y_13).toInt ∧ (y_13).toInt - (sc).toInt ≤ (y_12).toInt - (y_5).toInt))) ∧ g_ans x_10 ((x_lv kd vl (a1).toInt 8).1 (y_5 : Int32).toNatClampNeg) (y_12 : Int32).toNatClampNeg := w_11_1
      have b_y_12 : 0 ≤ (y_12).toInt ∧ (y_12).toInt ≤ 1600 := dg_I.intb (lo := 0) (hi := 1600) I_11 sX_209 (by decide +kernel) f_y_12
      have b_y_13 : 0 ≤ (y_13).toInt ∧ (y_13).toInt ≤ 1600 := dg_I.intb (lo := 0) (hi := 1600) I_11 sX_209 (by decide +kernel) f_y_13
      refine lv_istore_n (lv' := [(2, .int x_10), (0, .ref (o + 209)), (1, .int a1)]) hx hb dX6_readRule_64 rfl hl (by decide) rfl (fun ls hl => ?_)
      refine lv_aload_n hx hb dX6_readRule_65 rfl (lv_at hl 1 rfl) ?_
      refine dg_get (C := RX6) (T := TX6) (N := 8) hx hb hts (fun w h => bw_mem (wU_X6 w h)) hown K hP sX_209 rfl 3 (by decide) (hts _ (bw_mem wB_38)) (fun _ h9 => h9) (v := .ref (o + gd)) (((m_11.1 209 3 _ sX_209 (by decide)).trans ((dg_uf_F e_8 209 3).trans ((dg_uF_ne e_6 (fun z => absurd z.2 (by decide))).trans (m_4.1 209 3 _ sX_209 (by decide))))).trans f_gd) dX6_readRule_66 ?_
      refine dg_get (C := RX2) (T := TX2) (N := 19) hx hb hts (fun w h => bw_mem (wU_X2 w h)) hown K hP (rX_0 gd hk_gd) rfl 18 (by decide) (hts _ (bw_mem wB_160)) (fun _ h9 => h9) (v := .ref (o + (gd + 11))) (show S_11.1 gd 18 = .ref (o + (gd + 11)) from dg_I.rel (d := 11) I_11 (rX_0 gd hk_gd) (by decide +kernel)) dX6_readRule_69 ?_
      refine lv_aload_n hx hb dX6_readRule_72 rfl (lv_at hl 1 rfl) ?_
      refine dg_get (C := RX6) (T := TX6) (N := 8) hx hb hts (fun w h => bw_mem (wU_X6 w h)) hown K hP sX_209 rfl 6 (by decide) (hts _ (bw_mem wB_40)) (fun _ h9 => h9) (v := .int a1) (((m_11.1 209 6 _ sX_209 (by decide)).trans (dg_uf_F e_8 209 6)).trans (dg_uF_at e_6)) dX6_readRule_73 ?_
      refine lv_aload_n hx hb dX6_readRule_76 rfl (lv_at hl 1 rfl) ?_
      refine dg_get (C := RX6) (T := TX6) (N := 8) hx hb hts (fun w h => bw_mem (wU_X6 w h)) hown K hP sX_209 rfl 7 (by decide) (hts _ (bw_mem wB_37)) (fun _ h9 => h9) (v := .int y_13) f_y_13 dX6_readRule_77 ?_
      have hin_14 : vp_in a1 3 := (dk_inv (by omega) (by omega))
      refine dg_iast hx hb K hP hS hA1 (rX_11 gd hk_gd) hin_14 dX6_readRule_80 (fun S_15 e_15 H locs hP hS => ?_)
      have I_15 := dg_I.ufu (lo := 0) (hi := 1600) I_11 e_15 (rX_11 gd hk_gd) (by decide +kernel) (show 0 ≤ (y_13).toInt ∧ (y_13).toInt ≤ 1600 from (by omega))
      have M_15 := dg_sm.uf M_11 e_15 (rX_11 gd hk_gd) (by decide)
      refine lv_iload_n hx hb dX6_readRule_81 rfl (lv_at hl 0 rfl) ?_
      have qa9 : ¬ (a1).toInt = 1 := by omega
      refine W.widen (k := 0) (n := 0) (Nat.le_of_ble_eq_true rfl) (Nat.le_of_ble_eq_true rfl) ?_
      exact dg_iret hx hb hr hlocks (dk_znar (by omega) (by omega)) hP hS ⟨I_15, M_15, (by omega), (fun q9 => ⟨sc, y_13, by omega, by rw [((dg_uf_ne e_15 (by omega)).trans (m_11.2 (gd + 10) _ (rX_10 gd hk_gd) (by decide)).1), dg_uf_at e_8, ((dg_uF_f e_6 (gd + 10)).trans (m_4.2 (gd + 10) _ (rX_10 gd hk_gd) (by decide)).1), hfr], by rw [dg_uf_at e_15, ((m_11.2 (gd + 11) _ (rX_11 gd hk_gd) (by decide)).1.trans ((dg_uf_ne e_8 (by omega)).trans ((dg_uF_f e_6 (gd + 11)).trans (m_4.2 (gd + 11) _ (rX_11 gd hk_gd) (by decide)).1))), hfe]⟩), ⟨y_12, y_13, ((dg_uf_F e_15 209 4).trans f_y_12), ((dg_uf_F e_15 209 7).trans f_y_13), ⟨⟨by omega, by omega⟩, (g_ans.to (E := (x_lv kd vl (a1).toInt 8).1 ((n0 : Int32).toNatClampNeg + 1)) (by have h9 := w_11_1.2; rw [nq_y_5] at h9; exact h9) (by simp [y_rule, qw_2_1, nq_y_5, qa9]))⟩⟩, trivial⟩ dX6_readRule_82
    · have jc_9 := dk_eqc (k := 1) (by decide +kernel) c_9
      refine lv_aload_n hx hb dX6_readRule_51 rfl (lv_at hl 0 rfl) ?_
      refine lv_iconst (v := 0) hx hb dX6_readRule_52 (by decide +kernel) ?_
      refine dg_calli hS hA1 hA (va_runV (As := [.int 0]) (rest := []) F (c_rd_readTest_0 l g D o S_8 en kd vl y_5 (((dg_uf_F e_8 209 4).trans (dg_uF_ne e_6 (fun z => absurd z.2 (by decide)))).trans f_y_5) (by omega) a1 ((dg_uf_F e_8 209 6).trans (dg_uF_at e_6)) (by omega) sc (((dg_uf_F e_8 209 7).trans ((dg_uF_ne e_6 (fun z => absurd z.2 (by decide))).trans (m_4.1 209 7 _ sX_209 (by decide)))).trans f_sc) (by omega) ke ((congrFun ((dg_uf_ne e_8 (fun z => by have h9 := sX_211; rw [z, (rX_10 gd hk_gd)] at h9; cases h9)).trans ((dg_uF_f e_6 211).trans (m_4.2 211 _ sX_211 (by decide)).1)) _).trans f_ke) (by omega) (by omega) (fun k9 h9 => (congrFun ((dg_uf_ne e_8 (fun z => by have h9 := sX_211; rw [z, (rX_10 gd hk_gd)] at h9; cases h9)).trans ((dg_uF_f e_6 211).trans (m_4.2 211 _ sX_211 (by decide)).1)) k9).trans (hkd k9 h9)) (fun k9 h9 => (congrFun ((dg_uf_ne e_8 (fun z => by have h9 := sX_213; rw [z, (rX_10 gd hk_gd)] at h9; cases h9)).trans ((dg_uF_f e_6 213).trans (m_4.2 213 _ sX_213 (by decide)).1)) k9).trans (hvl k9 h9)) (by omega) I_8 H.size) (cwV 1 hts (bw_V wB_148 wB_149 wB_150 wB_24 wB_147) rfl rfl rfl (by decide +kernel) ⟨Nat.le_of_ble_eq_true rfl, Nat.le_of_ble_eq_true rfl⟩) (dg_preV sX_209 rfl K ST hP hS hA1 hA) rfl rfl hl.1 rfl (lv_room (Nat.le_of_ble_eq_true rfl)) dX6_readRule_53 ⟨Nat.le_of_ble_eq_true rfl, Nat.le_of_ble_eq_true rfl⟩) (fun x_16 S_17 hw_17 H locs hP hS => ?_)
      obtain ⟨I_17, m_17, w_17_0, w_17_1, -⟩ := hw_17
      have M_17 := dg_sm.tr M_8 m_17 (by decide) (by decide)
      have w_17_0 : 0 ≤ (x_16).toInt ∧ (x_16).toInt ≤ 1 := w_17_0
      obtain ⟨y_18, y_19, f_y_18, f_y_19, w_17_1⟩ := w_17_1
      have w_17_1 : ((y_18).toInt ≤ (en).toInt ∧ ((x_16).toInt = 1 → ((sc).toInt + 1 ≤ (y_19).toInt ∧ (y_19).toInt - (sc).toInt ≤ (y_18).toInt - (y_5).toInt))) ∧ g_ans x_16 ((x_lv kd vl (a1).toInt 8).2.1 (y_5 : Int32).toNatClampNeg) (y_18 : Int32).toNatClampNeg := w_17_1
      have b_y_18 : 0 ≤ (y_18).toInt ∧ (y_18).toInt ≤ 1600 := dg_I.intb (lo := 0) (hi := 1600) I_17 sX_209 (by decide +kernel) f_y_18
      have b_y_19 : 0 ≤ (y_19).toInt ∧ (y_19).toInt ≤ 1600 := dg_I.intb (lo := 0) (hi := 1600) I_17 sX_209 (by decide +kernel) f_y_19
      refine lv_goto (tgt := 64) hx hb dX6_readRule_56 (by decide) ?_
      refine lv_istore_n (lv' := [(2, .int x_16), (0, .ref (o + 209)), (1, .int a1)]) hx hb dX6_readRule_64 rfl hl (by decide) rfl (fun ls hl => ?_)
      refine lv_aload_n hx hb dX6_readRule_65 rfl (lv_at hl 1 rfl) ?_
      refine dg_get (C := RX6) (T := TX6) (N := 8) hx hb hts (fun w h => bw_mem (wU_X6 w h)) hown K hP sX_209 rfl 3 (by decide) (hts _ (bw_mem wB_38)) (fun _ h9 => h9) (v := .ref (o + gd)) (((m_17.1 209 3 _ sX_209 (by decide)).trans ((dg_uf_F e_8 209 3).trans ((dg_uF_ne e_6 (fun z => absurd z.2 (by decide))).trans (m_4.1 209 3 _ sX_209 (by decide))))).trans f_gd) dX6_readRule_66 ?_
      refine dg_get (C := RX2) (T := TX2) (N := 19) hx hb hts (fun w h => bw_mem (wU_X2 w h)) hown K hP (rX_0 gd hk_gd) rfl 18 (by decide) (hts _ (bw_mem wB_160)) (fun _ h9 => h9) (v := .ref (o + (gd + 11))) (show S_17.1 gd 18 = .ref (o + (gd + 11)) from dg_I.rel (d := 11) I_17 (rX_0 gd hk_gd) (by decide +kernel)) dX6_readRule_69 ?_
      refine lv_aload_n hx hb dX6_readRule_72 rfl (lv_at hl 1 rfl) ?_
      refine dg_get (C := RX6) (T := TX6) (N := 8) hx hb hts (fun w h => bw_mem (wU_X6 w h)) hown K hP sX_209 rfl 6 (by decide) (hts _ (bw_mem wB_40)) (fun _ h9 => h9) (v := .int a1) (((m_17.1 209 6 _ sX_209 (by decide)).trans (dg_uf_F e_8 209 6)).trans (dg_uF_at e_6)) dX6_readRule_73 ?_
      refine lv_aload_n hx hb dX6_readRule_76 rfl (lv_at hl 1 rfl) ?_
      refine dg_get (C := RX6) (T := TX6) (N := 8) hx hb hts (fun w h => bw_mem (wU_X6 w h)) hown K hP sX_209 rfl 7 (by decide) (hts _ (bw_mem wB_37)) (fun _ h9 => h9) (v := .int y_19) f_y_19 dX6_readRule_77 ?_
      have hin_20 : vp_in a1 3 := (dk_inv (by omega) (by omega))
      refine dg_iast hx hb K hP hS hA1 (rX_11 gd hk_gd) hin_20 dX6_readRule_80 (fun S_21 e_21 H locs hP hS => ?_)
      have I_21 := dg_I.ufu (lo := 0) (hi := 1600) I_17 e_21 (rX_11 gd hk_gd) (by decide +kernel) (show 0 ≤ (y_19).toInt ∧ (y_19).toInt ≤ 1600 from (by omega))
      have M_21 := dg_sm.uf M_17 e_21 (rX_11 gd hk_gd) (by decide)
      refine lv_iload_n hx hb dX6_readRule_81 rfl (lv_at hl 0 rfl) ?_
      have qa9 : (a1).toInt = 1 := by omega
      refine W.widen (k := 0) (n := 0) (Nat.le_of_ble_eq_true rfl) (Nat.le_of_ble_eq_true rfl) ?_
      exact dg_iret hx hb hr hlocks (dk_znar (by omega) (by omega)) hP hS ⟨I_21, M_21, (by omega), (fun q9 => ⟨sc, y_19, by omega, by rw [((dg_uf_ne e_21 (by omega)).trans (m_17.2 (gd + 10) _ (rX_10 gd hk_gd) (by decide)).1), dg_uf_at e_8, ((dg_uF_f e_6 (gd + 10)).trans (m_4.2 (gd + 10) _ (rX_10 gd hk_gd) (by decide)).1), hfr], by rw [dg_uf_at e_21, ((m_17.2 (gd + 11) _ (rX_11 gd hk_gd) (by decide)).1.trans ((dg_uf_ne e_8 (by omega)).trans ((dg_uF_f e_6 (gd + 11)).trans (m_4.2 (gd + 11) _ (rX_11 gd hk_gd) (by decide)).1))), hfe]⟩), ⟨y_18, y_19, ((dg_uf_F e_21 209 4).trans f_y_18), ((dg_uf_F e_21 209 7).trans f_y_19), ⟨⟨by omega, by omega⟩, (g_ans.to (E := (x_lv kd vl (a1).toInt 8).2.1 ((n0 : Int32).toNatClampNeg + 1)) (by have h9 := w_17_1.2; rw [nq_y_5] at h9; exact h9) (by simp [y_rule, qw_2_1, nq_y_5, qa9]))⟩⟩, trivial⟩ dX6_readRule_82
  · have jc_3 := dk_neqc (k := 0) (by decide +kernel) c_3
    have qw_2_1 := w_2_1.mp (by omega)
    refine lv_aload_n hx hb dX6_readRule_11 rfl (lv_at hl 0 rfl) ?_
    refine lv_bipush (v := 6) hx hb dX6_readRule_12 (by decide +kernel) ?_
    refine dg_calli hS hA1 hA (va_runV (As := [.int 6]) (rest := []) F (c_rd_fail l g D o S 6 en n0 f_n0 (by omega) ke f_ke (by omega) (by omega) I H.size) (cwV 1 hts (bw_V wB_30 wB_31 wB_32 wB_24 wB_29) rfl rfl rfl (by decide +kernel) ⟨Nat.le_of_ble_eq_true rfl, Nat.le_of_ble_eq_true rfl⟩) (dg_preV sX_209 rfl K ST hP hS hA1 hA) rfl rfl hl.1 rfl (lv_room (Nat.le_of_ble_eq_true rfl)) dX6_readRule_14 ⟨Nat.le_of_ble_eq_true rfl, Nat.le_of_ble_eq_true rfl⟩) (fun x_22 S_23 hw_23 H locs hP hS => ?_)
    obtain ⟨I_23, m_23, w_23_0, -⟩ := hw_23
    have M_23 := dg_sm.tr M_0 m_23 (by decide) (by decide)
    have w_23_0 : 0 ≤ (x_22).toInt ∧ (x_22).toInt ≤ 0 := w_23_0
    refine W.widen (k := 0) (n := 0) (Nat.le_of_ble_eq_true rfl) (Nat.le_of_ble_eq_true rfl) ?_
    exact dg_iret hx hb hr hlocks (dk_znar (by omega) (by omega)) hP hS ⟨I_23, M_23, (by omega), (fun q9 => absurd q9 (by omega)), ⟨n0, sc, ((m_23.1 209 4 _ sX_209 (by decide)).trans f_n0), ((m_23.1 209 7 _ sX_209 (by decide)).trans f_sc), ⟨⟨by omega, by omega⟩, g_ans.n (by omega) (by simp [y_rule, qw_2_1])⟩⟩, trivial⟩ dX6_readRule_17
