/-! 27.minx.lean.txt -/
theorem dX11_mine_0 : decode cX11_mine 0 = .ok (.aload_n 0, 1) := by decide +kernel
theorem dX11_mine_1 : decode cX11_mine 1 = .ok (.getfield 61, 3) := by decide +kernel
theorem dX11_mine_4 : decode cX11_mine 4 = .ok (.aload_n 0, 1) := by decide +kernel
theorem dX11_mine_5 : decode cX11_mine 5 = .ok (.getfield 10, 3) := by decide +kernel
theorem dX11_mine_8 : decode cX11_mine 8 = .ok (.aload_n 0, 1) := by decide +kernel
theorem dX11_mine_9 : decode cX11_mine 9 = .ok (.getfield 53, 3) := by decide +kernel
theorem dX11_mine_12 : decode cX11_mine 12 = .ok (.invokevirtual 112, 3) := by decide +kernel
theorem dX11_mine_15 : decode cX11_mine 15 = .ok (.istore_n 1, 1) := by decide +kernel
theorem dX11_mine_16 : decode cX11_mine 16 = .ok (.aload_n 0, 1) := by decide +kernel
theorem dX11_mine_17 : decode cX11_mine 17 = .ok (.getfield 10, 3) := by decide +kernel
theorem dX11_mine_20 : decode cX11_mine 20 = .ok (.iconst 0, 1) := by decide +kernel
theorem dX11_mine_21 : decode cX11_mine 21 = .ok (.putfield 97, 3) := by decide +kernel
theorem dX11_mine_24 : decode cX11_mine 24 = .ok (.iload_n 1, 1) := by decide +kernel
theorem dX11_mine_25 : decode cX11_mine 25 = .ok (.iconst (-1), 1) := by decide +kernel
theorem dX11_mine_26 : decode cX11_mine 26 = .ok (.if_icmp .ne 9, 3) := by decide +kernel
theorem dX11_mine_29 : decode cX11_mine 29 = .ok (.aload_n 0, 1) := by decide +kernel
theorem dX11_mine_30 : decode cX11_mine 30 = .ok (.iconst 1, 1) := by decide +kernel
theorem dX11_mine_31 : decode cX11_mine 31 = .ok (.invokevirtual 100, 3) := by decide +kernel
theorem dX11_mine_34 : decode cX11_mine 34 = .ok (.ireturn, 1) := by decide +kernel
theorem dX11_mine_35 : decode cX11_mine 35 = .ok (.aload_n 0, 1) := by decide +kernel
theorem dX11_mine_36 : decode cX11_mine 36 = .ok (.getfield 53, 3) := by decide +kernel
theorem dX11_mine_39 : decode cX11_mine 39 = .ok (.astore_n 2, 1) := by decide +kernel
theorem dX11_mine_40 : decode cX11_mine 40 = .ok (.aload_n 0, 1) := by decide +kernel
theorem dX11_mine_41 : decode cX11_mine 41 = .ok (.aload_n 0, 1) := by decide +kernel
theorem dX11_mine_42 : decode cX11_mine 42 = .ok (.getfield 49, 3) := by decide +kernel
theorem dX11_mine_45 : decode cX11_mine 45 = .ok (.putfield 53, 3) := by decide +kernel
theorem dX11_mine_48 : decode cX11_mine 48 = .ok (.aload_n 0, 1) := by decide +kernel
theorem dX11_mine_49 : decode cX11_mine 49 = .ok (.aload_n 2, 1) := by decide +kernel
theorem dX11_mine_50 : decode cX11_mine 50 = .ok (.putfield 49, 3) := by decide +kernel
theorem dX11_mine_53 : decode cX11_mine 53 = .ok (.aload_n 0, 1) := by decide +kernel
theorem dX11_mine_54 : decode cX11_mine 54 = .ok (.getfield 19, 3) := by decide +kernel
theorem dX11_mine_57 : decode cX11_mine 57 = .ok (.aload_n 0, 1) := by decide +kernel
theorem dX11_mine_58 : decode cX11_mine 58 = .ok (.getfield 49, 3) := by decide +kernel
theorem dX11_mine_61 : decode cX11_mine 61 = .ok (.invokevirtual 94, 3) := by decide +kernel
theorem dX11_mine_64 : decode cX11_mine 64 = .ok (.aload_n 0, 1) := by decide +kernel
theorem dX11_mine_65 : decode cX11_mine 65 = .ok (.getfield 29, 3) := by decide +kernel
theorem dX11_mine_68 : decode cX11_mine 68 = .ok (.invokevirtual 116, 3) := by decide +kernel
theorem dX11_mine_71 : decode cX11_mine 71 = .ok (.aload_n 0, 1) := by decide +kernel
theorem dX11_mine_72 : decode cX11_mine 72 = .ok (.getfield 86, 3) := by decide +kernel
theorem dX11_mine_75 : decode cX11_mine 75 = .ok (.iconst 0, 1) := by decide +kernel
theorem dX11_mine_76 : decode cX11_mine 76 = .ok (.putfield 119, 3) := by decide +kernel
theorem dX11_mine_79 : decode cX11_mine 79 = .ok (.aload_n 0, 1) := by decide +kernel
theorem dX11_mine_80 : decode cX11_mine 80 = .ok (.invokevirtual 122, 3) := by decide +kernel
theorem dX11_mine_83 : decode cX11_mine 83 = .ok (.iload_n 1, 1) := by decide +kernel
theorem dX11_mine_84 : decode cX11_mine 84 = .ok (.ireturn, 1) := by decide +kernel
theorem wB_1071 : Cond.methodLink RX11 94 yX5_begin ∈ dgB := List.mem_filter.mpr ⟨tbl_3 _ (List.mem_of_getElem? (i := 34) (by decide +kernel)), by decide +kernel⟩
set_option maxHeartbeats 8000000 in
set_option maxRecDepth 100000 in
theorem c_d_mine (l : Launch) (g : Nat → ClassId) (D : va_G) (o : Nat) (S : dg_S) (tb : Nat → Int32) (le : Int32) (f_le : S.1 1 1 = .int le) (b_le : 0 ≤ (le).toInt ∧ (le).toInt ≤ 1600) (htb : S.2.1 2 = tb) (Z1 : Z1X S) (Z2 : Z2X S) (Z3 : Z3X o S) (Z4 : Z4X S) (Z6 : Z6X S) (I : CX o S) (sz : Nat) : Met l yX11_mine (bw yX11_mine cX11_mine 3 (some .int)) ({ frames := 71, cells := 0, slots := 0, locals := 1627 } : Room) (dk_Pc g D (dg_w g shX o rfX S) sz [.ref (o + 0)]) (va_Qi (fun (r : Int32) S' => CX o S' ∧ dg_sm shX [(0, 6), (0, 7), (1, 1), (3, 0), (3, 1), (10, 1), (10, 2), (19, 0), (19, 1), (19, 2), (19, 3), (19, 4), (19, 6), (19, 8), (19, 11), (31, 0), (31, 1), (31, 3), (31, 4), (31, 5), (31, 6), (31, 7), (32, 3), (32, 4), (43, 2), (43, 3), (44, 4), (44, 5)] [4, 5, 6, 7, 8, 9, 18, 20, 21, 22, 23, 24, 25, 26, 27, 28, 29, 30, 33, 34, 35] S S' ∧ ((-1) ≤ (r).toInt ∧ (r).toInt ≤ 80) ∧ (∃ y9 : Int32, S'.1 1 1 = .int y9 ∧ ((y9).toInt = 0)) ∧ (((r).toInt = -1 → y_mine (T_kd tb (le : Int32).toNatClampNeg) (T_vl tb (le : Int32).toNatClampNeg) = none) ∧ ((r).toInt ≠ -1 → ∃ σ9 : y_S, y_mine (T_kd tb (le : Int32).toNatClampNeg) (T_vl tb (le : Int32).toNatClampNeg) = some ((r : Int32).toNatClampNeg, σ9))) ∧ Z1X S' ∧ Z3X o S' ∧ Z4X S' ∧ Z6X S' ∧ dg_FG S S' ∧ True) (dg_B g D shX o rfX) (dg_A o shX.length sz)) 0 0 (dg_A o shX.length sz) := by
  refine dg_met (cc := cX11_mine) (maxL := 3) (ret := (some .int)) (by decide) rfl (Nat.le_of_ble_eq_true rfl) ?_
  intro p e s m args below meth c A hAe harg hx hb hr hml hts hown hlocks hin hP K hS hA1 hA ST hsz ls hl
  rw [← hAe]
  have F : CallFix p m c cX11_mine 3 s args (bw yX11_mine cX11_mine 3 (some .int)) RX11 := ⟨hx, hb, hml, hown, hts⟩
  have hl : lv_has ls 3 [(0, .ref (o + 0))] := hl
  have M_0 : dg_sm shX [(0, 6), (0, 7), (1, 1), (3, 0), (3, 1), (10, 1), (10, 2), (19, 0), (19, 1), (19, 2), (19, 3), (19, 4), (19, 6), (19, 8), (19, 11), (31, 0), (31, 1), (31, 3), (31, 4), (31, 5), (31, 6), (31, 7), (32, 3), (32, 4), (43, 2), (43, 3), (44, 4), (44, 5)] [4, 5, 6, 7, 8, 9, 18, 20, 21, 22, 23, 24, 25, 26, 27, 28, 29, 30, 33, 34, 35] S S := dg_sm.rf
  refine lv_aload_n hx hb dX11_mine_0 rfl (lv_at hl 0 rfl) ?_
  refine dg_get (C := RX11) (T := TX11) (N := 13) hx hb hts (fun w h => bw_mem (wU_X11 w h)) hown K hP sX_0 rfl 8 (by decide) (hts _ (bw_mem wB_278)) (fun _ h9 => h9) (v := .ref (o + 209)) (show S.1 0 8 = .ref (o + 209) from dg_I.rel (d := 209) I sX_0 (by decide +kernel)) dX11_mine_1 ?_
  refine lv_aload_n hx hb dX11_mine_4 rfl (lv_at hl 0 rfl) ?_
  refine dg_get (C := RX11) (T := TX11) (N := 13) hx hb hts (fun w h => bw_mem (wU_X11 w h)) hown K hP sX_0 rfl 0 (by decide) (hts _ (bw_mem wB_279)) (fun _ h9 => h9) (v := .ref (o + 1)) (show S.1 0 0 = .ref (o + 1) from dg_I.rel (d := 1) I sX_0 (by decide +kernel)) dX11_mine_5 ?_
  refine lv_aload_n hx hb dX11_mine_8 rfl (lv_at hl 0 rfl) ?_
  obtain ⟨d_1, hk_d_1, f_d_1⟩ := dg_I.one (i := 0) (k := 7) (d := 0) I sX_0 (by decide +kernel)
  have hk_d_1 : rX d_1 := hk_d_1
  refine dg_get (C := RX11) (T := TX11) (N := 13) hx hb hts (fun w h => bw_mem (wU_X11 w h)) hown K hP sX_0 rfl 7 (by decide) (hts _ (bw_mem wB_280)) (fun _ h9 => h9) (v := .ref (o + d_1)) f_d_1 dX11_mine_9 ?_
  refine dg_calli hS hA1 hA (va_runV (As := [.ref (o + 1), .ref (o + d_1)]) (rest := []) F (c_rd_read l g D o S d_1 hk_d_1 tb le f_le (by omega) htb Z1 I s.heap.size) (cwV 2 hts (bw_V wB_282 wB_283 wB_284 wB_24 wB_281) rfl rfl rfl (by decide +kernel) ⟨Nat.le_of_ble_eq_true rfl, Nat.le_of_ble_eq_true rfl⟩) (dg_preV sX_209 rfl K ST hP hS hA1 hA) rfl rfl hl.1 rfl (lv_room (Nat.le_of_ble_eq_true rfl)) dX11_mine_12 ⟨Nat.le_of_ble_eq_true rfl, Nat.le_of_ble_eq_true rfl⟩) (fun x_2 S_3 hw_3 H locs hP hS => ?_)
  obtain ⟨I_3, m_3, w_3_0, w_3_1, w_3_2, -⟩ := hw_3
  have M_3 := dg_sm.tr M_0 m_3 (by decide) (by decide)
  have w_3_0 : (-1) ≤ (x_2).toInt ∧ (x_2).toInt ≤ 80 := w_3_0
  replace w_3_1 : ((x_2).toInt = -1 → y_mine (T_kd tb (le : Int32).toNatClampNeg) (T_vl tb (le : Int32).toNatClampNeg) = none) ∧ ((x_2).toInt ≠ -1 → ∃ cx9 ry9 mi9 pl9 od9 : Int32, S_3.1 d_1 0 = .int cx9 ∧ S_3.1 d_1 1 = .int ry9 ∧ S_3.1 d_1 6 = .int mi9 ∧ S_3.1 d_1 8 = .int pl9 ∧ S_3.1 d_1 11 = .int od9 ∧ y_mine (T_kd tb (le : Int32).toNatClampNeg) (T_vl tb (le : Int32).toNatClampNeg) = some ((x_2 : Int32).toNatClampNeg, (y_gx cx9 ry9 (S_3.2.1 (d_1 + 2)) mi9 pl9 (S_3.2.1 (d_1 + 5)) od9 (S_3.2.1 (d_1 + 10)) (S_3.2.1 (d_1 + 11))))) := w_3_1
  refine lv_istore_n (lv' := [(1, .int x_2), (0, .ref (o + 0))]) hx hb dX11_mine_15 rfl hl (by decide) rfl (fun ls hl => ?_)
  refine lv_aload_n hx hb dX11_mine_16 rfl (lv_at hl 1 rfl) ?_
  refine dg_get (C := RX11) (T := TX11) (N := 13) hx hb hts (fun w h => bw_mem (wU_X11 w h)) hown K hP sX_0 rfl 0 (by decide) (hts _ (bw_mem wB_279)) (fun _ h9 => h9) (v := .ref (o + 1)) (show S_3.1 0 0 = .ref (o + 1) from dg_I.rel (d := 1) I_3 sX_0 (by decide +kernel)) dX11_mine_17 ?_
  refine lv_iconst (v := 0) hx hb dX11_mine_20 (by decide +kernel) ?_
  have hz_4 : (0 : Int32).toInt = 0 := by decide +kernel
  refine dg_put (ci := 8) (v := .int 0) (ty := tyX8 1) (C := RX8) (T := TX8) (N := 2) hx hb hts (fun w h => bw_mem (wU_X8 w h)) tyX8 tyX8_ok nmX8 hown K hP hS hA1 sX_1 rfl 1 (by decide) (hts _ (bw_mem wB_285)) (fun _ h9 => h9) rfl (by decide +kernel) rfl rfl dX11_mine_21 (fun S_5 e_5 H locs hP hS => ?_)
  have I_5 := dg_I.uFi (lo := 0) (hi := 1600) I_3 e_5 sX_1 (by decide +kernel) (show 0 ≤ ((0 : Int32)).toInt ∧ ((0 : Int32)).toInt ≤ 1600 from (by decide +kernel))
  have M_5 := dg_sm.uF M_3 e_5 sX_1 (by decide)
  refine lv_iload_n hx hb dX11_mine_24 rfl (lv_at hl 0 rfl) ?_
  refine lv_iconst (v := (-1)) hx hb dX11_mine_25 (by decide +kernel) ?_
  refine lv_icmp_ne (tgt := 35) hx hb dX11_mine_26 (by decide) (fun c_6 => ?_) (fun c_6 => ?_)
  · have jc_6 := dk_neqc (k := (-1)) (by decide +kernel) c_6
    refine lv_aload_n hx hb dX11_mine_35 rfl (lv_at hl 1 rfl) ?_
    refine dg_get (C := RX11) (T := TX11) (N := 13) hx hb hts (fun w h => bw_mem (wU_X11 w h)) hown K hP sX_0 rfl 7 (by decide) (hts _ (bw_mem wB_280)) (fun _ h9 => h9) (v := .ref (o + d_1)) (((dg_uF_ne e_5 (fun z => absurd z.2 (by decide))).trans (m_3.1 0 7 _ sX_0 (by decide))).trans f_d_1) dX11_mine_36 ?_
    refine lv_astore_n (lv' := [(2, .ref (o + d_1)), (1, .int x_2), (0, .ref (o + 0))]) hx hb dX11_mine_39 rfl hl (by decide) rfl (fun ls hl => ?_)
    refine lv_aload_n hx hb dX11_mine_40 rfl (lv_at hl 2 rfl) ?_
    refine lv_aload_n hx hb dX11_mine_41 rfl (lv_at hl 2 rfl) ?_
    obtain ⟨d_7, hk_d_7, f_d_7⟩ := dg_I.one (i := 0) (k := 6) (d := 0) I_5 sX_0 (by decide +kernel)
    have hk_d_7 : rX d_7 := hk_d_7
    refine dg_get (C := RX11) (T := TX11) (N := 13) hx hb hts (fun w h => bw_mem (wU_X11 w h)) hown K hP sX_0 rfl 6 (by decide) (hts _ (bw_mem wB_286)) (fun _ h9 => h9) (v := .ref (o + d_7)) f_d_7 dX11_mine_42 ?_
    refine dg_put (ci := 11) (v := .ref (o + d_7)) (ty := tyX11 7) (C := RX11) (T := TX11) (N := 13) hx hb hts (fun w h => bw_mem (wU_X11 w h)) tyX11 tyX11_ok nmX11 hown K hP hS hA1 sX_0 rfl 7 (by decide) (hts _ (bw_mem wB_280)) (fun _ h9 => h9) rfl (by decide +kernel) rfl rfl dX11_mine_45 (fun S_8 e_8 H locs hP hS => ?_)
    have I_8 := dg_I.uFo (j := d_7) (d := 0) I_5 e_8 sX_0 (by decide +kernel) hk_d_7
    have M_8 := dg_sm.uF M_5 e_8 sX_0 (by decide)
    refine lv_aload_n hx hb dX11_mine_48 rfl (lv_at hl 2 rfl) ?_
    refine lv_aload_n hx hb dX11_mine_49 rfl (lv_at hl 0 rfl) ?_
    refine dg_put (ci := 11) (v := .ref (o + d_1)) (ty := tyX11 6) (C := RX11) (T := TX11) (N := 13) hx hb hts (fun w h => bw_mem (wU_X11 w h)) tyX11 tyX11_ok nmX11 hown K hP hS hA1 sX_0 rfl 6 (by decide) (hts _ (bw_mem wB_286)) (fun _ h9 => h9) rfl (by decide +kernel) rfl rfl dX11_mine_50 (fun S_9 e_9 H locs hP hS => ?_)
    have I_9 := dg_I.uFo (j := d_1) (d := 0) I_8 e_9 sX_0 (by decide +kernel) hk_d_1
    have M_9 := dg_sm.uF M_8 e_9 sX_0 (by decide)
    refine lv_aload_n hx hb dX11_mine_53 rfl (lv_at hl 2 rfl) ?_
    refine dg_get (C := RX11) (T := TX11) (N := 13) hx hb hts (fun w h => bw_mem (wU_X11 w h)) hown K hP sX_0 rfl 1 (by decide) (hts _ (bw_mem wB_287)) (fun _ h9 => h9) (v := .ref (o + 3)) (show S_9.1 0 1 = .ref (o + 3) from dg_I.rel (d := 3) I_9 sX_0 (by decide +kernel)) dX11_mine_54 ?_
    refine lv_aload_n hx hb dX11_mine_57 rfl (lv_at hl 2 rfl) ?_
    refine dg_get (C := RX11) (T := TX11) (N := 13) hx hb hts (fun w h => bw_mem (wU_X11 w h)) hown K hP sX_0 rfl 6 (by decide) (hts _ (bw_mem wB_286)) (fun _ h9 => h9) (v := .ref (o + d_1)) (dg_uF_at e_9) dX11_mine_58 ?_
    obtain ⟨x_10, f_x_10, b_x_10⟩ := dg_I.int (i := d_1) (k := 0) (lo := 0) (hi := 7) I_9 (rX_0 d_1 hk_d_1) (by decide +kernel)
    obtain ⟨x_11, f_x_11, b_x_11⟩ := dg_I.int (i := d_1) (k := 2) (lo := (-1)) (hi := 63) I_9 (rX_0 d_1 hk_d_1) (by decide +kernel)
    obtain ⟨x_12, f_x_12, b_x_12⟩ := dg_I.int (i := d_1) (k := 1) (lo := 0) (hi := 7) I_9 (rX_0 d_1 hk_d_1) (by decide +kernel)
    refine dg_callv hS hA1 hA (va_runV (As := [.ref (o + d_1)]) (rest := []) F (c_p_begin l g D o S_9 3 (by unfold pX; decide : pX 3) d_1 hk_d_1 x_10 f_x_10 (by omega) x_11 f_x_11 (by omega) (fun h8 => (((Z1X.keep (Z1X.keep (Z1X.keep w_3_2 (dg_sm.uF (WF := [(1, 1)]) (WA := []) dg_sm.rf e_5 sX_1 (by decide)) (by decide) (by decide) (by decide)) (dg_sm.uF (WF := [(0, 7)]) (WA := []) dg_sm.rf e_8 sX_0 (by decide)) (by decide) (by decide) (by decide)) (dg_sm.uF (WF := [(0, 6)]) (WA := []) dg_sm.rf e_9 sX_0 (by decide)) (by decide) (by decide) (by decide)) d_1 hk_d_1 x_10 x_11 x_12 f_x_10 f_x_11 f_x_12) h8).1) I_9 H.size) (cwV 1 hts (bw_V wB_1071 wB_818 wB_819 wB_493 wB_816) rfl rfl rfl (by decide +kernel) ⟨Nat.le_of_ble_eq_true rfl, Nat.le_of_ble_eq_true rfl⟩) (dg_preV (pX_0 3 (by decide)) rfl K ST hP hS hA1 hA) rfl rfl hl.1 rfl (lv_room (Nat.le_of_ble_eq_true rfl)) dX11_mine_61 ⟨Nat.le_of_ble_eq_true rfl, Nat.le_of_ble_eq_true rfl⟩) (fun S_13 hw_13 H locs hP hS => ?_)
    obtain ⟨I_13, m_13, w_13_0, w_13_1, -⟩ := hw_13
    have M_13 := dg_sm.tr M_9 m_13 (by decide) (by decide)
    refine lv_aload_n hx hb dX11_mine_64 rfl (lv_at hl 2 rfl) ?_
    refine dg_get (C := RX11) (T := TX11) (N := 13) hx hb hts (fun w h => bw_mem (wU_X11 w h)) hown K hP sX_0 rfl 3 (by decide) (hts _ (bw_mem wB_844)) (fun _ h9 => h9) (v := .ref (o + 17)) (show S_13.1 0 3 = .ref (o + 17) from dg_I.rel (d := 17) I_13 sX_0 (by decide +kernel)) dX11_mine_65 ?_
    refine dg_callv hS hA1 hA (va_runV (As := []) (rest := []) F (c_h_clear l g D o S_13 I_13 H.size) (cwV 0 hts (bw_V wB_1068 wB_1069 wB_1070 wB_849 wB_1067) rfl rfl rfl (by decide +kernel) ⟨Nat.le_of_ble_eq_true rfl, Nat.le_of_ble_eq_true rfl⟩) (dg_preV sX_17 rfl K ST hP hS hA1 hA) rfl rfl hl.1 rfl (lv_room (Nat.le_of_ble_eq_true rfl)) dX11_mine_68 ⟨Nat.le_of_ble_eq_true rfl, Nat.le_of_ble_eq_true rfl⟩) (fun S_14 hw_14 H locs hP hS => ?_)
    obtain ⟨I_14, m_14, w_14_0, -⟩ := hw_14
    have M_14 := dg_sm.tr M_13 m_14 (by decide) (by decide)
    refine lv_aload_n hx hb dX11_mine_71 rfl (lv_at hl 2 rfl) ?_
    refine dg_get (C := RX11) (T := TX11) (N := 13) hx hb hts (fun w h => bw_mem (wU_X11 w h)) hown K hP sX_0 rfl 11 (by decide) (hts _ (bw_mem wB_842)) (fun _ h9 => h9) (v := .ref (o + 229)) (show S_14.1 0 11 = .ref (o + 229) from dg_I.rel (d := 229) I_14 sX_0 (by decide +kernel)) dX11_mine_72 ?_
    refine lv_iconst (v := 0) hx hb dX11_mine_75 (by decide +kernel) ?_
    have hz_15 : (0 : Int32).toInt = 0 := by decide +kernel
    refine dg_put (ci := 0) (v := .int 0) (ty := tyX0 5) (C := RX0) (T := TX0) (N := 9) hx hb hts (fun w h => bw_mem (wU_X0 w h)) tyX0 tyX0_ok nmX0 hown K hP hS hA1 sX_229 rfl 5 (by decide) (hts _ (bw_mem wB_949)) (fun _ h9 => h9) rfl (by decide +kernel) rfl rfl dX11_mine_76 (fun S_16 e_16 H locs hP hS => ?_)
    have I_16 := dg_I.uFi (lo := 0) (hi := 16) I_14 e_16 sX_229 (by decide +kernel) (show 0 ≤ ((0 : Int32)).toInt ∧ ((0 : Int32)).toInt ≤ 16 from (by decide +kernel))
    have M_16 := dg_sm.uF M_14 e_16 sX_229 (by decide)
    refine lv_aload_n hx hb dX11_mine_79 rfl (lv_at hl 2 rfl) ?_
    refine dg_callv hS hA1 hA (va_runV (As := []) (rest := []) F (c_d_forgetTrials l g D o S_16 (Z1X.keep (Z1X.keep (Z1X.keep (Z1X.keep (Z1X.keep (Z1X.keep w_3_2 (dg_sm.uF (WF := [(1, 1)]) (WA := []) dg_sm.rf e_5 sX_1 (by decide)) (by decide) (by decide) (by decide)) (dg_sm.uF (WF := [(0, 7)]) (WA := []) dg_sm.rf e_8 sX_0 (by decide)) (by decide) (by decide) (by decide)) (dg_sm.uF (WF := [(0, 6)]) (WA := []) dg_sm.rf e_9 sX_0 (by decide)) (by decide) (by decide) (by decide)) m_13 (by decide) (by decide) (by decide)) m_14 (by decide) (by decide) (by decide)) (dg_sm.uF (WF := [(44, 5)]) (WA := []) dg_sm.rf e_16 sX_229 (by decide)) (by decide) (by decide) (by decide)) (Z2X.keep (Z2X.keep (Z2X.keep (Z2X.keep (Z2X.keep (Z2X.keep (Z2X.keep Z2 m_3 (by decide) (by decide)) (dg_sm.uF (WF := [(1, 1)]) (WA := []) dg_sm.rf e_5 sX_1 (by decide)) (by decide) (by decide)) (dg_sm.uF (WF := [(0, 7)]) (WA := []) dg_sm.rf e_8 sX_0 (by decide)) (by decide) (by decide)) (dg_sm.uF (WF := [(0, 6)]) (WA := []) dg_sm.rf e_9 sX_0 (by decide)) (by decide) (by decide)) m_13 (by decide) (by decide)) m_14 (by decide) (by decide)) (dg_sm.uF (WF := [(44, 5)]) (WA := []) dg_sm.rf e_16 sX_229 (by decide)) (by decide) (by decide)) (Z3X.keep (Z3X.keep (Z3X.keep (Z3X.keep (Z3X.keep (Z3X.keep (Z3X.keep Z3 m_3 (dg_FG.sm m_3 (by decide)) (by decide)) (dg_sm.uF (WF := [(1, 1)]) (WA := []) dg_sm.rf e_5 sX_1 (by decide)) (dg_FG.uF e_5) (by decide)) (dg_sm.uF (WF := [(0, 7)]) (WA := []) dg_sm.rf e_8 sX_0 (by decide)) (dg_FG.uF e_8) (by decide)) (dg_sm.uF (WF := [(0, 6)]) (WA := []) dg_sm.rf e_9 sX_0 (by decide)) (dg_FG.uF e_9) (by decide)) m_13 w_13_1 (by decide)) m_14 (dg_FG.sm m_14 (by decide)) (by decide)) (dg_sm.uF (WF := [(44, 5)]) (WA := []) dg_sm.rf e_16 sX_229 (by decide)) (dg_FG.uF e_16) (by decide)) (Z4X.keep w_14_0 (dg_sm.uF (WF := [(44, 5)]) (WA := []) dg_sm.rf e_16 sX_229 (by decide)) (dg_FG.uF e_16) (by decide) (by decide)) (Z6X.keep (Z6X.keep (Z6X.keep (Z6X.keep (Z6X.keep (Z6X.keep (Z6X.keep Z6 m_3 (dg_FG.sm m_3 (by decide))) (dg_sm.uF (WF := [(1, 1)]) (WA := []) dg_sm.rf e_5 sX_1 (by decide)) (dg_FG.uF e_5)) (dg_sm.uF (WF := [(0, 7)]) (WA := []) dg_sm.rf e_8 sX_0 (by decide)) (dg_FG.uF e_8)) (dg_sm.uF (WF := [(0, 6)]) (WA := []) dg_sm.rf e_9 sX_0 (by decide)) (dg_FG.uF e_9)) m_13 w_13_1) m_14 (dg_FG.sm m_14 (by decide))) (dg_sm.uF (WF := [(44, 5)]) (WA := []) dg_sm.rf e_16 sX_229 (by decide)) (dg_FG.uF e_16)) I_16 H.size) (cwV 0 hts (bw_V wB_851 wB_852 wB_853 wB_610 wB_850) rfl rfl rfl (by decide +kernel) ⟨Nat.le_of_ble_eq_true rfl, Nat.le_of_ble_eq_true rfl⟩) (dg_preV sX_0 rfl K ST hP hS hA1 hA) rfl rfl hl.1 rfl (lv_room (Nat.le_of_ble_eq_true rfl)) dX11_mine_80 ⟨Nat.le_of_ble_eq_true rfl, Nat.le_of_ble_eq_true rfl⟩) (fun S_17 hw_17 H locs hP hS => ?_)
    obtain ⟨I_17, m_17, -⟩ := hw_17
    have M_17 := dg_sm.tr M_16 m_17 (by decide) (by decide)
    refine lv_iload_n hx hb dX11_mine_83 rfl (lv_at hl 1 rfl) ?_
    have hz_18 : (0 : Int32).toInt = 0 := by decide +kernel
    refine W.widen (k := 0) (n := 0) (Nat.le_of_ble_eq_true rfl) (Nat.le_of_ble_eq_true rfl) ?_
    exact dg_iret hx hb hr hlocks rfl hP hS ⟨I_17, M_17, (by omega), ⟨0, (((m_17.1 1 1 _ sX_1 (by decide)).trans ((dg_uF_ne e_16 (fun z => absurd z.2 (by decide))).trans ((m_14.1 1 1 _ sX_1 (by decide)).trans ((m_13.1 1 1 _ sX_1 (by decide)).trans ((dg_uF_ne e_9 (fun z => absurd z.2 (by decide))).trans (dg_uF_ne e_8 (fun z => absurd z.2 (by decide)))))))).trans (dg_uF_at e_5)), (by omega)⟩, ⟨fun q9 => absurd q9 (by omega), fun _ => by obtain ⟨cx9, ry9, mi9, pl9, od9, -, -, -, -, -, h9⟩ := w_3_1.2 (by omega); exact ⟨_, h9⟩⟩, (Z1X.keep (Z1X.keep (Z1X.keep (Z1X.keep (Z1X.keep (Z1X.keep (Z1X.keep w_3_2 (dg_sm.uF (WF := [(1, 1)]) (WA := []) dg_sm.rf e_5 sX_1 (by decide)) (by decide) (by decide) (by decide)) (dg_sm.uF (WF := [(0, 7)]) (WA := []) dg_sm.rf e_8 sX_0 (by decide)) (by decide) (by decide) (by decide)) (dg_sm.uF (WF := [(0, 6)]) (WA := []) dg_sm.rf e_9 sX_0 (by decide)) (by decide) (by decide) (by decide)) m_13 (by decide) (by decide) (by decide)) m_14 (by decide) (by decide) (by decide)) (dg_sm.uF (WF := [(44, 5)]) (WA := []) dg_sm.rf e_16 sX_229 (by decide)) (by decide) (by decide) (by decide)) m_17 (by decide) (by decide) (by decide)), (Z3X.keep (Z3X.keep (Z3X.keep (Z3X.keep (Z3X.keep (Z3X.keep (Z3X.keep (Z3X.keep Z3 m_3 (dg_FG.sm m_3 (by decide)) (by decide)) (dg_sm.uF (WF := [(1, 1)]) (WA := []) dg_sm.rf e_5 sX_1 (by decide)) (dg_FG.uF e_5) (by decide)) (dg_sm.uF (WF := [(0, 7)]) (WA := []) dg_sm.rf e_8 sX_0 (by decide)) (dg_FG.uF e_8) (by decide)) (dg_sm.uF (WF := [(0, 6)]) (WA := []) dg_sm.rf e_9 sX_0 (by decide)) (dg_FG.uF e_9) (by decide)) m_13 w_13_1 (by decide)) m_14 (dg_FG.sm m_14 (by decide)) (by decide)) (dg_sm.uF (WF := [(44, 5)]) (WA := []) dg_sm.rf e_16 sX_229 (by decide)) (dg_FG.uF e_16) (by decide)) m_17 (dg_FG.sm m_17 (by decide)) (by decide)), (Z4X.keep (Z4X.keep w_14_0 (dg_sm.uF (WF := [(44, 5)]) (WA := []) dg_sm.rf e_16 sX_229 (by decide)) (dg_FG.uF e_16) (by decide) (by decide)) m_17 (dg_FG.sm m_17 (by decide)) (by decide) (by decide)), (Z6X.keep (Z6X.keep (Z6X.keep (Z6X.keep (Z6X.keep (Z6X.keep (Z6X.keep (Z6X.keep Z6 m_3 (dg_FG.sm m_3 (by decide))) (dg_sm.uF (WF := [(1, 1)]) (WA := []) dg_sm.rf e_5 sX_1 (by decide)) (dg_FG.uF e_5)) (dg_sm.uF (WF := [(0, 7)]) (WA := []) dg_sm.rf e_8 sX_0 (by decide)) (dg_FG.uF e_8)) (dg_sm.uF (WF := [(0, 6)]) (WA := []) dg_sm.rf e_9 sX_0 (by decide)) (dg_FG.uF e_9)) m_13 w_13_1) m_14 (dg_FG.sm m_14 (by decide))) (dg_sm.uF (WF := [(44, 5)]) (WA := []) dg_sm.rf e_16 sX_229 (by decide)) (dg_FG.uF e_16)) m_17 (dg_FG.sm m_17 (by decide))), (dg_FG.tr (dg_FG.tr (dg_FG.tr (dg_FG.tr (dg_FG.tr (dg_FG.tr (dg_FG.tr (dg_FG.sm m_3 (by decide)) (dg_FG.uF e_5)) (dg_FG.uF e_8)) (dg_FG.uF e_9)) w_13_1) (dg_FG.sm m_14 (by decide))) (dg_FG.uF e_16)) (dg_FG.sm m_17 (by decide))), trivial⟩ dX11_mine_84
  · have jc_6 := dk_eqc (k := (-1)) (by decide +kernel) c_6
    refine lv_aload_n hx hb dX11_mine_29 rfl (lv_at hl 1 rfl) ?_
    refine lv_iconst (v := 1) hx hb dX11_mine_30 (by decide +kernel) ?_
    have hz_19 : (1 : Int32).toInt = 1 := by decide +kernel
    refine dg_calli hS hA1 hA (va_runV (As := [.int 1]) (rest := []) F (c_d_none l g D o S_5 1 (by decide +kernel) (Z1X.keep w_3_2 (dg_sm.uF (WF := [(1, 1)]) (WA := []) dg_sm.rf e_5 sX_1 (by decide)) (by decide) (by decide) (by decide)) (Z2X.keep (Z2X.keep Z2 m_3 (by decide) (by decide)) (dg_sm.uF (WF := [(1, 1)]) (WA := []) dg_sm.rf e_5 sX_1 (by decide)) (by decide) (by decide)) (Z3X.keep (Z3X.keep Z3 m_3 (dg_FG.sm m_3 (by decide)) (by decide)) (dg_sm.uF (WF := [(1, 1)]) (WA := []) dg_sm.rf e_5 sX_1 (by decide)) (dg_FG.uF e_5) (by decide)) (Z4X.keep (Z4X.keep Z4 m_3 (dg_FG.sm m_3 (by decide)) (by decide) (by decide)) (dg_sm.uF (WF := [(1, 1)]) (WA := []) dg_sm.rf e_5 sX_1 (by decide)) (dg_FG.uF e_5) (by decide) (by decide)) (Z6X.keep (Z6X.keep Z6 m_3 (dg_FG.sm m_3 (by decide))) (dg_sm.uF (WF := [(1, 1)]) (WA := []) dg_sm.rf e_5 sX_1 (by decide)) (dg_FG.uF e_5)) I_5 H.size) (cwV 1 hts (bw_V wB_920 wB_921 wB_922 wB_610 wB_919) rfl rfl rfl (by decide +kernel) ⟨Nat.le_of_ble_eq_true rfl, Nat.le_of_ble_eq_true rfl⟩) (dg_preV sX_0 rfl K ST hP hS hA1 hA) rfl rfl hl.1 rfl (lv_room (Nat.le_of_ble_eq_true rfl)) dX11_mine_31 ⟨Nat.le_of_ble_eq_true rfl, Nat.le_of_ble_eq_true rfl⟩) (fun x_20 S_21 hw_21 H locs hP hS => ?_)
    obtain ⟨I_21, m_21, w_21_0, -⟩ := hw_21
    have M_21 := dg_sm.tr M_5 m_21 (by decide) (by decide)
    have w_21_0 : (-1) ≤ (x_20).toInt ∧ (x_20).toInt ≤ (-1) := w_21_0
    have hz_22 : (0 : Int32).toInt = 0 := by decide +kernel
    refine W.widen (k := 0) (n := 0) (Nat.le_of_ble_eq_true rfl) (Nat.le_of_ble_eq_true rfl) ?_
    exact dg_iret hx hb hr hlocks rfl hP hS ⟨I_21, M_21, (by omega), ⟨0, ((m_21.1 1 1 _ sX_1 (by decide)).trans (dg_uF_at e_5)), (by omega)⟩, ⟨fun _ => w_3_1.1 (by omega), fun q9 => absurd (by omega) q9⟩, (Z1X.keep (Z1X.keep w_3_2 (dg_sm.uF (WF := [(1, 1)]) (WA := []) dg_sm.rf e_5 sX_1 (by decide)) (by decide) (by decide) (by decide)) m_21 (by decide) (by decide) (by decide)), (Z3X.keep (Z3X.keep (Z3X.keep Z3 m_3 (dg_FG.sm m_3 (by decide)) (by decide)) (dg_sm.uF (WF := [(1, 1)]) (WA := []) dg_sm.rf e_5 sX_1 (by decide)) (dg_FG.uF e_5) (by decide)) m_21 (dg_FG.sm m_21 (by decide)) (by decide)), (Z4X.keep (Z4X.keep (Z4X.keep Z4 m_3 (dg_FG.sm m_3 (by decide)) (by decide) (by decide)) (dg_sm.uF (WF := [(1, 1)]) (WA := []) dg_sm.rf e_5 sX_1 (by decide)) (dg_FG.uF e_5) (by decide) (by decide)) m_21 (dg_FG.sm m_21 (by decide)) (by decide) (by decide)), (Z6X.keep (Z6X.keep (Z6X.keep Z6 m_3 (dg_FG.sm m_3 (by decide))) (dg_sm.uF (WF := [(1, 1)]) (WA := []) dg_sm.rf e_5 sX_1 (by decide)) (dg_FG.uF e_5)) m_21 (dg_FG.sm m_21 (by decide))), (dg_FG.tr (dg_FG.tr (dg_FG.sm m_3 (by decide)) (dg_FG.uF e_5)) (dg_FG.sm m_21 (by decide))), trivial⟩ dX11_mine_34
