section
/-! what a ground holds -/
def GXv (d : Nat) (σ : y_S) (S : dg_S) : Prop := rX d ∧ ∃ cx ry mi pl od : Int32, S.1 d 0 = .int cx ∧ S.1 d 1 = .int ry ∧ S.1 d 6 = .int mi ∧ S.1 d 8 = .int pl ∧ S.1 d 11 = .int od ∧ σ = y_gx cx ry (S.2.1 (d + 2)) mi pl (S.2.1 (d + 5)) od (S.2.1 (d + 10)) (S.2.1 (d + 11))
/-- a MINE told in ground d -/
def GXN (d : Nat) (T : Option (Nat × y_S)) (m : Nat) (S : dg_S) : Prop := ∃ σ : y_S, T = some (m, σ) ∧ GXv d σ S
section GXs
variable {S0 S S1 : dg_S} {d m : Nat} {WF : List (Nat × Nat)} {WA : List Nat} {σ : y_S} {T : Option (Nat × y_S)}
theorem GXv.as (h : GXv d σ S) (e0 : ∀ k : Nat, S1.1 d k = S.1 d k) (e1 : ∀ j : Nat, 1 ≤ j → j < 12 → j ≠ 9 → S1.2.1 (d + j) = S.2.1 (d + j)) : GXv d σ S1 := by
  obtain ⟨hd, cx, ry, mi, pl, od, f0, f1, f6, f8, f11, e⟩ := h
  refine ⟨hd, cx, ry, mi, pl, od, (e0 0).trans f0, (e0 1).trans f1, (e0 6).trans f6, (e0 8).trans f8, (e0 11).trans f11, ?_⟩
  rw [e1 2 (by decide) (by decide) (by decide), e1 5 (by decide) (by decide) (by decide), e1 10 (by decide) (by decide) (by decide), e1 11 (by decide) (by decide) (by decide)]
  exact e
theorem GXv.keep (h : GXv d σ S) (m : dg_sm shX WF WA S S1) (hF : gg_nF WF = true) (hA : gg_nA WA = true) : GXv d σ S1 := h.as (gg_keepF h.1 m hF) (fun _ h1 h2 h3 => gg_keepA h.1 m hA h1 h2 h3)
theorem GXv.go (h : GXv d σ S) (g : GOX S d S1) : GXv d σ S1 := h.as g.2.1 g.2.2
theorem GXN.keep (h : GXN d T m S) (q : dg_sm shX WF WA S S1) (hF : gg_nF WF = true) (hA : gg_nA WA = true) : GXN d T m S1 := by
  obtain ⟨σ, e, g⟩ := h
  exact ⟨σ, e, g.keep q hF hA⟩
theorem GXN.mk (hd : rX d) (h : ∃ cx ry mi pl od : Int32, S.1 d 0 = .int cx ∧ S.1 d 1 = .int ry ∧ S.1 d 6 = .int mi ∧ S.1 d 8 = .int pl ∧ S.1 d 11 = .int od ∧ T = some (m, y_gx cx ry (S.2.1 (d + 2)) mi pl (S.2.1 (d + 5)) od (S.2.1 (d + 10)) (S.2.1 (d + 11)))) : GXN d T m S := by
  obtain ⟨cx, ry, mi, pl, od, f0, f1, f6, f8, f11, e⟩ := h
  exact ⟨_, e, hd, cx, ry, mi, pl, od, f0, f1, f6, f8, f11, rfl⟩
theorem GXv.none (hd : rX d) (f0 : S.1 d 0 = .int 0) (f1 : S.1 d 1 = .int 0) (f6 : S.1 d 6 = .int 0) (f8 : S.1 d 8 = .int 0) (f11 : S.1 d 11 = .int 0) (r10 : S.2.1 (d + 10) = fun _ => 0) (r11 : S.2.1 (d + 11) = fun _ => 0) : GXv d y_0 S := by
  refine ⟨hd, 0, 0, 0, 0, 0, f0, f1, f6, f8, f11, ?_⟩
  rw [r10, r11]
  rfl
end GXs
end
section
/-! 27.minx.lean.txt -/
theorem dX11_mine_0 : decode cX11_mine 0 = .ok (.aload_n 0, 1) := dk_o42 (by decide +kernel)
theorem dX11_mine_1 : decode cX11_mine 1 = .ok (.getfield 61, 3) := dk_o180 (by decide +kernel)
theorem dX11_mine_4 : decode cX11_mine 4 = .ok (.aload_n 0, 1) := dk_o42 (by decide +kernel)
theorem dX11_mine_5 : decode cX11_mine 5 = .ok (.getfield 10, 3) := dk_o180 (by decide +kernel)
theorem dX11_mine_8 : decode cX11_mine 8 = .ok (.aload_n 0, 1) := dk_o42 (by decide +kernel)
theorem dX11_mine_9 : decode cX11_mine 9 = .ok (.getfield 53, 3) := dk_o180 (by decide +kernel)
theorem dX11_mine_12 : decode cX11_mine 12 = .ok (.invokevirtual 112, 3) := dk_o182 (by decide +kernel)
theorem dX11_mine_15 : decode cX11_mine 15 = .ok (.istore_n 1, 1) := dk_o60 (by decide +kernel)
theorem dX11_mine_16 : decode cX11_mine 16 = .ok (.aload_n 0, 1) := dk_o42 (by decide +kernel)
theorem dX11_mine_17 : decode cX11_mine 17 = .ok (.getfield 10, 3) := dk_o180 (by decide +kernel)
theorem dX11_mine_20 : decode cX11_mine 20 = .ok (.iconst 0, 1) := dk_o3 (by decide +kernel)
theorem dX11_mine_21 : decode cX11_mine 21 = .ok (.putfield 97, 3) := dk_o181 (by decide +kernel)
theorem dX11_mine_24 : decode cX11_mine 24 = .ok (.iload_n 1, 1) := dk_o27 (by decide +kernel)
theorem dX11_mine_25 : decode cX11_mine 25 = .ok (.iconst (-1), 1) := dk_o2 (by decide +kernel)
theorem dX11_mine_26 : decode cX11_mine 26 = .ok (.if_icmp .ne 9, 3) := dk_o160 (by decide +kernel)
theorem dX11_mine_29 : decode cX11_mine 29 = .ok (.aload_n 0, 1) := dk_o42 (by decide +kernel)
theorem dX11_mine_30 : decode cX11_mine 30 = .ok (.iconst 1, 1) := dk_o4 (by decide +kernel)
theorem dX11_mine_31 : decode cX11_mine 31 = .ok (.invokevirtual 100, 3) := dk_o182 (by decide +kernel)
theorem dX11_mine_34 : decode cX11_mine 34 = .ok (.ireturn, 1) := dk_o172 (by decide +kernel)
theorem dX11_mine_35 : decode cX11_mine 35 = .ok (.aload_n 0, 1) := dk_o42 (by decide +kernel)
theorem dX11_mine_36 : decode cX11_mine 36 = .ok (.getfield 53, 3) := dk_o180 (by decide +kernel)
theorem dX11_mine_39 : decode cX11_mine 39 = .ok (.astore_n 2, 1) := dk_o77 (by decide +kernel)
theorem dX11_mine_40 : decode cX11_mine 40 = .ok (.aload_n 0, 1) := dk_o42 (by decide +kernel)
theorem dX11_mine_41 : decode cX11_mine 41 = .ok (.aload_n 0, 1) := dk_o42 (by decide +kernel)
theorem dX11_mine_42 : decode cX11_mine 42 = .ok (.getfield 49, 3) := dk_o180 (by decide +kernel)
theorem dX11_mine_45 : decode cX11_mine 45 = .ok (.putfield 53, 3) := dk_o181 (by decide +kernel)
theorem dX11_mine_48 : decode cX11_mine 48 = .ok (.aload_n 0, 1) := dk_o42 (by decide +kernel)
theorem dX11_mine_49 : decode cX11_mine 49 = .ok (.aload_n 2, 1) := dk_o44 (by decide +kernel)
theorem dX11_mine_50 : decode cX11_mine 50 = .ok (.putfield 49, 3) := dk_o181 (by decide +kernel)
theorem dX11_mine_53 : decode cX11_mine 53 = .ok (.aload_n 0, 1) := dk_o42 (by decide +kernel)
theorem dX11_mine_54 : decode cX11_mine 54 = .ok (.getfield 19, 3) := dk_o180 (by decide +kernel)
theorem dX11_mine_57 : decode cX11_mine 57 = .ok (.aload_n 0, 1) := dk_o42 (by decide +kernel)
theorem dX11_mine_58 : decode cX11_mine 58 = .ok (.getfield 49, 3) := dk_o180 (by decide +kernel)
theorem dX11_mine_61 : decode cX11_mine 61 = .ok (.invokevirtual 94, 3) := dk_o182 (by decide +kernel)
theorem dX11_mine_64 : decode cX11_mine 64 = .ok (.aload_n 0, 1) := dk_o42 (by decide +kernel)
theorem dX11_mine_65 : decode cX11_mine 65 = .ok (.getfield 29, 3) := dk_o180 (by decide +kernel)
theorem dX11_mine_68 : decode cX11_mine 68 = .ok (.invokevirtual 116, 3) := dk_o182 (by decide +kernel)
theorem dX11_mine_71 : decode cX11_mine 71 = .ok (.aload_n 0, 1) := dk_o42 (by decide +kernel)
theorem dX11_mine_72 : decode cX11_mine 72 = .ok (.getfield 86, 3) := dk_o180 (by decide +kernel)
theorem dX11_mine_75 : decode cX11_mine 75 = .ok (.iconst 0, 1) := dk_o3 (by decide +kernel)
theorem dX11_mine_76 : decode cX11_mine 76 = .ok (.putfield 119, 3) := dk_o181 (by decide +kernel)
theorem dX11_mine_79 : decode cX11_mine 79 = .ok (.aload_n 0, 1) := dk_o42 (by decide +kernel)
theorem dX11_mine_80 : decode cX11_mine 80 = .ok (.invokevirtual 122, 3) := dk_o182 (by decide +kernel)
theorem dX11_mine_83 : decode cX11_mine 83 = .ok (.iload_n 1, 1) := dk_o27 (by decide +kernel)
theorem dX11_mine_84 : decode cX11_mine 84 = .ok (.ireturn, 1) := dk_o172 (by decide +kernel)
theorem wB_1071 : Cond.methodLink RX11 94 yX5_begin ∈ dgB := List.mem_filter.mpr ⟨tbl_3 _ (List.mem_of_getElem? (i := 34) (by decide +kernel)), by decide +kernel⟩
set_option maxHeartbeats 8000000 in
set_option maxRecDepth 100000 in
theorem c_d_mine (l : Launch) (g : Nat → ClassId) (D : va_G) (o : Nat) (S : dg_S) (tb : Nat → Int32) (d0 : Nat) (hk_d0 : rX d0) (f_d0 : S.1 0 6 = .ref (o + d0)) (gs : Nat) (hk_gs : rX gs) (f_gs : S.1 0 7 = .ref (o + gs)) (le : Int32) (f_le : S.1 1 1 = .int le) (b_le : 0 ≤ (le).toInt ∧ (le).toInt ≤ 1600) (htb : S.2.1 2 = tb) (hd0 : d0 ≠ gs) (Z1 : Z1X S) (Z2 : Z2X S) (Z3 : Z3X o S) (Z4 : Z4X S) (Z6 : Z6X S) (I : CX o S) (sz : Nat) : Met l yX11_mine (bw yX11_mine cX11_mine 3 (some .int)) ({ frames := 71, cells := 0, slots := 0, locals := 1627 } : Room) (dk_Pc g D (dg_w g shX o rfX S) sz [.ref (o + 0)]) (va_Qi (fun (r : Int32) S' => CX o S' ∧ dg_sm shX [(0, 6), (0, 7), (1, 1), (3, 0), (3, 1), (10, 1), (10, 2), (19, 0), (19, 1), (19, 2), (19, 3), (19, 4), (19, 6), (19, 8), (19, 11), (31, 0), (31, 1), (31, 3), (31, 4), (31, 5), (31, 6), (31, 7), (32, 3), (32, 4), (43, 2), (43, 3), (44, 4), (44, 5)] [4, 5, 6, 7, 8, 9, 18, 20, 21, 22, 23, 24, 25, 26, 27, 28, 29, 30, 33, 34, 35] S S' ∧ ((-1) ≤ (r).toInt ∧ (r).toInt ≤ 80) ∧ (∃ y9 : Int32, S'.1 1 1 = .int y9 ∧ ((y9).toInt = 0)) ∧ (((r).toInt = -1 → y_mine (T_kd tb (le : Int32).toNatClampNeg) (T_vl tb (le : Int32).toNatClampNeg) = none) ∧ ((r).toInt ≠ -1 → ∃ σ9 : y_S, y_mine (T_kd tb (le : Int32).toNatClampNeg) (T_vl tb (le : Int32).toNatClampNeg) = some ((r : Int32).toNatClampNeg, σ9))) ∧ (((r).toInt = -1 → S'.1 0 6 = .ref (o + d0) ∧ S'.1 0 7 = .ref (o + gs) ∧ GOX S d0 S') ∧ ((r).toInt ≠ -1 → S'.1 0 6 = .ref (o + gs) ∧ S'.1 0 7 = .ref (o + d0) ∧ GXN gs (y_mine (T_kd tb (le : Int32).toNatClampNeg) (T_vl tb (le : Int32).toNatClampNeg)) (r : Int32).toNatClampNeg S')) ∧ ((r).toInt = -1 → G9X S d0 S') ∧ ((r).toInt ≠ -1 → kx (z_all (T_kd tb (le : Int32).toNatClampNeg) (T_vl tb (le : Int32).toNatClampNeg) (k_st (T_kd tb (le : Int32).toNatClampNeg) (T_vl tb (le : Int32).toNatClampNeg)) k_0) S' gs) ∧ ((r).toInt ≠ -1 → ∃ S9 : dg_S, S' = F_d_forgetTrials o (dg_uF (F_h_clear o (F_p_begin o S9 3 gs)) 229 5 (.int 0)) ∧ S9.1 0 6 = .ref (o + gs) ∧ kx (z_all (T_kd tb (le : Int32).toNatClampNeg) (T_vl tb (le : Int32).toNatClampNeg) (k_st (T_kd tb (le : Int32).toNatClampNeg) (T_vl tb (le : Int32).toNatClampNeg)) k_0) S9 gs ∧ CX o S9 ∧ dg_sm shX [(0, 6), (0, 7), (1, 1), (19, 0), (19, 1), (19, 2), (19, 3), (19, 4), (19, 6), (19, 8), (19, 11), (31, 0), (31, 1), (31, 3), (31, 4), (31, 5), (31, 6), (31, 7), (32, 3), (32, 4)] [20, 21, 22, 23, 24, 25, 26, 27, 28, 29, 30, 33, 34, 35] S S9) ∧ ((r).toInt = -1 → ∃ S9 : dg_S, S' = (F_d_none o S9 1).1 ∧ dg_sm shX [(1, 1), (19, 0), (19, 1), (19, 2), (19, 3), (19, 4), (19, 6), (19, 8), (19, 11), (31, 0), (31, 1), (31, 3), (31, 4), (31, 5), (31, 6), (31, 7), (32, 3), (32, 4)] [20, 21, 22, 23, 24, 25, 26, 27, 28, 29, 30, 33, 34, 35] S S9) ∧ Z1X S' ∧ Z3X o S' ∧ Z4X S' ∧ Z6X S' ∧ dg_FG S S' ∧ True) (dg_B g D shX o rfX) (dg_A o shX.length sz)) 0 0 (dg_A o shX.length sz) := by
  refine dg_met (cc := cX11_mine) (maxL := 3) (ret := (some .int)) (dk_dq rfl) rfl (Nat.le_of_ble_eq_true rfl) ?_
  intro p e s m args below meth c A hAe harg hx hb hr hml hts hown hlocks hin hP K hS hA1 hA ST hsz ls hl
  rw [← hAe]
  have F : CallFix p m c cX11_mine 3 s args (bw yX11_mine cX11_mine 3 (some .int)) RX11 := ⟨hx, hb, hml, hown, hts⟩
  have hl : lv_has ls 3 [(0, .ref (o + 0))] := hl
  have M_0 : dg_sm shX [(0, 6), (0, 7), (1, 1), (3, 0), (3, 1), (10, 1), (10, 2), (19, 0), (19, 1), (19, 2), (19, 3), (19, 4), (19, 6), (19, 8), (19, 11), (31, 0), (31, 1), (31, 3), (31, 4), (31, 5), (31, 6), (31, 7), (32, 3), (32, 4), (43, 2), (43, 3), (44, 4), (44, 5)] [4, 5, 6, 7, 8, 9, 18, 20, 21, 22, 23, 24, 25, 26, 27, 28, 29, 30, 33, 34, 35] S S := dg_sm.rf
  refine lv_aload_n hx hb dX11_mine_0 rfl (lv_at hl 0 rfl) ?_
  refine dg_get (C := RX11) (T := TX11) (N := 13) hx hb hts (fun w h => bw_mem (wU_X11 w h)) hown K hP sX_0 rfl 8 (dk_dq rfl) (hts _ (bw_mem wB_278)) (fun _ h9 => h9) (v := .ref (o + 209)) (show S.1 0 8 = .ref (o + 209) from dg_I.rel (d := 209) I sX_0 (by decide +kernel)) dX11_mine_1 ?_
  refine lv_aload_n hx hb dX11_mine_4 rfl (lv_at hl 0 rfl) ?_
  refine dg_get (C := RX11) (T := TX11) (N := 13) hx hb hts (fun w h => bw_mem (wU_X11 w h)) hown K hP sX_0 rfl 0 (dk_dq rfl) (hts _ (bw_mem wB_279)) (fun _ h9 => h9) (v := .ref (o + 1)) (show S.1 0 0 = .ref (o + 1) from dg_I.rel (d := 1) I sX_0 (by decide +kernel)) dX11_mine_5 ?_
  refine lv_aload_n hx hb dX11_mine_8 rfl (lv_at hl 0 rfl) ?_
  refine dg_get (C := RX11) (T := TX11) (N := 13) hx hb hts (fun w h => bw_mem (wU_X11 w h)) hown K hP sX_0 rfl 7 (dk_dq rfl) (hts _ (bw_mem wB_280)) (fun _ h9 => h9) (v := .ref (o + gs)) f_gs dX11_mine_9 ?_
  refine dg_calli hS hA1 hA (va_runV (As := [.ref (o + 1), .ref (o + gs)]) (rest := []) F (c_rd_read l g D o S gs hk_gs tb S d0 le f_le (by omega) htb hd0 Z1 (GOX.init hk_d0) (G9X.init hk_d0) I s.heap.size) (cwV 2 hts (bw_V wB_282 wB_283 wB_284 wB_24 wB_281) rfl rfl rfl (by decide +kernel) ⟨Nat.le_of_ble_eq_true rfl, Nat.le_of_ble_eq_true rfl⟩) (dg_preV sX_209 rfl K ST hP hS hA1 hA) rfl rfl hl.1 rfl (lv_room (Nat.le_of_ble_eq_true rfl)) dX11_mine_12 ⟨Nat.le_of_ble_eq_true rfl, Nat.le_of_ble_eq_true rfl⟩) (fun x_1 S_2 hw_2 H locs hP hS => ?_)
  obtain ⟨I_2, m_2, w_2_0, w_2_1, w_2_2, w_2_3, w_2_4, w_2_5, -⟩ := hw_2
  have M_2 := dg_sm.tr M_0 m_2 (dk_dq rfl) (dk_dq rfl)
  have w_2_0 : (-1) ≤ (x_1).toInt ∧ (x_1).toInt ≤ 80 := w_2_0
  replace w_2_1 : ((x_1).toInt = -1 → y_mine (T_kd tb (le : Int32).toNatClampNeg) (T_vl tb (le : Int32).toNatClampNeg) = none) ∧ ((x_1).toInt ≠ -1 → ∃ cx9 ry9 mi9 pl9 od9 : Int32, S_2.1 gs 0 = .int cx9 ∧ S_2.1 gs 1 = .int ry9 ∧ S_2.1 gs 6 = .int mi9 ∧ S_2.1 gs 8 = .int pl9 ∧ S_2.1 gs 11 = .int od9 ∧ y_mine (T_kd tb (le : Int32).toNatClampNeg) (T_vl tb (le : Int32).toNatClampNeg) = some ((x_1 : Int32).toNatClampNeg, (y_gx cx9 ry9 (S_2.2.1 (gs + 2)) mi9 pl9 (S_2.2.1 (gs + 5)) od9 (S_2.2.1 (gs + 10)) (S_2.2.1 (gs + 11))))) := w_2_1
  replace w_2_2 : (x_1).toInt ≠ -1 → kx (z_all (T_kd tb (le : Int32).toNatClampNeg) (T_vl tb (le : Int32).toNatClampNeg) (k_st (T_kd tb (le : Int32).toNatClampNeg) (T_vl tb (le : Int32).toNatClampNeg)) k_0) S_2 gs := w_2_2
  refine lv_istore_n (lv' := [(1, .int x_1), (0, .ref (o + 0))]) hx hb dX11_mine_15 rfl hl (dk_dq rfl) rfl (fun ls hl => ?_)
  refine lv_aload_n hx hb dX11_mine_16 rfl (lv_at hl 1 rfl) ?_
  refine dg_get (C := RX11) (T := TX11) (N := 13) hx hb hts (fun w h => bw_mem (wU_X11 w h)) hown K hP sX_0 rfl 0 (dk_dq rfl) (hts _ (bw_mem wB_279)) (fun _ h9 => h9) (v := .ref (o + 1)) (show S_2.1 0 0 = .ref (o + 1) from dg_I.rel (d := 1) I_2 sX_0 (by decide +kernel)) dX11_mine_17 ?_
  refine lv_iconst (v := 0) hx hb dX11_mine_20 (by decide +kernel) ?_
  have hz_3 : (0 : Int32).toInt = 0 := by decide +kernel
  refine dg_put (ci := 8) (v := .int 0) (ty := tyX8 1) (C := RX8) (T := TX8) (N := 2) hx hb hts (fun w h => bw_mem (wU_X8 w h)) tyX8 tyX8_ok nmX8 hown K hP hS hA1 sX_1 rfl 1 (dk_dq rfl) (hts _ (bw_mem wB_285)) (fun _ h9 => h9) rfl (by decide +kernel) rfl rfl dX11_mine_21 (fun S_4 e_4 H locs hP hS => ?_)
  have I_4 := dg_I.uFi (lo := 0) (hi := 1600) I_2 e_4 sX_1 (by decide +kernel) (show 0 ≤ ((0 : Int32)).toInt ∧ ((0 : Int32)).toInt ≤ 1600 from (by decide +kernel))
  have M_4 := dg_sm.uF M_2 e_4 sX_1 (dk_dq rfl)
  refine lv_iload_n hx hb dX11_mine_24 rfl (lv_at hl 0 rfl) ?_
  refine lv_iconst (v := (-1)) hx hb dX11_mine_25 (by decide +kernel) ?_
  refine lv_icmp_ne (tgt := 35) hx hb dX11_mine_26 (dk_dq rfl) (fun c_5 => ?_) (fun c_5 => ?_)
  · as_aux_lemma =>
      have jc_5 := dk_neqc (k := (-1)) (by decide +kernel) c_5
      refine lv_aload_n hx hb dX11_mine_35 rfl (lv_at hl 1 rfl) ?_
      refine dg_get (C := RX11) (T := TX11) (N := 13) hx hb hts (fun w h => bw_mem (wU_X11 w h)) hown K hP sX_0 rfl 7 (dk_dq rfl) (hts _ (bw_mem wB_280)) (fun _ h9 => h9) (v := .ref (o + gs)) (((dg_uF_ne e_4 (fun z => absurd z.2 (dk_dq rfl))).trans (m_2.1 0 7 _ sX_0 (dk_dq rfl))).trans f_gs) dX11_mine_36 ?_
      refine lv_astore_n (lv' := [(2, .ref (o + gs)), (1, .int x_1), (0, .ref (o + 0))]) hx hb dX11_mine_39 rfl hl (dk_dq rfl) rfl (fun ls hl => ?_)
      refine lv_aload_n hx hb dX11_mine_40 rfl (lv_at hl 2 rfl) ?_
      refine lv_aload_n hx hb dX11_mine_41 rfl (lv_at hl 2 rfl) ?_
      refine dg_get (C := RX11) (T := TX11) (N := 13) hx hb hts (fun w h => bw_mem (wU_X11 w h)) hown K hP sX_0 rfl 6 (dk_dq rfl) (hts _ (bw_mem wB_286)) (fun _ h9 => h9) (v := .ref (o + d0)) (((dg_uF_ne e_4 (fun z => absurd z.2 (dk_dq rfl))).trans (m_2.1 0 6 _ sX_0 (dk_dq rfl))).trans f_d0) dX11_mine_42 ?_
      refine dg_put (ci := 11) (v := .ref (o + d0)) (ty := tyX11 7) (C := RX11) (T := TX11) (N := 13) hx hb hts (fun w h => bw_mem (wU_X11 w h)) tyX11 tyX11_ok nmX11 hown K hP hS hA1 sX_0 rfl 7 (dk_dq rfl) (hts _ (bw_mem wB_280)) (fun _ h9 => h9) rfl (by decide +kernel) rfl rfl dX11_mine_45 (fun S_6 e_6 H locs hP hS => ?_)
      have I_6 := dg_I.uFo (j := d0) (d := 0) I_4 e_6 sX_0 (by decide +kernel) hk_d0
      have M_6 := dg_sm.uF M_4 e_6 sX_0 (dk_dq rfl)
      refine lv_aload_n hx hb dX11_mine_48 rfl (lv_at hl 2 rfl) ?_
      refine lv_aload_n hx hb dX11_mine_49 rfl (lv_at hl 0 rfl) ?_
      refine dg_put (ci := 11) (v := .ref (o + gs)) (ty := tyX11 6) (C := RX11) (T := TX11) (N := 13) hx hb hts (fun w h => bw_mem (wU_X11 w h)) tyX11 tyX11_ok nmX11 hown K hP hS hA1 sX_0 rfl 6 (dk_dq rfl) (hts _ (bw_mem wB_286)) (fun _ h9 => h9) rfl (by decide +kernel) rfl rfl dX11_mine_50 (fun S_7 e_7 H locs hP hS => ?_)
      have I_7 := dg_I.uFo (j := gs) (d := 0) I_6 e_7 sX_0 (by decide +kernel) hk_gs
      have M_7 := dg_sm.uF M_6 e_7 sX_0 (dk_dq rfl)
      refine lv_aload_n hx hb dX11_mine_53 rfl (lv_at hl 2 rfl) ?_
      refine dg_get (C := RX11) (T := TX11) (N := 13) hx hb hts (fun w h => bw_mem (wU_X11 w h)) hown K hP sX_0 rfl 1 (dk_dq rfl) (hts _ (bw_mem wB_287)) (fun _ h9 => h9) (v := .ref (o + 3)) (show S_7.1 0 1 = .ref (o + 3) from dg_I.rel (d := 3) I_7 sX_0 (by decide +kernel)) dX11_mine_54 ?_
      refine lv_aload_n hx hb dX11_mine_57 rfl (lv_at hl 2 rfl) ?_
      refine dg_get (C := RX11) (T := TX11) (N := 13) hx hb hts (fun w h => bw_mem (wU_X11 w h)) hown K hP sX_0 rfl 6 (dk_dq rfl) (hts _ (bw_mem wB_286)) (fun _ h9 => h9) (v := .ref (o + gs)) (dg_uF_at e_7) dX11_mine_58 ?_
      obtain ⟨x_8, f_x_8, b_x_8⟩ := dg_I.int (i := gs) (k := 0) (lo := 0) (hi := 7) I_7 (rX_0 gs hk_gs) (by decide +kernel)
      obtain ⟨x_9, f_x_9, b_x_9⟩ := dg_I.int (i := gs) (k := 2) (lo := (-1)) (hi := 63) I_7 (rX_0 gs hk_gs) (by decide +kernel)
      obtain ⟨x_10, f_x_10, b_x_10⟩ := dg_I.int (i := gs) (k := 1) (lo := 0) (hi := 7) I_7 (rX_0 gs hk_gs) (by decide +kernel)
      refine dg_callv hS hA1 hA (va_runV (As := [.ref (o + gs)]) (rest := []) F (c_p_begin l g D o S_7 3 (by unfold pX; decide : pX 3) gs hk_gs x_8 f_x_8 (by omega) x_9 f_x_9 (by omega) (fun h8 => (((Z1X.keep (Z1X.keep (Z1X.keep w_2_3 (dg_sm.uF (WF := [(1, 1)]) (WA := []) dg_sm.rf e_4 sX_1 (dk_dq rfl)) (dk_dq rfl) (dk_dq rfl) (dk_dq rfl)) (dg_sm.uF (WF := [(0, 7)]) (WA := []) dg_sm.rf e_6 sX_0 (dk_dq rfl)) (dk_dq rfl) (dk_dq rfl) (dk_dq rfl)) (dg_sm.uF (WF := [(0, 6)]) (WA := []) dg_sm.rf e_7 sX_0 (dk_dq rfl)) (dk_dq rfl) (dk_dq rfl) (dk_dq rfl)) gs hk_gs x_8 x_9 x_10 f_x_8 f_x_9 f_x_10) h8).1) I_7 H.size) (cwV 1 hts (bw_V wB_1071 wB_818 wB_819 wB_493 wB_816) rfl rfl rfl (by decide +kernel) ⟨Nat.le_of_ble_eq_true rfl, Nat.le_of_ble_eq_true rfl⟩) (dg_preV (pX_0 3 (dk_dq rfl)) rfl K ST hP hS hA1 hA) rfl rfl hl.1 rfl (lv_room (Nat.le_of_ble_eq_true rfl)) dX11_mine_61 ⟨Nat.le_of_ble_eq_true rfl, Nat.le_of_ble_eq_true rfl⟩) (fun S_11 hw_11 H locs hP hS => ?_)
      obtain ⟨I_11, m_11, w_11_0, w_11_1, w_11_2, -⟩ := hw_11
      have M_11 := dg_sm.tr M_7 m_11 (dk_dq rfl) (dk_dq rfl)
      refine lv_aload_n hx hb dX11_mine_64 rfl (lv_at hl 2 rfl) ?_
      refine dg_get (C := RX11) (T := TX11) (N := 13) hx hb hts (fun w h => bw_mem (wU_X11 w h)) hown K hP sX_0 rfl 3 (dk_dq rfl) (hts _ (bw_mem wB_844)) (fun _ h9 => h9) (v := .ref (o + 17)) (show S_11.1 0 3 = .ref (o + 17) from dg_I.rel (d := 17) I_11 sX_0 (by decide +kernel)) dX11_mine_65 ?_
      refine dg_callv hS hA1 hA (va_runV (As := []) (rest := []) F (c_h_clear l g D o S_11 I_11 H.size) (cwV 0 hts (bw_V wB_1068 wB_1069 wB_1070 wB_849 wB_1067) rfl rfl rfl (by decide +kernel) ⟨Nat.le_of_ble_eq_true rfl, Nat.le_of_ble_eq_true rfl⟩) (dg_preV sX_17 rfl K ST hP hS hA1 hA) rfl rfl hl.1 rfl (lv_room (Nat.le_of_ble_eq_true rfl)) dX11_mine_68 ⟨Nat.le_of_ble_eq_true rfl, Nat.le_of_ble_eq_true rfl⟩) (fun S_12 hw_12 H locs hP hS => ?_)
      obtain ⟨I_12, m_12, w_12_0, w_12_1, -⟩ := hw_12
      have M_12 := dg_sm.tr M_11 m_12 (dk_dq rfl) (dk_dq rfl)
      refine lv_aload_n hx hb dX11_mine_71 rfl (lv_at hl 2 rfl) ?_
      refine dg_get (C := RX11) (T := TX11) (N := 13) hx hb hts (fun w h => bw_mem (wU_X11 w h)) hown K hP sX_0 rfl 11 (dk_dq rfl) (hts _ (bw_mem wB_842)) (fun _ h9 => h9) (v := .ref (o + 229)) (show S_12.1 0 11 = .ref (o + 229) from dg_I.rel (d := 229) I_12 sX_0 (by decide +kernel)) dX11_mine_72 ?_
      refine lv_iconst (v := 0) hx hb dX11_mine_75 (by decide +kernel) ?_
      have hz_13 : (0 : Int32).toInt = 0 := by decide +kernel
      refine dg_put (ci := 0) (v := .int 0) (ty := tyX0 5) (C := RX0) (T := TX0) (N := 9) hx hb hts (fun w h => bw_mem (wU_X0 w h)) tyX0 tyX0_ok nmX0 hown K hP hS hA1 sX_229 rfl 5 (dk_dq rfl) (hts _ (bw_mem wB_949)) (fun _ h9 => h9) rfl (by decide +kernel) rfl rfl dX11_mine_76 (fun S_14 e_14 H locs hP hS => ?_)
      have I_14 := dg_I.uFi (lo := 0) (hi := 16) I_12 e_14 sX_229 (by decide +kernel) (show 0 ≤ ((0 : Int32)).toInt ∧ ((0 : Int32)).toInt ≤ 16 from (by decide +kernel))
      have M_14 := dg_sm.uF M_12 e_14 sX_229 (dk_dq rfl)
      refine lv_aload_n hx hb dX11_mine_79 rfl (lv_at hl 2 rfl) ?_
      refine dg_callv hS hA1 hA (va_runV (As := []) (rest := []) F (c_d_forgetTrials l g D o S_14 (Z1X.keep (Z1X.keep (Z1X.keep (Z1X.keep (Z1X.keep (Z1X.keep w_2_3 (dg_sm.uF (WF := [(1, 1)]) (WA := []) dg_sm.rf e_4 sX_1 (dk_dq rfl)) (dk_dq rfl) (dk_dq rfl) (dk_dq rfl)) (dg_sm.uF (WF := [(0, 7)]) (WA := []) dg_sm.rf e_6 sX_0 (dk_dq rfl)) (dk_dq rfl) (dk_dq rfl) (dk_dq rfl)) (dg_sm.uF (WF := [(0, 6)]) (WA := []) dg_sm.rf e_7 sX_0 (dk_dq rfl)) (dk_dq rfl) (dk_dq rfl) (dk_dq rfl)) m_11 (dk_dq rfl) (dk_dq rfl) (dk_dq rfl)) m_12 (dk_dq rfl) (dk_dq rfl) (dk_dq rfl)) (dg_sm.uF (WF := [(44, 5)]) (WA := []) dg_sm.rf e_14 sX_229 (dk_dq rfl)) (dk_dq rfl) (dk_dq rfl) (dk_dq rfl)) (Z2X.keep (Z2X.keep (Z2X.keep (Z2X.keep (Z2X.keep (Z2X.keep (Z2X.keep Z2 m_2 (dk_dq rfl) (dk_dq rfl)) (dg_sm.uF (WF := [(1, 1)]) (WA := []) dg_sm.rf e_4 sX_1 (dk_dq rfl)) (dk_dq rfl) (dk_dq rfl)) (dg_sm.uF (WF := [(0, 7)]) (WA := []) dg_sm.rf e_6 sX_0 (dk_dq rfl)) (dk_dq rfl) (dk_dq rfl)) (dg_sm.uF (WF := [(0, 6)]) (WA := []) dg_sm.rf e_7 sX_0 (dk_dq rfl)) (dk_dq rfl) (dk_dq rfl)) m_11 (dk_dq rfl) (dk_dq rfl)) m_12 (dk_dq rfl) (dk_dq rfl)) (dg_sm.uF (WF := [(44, 5)]) (WA := []) dg_sm.rf e_14 sX_229 (dk_dq rfl)) (dk_dq rfl) (dk_dq rfl)) (Z3X.keep (Z3X.keep (Z3X.keep (Z3X.keep (Z3X.keep (Z3X.keep (Z3X.keep Z3 m_2 (dg_FG.sm m_2 (dk_dq rfl)) (dk_dq rfl)) (dg_sm.uF (WF := [(1, 1)]) (WA := []) dg_sm.rf e_4 sX_1 (dk_dq rfl)) (dg_FG.uF e_4) (dk_dq rfl)) (dg_sm.uF (WF := [(0, 7)]) (WA := []) dg_sm.rf e_6 sX_0 (dk_dq rfl)) (dg_FG.uF e_6) (dk_dq rfl)) (dg_sm.uF (WF := [(0, 6)]) (WA := []) dg_sm.rf e_7 sX_0 (dk_dq rfl)) (dg_FG.uF e_7) (dk_dq rfl)) m_11 w_11_1 (dk_dq rfl)) m_12 (dg_FG.sm m_12 (dk_dq rfl)) (dk_dq rfl)) (dg_sm.uF (WF := [(44, 5)]) (WA := []) dg_sm.rf e_14 sX_229 (dk_dq rfl)) (dg_FG.uF e_14) (dk_dq rfl)) (Z4X.keep w_12_0 (dg_sm.uF (WF := [(44, 5)]) (WA := []) dg_sm.rf e_14 sX_229 (dk_dq rfl)) (dg_FG.uF e_14) (dk_dq rfl) (dk_dq rfl)) (Z6X.keep (Z6X.keep (Z6X.keep (Z6X.keep (Z6X.keep (Z6X.keep (Z6X.keep Z6 m_2 (dg_FG.sm m_2 (dk_dq rfl))) (dg_sm.uF (WF := [(1, 1)]) (WA := []) dg_sm.rf e_4 sX_1 (dk_dq rfl)) (dg_FG.uF e_4)) (dg_sm.uF (WF := [(0, 7)]) (WA := []) dg_sm.rf e_6 sX_0 (dk_dq rfl)) (dg_FG.uF e_6)) (dg_sm.uF (WF := [(0, 6)]) (WA := []) dg_sm.rf e_7 sX_0 (dk_dq rfl)) (dg_FG.uF e_7)) m_11 w_11_1) m_12 (dg_FG.sm m_12 (dk_dq rfl))) (dg_sm.uF (WF := [(44, 5)]) (WA := []) dg_sm.rf e_14 sX_229 (dk_dq rfl)) (dg_FG.uF e_14)) I_14 H.size) (cwV 0 hts (bw_V wB_851 wB_852 wB_853 wB_610 wB_850) rfl rfl rfl (by decide +kernel) ⟨Nat.le_of_ble_eq_true rfl, Nat.le_of_ble_eq_true rfl⟩) (dg_preV sX_0 rfl K ST hP hS hA1 hA) rfl rfl hl.1 rfl (lv_room (Nat.le_of_ble_eq_true rfl)) dX11_mine_80 ⟨Nat.le_of_ble_eq_true rfl, Nat.le_of_ble_eq_true rfl⟩) (fun S_15 hw_15 H locs hP hS => ?_)
      obtain ⟨I_15, m_15, w_15_0, w_15_1, w_15_2, w_15_3, -⟩ := hw_15
      have M_15 := dg_sm.tr M_14 m_15 (dk_dq rfl) (dk_dq rfl)
      obtain ⟨y_16, f_y_16, w_15_0⟩ := w_15_0
      have w_15_0 : (y_16).toInt = 0 := w_15_0
      obtain ⟨y_17, f_y_17, w_15_1⟩ := w_15_1
      have w_15_1 : (y_17).toInt = 0 := w_15_1
      obtain ⟨y_18, f_y_18, w_15_2⟩ := w_15_2
      have w_15_2 : (y_18).toInt = 0 := w_15_2
      have b_y_18 : 0 ≤ (y_18).toInt ∧ (y_18).toInt ≤ 1 := dg_I.intb (lo := 0) (hi := 1) I_15 sX_229 (by decide +kernel) f_y_18
      refine lv_iload_n hx hb dX11_mine_83 rfl (lv_at hl 1 rfl) ?_
      have hz_19 : (0 : Int32).toInt = 0 := by decide +kernel
      refine W.widen (k := 0) (n := 0) (Nat.le_of_ble_eq_true rfl) (Nat.le_of_ble_eq_true rfl) ?_
      exact dg_iret hx hb hr hlocks rfl hP hS ⟨I_15, M_15, (by omega), ⟨0, (((m_15.1 1 1 _ sX_1 (dk_dq rfl)).trans ((dg_uF_ne e_14 (fun z => absurd z.2 (dk_dq rfl))).trans ((m_12.1 1 1 _ sX_1 (dk_dq rfl)).trans ((m_11.1 1 1 _ sX_1 (dk_dq rfl)).trans ((dg_uF_ne e_7 (fun z => absurd z.2 (dk_dq rfl))).trans (dg_uF_ne e_6 (fun z => absurd z.2 (dk_dq rfl)))))))).trans (dg_uF_at e_4)), (by omega)⟩, ⟨fun q9 => absurd q9 (by omega), fun _ => by obtain ⟨cx9, ry9, mi9, pl9, od9, -, -, -, -, -, h9⟩ := w_2_1.2 (by omega); exact ⟨_, h9⟩⟩, ⟨fun q9 => absurd q9 (by omega), fun _ => ⟨(((m_15.1 0 6 _ sX_0 (dk_dq rfl)).trans ((dg_uF_ne e_14 (fun z => absurd z.2 (dk_dq rfl))).trans ((m_12.1 0 6 _ sX_0 (dk_dq rfl)).trans (m_11.1 0 6 _ sX_0 (dk_dq rfl))))).trans (dg_uF_at e_7)), (((m_15.1 0 7 _ sX_0 (dk_dq rfl)).trans ((dg_uF_ne e_14 (fun z => absurd z.2 (dk_dq rfl))).trans ((m_12.1 0 7 _ sX_0 (dk_dq rfl)).trans ((m_11.1 0 7 _ sX_0 (dk_dq rfl)).trans (dg_uF_ne e_7 (fun z => absurd z.2 (dk_dq rfl))))))).trans (dg_uF_at e_6)), (GXN.keep (GXN.keep (GXN.keep (GXN.keep (GXN.keep (GXN.keep (GXN.keep (GXN.mk hk_gs (w_2_1.2 (by omega))) (dg_sm.uF (WF := [(1, 1)]) (WA := []) dg_sm.rf e_4 sX_1 (dk_dq rfl)) (dk_dq rfl) (dk_dq rfl)) (dg_sm.uF (WF := [(0, 7)]) (WA := []) dg_sm.rf e_6 sX_0 (dk_dq rfl)) (dk_dq rfl) (dk_dq rfl)) (dg_sm.uF (WF := [(0, 6)]) (WA := []) dg_sm.rf e_7 sX_0 (dk_dq rfl)) (dk_dq rfl) (dk_dq rfl)) m_11 (dk_dq rfl) (dk_dq rfl)) m_12 (dk_dq rfl) (dk_dq rfl)) (dg_sm.uF (WF := [(44, 5)]) (WA := []) dg_sm.rf e_14 sX_229 (dk_dq rfl)) (dk_dq rfl) (dk_dq rfl)) m_15 (dk_dq rfl) (dk_dq rfl))⟩⟩, (fun q9 => absurd q9 (by omega)), (fun q9 => (kx.keep (kx.keep (kx.keep (kx.keep (kx.keep (kx.keep (kx.keep (w_2_2 q9) (dg_sm.uF (WF := [(1, 1)]) (WA := []) dg_sm.rf e_4 sX_1 (dk_dq rfl)) (by intro n9 h9; simp at h9) (dk_dq rfl) (by intro r9 h7 h8 h9; simp at h9 <;> omega)) (dg_sm.uF (WF := [(0, 7)]) (WA := []) dg_sm.rf e_6 sX_0 (dk_dq rfl)) (by intro n9 h9; simp at h9) (dk_dq rfl) (by intro r9 h7 h8 h9; simp at h9 <;> omega)) (dg_sm.uF (WF := [(0, 6)]) (WA := []) dg_sm.rf e_7 sX_0 (dk_dq rfl)) (by intro n9 h9; simp at h9) (dk_dq rfl) (by intro r9 h7 h8 h9; simp at h9 <;> omega)) m_11 (by intro n9 h9; simp at h9) (dk_dq rfl) (by intro r9 h7 h8 h9; simp at h9 <;> omega)) m_12 (by intro n9 h9; simp at h9) (dk_dq rfl) (by intro r9 h7 h8 h9; simp at h9 <;> omega)) (dg_sm.uF (WF := [(44, 5)]) (WA := []) dg_sm.rf e_14 sX_229 (dk_dq rfl)) (by intro n9 h9; simp at h9) (dk_dq rfl) (by intro r9 h7 h8 h9; simp at h9 <;> omega)) m_15 (by intro n9 h9; simp at h9) (dk_dq rfl) (by intro r9 h7 h8 h9; simp at h9 <;> omega))), (fun q9 => ⟨S_7, by rw [w_15_3, e_14, w_12_1, w_11_2], (dg_uF_at e_7), (kx.keep (kx.keep (kx.keep (w_2_2 q9) (dg_sm.uF (WF := [(1, 1)]) (WA := []) dg_sm.rf e_4 sX_1 (dk_dq rfl)) (by intro n9 h9; simp at h9) (dk_dq rfl) (by intro r9 h7 h8 h9; simp at h9 <;> omega)) (dg_sm.uF (WF := [(0, 7)]) (WA := []) dg_sm.rf e_6 sX_0 (dk_dq rfl)) (by intro n9 h9; simp at h9) (dk_dq rfl) (by intro r9 h7 h8 h9; simp at h9 <;> omega)) (dg_sm.uF (WF := [(0, 6)]) (WA := []) dg_sm.rf e_7 sX_0 (dk_dq rfl)) (by intro n9 h9; simp at h9) (dk_dq rfl) (by intro r9 h7 h8 h9; simp at h9 <;> omega)), I_7, (dg_sm.uF (dg_sm.uF (dg_sm.uF (dg_sm.tr (dg_sm.rf : dg_sm shX [(0, 6), (0, 7), (1, 1), (19, 0), (19, 1), (19, 2), (19, 3), (19, 4), (19, 6), (19, 8), (19, 11), (31, 0), (31, 1), (31, 3), (31, 4), (31, 5), (31, 6), (31, 7), (32, 3), (32, 4)] [20, 21, 22, 23, 24, 25, 26, 27, 28, 29, 30, 33, 34, 35] S S) m_2 (dk_dq rfl) (dk_dq rfl)) e_4 sX_1 (dk_dq rfl)) e_6 sX_0 (dk_dq rfl)) e_7 sX_0 (dk_dq rfl))⟩), (fun q9 => absurd q9 (by omega)), (Z1X.keep (Z1X.keep (Z1X.keep (Z1X.keep (Z1X.keep (Z1X.keep (Z1X.keep w_2_3 (dg_sm.uF (WF := [(1, 1)]) (WA := []) dg_sm.rf e_4 sX_1 (dk_dq rfl)) (dk_dq rfl) (dk_dq rfl) (dk_dq rfl)) (dg_sm.uF (WF := [(0, 7)]) (WA := []) dg_sm.rf e_6 sX_0 (dk_dq rfl)) (dk_dq rfl) (dk_dq rfl) (dk_dq rfl)) (dg_sm.uF (WF := [(0, 6)]) (WA := []) dg_sm.rf e_7 sX_0 (dk_dq rfl)) (dk_dq rfl) (dk_dq rfl) (dk_dq rfl)) m_11 (dk_dq rfl) (dk_dq rfl) (dk_dq rfl)) m_12 (dk_dq rfl) (dk_dq rfl) (dk_dq rfl)) (dg_sm.uF (WF := [(44, 5)]) (WA := []) dg_sm.rf e_14 sX_229 (dk_dq rfl)) (dk_dq rfl) (dk_dq rfl) (dk_dq rfl)) m_15 (dk_dq rfl) (dk_dq rfl) (dk_dq rfl)), (Z3X.keep (Z3X.keep (Z3X.keep (Z3X.keep (Z3X.keep (Z3X.keep (Z3X.keep (Z3X.keep Z3 m_2 (dg_FG.sm m_2 (dk_dq rfl)) (dk_dq rfl)) (dg_sm.uF (WF := [(1, 1)]) (WA := []) dg_sm.rf e_4 sX_1 (dk_dq rfl)) (dg_FG.uF e_4) (dk_dq rfl)) (dg_sm.uF (WF := [(0, 7)]) (WA := []) dg_sm.rf e_6 sX_0 (dk_dq rfl)) (dg_FG.uF e_6) (dk_dq rfl)) (dg_sm.uF (WF := [(0, 6)]) (WA := []) dg_sm.rf e_7 sX_0 (dk_dq rfl)) (dg_FG.uF e_7) (dk_dq rfl)) m_11 w_11_1 (dk_dq rfl)) m_12 (dg_FG.sm m_12 (dk_dq rfl)) (dk_dq rfl)) (dg_sm.uF (WF := [(44, 5)]) (WA := []) dg_sm.rf e_14 sX_229 (dk_dq rfl)) (dg_FG.uF e_14) (dk_dq rfl)) m_15 (dg_FG.sm m_15 (dk_dq rfl)) (dk_dq rfl)), (Z4X.keep (Z4X.keep w_12_0 (dg_sm.uF (WF := [(44, 5)]) (WA := []) dg_sm.rf e_14 sX_229 (dk_dq rfl)) (dg_FG.uF e_14) (dk_dq rfl) (dk_dq rfl)) m_15 (dg_FG.sm m_15 (dk_dq rfl)) (dk_dq rfl) (dk_dq rfl)), (Z6X.keep (Z6X.keep (Z6X.keep (Z6X.keep (Z6X.keep (Z6X.keep (Z6X.keep (Z6X.keep Z6 m_2 (dg_FG.sm m_2 (dk_dq rfl))) (dg_sm.uF (WF := [(1, 1)]) (WA := []) dg_sm.rf e_4 sX_1 (dk_dq rfl)) (dg_FG.uF e_4)) (dg_sm.uF (WF := [(0, 7)]) (WA := []) dg_sm.rf e_6 sX_0 (dk_dq rfl)) (dg_FG.uF e_6)) (dg_sm.uF (WF := [(0, 6)]) (WA := []) dg_sm.rf e_7 sX_0 (dk_dq rfl)) (dg_FG.uF e_7)) m_11 w_11_1) m_12 (dg_FG.sm m_12 (dk_dq rfl))) (dg_sm.uF (WF := [(44, 5)]) (WA := []) dg_sm.rf e_14 sX_229 (dk_dq rfl)) (dg_FG.uF e_14)) m_15 (dg_FG.sm m_15 (dk_dq rfl))), (dg_FG.tr (dg_FG.tr (dg_FG.tr (dg_FG.tr (dg_FG.tr (dg_FG.tr (dg_FG.tr (dg_FG.sm m_2 (dk_dq rfl)) (dg_FG.uF e_4)) (dg_FG.uF e_6)) (dg_FG.uF e_7)) w_11_1) (dg_FG.sm m_12 (dk_dq rfl))) (dg_FG.uF e_14)) (dg_FG.sm m_15 (dk_dq rfl))), trivial⟩ dX11_mine_84
  · have jc_5 := dk_eqc (k := (-1)) (by decide +kernel) c_5
    refine lv_aload_n hx hb dX11_mine_29 rfl (lv_at hl 1 rfl) ?_
    refine lv_iconst (v := 1) hx hb dX11_mine_30 (by decide +kernel) ?_
    have hz_20 : (1 : Int32).toInt = 1 := by decide +kernel
    refine dg_calli hS hA1 hA (va_runV (As := [.int 1]) (rest := []) F (c_d_none l g D o S_4 1 (by decide +kernel) (Z1X.keep w_2_3 (dg_sm.uF (WF := [(1, 1)]) (WA := []) dg_sm.rf e_4 sX_1 (dk_dq rfl)) (dk_dq rfl) (dk_dq rfl) (dk_dq rfl)) (Z2X.keep (Z2X.keep Z2 m_2 (dk_dq rfl) (dk_dq rfl)) (dg_sm.uF (WF := [(1, 1)]) (WA := []) dg_sm.rf e_4 sX_1 (dk_dq rfl)) (dk_dq rfl) (dk_dq rfl)) (Z3X.keep (Z3X.keep Z3 m_2 (dg_FG.sm m_2 (dk_dq rfl)) (dk_dq rfl)) (dg_sm.uF (WF := [(1, 1)]) (WA := []) dg_sm.rf e_4 sX_1 (dk_dq rfl)) (dg_FG.uF e_4) (dk_dq rfl)) (Z4X.keep (Z4X.keep Z4 m_2 (dg_FG.sm m_2 (dk_dq rfl)) (dk_dq rfl) (dk_dq rfl)) (dg_sm.uF (WF := [(1, 1)]) (WA := []) dg_sm.rf e_4 sX_1 (dk_dq rfl)) (dg_FG.uF e_4) (dk_dq rfl) (dk_dq rfl)) (Z6X.keep (Z6X.keep Z6 m_2 (dg_FG.sm m_2 (dk_dq rfl))) (dg_sm.uF (WF := [(1, 1)]) (WA := []) dg_sm.rf e_4 sX_1 (dk_dq rfl)) (dg_FG.uF e_4)) I_4 H.size) (cwV 1 hts (bw_V wB_920 wB_921 wB_922 wB_610 wB_919) rfl rfl rfl (by decide +kernel) ⟨Nat.le_of_ble_eq_true rfl, Nat.le_of_ble_eq_true rfl⟩) (dg_preV sX_0 rfl K ST hP hS hA1 hA) rfl rfl hl.1 rfl (lv_room (Nat.le_of_ble_eq_true rfl)) dX11_mine_31 ⟨Nat.le_of_ble_eq_true rfl, Nat.le_of_ble_eq_true rfl⟩) (fun x_21 S_22 hw_22 H locs hP hS => ?_)
    obtain ⟨I_22, m_22, w_22_0, w_22_1, -⟩ := hw_22
    have M_22 := dg_sm.tr M_4 m_22 (dk_dq rfl) (dk_dq rfl)
    have w_22_0 : (-1) ≤ (x_21).toInt ∧ (x_21).toInt ≤ (-1) := w_22_0
    have hz_23 : (0 : Int32).toInt = 0 := by decide +kernel
    refine W.widen (k := 0) (n := 0) (Nat.le_of_ble_eq_true rfl) (Nat.le_of_ble_eq_true rfl) ?_
    exact dg_iret hx hb hr hlocks rfl hP hS ⟨I_22, M_22, (by omega), ⟨0, ((m_22.1 1 1 _ sX_1 (dk_dq rfl)).trans (dg_uF_at e_4)), (by omega)⟩, ⟨fun _ => w_2_1.1 (by omega), fun q9 => absurd (by omega) q9⟩, ⟨fun _ => ⟨(((m_22.1 0 6 _ sX_0 (dk_dq rfl)).trans ((dg_uF_ne e_4 (fun z => absurd z.2 (dk_dq rfl))).trans (m_2.1 0 6 _ sX_0 (dk_dq rfl)))).trans f_d0), (((m_22.1 0 7 _ sX_0 (dk_dq rfl)).trans ((dg_uF_ne e_4 (fun z => absurd z.2 (dk_dq rfl))).trans (m_2.1 0 7 _ sX_0 (dk_dq rfl)))).trans f_gs), (GOX.keep (GOX.keep w_2_4 (dg_sm.uF (WF := [(1, 1)]) (WA := []) dg_sm.rf e_4 sX_1 (dk_dq rfl)) (dk_dq rfl) (dk_dq rfl)) m_22 (dk_dq rfl) (dk_dq rfl))⟩, fun q9 => absurd (by omega) q9⟩, (fun _ => (G9X.keep (G9X.keep w_2_5 (dg_sm.uF (WF := [(1, 1)]) (WA := []) dg_sm.rf e_4 sX_1 (dk_dq rfl)) (dk_dq rfl)) m_22 (dk_dq rfl))), (fun q9 => absurd (by omega) q9), (fun q9 => absurd (by omega) q9), (fun _ => ⟨S_4, w_22_1.1, (dg_sm.uF (dg_sm.tr (dg_sm.rf : dg_sm shX [(1, 1), (19, 0), (19, 1), (19, 2), (19, 3), (19, 4), (19, 6), (19, 8), (19, 11), (31, 0), (31, 1), (31, 3), (31, 4), (31, 5), (31, 6), (31, 7), (32, 3), (32, 4)] [20, 21, 22, 23, 24, 25, 26, 27, 28, 29, 30, 33, 34, 35] S S) m_2 (dk_dq rfl) (dk_dq rfl)) e_4 sX_1 (dk_dq rfl))⟩), (Z1X.keep (Z1X.keep w_2_3 (dg_sm.uF (WF := [(1, 1)]) (WA := []) dg_sm.rf e_4 sX_1 (dk_dq rfl)) (dk_dq rfl) (dk_dq rfl) (dk_dq rfl)) m_22 (dk_dq rfl) (dk_dq rfl) (dk_dq rfl)), (Z3X.keep (Z3X.keep (Z3X.keep Z3 m_2 (dg_FG.sm m_2 (dk_dq rfl)) (dk_dq rfl)) (dg_sm.uF (WF := [(1, 1)]) (WA := []) dg_sm.rf e_4 sX_1 (dk_dq rfl)) (dg_FG.uF e_4) (dk_dq rfl)) m_22 (dg_FG.sm m_22 (dk_dq rfl)) (dk_dq rfl)), (Z4X.keep (Z4X.keep (Z4X.keep Z4 m_2 (dg_FG.sm m_2 (dk_dq rfl)) (dk_dq rfl) (dk_dq rfl)) (dg_sm.uF (WF := [(1, 1)]) (WA := []) dg_sm.rf e_4 sX_1 (dk_dq rfl)) (dg_FG.uF e_4) (dk_dq rfl) (dk_dq rfl)) m_22 (dg_FG.sm m_22 (dk_dq rfl)) (dk_dq rfl) (dk_dq rfl)), (Z6X.keep (Z6X.keep (Z6X.keep Z6 m_2 (dg_FG.sm m_2 (dk_dq rfl))) (dg_sm.uF (WF := [(1, 1)]) (WA := []) dg_sm.rf e_4 sX_1 (dk_dq rfl)) (dg_FG.uF e_4)) m_22 (dg_FG.sm m_22 (dk_dq rfl))), (dg_FG.tr (dg_FG.tr (dg_FG.sm m_2 (dk_dq rfl)) (dg_FG.uF e_4)) (dg_FG.sm m_22 (dk_dq rfl))), trivial⟩ dX11_mine_34
end
section
/-! 32.m1.lean.txt -/
noncomputable def F_m_is (o : Nat) (S : dg_S) (a1 : Int32) (a2 : Int32) (a3 : Int32) : Int32 := (if a1 < a2 then (0 : Int32) else (if a3 < a1 then (0 : Int32) else (1 : Int32)))
theorem F_m_is_p0 {o : Nat} {S : dg_S} {a1 : Int32} {a2 : Int32} {a3 : Int32} (h0 : a1 < a2) : F_m_is o S a1 a2 a3 = (0 : Int32) := (Eq.trans (if_pos h0) rfl)
theorem F_m_is_p1 {o : Nat} {S : dg_S} {a1 : Int32} {a2 : Int32} {a3 : Int32} (h0 : ¬ (a1 < a2)) (h1 : a3 < a1) : F_m_is o S a1 a2 a3 = (0 : Int32) := (Eq.trans (if_neg h0) (Eq.trans (if_pos h1) rfl))
theorem F_m_is_p2 {o : Nat} {S : dg_S} {a1 : Int32} {a2 : Int32} {a3 : Int32} (h0 : ¬ (a1 < a2)) (h1 : ¬ (a3 < a1)) : F_m_is o S a1 a2 a3 = (1 : Int32) := (Eq.trans (if_neg h0) (Eq.trans (if_neg h1) rfl))
set_option maxHeartbeats 8000000 in
set_option maxRecDepth 100000 in
theorem c_m_isR (l : Launch) (g : Nat → ClassId) (D : va_G) (o : Nat) (S : dg_S) (a1 : Int32) (a2 : Int32) (a3 : Int32) (I : CM o S) (sz : Nat) : Met l yX12_is (bw yX12_is cX12_is 3 (some .boolean)) ({ frames := 1, cells := 0, slots := 0, locals := 32 } : Room) (dk_Pc g D (dg_w g shM o rfM S) sz [.int a1, .int a2, .int a3]) (va_Qi (fun (r : Int32) S' => S' = S ∧ (0 ≤ (r).toInt ∧ (r).toInt ≤ 1) ∧ ((r).toInt = 1 ↔ ((a2).toInt ≤ (a1).toInt ∧ (a1).toInt ≤ (a3).toInt)) ∧ (r = F_m_is o S a1 a2 a3) ∧ True) (dg_B g D shM o rfM) (dg_A o shM.length sz)) 0 0 (dg_A o shM.length sz) := by
  refine dg_met (cc := cX12_is) (maxL := 3) (ret := (some .boolean)) (dk_dq rfl) rfl (Nat.le_of_ble_eq_true rfl) ?_
  intro p e s m args below meth c A hAe harg hx hb hr hml hts hown hlocks hin hP K hS hA1 hA ST hsz ls hl
  rw [← hAe]
  have F : CallFix p m c cX12_is 3 s args (bw yX12_is cX12_is 3 (some .boolean)) RX12 := ⟨hx, hb, hml, hown, hts⟩
  have hl : lv_has ls 3 [(0, .int a1), (1, .int a2), (2, .int a3)] := hl
  have M_0 : dg_sm shM [] [] S S := dg_sm.rf
  refine lv_iload_n hx hb dX12_is_0 rfl (lv_at hl 0 rfl) ?_
  refine lv_iload_n hx hb dX12_is_1 rfl (lv_at hl 1 rfl) ?_
  refine lv_icmp_lt (tgt := 14) hx hb dX12_is_2 (dk_dq rfl) (fun c_1 => ?_) (fun c_1 => ?_)
  · have hf_1 := dk_full a1
    have hf_2 := dk_full a2
    have jc_1 := dk_ltc (k := (a2).toInt) rfl c_1
    refine lv_iconst (v := 0) hx hb dX12_is_14 (by decide +kernel) ?_
    have hz_4 : (0 : Int32).toInt = 0 := by decide +kernel
    have hz_5 : (0 : Int32).toInt = 0 := by decide +kernel
    refine W.widen (k := 0) (n := 0) (Nat.le_of_ble_eq_true rfl) (Nat.le_of_ble_eq_true rfl) ?_
    exact dg_iret hx hb hr hlocks (by decide +kernel) hP hS ⟨rfl, (by decide +kernel), (by omega), (Eq.symm (F_m_is_p0 c_1)), trivial⟩ dX12_is_15
  · have hf_5 := dk_full a1
    have hf_6 := dk_full a2
    have jc_1 := dk_nltc (k := (a2).toInt) rfl c_1
    refine lv_iload_n hx hb dX12_is_5 rfl (lv_at hl 0 rfl) ?_
    refine lv_iload_n hx hb dX12_is_6 rfl (lv_at hl 2 rfl) ?_
    refine lv_icmp_gt (tgt := 14) hx hb dX12_is_7 (dk_dq rfl) (fun c_8 => ?_) (fun c_8 => ?_)
    · have hf_8 := dk_full a1
      have hf_9 := dk_full a3
      have jc_8 := dk_gtc (k := (a3).toInt) rfl c_8
      refine lv_iconst (v := 0) hx hb dX12_is_14 (by decide +kernel) ?_
      have hz_11 : (0 : Int32).toInt = 0 := by decide +kernel
      have hz_12 : (0 : Int32).toInt = 0 := by decide +kernel
      refine W.widen (k := 0) (n := 0) (Nat.le_of_ble_eq_true rfl) (Nat.le_of_ble_eq_true rfl) ?_
      exact dg_iret hx hb hr hlocks (by decide +kernel) hP hS ⟨rfl, (by decide +kernel), (by omega), (Eq.symm (F_m_is_p1 c_1 c_8)), trivial⟩ dX12_is_15
    · have hf_12 := dk_full a1
      have hf_13 := dk_full a3
      have jc_8 := dk_ngtc (k := (a3).toInt) rfl c_8
      refine lv_iconst (v := 1) hx hb dX12_is_10 (by decide +kernel) ?_
      refine lv_goto (tgt := 15) hx hb dX12_is_11 (dk_dq rfl) ?_
      have hz_15 : (1 : Int32).toInt = 1 := by decide +kernel
      have hz_16 : (1 : Int32).toInt = 1 := by decide +kernel
      refine W.widen (k := 0) (n := 0) (Nat.le_of_ble_eq_true rfl) (Nat.le_of_ble_eq_true rfl) ?_
      exact dg_iret hx hb hr hlocks (by decide +kernel) hP hS ⟨rfl, (by decide +kernel), (by omega), (Eq.symm (F_m_is_p2 c_1 c_8)), trivial⟩ dX12_is_15
end
