/-! 27.mine.lean.txt -/
theorem dX6_read_0 : decode cX6_read 0 = .ok (.aload_n 0, 1) := by decide +kernel
theorem dX6_read_1 : decode cX6_read 1 = .ok (.aload_n 2, 1) := by decide +kernel
theorem dX6_read_2 : decode cX6_read 2 = .ok (.putfield 22, 3) := by decide +kernel
theorem dX6_read_5 : decode cX6_read 5 = .ok (.aload_n 0, 1) := by decide +kernel
theorem dX6_read_6 : decode cX6_read 6 = .ok (.getfield 22, 3) := by decide +kernel
theorem dX6_read_9 : decode cX6_read 9 = .ok (.invokevirtual 26, 3) := by decide +kernel
theorem dX6_read_12 : decode cX6_read 12 = .ok (.aload_n 0, 1) := by decide +kernel
theorem dX6_read_13 : decode cX6_read 13 = .ok (.iconst 0, 1) := by decide +kernel
theorem dX6_read_14 : decode cX6_read 14 = .ok (.putfield 31, 3) := by decide +kernel
theorem dX6_read_17 : decode cX6_read 17 = .ok (.aload_n 0, 1) := by decide +kernel
theorem dX6_read_18 : decode cX6_read 18 = .ok (.iconst (-1), 1) := by decide +kernel
theorem dX6_read_19 : decode cX6_read 19 = .ok (.putfield 9, 3) := by decide +kernel
theorem dX6_read_22 : decode cX6_read 22 = .ok (.aload_n 0, 1) := by decide +kernel
theorem dX6_read_23 : decode cX6_read 23 = .ok (.iconst 0, 1) := by decide +kernel
theorem dX6_read_24 : decode cX6_read 24 = .ok (.putfield 34, 3) := by decide +kernel
theorem dX6_read_27 : decode cX6_read 27 = .ok (.aload_n 0, 1) := by decide +kernel
theorem dX6_read_28 : decode cX6_read 28 = .ok (.iconst 0, 1) := by decide +kernel
theorem dX6_read_29 : decode cX6_read 29 = .ok (.putfield 37, 3) := by decide +kernel
theorem dX6_read_32 : decode cX6_read 32 = .ok (.aload_n 0, 1) := by decide +kernel
theorem dX6_read_33 : decode cX6_read 33 = .ok (.getfield 18, 3) := by decide +kernel
theorem dX6_read_36 : decode cX6_read 36 = .ok (.aload_n 1, 1) := by decide +kernel
theorem dX6_read_37 : decode cX6_read 37 = .ok (.invokevirtual 40, 3) := by decide +kernel
theorem dX6_read_40 : decode cX6_read 40 = .ok (.iconst 0, 1) := by decide +kernel
theorem dX6_read_41 : decode cX6_read 41 = .ok (.istore_n 3, 1) := by decide +kernel
theorem dX6_read_42 : decode cX6_read 42 = .ok (.iload_n 3, 1) := by decide +kernel
theorem dX6_read_43 : decode cX6_read 43 = .ok (.bipush 80, 2) := by decide +kernel
theorem dX6_read_45 : decode cX6_read 45 = .ok (.if_icmp .gt 49, 3) := by decide +kernel
theorem dX6_read_48 : decode cX6_read 48 = .ok (.iload_n 3, 1) := by decide +kernel
theorem dX6_read_49 : decode cX6_read 49 = .ok (.ifCond .le 20, 3) := by decide +kernel
theorem dX6_read_52 : decode cX6_read 52 = .ok (.aload_n 0, 1) := by decide +kernel
theorem dX6_read_53 : decode cX6_read 53 = .ok (.getfield 18, 3) := by decide +kernel
theorem dX6_read_56 : decode cX6_read 56 = .ok (.getfield 44, 3) := by decide +kernel
theorem dX6_read_59 : decode cX6_read 59 = .ok (.aload_n 0, 1) := by decide +kernel
theorem dX6_read_60 : decode cX6_read 60 = .ok (.getfield 34, 3) := by decide +kernel
theorem dX6_read_63 : decode cX6_read 63 = .ok (.iaload, 1) := by decide +kernel
theorem dX6_read_64 : decode cX6_read 64 = .ok (.ifCond .ne 5, 3) := by decide +kernel
theorem dX6_read_67 : decode cX6_read 67 = .ok (.iload_n 3, 1) := by decide +kernel
theorem dX6_read_68 : decode cX6_read 68 = .ok (.ireturn, 1) := by decide +kernel
theorem dX6_read_69 : decode cX6_read 69 = .ok (.aload_n 0, 1) := by decide +kernel
theorem dX6_read_70 : decode cX6_read 70 = .ok (.iload_n 3, 1) := by decide +kernel
theorem dX6_read_71 : decode cX6_read 71 = .ok (.invokevirtual 48, 3) := by decide +kernel
theorem dX6_read_74 : decode cX6_read 74 = .ok (.ifCond .eq 12, 3) := by decide +kernel
theorem dX6_read_77 : decode cX6_read 77 = .ok (.aload_n 0, 1) := by decide +kernel
theorem dX6_read_78 : decode cX6_read 78 = .ok (.bipush 59, 2) := by decide +kernel
theorem dX6_read_80 : decode cX6_read 80 = .ok (.invokevirtual 52, 3) := by decide +kernel
theorem dX6_read_83 : decode cX6_read 83 = .ok (.ifCond .ne 5, 3) := by decide +kernel
theorem dX6_read_86 : decode cX6_read 86 = .ok (.iconst (-1), 1) := by decide +kernel
theorem dX6_read_87 : decode cX6_read 87 = .ok (.ireturn, 1) := by decide +kernel
theorem dX6_read_88 : decode cX6_read 88 = .ok (.iinc 3 1, 3) := by decide +kernel
theorem dX6_read_91 : decode cX6_read 91 = .ok (.goto (-49), 3) := by decide +kernel
theorem dX6_read_94 : decode cX6_read 94 = .ok (.iconst (-1), 1) := by decide +kernel
theorem dX6_read_95 : decode cX6_read 95 = .ok (.ireturn, 1) := by decide +kernel
theorem dX11_mine_0 : decode cX11_mine 0 = .ok (.aload_n 0, 1) := by decide +kernel
theorem dX11_mine_1 : decode cX11_mine 1 = .ok (.getfield 61, 3) := by decide +kernel
theorem dX11_mine_4 : decode cX11_mine 4 = .ok (.aload_n 0, 1) := by decide +kernel
theorem dX11_mine_5 : decode cX11_mine 5 = .ok (.getfield 10, 3) := by decide +kernel
theorem dX11_mine_8 : decode cX11_mine 8 = .ok (.aload_n 0, 1) := by decide +kernel
theorem dX11_mine_9 : decode cX11_mine 9 = .ok (.getfield 53, 3) := by decide +kernel
theorem dX11_mine_12 : decode cX11_mine 12 = .ok (.invokevirtual 112, 3) := by decide +kernel
theorem dX11_mine_15 : decode cX11_mine 15 = .ok (.istore_n 1, 1) := by decide +kernel
theorem dX11_mine_16 : decode cX11_mine 16 = .ok (.aload_n 0, 1) := by decide +kernel
theorem dX11_mine_17 : decode cX11_mine 17 = .ok (.getfield 10, 3) := by decide +kernel
theorem dX11_mine_20 : decode cX11_mine 20 = .ok (.iconst 0, 1) := by decide +kernel
theorem dX11_mine_21 : decode cX11_mine 21 = .ok (.putfield 97, 3) := by decide +kernel
theorem dX11_mine_24 : decode cX11_mine 24 = .ok (.iload_n 1, 1) := by decide +kernel
theorem dX11_mine_25 : decode cX11_mine 25 = .ok (.iconst (-1), 1) := by decide +kernel
theorem dX11_mine_26 : decode cX11_mine 26 = .ok (.if_icmp .ne 9, 3) := by decide +kernel
theorem dX11_mine_29 : decode cX11_mine 29 = .ok (.aload_n 0, 1) := by decide +kernel
theorem dX11_mine_30 : decode cX11_mine 30 = .ok (.iconst 1, 1) := by decide +kernel
theorem dX11_mine_31 : decode cX11_mine 31 = .ok (.invokevirtual 100, 3) := by decide +kernel
theorem dX11_mine_34 : decode cX11_mine 34 = .ok (.ireturn, 1) := by decide +kernel
theorem dX11_mine_35 : decode cX11_mine 35 = .ok (.aload_n 0, 1) := by decide +kernel
theorem dX11_mine_36 : decode cX11_mine 36 = .ok (.getfield 53, 3) := by decide +kernel
theorem dX11_mine_39 : decode cX11_mine 39 = .ok (.astore_n 2, 1) := by decide +kernel
theorem dX11_mine_40 : decode cX11_mine 40 = .ok (.aload_n 0, 1) := by decide +kernel
theorem dX11_mine_41 : decode cX11_mine 41 = .ok (.aload_n 0, 1) := by decide +kernel
theorem dX11_mine_42 : decode cX11_mine 42 = .ok (.getfield 49, 3) := by decide +kernel
theorem dX11_mine_45 : decode cX11_mine 45 = .ok (.putfield 53, 3) := by decide +kernel
theorem dX11_mine_48 : decode cX11_mine 48 = .ok (.aload_n 0, 1) := by decide +kernel
theorem dX11_mine_49 : decode cX11_mine 49 = .ok (.aload_n 2, 1) := by decide +kernel
theorem dX11_mine_50 : decode cX11_mine 50 = .ok (.putfield 49, 3) := by decide +kernel
theorem dX11_mine_53 : decode cX11_mine 53 = .ok (.aload_n 0, 1) := by decide +kernel
theorem dX11_mine_54 : decode cX11_mine 54 = .ok (.getfield 19, 3) := by decide +kernel
theorem dX11_mine_57 : decode cX11_mine 57 = .ok (.aload_n 0, 1) := by decide +kernel
theorem dX11_mine_58 : decode cX11_mine 58 = .ok (.getfield 49, 3) := by decide +kernel
theorem dX11_mine_61 : decode cX11_mine 61 = .ok (.invokevirtual 94, 3) := by decide +kernel
theorem dX11_mine_64 : decode cX11_mine 64 = .ok (.aload_n 0, 1) := by decide +kernel
theorem dX11_mine_65 : decode cX11_mine 65 = .ok (.getfield 29, 3) := by decide +kernel
theorem dX11_mine_68 : decode cX11_mine 68 = .ok (.invokevirtual 116, 3) := by decide +kernel
theorem dX11_mine_71 : decode cX11_mine 71 = .ok (.aload_n 0, 1) := by decide +kernel
theorem dX11_mine_72 : decode cX11_mine 72 = .ok (.getfield 86, 3) := by decide +kernel
theorem dX11_mine_75 : decode cX11_mine 75 = .ok (.iconst 0, 1) := by decide +kernel
theorem dX11_mine_76 : decode cX11_mine 76 = .ok (.putfield 119, 3) := by decide +kernel
theorem dX11_mine_79 : decode cX11_mine 79 = .ok (.aload_n 0, 1) := by decide +kernel
theorem dX11_mine_80 : decode cX11_mine 80 = .ok (.invokevirtual 122, 3) := by decide +kernel
theorem dX11_mine_83 : decode cX11_mine 83 = .ok (.iload_n 1, 1) := by decide +kernel
theorem dX11_mine_84 : decode cX11_mine 84 = .ok (.ireturn, 1) := by decide +kernel
theorem wB_856 : Cond.code yX2_clear cX2_clear 1 none ∈ dgB := List.mem_filter.mpr ⟨tbl_3 _ (List.mem_of_getElem? (i := 119) rfl), rfl⟩
theorem wB_857 : Cond.methodLink RX6 26 yX2_clear ∈ dgB := List.mem_filter.mpr ⟨tbl_3 _ (List.mem_of_getElem? (i := 116) (by decide +kernel)), by decide +kernel⟩
theorem wB_858 : Cond.instanceMethod yX2_clear ∈ dgB := List.mem_filter.mpr ⟨tbl_3 _ (List.mem_of_getElem? (i := 117) (by decide +kernel)), by decide +kernel⟩
theorem wB_859 : Cond.selects RX2 yX2_clear yX2_clear ∈ dgB := List.mem_filter.mpr ⟨tbl_3 _ (List.mem_of_getElem? (i := 118) (by decide +kernel)), by decide +kernel⟩
theorem wB_860 : Cond.code yX9_split cX9_split 5 none ∈ dgB := List.mem_filter.mpr ⟨tbl_3 _ (List.mem_of_getElem? (i := 124) rfl), rfl⟩
theorem wB_861 : Cond.methodLink RX6 40 yX9_split ∈ dgB := List.mem_filter.mpr ⟨tbl_3 _ (List.mem_of_getElem? (i := 121) (by decide +kernel)), by decide +kernel⟩
theorem wB_862 : Cond.instanceMethod yX9_split ∈ dgB := List.mem_filter.mpr ⟨tbl_3 _ (List.mem_of_getElem? (i := 122) (by decide +kernel)), by decide +kernel⟩
theorem wB_863 : Cond.selects RX9 yX9_split yX9_split ∈ dgB := List.mem_filter.mpr ⟨tbl_3 _ (List.mem_of_getElem? (i := 123) (by decide +kernel)), by decide +kernel⟩
theorem wB_864 : Cond.code yX6_readStatement cX6_readStatement 2 (some .boolean) ∈ dgB := List.mem_filter.mpr ⟨tbl_3 _ (List.mem_of_getElem? (i := 197) rfl), rfl⟩
theorem wB_865 : Cond.methodLink RX6 48 yX6_readStatement ∈ dgB := List.mem_filter.mpr ⟨tbl_3 _ (List.mem_of_getElem? (i := 194) (by decide +kernel)), by decide +kernel⟩
theorem wB_866 : Cond.instanceMethod yX6_readStatement ∈ dgB := List.mem_filter.mpr ⟨tbl_3 _ (List.mem_of_getElem? (i := 196) (by decide +kernel)), by decide +kernel⟩
theorem wB_867 : Cond.selects RX6 yX6_readStatement yX6_readStatement ∈ dgB := List.mem_filter.mpr ⟨List.mem_of_getElem? (i := 6) (by decide +kernel), by decide +kernel⟩
theorem wB_868 : Cond.fieldLink RX11 53 "DarkMine" "spareGround" "LDarkMine$Ground;" ∈ dgB := List.mem_filter.mpr ⟨tbl_3 _ (List.mem_of_getElem? (i := 55) (by decide +kernel)), by decide +kernel⟩
theorem wB_869 : Cond.code yX6_read cX6_read 4 (some .int) ∈ dgB := List.mem_filter.mpr ⟨tbl_3 _ (List.mem_of_getElem? (i := 115) rfl), rfl⟩
theorem wB_870 : Cond.methodLink RX11 112 yX6_read ∈ dgB := List.mem_filter.mpr ⟨tbl_3 _ (List.mem_of_getElem? (i := 112) (by decide +kernel)), by decide +kernel⟩
theorem wB_871 : Cond.instanceMethod yX6_read ∈ dgB := List.mem_filter.mpr ⟨tbl_3 _ (List.mem_of_getElem? (i := 113) (by decide +kernel)), by decide +kernel⟩
theorem wB_872 : Cond.selects RX6 yX6_read yX6_read ∈ dgB := List.mem_filter.mpr ⟨tbl_3 _ (List.mem_of_getElem? (i := 114) (by decide +kernel)), by decide +kernel⟩
theorem wB_873 : Cond.methodLink RX11 94 yX5_begin ∈ dgB := List.mem_filter.mpr ⟨tbl_3 _ (List.mem_of_getElem? (i := 34) (by decide +kernel)), by decide +kernel⟩
set_option maxHeartbeats 8000000 in
set_option maxRecDepth 100000 in
theorem c_rd_read (l : Launch) (g : Nat → ClassId) (D : va_G) (o : Nat) (S : dg_S) (gr : Nat) (hk_gr : rX gr) (Z1 : Z1X S) (I : CX o S) (sz : Nat) : Met l yX6_read (bw yX6_read cX6_read 4 (some .int)) ({ frames := 70, cells := 0, slots := 0, locals := 1604 } : Room) (dk_Pc g D (dg_w g shX o rfX S) sz [.ref (o + 209), .ref (o + 1), .ref (o + gr)]) (va_Qi (fun (r : Int32) S' => CX o S' ∧ dg_sm shX [(19, 0), (19, 1), (19, 2), (19, 3), (19, 4), (19, 6), (19, 8), (19, 11), (31, 0), (31, 1), (31, 3), (31, 4), (31, 5), (31, 6), (31, 7), (32, 3), (32, 4)] [20, 21, 22, 23, 24, 25, 26, 27, 28, 29, 30, 33, 34, 35] S S' ∧ ((-1) ≤ (r).toInt ∧ (r).toInt ≤ 80) ∧ Z1X S' ∧ True) (dg_B g D shX o rfX) (dg_A o shX.length sz)) 0 0 (dg_A o shX.length sz) := by
  refine dg_met (cc := cX6_read) (maxL := 4) (ret := (some .int)) (by decide) rfl (Nat.le_of_ble_eq_true rfl) ?_
  intro p e s m args below meth c A hAe harg hx hb hr hml hts hown hlocks hin hP K hS hA1 hA ST hsz ls hl
  rw [← hAe]
  have F : CallFix p m c cX6_read 4 s args (bw yX6_read cX6_read 4 (some .int)) RX6 := ⟨hx, hb, hml, hown, hts⟩
  have hl : lv_has ls 4 [(0, .ref (o + 209)), (1, .ref (o + 1)), (2, .ref (o + gr))] := hl
  have M_0 : dg_sm shX [(19, 0), (19, 1), (19, 2), (19, 3), (19, 4), (19, 6), (19, 8), (19, 11), (31, 0), (31, 1), (31, 3), (31, 4), (31, 5), (31, 6), (31, 7), (32, 3), (32, 4)] [20, 21, 22, 23, 24, 25, 26, 27, 28, 29, 30, 33, 34, 35] S S := dg_sm.rf
  refine lv_aload_n hx hb dX6_read_0 rfl (lv_at hl 0 rfl) ?_
  refine lv_aload_n hx hb dX6_read_1 rfl (lv_at hl 2 rfl) ?_
  refine dg_put (ci := 6) (v := .ref (o + gr)) (ty := tyX6 3) (C := RX6) (T := TX6) (N := 8) hx hb hts (fun w h => bw_mem (wU_X6 w h)) tyX6 tyX6_ok nmX6 hown K hP hS hA1 sX_209 rfl 3 (by decide) (hts _ (bw_mem wB_698)) (fun _ h9 => h9) rfl (by decide +kernel) rfl rfl dX6_read_2 (fun S_1 e_1 H locs hP hS => ?_)
  have I_1 := dg_I.uFo (j := gr) (d := 0) I e_1 sX_209 (by decide +kernel) hk_gr
  have M_1 := dg_sm.uF M_0 e_1 sX_209 (by decide)
  refine lv_aload_n hx hb dX6_read_5 rfl (lv_at hl 0 rfl) ?_
  refine dg_get (C := RX6) (T := TX6) (N := 8) hx hb hts (fun w h => bw_mem (wU_X6 w h)) hown K hP sX_209 rfl 3 (by decide) (hts _ (bw_mem wB_698)) (fun _ h9 => h9) (v := .ref (o + gr)) (dg_uF_at e_1) dX6_read_6 ?_
  refine dg_callv hS hA1 hA (va_runV (As := []) (rest := []) F (c_g_clear l g D o S_1 gr hk_gr (Z1X.keep Z1 (dg_sm.uF (WF := [(31, 3)]) (WA := []) dg_sm.rf e_1 sX_209 (by decide)) (by decide) (by decide) (by decide)) I_1 H.size) (cwV 0 hts (bw_V wB_857 wB_858 wB_859 wB_12 wB_856) rfl rfl rfl (by decide +kernel) ⟨Nat.le_of_ble_eq_true rfl, Nat.le_of_ble_eq_true rfl⟩) (dg_preV (rX_0 gr hk_gr) rfl K ST hP hS hA1 hA) rfl rfl hl.1 rfl (lv_room (Nat.le_of_ble_eq_true rfl)) dX6_read_9 ⟨Nat.le_of_ble_eq_true rfl, Nat.le_of_ble_eq_true rfl⟩) (fun S_2 hw_2 H locs hP hS => ?_)
  obtain ⟨I_2, m_2, w_2_0, -⟩ := hw_2
  have M_2 := dg_sm.tr M_1 m_2 (by decide) (by decide)
  refine lv_aload_n hx hb dX6_read_12 rfl (lv_at hl 0 rfl) ?_
  refine lv_iconst (v := 0) hx hb dX6_read_13 (by decide +kernel) ?_
  have hz_3 : (0 : Int32).toInt = 0 := by decide +kernel
  refine dg_put (ci := 6) (v := .int 0) (ty := tyX6 0) (C := RX6) (T := TX6) (N := 8) hx hb hts (fun w h => bw_mem (wU_X6 w h)) tyX6 tyX6_ok nmX6 hown K hP hS hA1 sX_209 rfl 0 (by decide) (hts _ (bw_mem wB_677)) (fun _ h9 => h9) rfl (by decide +kernel) rfl rfl dX6_read_14 (fun S_4 e_4 H locs hP hS => ?_)
  have I_4 := dg_I.uFi (lo := (-2147483648)) (hi := 2147483647) I_2 e_4 sX_209 (by decide +kernel) (show (-2147483648) ≤ ((0 : Int32)).toInt ∧ ((0 : Int32)).toInt ≤ 2147483647 from (by decide +kernel))
  have M_4 := dg_sm.uF M_2 e_4 sX_209 (by decide)
  refine lv_aload_n hx hb dX6_read_17 rfl (lv_at hl 0 rfl) ?_
  refine lv_iconst (v := (-1)) hx hb dX6_read_18 (by decide +kernel) ?_
  have hz_5 : (-1 : Int32).toInt = (-1) := by decide +kernel
  refine dg_put (ci := 6) (v := .int (-1)) (ty := tyX6 1) (C := RX6) (T := TX6) (N := 8) hx hb hts (fun w h => bw_mem (wU_X6 w h)) tyX6 tyX6_ok nmX6 hown K hP hS hA1 sX_209 rfl 1 (by decide) (hts _ (bw_mem wB_679)) (fun _ h9 => h9) rfl (by decide +kernel) rfl rfl dX6_read_19 (fun S_6 e_6 H locs hP hS => ?_)
  have I_6 := dg_I.uFi (lo := (-2147483648)) (hi := 2147483647) I_4 e_6 sX_209 (by decide +kernel) (show (-2147483648) ≤ ((-1 : Int32)).toInt ∧ ((-1 : Int32)).toInt ≤ 2147483647 from (by decide +kernel))
  have M_6 := dg_sm.uF M_4 e_6 sX_209 (by decide)
  refine lv_aload_n hx hb dX6_read_22 rfl (lv_at hl 0 rfl) ?_
  refine lv_iconst (v := 0) hx hb dX6_read_23 (by decide +kernel) ?_
  have hz_7 : (0 : Int32).toInt = 0 := by decide +kernel
  refine dg_put (ci := 6) (v := .int 0) (ty := tyX6 4) (C := RX6) (T := TX6) (N := 8) hx hb hts (fun w h => bw_mem (wU_X6 w h)) tyX6 tyX6_ok nmX6 hown K hP hS hA1 sX_209 rfl 4 (by decide) (hts _ (bw_mem wB_675)) (fun _ h9 => h9) rfl (by decide +kernel) rfl rfl dX6_read_24 (fun S_8 e_8 H locs hP hS => ?_)
  have I_8 := dg_I.uFi (lo := 0) (hi := 1600) I_6 e_8 sX_209 (by decide +kernel) (show 0 ≤ ((0 : Int32)).toInt ∧ ((0 : Int32)).toInt ≤ 1600 from (by decide +kernel))
  have M_8 := dg_sm.uF M_6 e_8 sX_209 (by decide)
  refine lv_aload_n hx hb dX6_read_27 rfl (lv_at hl 0 rfl) ?_
  refine lv_iconst (v := 0) hx hb dX6_read_28 (by decide +kernel) ?_
  have hz_9 : (0 : Int32).toInt = 0 := by decide +kernel
  refine dg_put (ci := 6) (v := .int 0) (ty := tyX6 7) (C := RX6) (T := TX6) (N := 8) hx hb hts (fun w h => bw_mem (wU_X6 w h)) tyX6 tyX6_ok nmX6 hown K hP hS hA1 sX_209 rfl 7 (by decide) (hts _ (bw_mem wB_697)) (fun _ h9 => h9) rfl (by decide +kernel) rfl rfl dX6_read_29 (fun S_10 e_10 H locs hP hS => ?_)
  have I_10 := dg_I.uFi (lo := 0) (hi := 1600) I_8 e_10 sX_209 (by decide +kernel) (show 0 ≤ ((0 : Int32)).toInt ∧ ((0 : Int32)).toInt ≤ 1600 from (by decide +kernel))
  have M_10 := dg_sm.uF M_8 e_10 sX_209 (by decide)
  refine lv_aload_n hx hb dX6_read_32 rfl (lv_at hl 0 rfl) ?_
  refine dg_get (C := RX6) (T := TX6) (N := 8) hx hb hts (fun w h => bw_mem (wU_X6 w h)) hown K hP sX_209 rfl 2 (by decide) (hts _ (bw_mem wB_673)) (fun _ h9 => h9) (v := .ref (o + 210)) (show S_10.1 209 2 = .ref (o + 210) from dg_I.rel (d := 1) I_10 sX_209 (by decide +kernel)) dX6_read_33 ?_
  refine lv_aload_n hx hb dX6_read_36 rfl (lv_at hl 1 rfl) ?_
  refine dg_callv hS hA1 hA (va_runV (As := [.ref (o + 1)]) (rest := []) F (c_v_split l g D o S_10 I_10 H.size) (cwV 1 hts (bw_V wB_861 wB_862 wB_863 wB_646 wB_860) rfl rfl rfl (by decide +kernel) ⟨Nat.le_of_ble_eq_true rfl, Nat.le_of_ble_eq_true rfl⟩) (dg_preV sX_210 rfl K ST hP hS hA1 hA) rfl rfl hl.1 rfl (lv_room (Nat.le_of_ble_eq_true rfl)) dX6_read_37 ⟨Nat.le_of_ble_eq_true rfl, Nat.le_of_ble_eq_true rfl⟩) (fun S_11 hw_11 H locs hP hS => ?_)
  obtain ⟨I_11, m_11, w_11_0, -⟩ := hw_11
  have M_11 := dg_sm.tr M_10 m_11 (by decide) (by decide)
  have w_11_0 : ∃ e9 : Int32, 0 ≤ e9.toInt ∧ e9.toInt ≤ 1600 ∧ (S_11.2.1 211 e9.toNatClampNeg).toInt = 0 := w_11_0
  obtain ⟨en, he0, he1, he2⟩ := w_11_0
  obtain ⟨ke, f_ke⟩ : ∃ k, S_11.2.1 211 (en : Int32).toNatClampNeg = k := ⟨_, rfl⟩
  rw [f_ke] at he2
  have b_ke : 0 ≤ (ke).toInt ∧ (ke).toInt ≤ 0 := by omega
  refine lv_iconst (v := 0) hx hb dX6_read_40 (by decide +kernel) ?_
  refine lv_istore_n (lv' := [(3, .int 0), (0, .ref (o + 209)), (1, .ref (o + 1)), (2, .ref (o + gr))]) hx hb dX6_read_41 rfl hl (by decide) rfl (fun ls hl => ?_)
  have L_110 : ∀ (n : Nat) (x_107 : Int32) (x_108 : Int32), (0 ≤ (x_107).toInt ∧ (x_107).toInt ≤ 81) → (0 ≤ (x_108).toInt ∧ (x_108).toInt ≤ 1600) → ((x_108).toInt ≤ (en).toInt) → ((82 - (x_107).toInt).toNat < n) → ∀ S_109 : dg_S, CX o S_109 → dg_sm shX [(19, 0), (19, 1), (19, 2), (19, 3), (19, 4), (19, 6), (19, 8), (19, 11), (31, 0), (31, 1), (31, 3), (31, 4), (31, 5), (31, 6), (31, 7), (32, 3), (32, 4)] [20, 21, 22, 23, 24, 25, 26, 27, 28, 29, 30, 33, 34, 35] S S_109 → S_109.1 209 4 = .int x_108 → ∀ rw_109_0 : Int32, S_109.2.1 211 (en : Int32).toNatClampNeg = rw_109_0 → (0 ≤ (rw_109_0).toInt ∧ (rw_109_0).toInt ≤ 0) → Z1X S_109 → ∀ (H : Heap) (locs : List Loc), va_P D vwCl (dg_w g shX o rfX S_109) H → va_S A s.heap H locs → ∀ ls : Array Slot, lv_has ls 4 [(3, .int x_107), (0, .ref (o + 209)), (1, .ref (o + 1)), (2, .ref (o + gr))] → W p l e ({ frames := 70, cells := 0, slots := 0, locals := 1604 } : Room) s m args below meth c H locs 0 0 (MQ below (va_Qi (fun (r : Int32) S' => CX o S' ∧ dg_sm shX [(19, 0), (19, 1), (19, 2), (19, 3), (19, 4), (19, 6), (19, 8), (19, 11), (31, 0), (31, 1), (31, 3), (31, 4), (31, 5), (31, 6), (31, 7), (32, 3), (32, 4)] [20, 21, 22, 23, 24, 25, 26, 27, 28, 29, 30, 33, 34, 35] S S' ∧ ((-1) ≤ (r).toInt ∧ (r).toInt ≤ 80) ∧ Z1X S' ∧ True) (dg_B g D shX o rfX) A) args s 0 0 A) (F0 m 42 ls []) := by
    intro n
    induction n with
    | zero =>
      intro x_107 x_108 b_x_107 b_x_108 rel_0 hmu S_109 I_109 M_109 ff_109_4_209 rw_109_0 frw_109_0 brw_109_0 Z1_109 H locs hP hS ls hl
      omega
    | succ n ih =>
      intro x_107 x_108 b_x_107 b_x_108 rel_0 hmu S_109 I_109 M_109 ff_109_4_209 rw_109_0 frw_109_0 brw_109_0 Z1_109 H locs hP hS ls hl
      refine lv_iload_n hx hb dX6_read_42 rfl (lv_at hl 0 rfl) ?_
      refine lv_bipush (v := 80) hx hb dX6_read_43 (by decide +kernel) ?_
      refine lv_icmp_gt (tgt := 94) hx hb dX6_read_45 (by decide) (fun c_111 => ?_) (fun c_111 => ?_)
      · have jc_111 := dk_gtc (k := 80) (by decide +kernel) c_111
        refine lv_iconst (v := (-1)) hx hb dX6_read_94 (by decide +kernel) ?_
        have hz_112 : (-1 : Int32).toInt = (-1) := by decide +kernel
        refine W.widen (k := 0) (n := 0) (Nat.le_of_ble_eq_true rfl) (Nat.le_of_ble_eq_true rfl) ?_
        exact dg_iret hx hb hr hlocks rfl hP hS ⟨I_109, M_109, (by decide +kernel), Z1_109, trivial⟩ dX6_read_95
      · have jc_111 := dk_ngtc (k := 80) (by decide +kernel) c_111
        refine lv_iload_n hx hb dX6_read_48 rfl (lv_at hl 0 rfl) ?_
        have J_129 : ∀ (H : Heap) (locs : List Loc), va_P D vwCl (dg_w g shX o rfX S_109) H → va_S A s.heap H locs → ∀ ls : Array Slot, lv_has ls 4 [(3, .int x_107), (0, .ref (o + 209)), (1, .ref (o + 1)), (2, .ref (o + gr))] → W p l e ({ frames := 70, cells := 0, slots := 0, locals := 1604 } : Room) s m args below meth c H locs 0 0 (MQ below (va_Qi (fun (r : Int32) S' => CX o S' ∧ dg_sm shX [(19, 0), (19, 1), (19, 2), (19, 3), (19, 4), (19, 6), (19, 8), (19, 11), (31, 0), (31, 1), (31, 3), (31, 4), (31, 5), (31, 6), (31, 7), (32, 3), (32, 4)] [20, 21, 22, 23, 24, 25, 26, 27, 28, 29, 30, 33, 34, 35] S S' ∧ ((-1) ≤ (r).toInt ∧ (r).toInt ≤ 80) ∧ Z1X S' ∧ True) (dg_B g D shX o rfX) A) args s 0 0 A) (F0 m 69 ls []) := by
          intro H locs hP hS ls hl
          refine lv_aload_n hx hb dX6_read_69 rfl (lv_at hl 1 rfl) ?_
          refine lv_iload_n hx hb dX6_read_70 rfl (lv_at hl 0 rfl) ?_
          refine dg_calli hS hA1 hA (va_runV (As := [.int x_107]) (rest := []) F (c_rd_readStatement l g D o S_109 x_107 (by omega) en x_108 ff_109_4_209 (by omega) rw_109_0 frw_109_0 (by omega) (by omega) Z1_109 I_109 H.size) (cwV 1 hts (bw_V wB_865 wB_866 wB_867 wB_684 wB_864) rfl rfl rfl (by decide +kernel) ⟨Nat.le_of_ble_eq_true rfl, Nat.le_of_ble_eq_true rfl⟩) (dg_preV sX_209 rfl K ST hP hS hA1 hA) rfl rfl hl.1 rfl (lv_room (Nat.le_of_ble_eq_true rfl)) dX6_read_71 ⟨Nat.le_of_ble_eq_true rfl, Nat.le_of_ble_eq_true rfl⟩) (fun x_130 S_131 hw_131 H locs hP hS => ?_)
          obtain ⟨I_131, m_131, w_131_0, w_131_1, w_131_2, -⟩ := hw_131
          have M_131 := dg_sm.tr M_109 m_131 (by decide) (by decide)
          have w_131_0 : 0 ≤ (x_130).toInt ∧ (x_130).toInt ≤ 1 := w_131_0
          obtain ⟨y_132, f_y_132, w_131_1⟩ := w_131_1
          have w_131_1 : (y_132).toInt ≤ (en).toInt := w_131_1
          have b_y_132 : 0 ≤ (y_132).toInt ∧ (y_132).toInt ≤ 1600 := dg_I.intb (lo := 0) (hi := 1600) I_131 sX_209 (by decide +kernel) f_y_132
          refine lv_if_eq (tgt := 86) hx hb dX6_read_74 (by decide) (fun c_133 => ?_) (fun c_133 => ?_)
          · have jc_133 := dk_eqc (k := 0) (by decide +kernel) c_133
            refine lv_iconst (v := (-1)) hx hb dX6_read_86 (by decide +kernel) ?_
            have hz_134 : (-1 : Int32).toInt = (-1) := by decide +kernel
            refine W.widen (k := 0) (n := 0) (Nat.le_of_ble_eq_true rfl) (Nat.le_of_ble_eq_true rfl) ?_
            exact dg_iret hx hb hr hlocks rfl hP hS ⟨I_131, M_131, (by decide +kernel), w_131_2, trivial⟩ dX6_read_87
          · have jc_133 := dk_neqc (k := 0) (by decide +kernel) c_133
            refine lv_aload_n hx hb dX6_read_77 rfl (lv_at hl 1 rfl) ?_
            refine lv_bipush (v := 59) hx hb dX6_read_78 (by decide +kernel) ?_
            refine dg_calli hS hA1 hA (va_runV (As := [.int 59]) (rest := []) F (c_rd_takeSign l g D o S_131 59 en y_132 f_y_132 (by omega) rw_109_0 ((congrFun (m_131.2 211 _ sX_211 (by decide)).1 _).trans frw_109_0) (by omega) (by omega) I_131 H.size) (cwV 1 hts (bw_V wB_809 wB_810 wB_811 wB_684 wB_808) rfl rfl rfl (by decide +kernel) ⟨Nat.le_of_ble_eq_true rfl, Nat.le_of_ble_eq_true rfl⟩) (dg_preV sX_209 rfl K ST hP hS hA1 hA) rfl rfl hl.1 rfl (lv_room (Nat.le_of_ble_eq_true rfl)) dX6_read_80 ⟨Nat.le_of_ble_eq_true rfl, Nat.le_of_ble_eq_true rfl⟩) (fun x_135 S_136 hw_136 H locs hP hS => ?_)
            obtain ⟨I_136, m_136, w_136_0, w_136_1, -⟩ := hw_136
            have M_136 := dg_sm.tr M_131 m_136 (by decide) (by decide)
            have hz_137 : (59 : Int32).toInt = 59 := by decide +kernel
            have w_136_0 : 0 ≤ (x_135).toInt ∧ (x_135).toInt ≤ 1 := w_136_0
            obtain ⟨y_138, f_y_138, w_136_1⟩ := w_136_1
            have w_136_1 : (y_138).toInt ≤ (en).toInt := w_136_1
            have b_y_138 : 0 ≤ (y_138).toInt ∧ (y_138).toInt ≤ 1600 := dg_I.intb (lo := 0) (hi := 1600) I_136 sX_209 (by decide +kernel) f_y_138
            refine lv_if_ne (tgt := 88) hx hb dX6_read_83 (by decide) (fun c_139 => ?_) (fun c_139 => ?_)
            · have jc_139 := dk_neqc (k := 0) (by decide +kernel) c_139
              obtain ⟨x_140, ex_140⟩ : ∃ z, z = x_107 + 1 := ⟨_, rfl⟩
              have jx_140 : (x_140).toInt = (x_107).toInt + 1 := by rw [ex_140]; exact dk_addT rfl (by decide +kernel) (by omega) (by omega)
              refine lv_iinc (v := x_140) (lv' := [(3, .int x_140), (0, .ref (o + 209)), (1, .ref (o + 1)), (2, .ref (o + gr))]) hx hb dX6_read_88 hl (k := 0) rfl (by rw [ex_140]; rfl) (by decide) rfl (fun ls hl => ?_)
              refine lv_goto (tgt := 42) hx hb dX6_read_91 (by decide) ?_
              exact ih x_140 y_138 (by omega) (by omega) (by omega) (by omega) S_136 I_136 M_136 f_y_138 rw_109_0 ((congrFun ((m_136.2 211 _ sX_211 (by decide)).1.trans (m_131.2 211 _ sX_211 (by decide)).1) _).trans frw_109_0) (by omega) (Z1X.keep w_131_2 m_136 (by decide) (by decide) (by decide)) _ _ hP hS _ (lv_sub hl [0, 1, 2, 3] rfl)
            · have jc_139 := dk_eqc (k := 0) (by decide +kernel) c_139
              refine lv_iconst (v := (-1)) hx hb dX6_read_86 (by decide +kernel) ?_
              have hz_141 : (-1 : Int32).toInt = (-1) := by decide +kernel
              refine W.widen (k := 0) (n := 0) (Nat.le_of_ble_eq_true rfl) (Nat.le_of_ble_eq_true rfl) ?_
              exact dg_iret hx hb hr hlocks rfl hP hS ⟨I_136, M_136, (by decide +kernel), (Z1X.keep w_131_2 m_136 (by decide) (by decide) (by decide)), trivial⟩ dX6_read_87
        refine lv_if_le (tgt := 69) hx hb dX6_read_49 (by decide) (fun c_142 => ?_) (fun c_142 => ?_)
        · have jc_142 := dk_lec (k := 0) (by decide +kernel) c_142
          exact J_129   _ _ hP hS _ (lv_sub hl [0, 1, 2, 3] rfl)
        · have jc_142 := dk_nlec (k := 0) (by decide +kernel) c_142
          refine lv_aload_n hx hb dX6_read_52 rfl (lv_at hl 1 rfl) ?_
          refine dg_get (C := RX6) (T := TX6) (N := 8) hx hb hts (fun w h => bw_mem (wU_X6 w h)) hown K hP sX_209 rfl 2 (by decide) (hts _ (bw_mem wB_673)) (fun _ h9 => h9) (v := .ref (o + 210)) (show S_109.1 209 2 = .ref (o + 210) from dg_I.rel (d := 1) I_109 sX_209 (by decide +kernel)) dX6_read_53 ?_
          refine dg_get (C := RX9) (T := TX9) (N := 5) hx hb hts (fun w h => bw_mem (wU_X9 w h)) hown K hP sX_210 rfl 0 (by decide) (hts _ (bw_mem wB_674)) (fun _ h9 => h9) (v := .ref (o + 211)) (show S_109.1 210 0 = .ref (o + 211) from dg_I.rel (d := 1) I_109 sX_210 (by decide +kernel)) dX6_read_56 ?_
          refine lv_aload_n hx hb dX6_read_59 rfl (lv_at hl 1 rfl) ?_
          refine dg_get (C := RX6) (T := TX6) (N := 8) hx hb hts (fun w h => bw_mem (wU_X6 w h)) hown K hP sX_209 rfl 4 (by decide) (hts _ (bw_mem wB_675)) (fun _ h9 => h9) (v := .int x_108) ff_109_4_209 dX6_read_60 ?_
          have hin_143 : vp_in x_108 1601 := (dk_inv (by omega) (by omega))
          refine dg_iald hx hb K hP sX_211 hin_143 dX6_read_63 (fun x_144 ex_144 => ?_)
          have hs_x_144 : (x_108 : Int32).toInt = (en).toInt → (x_144).toInt = (rw_109_0).toInt := fun h => by have h9 := Int32.toInt_inj.mp h; rw [ex_144, h9]; exact congrArg Int32.toInt frw_109_0
          refine lv_if_ne (tgt := 69) hx hb dX6_read_64 (by decide) (fun c_145 => ?_) (fun c_145 => ?_)
          · have jc_145 := dk_neqc (k := 0) (by decide +kernel) c_145
            exact J_129   _ _ hP hS _ (lv_sub hl [0, 1, 2, 3] rfl)
          · have jc_145 := dk_eqc (k := 0) (by decide +kernel) c_145
            refine lv_iload_n hx hb dX6_read_67 rfl (lv_at hl 0 rfl) ?_
            refine W.widen (k := 0) (n := 0) (Nat.le_of_ble_eq_true rfl) (Nat.le_of_ble_eq_true rfl) ?_
            exact dg_iret hx hb hr hlocks rfl hP hS ⟨I_109, M_109, (by omega), Z1_109, trivial⟩ dX6_read_68
  have hz_146 : (0 : Int32).toInt = 0 := by decide +kernel
  have hz_147 : (0 : Int32).toInt = 0 := by decide +kernel
  have hz_148 : (0 : Int32).toInt = 0 := by decide +kernel
  have hz_149 : (0 : Int32).toInt = 0 := by decide +kernel
  have hz_150 : (0 : Int32).toInt = 0 := by decide +kernel
  have hz_151 : (0 : Int32).toInt = 0 := by decide +kernel
  exact L_110 ((82 - ((0 : Int32)).toInt).toNat + 1) 0 0 (by decide +kernel) (by decide +kernel) (by omega) (by omega) S_11 I_11 M_11 (((m_11.1 209 4 _ sX_209 (by decide)).trans (dg_uF_ne e_10 (fun z => absurd z.2 (by decide)))).trans (dg_uF_at e_8)) ke f_ke (by omega) (Z1X.keep (Z1X.keep (Z1X.keep (Z1X.keep (Z1X.keep w_2_0 (dg_sm.uF (WF := [(31, 0)]) (WA := []) dg_sm.rf e_4 sX_209 (by decide)) (by decide) (by decide) (by decide)) (dg_sm.uF (WF := [(31, 1)]) (WA := []) dg_sm.rf e_6 sX_209 (by decide)) (by decide) (by decide) (by decide)) (dg_sm.uF (WF := [(31, 4)]) (WA := []) dg_sm.rf e_8 sX_209 (by decide)) (by decide) (by decide) (by decide)) (dg_sm.uF (WF := [(31, 7)]) (WA := []) dg_sm.rf e_10 sX_209 (by decide)) (by decide) (by decide) (by decide)) m_11 (by decide) (by decide) (by decide)) _ _ hP hS _ (lv_sub hl [0, 1, 2, 3] rfl)
set_option maxHeartbeats 8000000 in
set_option maxRecDepth 100000 in
theorem c_d_mine (l : Launch) (g : Nat → ClassId) (D : va_G) (o : Nat) (S : dg_S) (Z1 : Z1X S) (Z2 : Z2X S) (Z3 : Z3X o S) (Z4 : Z4X S) (Z6 : Z6X S) (I : CX o S) (sz : Nat) : Met l yX11_mine (bw yX11_mine cX11_mine 3 (some .int)) ({ frames := 71, cells := 0, slots := 0, locals := 1627 } : Room) (dk_Pc g D (dg_w g shX o rfX S) sz [.ref (o + 0)]) (va_Qi (fun (r : Int32) S' => CX o S' ∧ dg_sm shX [(0, 6), (0, 7), (1, 1), (3, 0), (3, 1), (10, 1), (10, 2), (19, 0), (19, 1), (19, 2), (19, 3), (19, 4), (19, 6), (19, 8), (19, 11), (31, 0), (31, 1), (31, 3), (31, 4), (31, 5), (31, 6), (31, 7), (32, 3), (32, 4), (43, 2), (43, 3), (44, 4), (44, 5)] [4, 5, 6, 7, 8, 9, 18, 20, 21, 22, 23, 24, 25, 26, 27, 28, 29, 30, 33, 34, 35] S S' ∧ ((-1) ≤ (r).toInt ∧ (r).toInt ≤ 80) ∧ (∃ y9 : Int32, S'.1 1 1 = .int y9 ∧ ((y9).toInt = 0)) ∧ Z1X S' ∧ Z3X o S' ∧ Z4X S' ∧ Z6X S' ∧ dg_FG S S' ∧ True) (dg_B g D shX o rfX) (dg_A o shX.length sz)) 0 0 (dg_A o shX.length sz) := by
  refine dg_met (cc := cX11_mine) (maxL := 3) (ret := (some .int)) (by decide) rfl (Nat.le_of_ble_eq_true rfl) ?_
  intro p e s m args below meth c A hAe harg hx hb hr hml hts hown hlocks hin hP K hS hA1 hA ST hsz ls hl
  rw [← hAe]
  have F : CallFix p m c cX11_mine 3 s args (bw yX11_mine cX11_mine 3 (some .int)) RX11 := ⟨hx, hb, hml, hown, hts⟩
  have hl : lv_has ls 3 [(0, .ref (o + 0))] := hl
  have M_0 : dg_sm shX [(0, 6), (0, 7), (1, 1), (3, 0), (3, 1), (10, 1), (10, 2), (19, 0), (19, 1), (19, 2), (19, 3), (19, 4), (19, 6), (19, 8), (19, 11), (31, 0), (31, 1), (31, 3), (31, 4), (31, 5), (31, 6), (31, 7), (32, 3), (32, 4), (43, 2), (43, 3), (44, 4), (44, 5)] [4, 5, 6, 7, 8, 9, 18, 20, 21, 22, 23, 24, 25, 26, 27, 28, 29, 30, 33, 34, 35] S S := dg_sm.rf
  refine lv_aload_n hx hb dX11_mine_0 rfl (lv_at hl 0 rfl) ?_
  refine dg_get (C := RX11) (T := TX11) (N := 13) hx hb hts (fun w h => bw_mem (wU_X11 w h)) hown K hP sX_0 rfl 8 (by decide) (hts _ (bw_mem wB_468)) (fun _ h9 => h9) (v := .ref (o + 209)) (show S.1 0 8 = .ref (o + 209) from dg_I.rel (d := 209) I sX_0 (by decide +kernel)) dX11_mine_1 ?_
  refine lv_aload_n hx hb dX11_mine_4 rfl (lv_at hl 0 rfl) ?_
  refine dg_get (C := RX11) (T := TX11) (N := 13) hx hb hts (fun w h => bw_mem (wU_X11 w h)) hown K hP sX_0 rfl 0 (by decide) (hts _ (bw_mem wB_453)) (fun _ h9 => h9) (v := .ref (o + 1)) (show S.1 0 0 = .ref (o + 1) from dg_I.rel (d := 1) I sX_0 (by decide +kernel)) dX11_mine_5 ?_
  refine lv_aload_n hx hb dX11_mine_8 rfl (lv_at hl 0 rfl) ?_
  obtain ⟨d_1, hk_d_1, f_d_1⟩ := dg_I.one (i := 0) (k := 7) (d := 0) I sX_0 (by decide +kernel)
  have hk_d_1 : rX d_1 := hk_d_1
  refine dg_get (C := RX11) (T := TX11) (N := 13) hx hb hts (fun w h => bw_mem (wU_X11 w h)) hown K hP sX_0 rfl 7 (by decide) (hts _ (bw_mem wB_868)) (fun _ h9 => h9) (v := .ref (o + d_1)) f_d_1 dX11_mine_9 ?_
  refine dg_calli hS hA1 hA (va_runV (As := [.ref (o + 1), .ref (o + d_1)]) (rest := []) F (c_rd_read l g D o S d_1 hk_d_1 Z1 I s.heap.size) (cwV 2 hts (bw_V wB_870 wB_871 wB_872 wB_684 wB_869) rfl rfl rfl (by decide +kernel) ⟨Nat.le_of_ble_eq_true rfl, Nat.le_of_ble_eq_true rfl⟩) (dg_preV sX_209 rfl K ST hP hS hA1 hA) rfl rfl hl.1 rfl (lv_room (Nat.le_of_ble_eq_true rfl)) dX11_mine_12 ⟨Nat.le_of_ble_eq_true rfl, Nat.le_of_ble_eq_true rfl⟩) (fun x_2 S_3 hw_3 H locs hP hS => ?_)
  obtain ⟨I_3, m_3, w_3_0, w_3_1, -⟩ := hw_3
  have M_3 := dg_sm.tr M_0 m_3 (by decide) (by decide)
  have w_3_0 : (-1) ≤ (x_2).toInt ∧ (x_2).toInt ≤ 80 := w_3_0
  refine lv_istore_n (lv' := [(1, .int x_2), (0, .ref (o + 0))]) hx hb dX11_mine_15 rfl hl (by decide) rfl (fun ls hl => ?_)
  refine lv_aload_n hx hb dX11_mine_16 rfl (lv_at hl 1 rfl) ?_
  refine dg_get (C := RX11) (T := TX11) (N := 13) hx hb hts (fun w h => bw_mem (wU_X11 w h)) hown K hP sX_0 rfl 0 (by decide) (hts _ (bw_mem wB_453)) (fun _ h9 => h9) (v := .ref (o + 1)) (show S_3.1 0 0 = .ref (o + 1) from dg_I.rel (d := 1) I_3 sX_0 (by decide +kernel)) dX11_mine_17 ?_
  refine lv_iconst (v := 0) hx hb dX11_mine_20 (by decide +kernel) ?_
  have hz_4 : (0 : Int32).toInt = 0 := by decide +kernel
  refine dg_put (ci := 8) (v := .int 0) (ty := tyX8 1) (C := RX8) (T := TX8) (N := 2) hx hb hts (fun w h => bw_mem (wU_X8 w h)) tyX8 tyX8_ok nmX8 hown K hP hS hA1 sX_1 rfl 1 (by decide) (hts _ (bw_mem wB_454)) (fun _ h9 => h9) rfl (by decide +kernel) rfl rfl dX11_mine_21 (fun S_5 e_5 H locs hP hS => ?_)
  have I_5 := dg_I.uFi (lo := 0) (hi := 1600) I_3 e_5 sX_1 (by decide +kernel) (show 0 ≤ ((0 : Int32)).toInt ∧ ((0 : Int32)).toInt ≤ 1600 from (by decide +kernel))
  have M_5 := dg_sm.uF M_3 e_5 sX_1 (by decide)
  refine lv_iload_n hx hb dX11_mine_24 rfl (lv_at hl 0 rfl) ?_
  refine lv_iconst (v := (-1)) hx hb dX11_mine_25 (by decide +kernel) ?_
  refine lv_icmp_ne (tgt := 35) hx hb dX11_mine_26 (by decide) (fun c_6 => ?_) (fun c_6 => ?_)
  · have jc_6 := dk_neqc (k := (-1)) (by decide +kernel) c_6
    refine lv_aload_n hx hb dX11_mine_35 rfl (lv_at hl 1 rfl) ?_
    refine dg_get (C := RX11) (T := TX11) (N := 13) hx hb hts (fun w h => bw_mem (wU_X11 w h)) hown K hP sX_0 rfl 7 (by decide) (hts _ (bw_mem wB_868)) (fun _ h9 => h9) (v := .ref (o + d_1)) (((dg_uF_ne e_5 (fun z => absurd z.2 (by decide))).trans (m_3.1 0 7 _ sX_0 (by decide))).trans f_d_1) dX11_mine_36 ?_
    refine lv_astore_n (lv' := [(2, .ref (o + d_1)), (1, .int x_2), (0, .ref (o + 0))]) hx hb dX11_mine_39 rfl hl (by decide) rfl (fun ls hl => ?_)
    refine lv_aload_n hx hb dX11_mine_40 rfl (lv_at hl 2 rfl) ?_
    refine lv_aload_n hx hb dX11_mine_41 rfl (lv_at hl 2 rfl) ?_
    obtain ⟨d_7, hk_d_7, f_d_7⟩ := dg_I.one (i := 0) (k := 6) (d := 0) I_5 sX_0 (by decide +kernel)
    have hk_d_7 : rX d_7 := hk_d_7
    refine dg_get (C := RX11) (T := TX11) (N := 13) hx hb hts (fun w h => bw_mem (wU_X11 w h)) hown K hP sX_0 rfl 6 (by decide) (hts _ (bw_mem wB_392)) (fun _ h9 => h9) (v := .ref (o + d_7)) f_d_7 dX11_mine_42 ?_
    refine dg_put (ci := 11) (v := .ref (o + d_7)) (ty := tyX11 7) (C := RX11) (T := TX11) (N := 13) hx hb hts (fun w h => bw_mem (wU_X11 w h)) tyX11 tyX11_ok nmX11 hown K hP hS hA1 sX_0 rfl 7 (by decide) (hts _ (bw_mem wB_868)) (fun _ h9 => h9) rfl (by decide +kernel) rfl rfl dX11_mine_45 (fun S_8 e_8 H locs hP hS => ?_)
    have I_8 := dg_I.uFo (j := d_7) (d := 0) I_5 e_8 sX_0 (by decide +kernel) hk_d_7
    have M_8 := dg_sm.uF M_5 e_8 sX_0 (by decide)
    refine lv_aload_n hx hb dX11_mine_48 rfl (lv_at hl 2 rfl) ?_
    refine lv_aload_n hx hb dX11_mine_49 rfl (lv_at hl 0 rfl) ?_
    refine dg_put (ci := 11) (v := .ref (o + d_1)) (ty := tyX11 6) (C := RX11) (T := TX11) (N := 13) hx hb hts (fun w h => bw_mem (wU_X11 w h)) tyX11 tyX11_ok nmX11 hown K hP hS hA1 sX_0 rfl 6 (by decide) (hts _ (bw_mem wB_392)) (fun _ h9 => h9) rfl (by decide +kernel) rfl rfl dX11_mine_50 (fun S_9 e_9 H locs hP hS => ?_)
    have I_9 := dg_I.uFo (j := d_1) (d := 0) I_8 e_9 sX_0 (by decide +kernel) hk_d_1
    have M_9 := dg_sm.uF M_8 e_9 sX_0 (by decide)
    refine lv_aload_n hx hb dX11_mine_53 rfl (lv_at hl 2 rfl) ?_
    refine dg_get (C := RX11) (T := TX11) (N := 13) hx hb hts (fun w h => bw_mem (wU_X11 w h)) hown K hP sX_0 rfl 1 (by decide) (hts _ (bw_mem wB_382)) (fun _ h9 => h9) (v := .ref (o + 3)) (show S_9.1 0 1 = .ref (o + 3) from dg_I.rel (d := 3) I_9 sX_0 (by decide +kernel)) dX11_mine_54 ?_
    refine lv_aload_n hx hb dX11_mine_57 rfl (lv_at hl 2 rfl) ?_
    refine dg_get (C := RX11) (T := TX11) (N := 13) hx hb hts (fun w h => bw_mem (wU_X11 w h)) hown K hP sX_0 rfl 6 (by decide) (hts _ (bw_mem wB_392)) (fun _ h9 => h9) (v := .ref (o + d_1)) (dg_uF_at e_9) dX11_mine_58 ?_
    obtain ⟨x_10, f_x_10, b_x_10⟩ := dg_I.int (i := d_1) (k := 0) (lo := 0) (hi := 7) I_9 (rX_0 d_1 hk_d_1) (by decide +kernel)
    obtain ⟨x_11, f_x_11, b_x_11⟩ := dg_I.int (i := d_1) (k := 2) (lo := (-1)) (hi := 63) I_9 (rX_0 d_1 hk_d_1) (by decide +kernel)
    obtain ⟨x_12, f_x_12, b_x_12⟩ := dg_I.int (i := d_1) (k := 1) (lo := 0) (hi := 7) I_9 (rX_0 d_1 hk_d_1) (by decide +kernel)
    refine dg_callv hS hA1 hA (va_runV (As := [.ref (o + d_1)]) (rest := []) F (c_p_begin l g D o S_9 3 (by unfold pX; decide : pX 3) d_1 hk_d_1 x_10 f_x_10 (by omega) x_11 f_x_11 (by omega) (fun h8 => (((Z1X.keep (Z1X.keep (Z1X.keep w_3_1 (dg_sm.uF (WF := [(1, 1)]) (WA := []) dg_sm.rf e_5 sX_1 (by decide)) (by decide) (by decide) (by decide)) (dg_sm.uF (WF := [(0, 7)]) (WA := []) dg_sm.rf e_8 sX_0 (by decide)) (by decide) (by decide) (by decide)) (dg_sm.uF (WF := [(0, 6)]) (WA := []) dg_sm.rf e_9 sX_0 (by decide)) (by decide) (by decide) (by decide)) d_1 hk_d_1 x_10 x_11 x_12 f_x_10 f_x_11 f_x_12) h8).1) I_9 H.size) (cwV 1 hts (bw_V wB_873 wB_355 wB_356 wB_21 wB_353) rfl rfl rfl (by decide +kernel) ⟨Nat.le_of_ble_eq_true rfl, Nat.le_of_ble_eq_true rfl⟩) (dg_preV (pX_0 3 (by decide)) rfl K ST hP hS hA1 hA) rfl rfl hl.1 rfl (lv_room (Nat.le_of_ble_eq_true rfl)) dX11_mine_61 ⟨Nat.le_of_ble_eq_true rfl, Nat.le_of_ble_eq_true rfl⟩) (fun S_13 hw_13 H locs hP hS => ?_)
    obtain ⟨I_13, m_13, w_13_0, w_13_1, -⟩ := hw_13
    have M_13 := dg_sm.tr M_9 m_13 (by decide) (by decide)
    refine lv_aload_n hx hb dX11_mine_64 rfl (lv_at hl 2 rfl) ?_
    refine dg_get (C := RX11) (T := TX11) (N := 13) hx hb hts (fun w h => bw_mem (wU_X11 w h)) hown K hP sX_0 rfl 3 (by decide) (hts _ (bw_mem wB_381)) (fun _ h9 => h9) (v := .ref (o + 17)) (show S_13.1 0 3 = .ref (o + 17) from dg_I.rel (d := 17) I_13 sX_0 (by decide +kernel)) dX11_mine_65 ?_
    refine dg_callv hS hA1 hA (va_runV (As := []) (rest := []) F (c_h_clear l g D o S_13 I_13 H.size) (cwV 0 hts (bw_V wB_610 wB_611 wB_612 wB_387 wB_609) rfl rfl rfl (by decide +kernel) ⟨Nat.le_of_ble_eq_true rfl, Nat.le_of_ble_eq_true rfl⟩) (dg_preV sX_17 rfl K ST hP hS hA1 hA) rfl rfl hl.1 rfl (lv_room (Nat.le_of_ble_eq_true rfl)) dX11_mine_68 ⟨Nat.le_of_ble_eq_true rfl, Nat.le_of_ble_eq_true rfl⟩) (fun S_14 hw_14 H locs hP hS => ?_)
    obtain ⟨I_14, m_14, w_14_0, -⟩ := hw_14
    have M_14 := dg_sm.tr M_13 m_14 (by decide) (by decide)
    refine lv_aload_n hx hb dX11_mine_71 rfl (lv_at hl 2 rfl) ?_
    refine dg_get (C := RX11) (T := TX11) (N := 13) hx hb hts (fun w h => bw_mem (wU_X11 w h)) hown K hP sX_0 rfl 11 (by decide) (hts _ (bw_mem wB_379)) (fun _ h9 => h9) (v := .ref (o + 229)) (show S_14.1 0 11 = .ref (o + 229) from dg_I.rel (d := 229) I_14 sX_0 (by decide +kernel)) dX11_mine_72 ?_
    refine lv_iconst (v := 0) hx hb dX11_mine_75 (by decide +kernel) ?_
    have hz_15 : (0 : Int32).toInt = 0 := by decide +kernel
    refine dg_put (ci := 0) (v := .int 0) (ty := tyX0 5) (C := RX0) (T := TX0) (N := 9) hx hb hts (fun w h => bw_mem (wU_X0 w h)) tyX0 tyX0_ok nmX0 hown K hP hS hA1 sX_229 rfl 5 (by decide) (hts _ (bw_mem wB_491)) (fun _ h9 => h9) rfl (by decide +kernel) rfl rfl dX11_mine_76 (fun S_16 e_16 H locs hP hS => ?_)
    have I_16 := dg_I.uFi (lo := 0) (hi := 16) I_14 e_16 sX_229 (by decide +kernel) (show 0 ≤ ((0 : Int32)).toInt ∧ ((0 : Int32)).toInt ≤ 16 from (by decide +kernel))
    have M_16 := dg_sm.uF M_14 e_16 sX_229 (by decide)
    refine lv_aload_n hx hb dX11_mine_79 rfl (lv_at hl 2 rfl) ?_
    refine dg_callv hS hA1 hA (va_runV (As := []) (rest := []) F (c_d_forgetTrials l g D o S_16 (Z1X.keep (Z1X.keep (Z1X.keep (Z1X.keep (Z1X.keep (Z1X.keep w_3_1 (dg_sm.uF (WF := [(1, 1)]) (WA := []) dg_sm.rf e_5 sX_1 (by decide)) (by decide) (by decide) (by decide)) (dg_sm.uF (WF := [(0, 7)]) (WA := []) dg_sm.rf e_8 sX_0 (by decide)) (by decide) (by decide) (by decide)) (dg_sm.uF (WF := [(0, 6)]) (WA := []) dg_sm.rf e_9 sX_0 (by decide)) (by decide) (by decide) (by decide)) m_13 (by decide) (by decide) (by decide)) m_14 (by decide) (by decide) (by decide)) (dg_sm.uF (WF := [(44, 5)]) (WA := []) dg_sm.rf e_16 sX_229 (by decide)) (by decide) (by decide) (by decide)) (Z2X.keep (Z2X.keep (Z2X.keep (Z2X.keep (Z2X.keep (Z2X.keep (Z2X.keep Z2 m_3 (by decide) (by decide)) (dg_sm.uF (WF := [(1, 1)]) (WA := []) dg_sm.rf e_5 sX_1 (by decide)) (by decide) (by decide)) (dg_sm.uF (WF := [(0, 7)]) (WA := []) dg_sm.rf e_8 sX_0 (by decide)) (by decide) (by decide)) (dg_sm.uF (WF := [(0, 6)]) (WA := []) dg_sm.rf e_9 sX_0 (by decide)) (by decide) (by decide)) m_13 (by decide) (by decide)) m_14 (by decide) (by decide)) (dg_sm.uF (WF := [(44, 5)]) (WA := []) dg_sm.rf e_16 sX_229 (by decide)) (by decide) (by decide)) (Z3X.keep (Z3X.keep (Z3X.keep (Z3X.keep (Z3X.keep (Z3X.keep (Z3X.keep Z3 m_3 (dg_FG.sm m_3 (by decide)) (by decide)) (dg_sm.uF (WF := [(1, 1)]) (WA := []) dg_sm.rf e_5 sX_1 (by decide)) (dg_FG.uF e_5) (by decide)) (dg_sm.uF (WF := [(0, 7)]) (WA := []) dg_sm.rf e_8 sX_0 (by decide)) (dg_FG.uF e_8) (by decide)) (dg_sm.uF (WF := [(0, 6)]) (WA := []) dg_sm.rf e_9 sX_0 (by decide)) (dg_FG.uF e_9) (by decide)) m_13 w_13_1 (by decide)) m_14 (dg_FG.sm m_14 (by decide)) (by decide)) (dg_sm.uF (WF := [(44, 5)]) (WA := []) dg_sm.rf e_16 sX_229 (by decide)) (dg_FG.uF e_16) (by decide)) (Z4X.keep w_14_0 (dg_sm.uF (WF := [(44, 5)]) (WA := []) dg_sm.rf e_16 sX_229 (by decide)) (dg_FG.uF e_16) (by decide) (by decide)) (Z6X.keep (Z6X.keep (Z6X.keep (Z6X.keep (Z6X.keep (Z6X.keep (Z6X.keep Z6 m_3 (dg_FG.sm m_3 (by decide))) (dg_sm.uF (WF := [(1, 1)]) (WA := []) dg_sm.rf e_5 sX_1 (by decide)) (dg_FG.uF e_5)) (dg_sm.uF (WF := [(0, 7)]) (WA := []) dg_sm.rf e_8 sX_0 (by decide)) (dg_FG.uF e_8)) (dg_sm.uF (WF := [(0, 6)]) (WA := []) dg_sm.rf e_9 sX_0 (by decide)) (dg_FG.uF e_9)) m_13 w_13_1) m_14 (dg_FG.sm m_14 (by decide))) (dg_sm.uF (WF := [(44, 5)]) (WA := []) dg_sm.rf e_16 sX_229 (by decide)) (dg_FG.uF e_16)) I_16 H.size) (cwV 0 hts (bw_V wB_389 wB_390 wB_391 wB_144 wB_388) rfl rfl rfl (by decide +kernel) ⟨Nat.le_of_ble_eq_true rfl, Nat.le_of_ble_eq_true rfl⟩) (dg_preV sX_0 rfl K ST hP hS hA1 hA) rfl rfl hl.1 rfl (lv_room (Nat.le_of_ble_eq_true rfl)) dX11_mine_80 ⟨Nat.le_of_ble_eq_true rfl, Nat.le_of_ble_eq_true rfl⟩) (fun S_17 hw_17 H locs hP hS => ?_)
    obtain ⟨I_17, m_17, -⟩ := hw_17
    have M_17 := dg_sm.tr M_16 m_17 (by decide) (by decide)
    refine lv_iload_n hx hb dX11_mine_83 rfl (lv_at hl 1 rfl) ?_
    have hz_18 : (0 : Int32).toInt = 0 := by decide +kernel
    refine W.widen (k := 0) (n := 0) (Nat.le_of_ble_eq_true rfl) (Nat.le_of_ble_eq_true rfl) ?_
    exact dg_iret hx hb hr hlocks rfl hP hS ⟨I_17, M_17, (by omega), ⟨0, (((m_17.1 1 1 _ sX_1 (by decide)).trans ((dg_uF_ne e_16 (fun z => absurd z.2 (by decide))).trans ((m_14.1 1 1 _ sX_1 (by decide)).trans ((m_13.1 1 1 _ sX_1 (by decide)).trans ((dg_uF_ne e_9 (fun z => absurd z.2 (by decide))).trans (dg_uF_ne e_8 (fun z => absurd z.2 (by decide)))))))).trans (dg_uF_at e_5)), (by omega)⟩, (Z1X.keep (Z1X.keep (Z1X.keep (Z1X.keep (Z1X.keep (Z1X.keep (Z1X.keep w_3_1 (dg_sm.uF (WF := [(1, 1)]) (WA := []) dg_sm.rf e_5 sX_1 (by decide)) (by decide) (by decide) (by decide)) (dg_sm.uF (WF := [(0, 7)]) (WA := []) dg_sm.rf e_8 sX_0 (by decide)) (by decide) (by decide) (by decide)) (dg_sm.uF (WF := [(0, 6)]) (WA := []) dg_sm.rf e_9 sX_0 (by decide)) (by decide) (by decide) (by decide)) m_13 (by decide) (by decide) (by decide)) m_14 (by decide) (by decide) (by decide)) (dg_sm.uF (WF := [(44, 5)]) (WA := []) dg_sm.rf e_16 sX_229 (by decide)) (by decide) (by decide) (by decide)) m_17 (by decide) (by decide) (by decide)), (Z3X.keep (Z3X.keep (Z3X.keep (Z3X.keep (Z3X.keep (Z3X.keep (Z3X.keep (Z3X.keep Z3 m_3 (dg_FG.sm m_3 (by decide)) (by decide)) (dg_sm.uF (WF := [(1, 1)]) (WA := []) dg_sm.rf e_5 sX_1 (by decide)) (dg_FG.uF e_5) (by decide)) (dg_sm.uF (WF := [(0, 7)]) (WA := []) dg_sm.rf e_8 sX_0 (by decide)) (dg_FG.uF e_8) (by decide)) (dg_sm.uF (WF := [(0, 6)]) (WA := []) dg_sm.rf e_9 sX_0 (by decide)) (dg_FG.uF e_9) (by decide)) m_13 w_13_1 (by decide)) m_14 (dg_FG.sm m_14 (by decide)) (by decide)) (dg_sm.uF (WF := [(44, 5)]) (WA := []) dg_sm.rf e_16 sX_229 (by decide)) (dg_FG.uF e_16) (by decide)) m_17 (dg_FG.sm m_17 (by decide)) (by decide)), (Z4X.keep (Z4X.keep w_14_0 (dg_sm.uF (WF := [(44, 5)]) (WA := []) dg_sm.rf e_16 sX_229 (by decide)) (dg_FG.uF e_16) (by decide) (by decide)) m_17 (dg_FG.sm m_17 (by decide)) (by decide) (by decide)), (Z6X.keep (Z6X.keep (Z6X.keep (Z6X.keep (Z6X.keep (Z6X.keep (Z6X.keep (Z6X.keep Z6 m_3 (dg_FG.sm m_3 (by decide))) (dg_sm.uF (WF := [(1, 1)]) (WA := []) dg_sm.rf e_5 sX_1 (by decide)) (dg_FG.uF e_5)) (dg_sm.uF (WF := [(0, 7)]) (WA := []) dg_sm.rf e_8 sX_0 (by decide)) (dg_FG.uF e_8)) (dg_sm.uF (WF := [(0, 6)]) (WA := []) dg_sm.rf e_9 sX_0 (by decide)) (dg_FG.uF e_9)) m_13 w_13_1) m_14 (dg_FG.sm m_14 (by decide))) (dg_sm.uF (WF := [(44, 5)]) (WA := []) dg_sm.rf e_16 sX_229 (by decide)) (dg_FG.uF e_16)) m_17 (dg_FG.sm m_17 (by decide))), (dg_FG.tr (dg_FG.tr (dg_FG.tr (dg_FG.tr (dg_FG.tr (dg_FG.tr (dg_FG.tr (dg_FG.sm m_3 (by decide)) (dg_FG.uF e_5)) (dg_FG.uF e_8)) (dg_FG.uF e_9)) w_13_1) (dg_FG.sm m_14 (by decide))) (dg_FG.uF e_16)) (dg_FG.sm m_17 (by decide))), trivial⟩ dX11_mine_84
  · have jc_6 := dk_eqc (k := (-1)) (by decide +kernel) c_6
    refine lv_aload_n hx hb dX11_mine_29 rfl (lv_at hl 1 rfl) ?_
    refine lv_iconst (v := 1) hx hb dX11_mine_30 (by decide +kernel) ?_
    have hz_19 : (1 : Int32).toInt = 1 := by decide +kernel
    refine dg_calli hS hA1 hA (va_runV (As := [.int 1]) (rest := []) F (c_d_none l g D o S_5 1 (by decide +kernel) (Z1X.keep w_3_1 (dg_sm.uF (WF := [(1, 1)]) (WA := []) dg_sm.rf e_5 sX_1 (by decide)) (by decide) (by decide) (by decide)) (Z2X.keep (Z2X.keep Z2 m_3 (by decide) (by decide)) (dg_sm.uF (WF := [(1, 1)]) (WA := []) dg_sm.rf e_5 sX_1 (by decide)) (by decide) (by decide)) (Z3X.keep (Z3X.keep Z3 m_3 (dg_FG.sm m_3 (by decide)) (by decide)) (dg_sm.uF (WF := [(1, 1)]) (WA := []) dg_sm.rf e_5 sX_1 (by decide)) (dg_FG.uF e_5) (by decide)) (Z4X.keep (Z4X.keep Z4 m_3 (dg_FG.sm m_3 (by decide)) (by decide) (by decide)) (dg_sm.uF (WF := [(1, 1)]) (WA := []) dg_sm.rf e_5 sX_1 (by decide)) (dg_FG.uF e_5) (by decide) (by decide)) (Z6X.keep (Z6X.keep Z6 m_3 (dg_FG.sm m_3 (by decide))) (dg_sm.uF (WF := [(1, 1)]) (WA := []) dg_sm.rf e_5 sX_1 (by decide)) (dg_FG.uF e_5)) I_5 H.size) (cwV 1 hts (bw_V wB_461 wB_462 wB_463 wB_144 wB_460) rfl rfl rfl (by decide +kernel) ⟨Nat.le_of_ble_eq_true rfl, Nat.le_of_ble_eq_true rfl⟩) (dg_preV sX_0 rfl K ST hP hS hA1 hA) rfl rfl hl.1 rfl (lv_room (Nat.le_of_ble_eq_true rfl)) dX11_mine_31 ⟨Nat.le_of_ble_eq_true rfl, Nat.le_of_ble_eq_true rfl⟩) (fun x_20 S_21 hw_21 H locs hP hS => ?_)
    obtain ⟨I_21, m_21, w_21_0, -⟩ := hw_21
    have M_21 := dg_sm.tr M_5 m_21 (by decide) (by decide)
    have w_21_0 : (-1) ≤ (x_20).toInt ∧ (x_20).toInt ≤ (-1) := w_21_0
    have hz_22 : (0 : Int32).toInt = 0 := by decide +kernel
    refine W.widen (k := 0) (n := 0) (Nat.le_of_ble_eq_true rfl) (Nat.le_of_ble_eq_true rfl) ?_
    exact dg_iret hx hb hr hlocks rfl hP hS ⟨I_21, M_21, (by omega), ⟨0, ((m_21.1 1 1 _ sX_1 (by decide)).trans (dg_uF_at e_5)), (by omega)⟩, (Z1X.keep (Z1X.keep w_3_1 (dg_sm.uF (WF := [(1, 1)]) (WA := []) dg_sm.rf e_5 sX_1 (by decide)) (by decide) (by decide) (by decide)) m_21 (by decide) (by decide) (by decide)), (Z3X.keep (Z3X.keep (Z3X.keep Z3 m_3 (dg_FG.sm m_3 (by decide)) (by decide)) (dg_sm.uF (WF := [(1, 1)]) (WA := []) dg_sm.rf e_5 sX_1 (by decide)) (dg_FG.uF e_5) (by decide)) m_21 (dg_FG.sm m_21 (by decide)) (by decide)), (Z4X.keep (Z4X.keep (Z4X.keep Z4 m_3 (dg_FG.sm m_3 (by decide)) (by decide) (by decide)) (dg_sm.uF (WF := [(1, 1)]) (WA := []) dg_sm.rf e_5 sX_1 (by decide)) (dg_FG.uF e_5) (by decide) (by decide)) m_21 (dg_FG.sm m_21 (by decide)) (by decide) (by decide)), (Z6X.keep (Z6X.keep (Z6X.keep Z6 m_3 (dg_FG.sm m_3 (by decide))) (dg_sm.uF (WF := [(1, 1)]) (WA := []) dg_sm.rf e_5 sX_1 (by decide)) (dg_FG.uF e_5)) m_21 (dg_FG.sm m_21 (by decide))), (dg_FG.tr (dg_FG.tr (dg_FG.sm m_3 (by decide)) (dg_FG.uF e_5)) (dg_FG.sm m_21 (by decide))), trivial⟩ dX11_mine_34
