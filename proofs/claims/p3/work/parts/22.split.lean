/-! 22.split.lean.txt -/
theorem dX9_split_0 : decode cX9_split 0 = .ok (.aload_n 0, 1) := by decide +kernel
theorem dX9_split_1 : decode cX9_split 1 = .ok (.iconst 0, 1) := by decide +kernel
theorem dX9_split_2 : decode cX9_split 2 = .ok (.putfield 21, 3) := by decide +kernel
theorem dX9_split_5 : decode cX9_split 5 = .ok (.aload_n 0, 1) := by decide +kernel
theorem dX9_split_6 : decode cX9_split 6 = .ok (.iconst (-1), 1) := by decide +kernel
theorem dX9_split_7 : decode cX9_split 7 = .ok (.putfield 25, 3) := by decide +kernel
theorem dX9_split_10 : decode cX9_split 10 = .ok (.iconst 0, 1) := by decide +kernel
theorem dX9_split_11 : decode cX9_split 11 = .ok (.istore_n 2, 1) := by decide +kernel
theorem dX9_split_12 : decode cX9_split 12 = .ok (.iconst 0, 1) := by decide +kernel
theorem dX9_split_13 : decode cX9_split 13 = .ok (.istore_n 3, 1) := by decide +kernel
theorem dX9_split_14 : decode cX9_split 14 = .ok (.iload_n 3, 1) := by decide +kernel
theorem dX9_split_15 : decode cX9_split 15 = .ok (.sipush 1600, 3) := by decide +kernel
theorem dX9_split_18 : decode cX9_split 18 = .ok (.if_icmp .ge 86, 3) := by decide +kernel
theorem dX9_split_21 : decode cX9_split 21 = .ok (.iload_n 2, 1) := by decide +kernel
theorem dX9_split_22 : decode cX9_split 22 = .ok (.aload_n 1, 1) := by decide +kernel
theorem dX9_split_23 : decode cX9_split 23 = .ok (.getfield 28, 3) := by decide +kernel
theorem dX9_split_26 : decode cX9_split 26 = .ok (.if_icmp .ge 78, 3) := by decide +kernel
theorem dX9_split_29 : decode cX9_split 29 = .ok (.aload_n 1, 1) := by decide +kernel
theorem dX9_split_30 : decode cX9_split 30 = .ok (.getfield 33, 3) := by decide +kernel
theorem dX9_split_33 : decode cX9_split 33 = .ok (.iload_n 2, 1) := by decide +kernel
theorem dX9_split_34 : decode cX9_split 34 = .ok (.iaload, 1) := by decide +kernel
theorem dX9_split_35 : decode cX9_split 35 = .ok (.istore 4, 2) := by decide +kernel
theorem dX9_split_37 : decode cX9_split 37 = .ok (.iload 4, 2) := by decide +kernel
theorem dX9_split_39 : decode cX9_split 39 = .ok (.invokestatic 36, 3) := by decide +kernel
theorem dX9_split_42 : decode cX9_split 42 = .ok (.ifCond .eq 13, 3) := by decide +kernel
theorem dX9_split_45 : decode cX9_split 45 = .ok (.aload_n 0, 1) := by decide +kernel
theorem dX9_split_46 : decode cX9_split 46 = .ok (.aload_n 1, 1) := by decide +kernel
theorem dX9_split_47 : decode cX9_split 47 = .ok (.iload_n 2, 1) := by decide +kernel
theorem dX9_split_48 : decode cX9_split 48 = .ok (.invokevirtual 40, 3) := by decide +kernel
theorem dX9_split_51 : decode cX9_split 51 = .ok (.istore_n 2, 1) := by decide +kernel
theorem dX9_split_52 : decode cX9_split 52 = .ok (.goto 46, 3) := by decide +kernel
theorem dX9_split_55 : decode cX9_split 55 = .ok (.iload 4, 2) := by decide +kernel
theorem dX9_split_57 : decode cX9_split 57 = .ok (.invokestatic 44, 3) := by decide +kernel
theorem dX9_split_60 : decode cX9_split 60 = .ok (.ifCond .eq 13, 3) := by decide +kernel
theorem dX9_split_63 : decode cX9_split 63 = .ok (.aload_n 0, 1) := by decide +kernel
theorem dX9_split_64 : decode cX9_split 64 = .ok (.aload_n 1, 1) := by decide +kernel
theorem dX9_split_65 : decode cX9_split 65 = .ok (.iload_n 2, 1) := by decide +kernel
theorem dX9_split_66 : decode cX9_split 66 = .ok (.invokevirtual 47, 3) := by decide +kernel
theorem dX9_split_69 : decode cX9_split 69 = .ok (.istore_n 2, 1) := by decide +kernel
theorem dX9_split_70 : decode cX9_split 70 = .ok (.goto 28, 3) := by decide +kernel
theorem dX9_split_73 : decode cX9_split 73 = .ok (.iload 4, 2) := by decide +kernel
theorem dX9_split_75 : decode cX9_split 75 = .ok (.bipush 32, 2) := by decide +kernel
theorem dX9_split_77 : decode cX9_split 77 = .ok (.if_icmp .eq 18, 3) := by decide +kernel
theorem dX9_split_80 : decode cX9_split 80 = .ok (.iload 4, 2) := by decide +kernel
theorem dX9_split_82 : decode cX9_split 82 = .ok (.bipush 10, 2) := by decide +kernel
theorem dX9_split_84 : decode cX9_split 84 = .ok (.if_icmp .eq 11, 3) := by decide +kernel
theorem dX9_split_87 : decode cX9_split 87 = .ok (.aload_n 0, 1) := by decide +kernel
theorem dX9_split_88 : decode cX9_split 88 = .ok (.iconst 4, 1) := by decide +kernel
theorem dX9_split_89 : decode cX9_split 89 = .ok (.iload_n 2, 1) := by decide +kernel
theorem dX9_split_90 : decode cX9_split 90 = .ok (.iload 4, 2) := by decide +kernel
theorem dX9_split_92 : decode cX9_split 92 = .ok (.invokevirtual 50, 3) := by decide +kernel
theorem dX9_split_95 : decode cX9_split 95 = .ok (.iinc 2 1, 3) := by decide +kernel
theorem dX9_split_98 : decode cX9_split 98 = .ok (.iinc 3 1, 3) := by decide +kernel
theorem dX9_split_101 : decode cX9_split 101 = .ok (.goto (-87), 3) := by decide +kernel
theorem dX9_split_104 : decode cX9_split 104 = .ok (.aload_n 0, 1) := by decide +kernel
theorem dX9_split_105 : decode cX9_split 105 = .ok (.iconst 0, 1) := by decide +kernel
theorem dX9_split_106 : decode cX9_split 106 = .ok (.aload_n 1, 1) := by decide +kernel
theorem dX9_split_107 : decode cX9_split 107 = .ok (.getfield 28, 3) := by decide +kernel
theorem dX9_split_110 : decode cX9_split 110 = .ok (.iconst 0, 1) := by decide +kernel
theorem dX9_split_111 : decode cX9_split 111 = .ok (.invokevirtual 50, 3) := by decide +kernel
theorem dX9_split_114 : decode cX9_split 114 = .ok (.return_, 1) := by decide +kernel
theorem wB_665 : Cond.code yX9_addNumber cX9_addNumber 6 (some .int) ∈ dgB := List.mem_filter.mpr ⟨tbl_3 _ (List.mem_of_getElem? (i := 193) rfl), rfl⟩
theorem wB_666 : Cond.methodLink RX9 47 yX9_addNumber ∈ dgB := List.mem_filter.mpr ⟨tbl_3 _ (List.mem_of_getElem? (i := 190) (by decide +kernel)), by decide +kernel⟩
theorem wB_667 : Cond.instanceMethod yX9_addNumber ∈ dgB := List.mem_filter.mpr ⟨tbl_3 _ (List.mem_of_getElem? (i := 192) (by decide +kernel)), by decide +kernel⟩
theorem wB_668 : Cond.selects RX9 yX9_addNumber yX9_addNumber ∈ dgB := List.mem_filter.mpr ⟨List.mem_of_getElem? (i := 5) (by decide +kernel), by decide +kernel⟩
theorem wB_669 : Cond.code yX9_addWord cX9_addWord 5 (some .int) ∈ dgB := List.mem_filter.mpr ⟨tbl_3 _ (List.mem_of_getElem? (i := 131) rfl), rfl⟩
theorem wB_670 : Cond.methodLink RX9 40 yX9_addWord ∈ dgB := List.mem_filter.mpr ⟨tbl_3 _ (List.mem_of_getElem? (i := 128) (by decide +kernel)), by decide +kernel⟩
theorem wB_671 : Cond.instanceMethod yX9_addWord ∈ dgB := List.mem_filter.mpr ⟨tbl_3 _ (List.mem_of_getElem? (i := 130) (by decide +kernel)), by decide +kernel⟩
theorem wB_672 : Cond.selects RX9 yX9_addWord yX9_addWord ∈ dgB := List.mem_filter.mpr ⟨List.mem_of_getElem? (i := 2) (by decide +kernel), by decide +kernel⟩
set_option maxHeartbeats 8000000 in
set_option maxRecDepth 100000 in
theorem c_v_split (l : Launch) (g : Nat → ClassId) (D : va_G) (o : Nat) (S : dg_S) (I : CX o S) (sz : Nat) : Met l yX9_split (bw yX9_split cX9_split 5 none) ({ frames := 8, cells := 0, slots := 0, locals := 350 } : Room) (dk_Pc g D (dg_w g shX o rfX S) sz [.ref (o + 210), .ref (o + 1)]) (va_Qv (fun S' => CX o S' ∧ dg_sm shX [(32, 3), (32, 4)] [33, 34, 35] S S' ∧ (∃ e9 : Int32, 0 ≤ e9.toInt ∧ e9.toInt ≤ 1600 ∧ (S'.2.1 211 e9.toNatClampNeg).toInt = 0) ∧ True) (dg_B g D shX o rfX) (dg_A o shX.length sz)) 0 0 (dg_A o shX.length sz) := by
  refine dg_met (cc := cX9_split) (maxL := 5) (ret := none) (by decide) rfl (Nat.le_of_ble_eq_true rfl) ?_
  intro p e s m args below meth c A hAe harg hx hb hr hml hts hown hlocks hin hP K hS hA1 hA ST hsz ls hl
  rw [← hAe]
  have F : CallFix p m c cX9_split 5 s args (bw yX9_split cX9_split 5 none) RX9 := ⟨hx, hb, hml, hown, hts⟩
  have hl : lv_has ls 5 [(0, .ref (o + 210)), (1, .ref (o + 1))] := hl
  have M_0 : dg_sm shX [(32, 3), (32, 4)] [33, 34, 35] S S := dg_sm.rf
  refine lv_aload_n hx hb dX9_split_0 rfl (lv_at hl 0 rfl) ?_
  refine lv_iconst (v := 0) hx hb dX9_split_1 (by decide +kernel) ?_
  have hz_1 : (0 : Int32).toInt = 0 := by decide +kernel
  refine dg_put (ci := 9) (v := .int 0) (ty := tyX9 3) (C := RX9) (T := TX9) (N := 5) hx hb hts (fun w h => bw_mem (wU_X9 w h)) tyX9 tyX9_ok nmX9 hown K hP hS hA1 sX_210 rfl 3 (by decide) (hts _ (bw_mem wB_637)) (fun _ h9 => h9) rfl (by decide +kernel) rfl rfl dX9_split_2 (fun S_2 e_2 H locs hP hS => ?_)
  have I_2 := dg_I.uFi (lo := 0) (hi := 1601) I e_2 sX_210 (by decide +kernel) (show 0 ≤ ((0 : Int32)).toInt ∧ ((0 : Int32)).toInt ≤ 1601 from (by decide +kernel))
  have M_2 := dg_sm.uF M_0 e_2 sX_210 (by decide)
  refine lv_aload_n hx hb dX9_split_5 rfl (lv_at hl 0 rfl) ?_
  refine lv_iconst (v := (-1)) hx hb dX9_split_6 (by decide +kernel) ?_
  have hz_3 : (-1 : Int32).toInt = (-1) := by decide +kernel
  refine dg_put (ci := 9) (v := .int (-1)) (ty := tyX9 4) (C := RX9) (T := TX9) (N := 5) hx hb hts (fun w h => bw_mem (wU_X9 w h)) tyX9 tyX9_ok nmX9 hown K hP hS hA1 sX_210 rfl 4 (by decide) (hts _ (bw_mem wB_641)) (fun _ h9 => h9) rfl (by decide +kernel) rfl rfl dX9_split_7 (fun S_4 e_4 H locs hP hS => ?_)
  have I_4 := dg_I.uFi (lo := (-2147483648)) (hi := 2147483647) I_2 e_4 sX_210 (by decide +kernel) (show (-2147483648) ≤ ((-1 : Int32)).toInt ∧ ((-1 : Int32)).toInt ≤ 2147483647 from (by decide +kernel))
  have M_4 := dg_sm.uF M_2 e_4 sX_210 (by decide)
  refine lv_iconst (v := 0) hx hb dX9_split_10 (by decide +kernel) ?_
  refine lv_istore_n (lv' := [(2, .int 0), (0, .ref (o + 210)), (1, .ref (o + 1))]) hx hb dX9_split_11 rfl hl (by decide) rfl (fun ls hl => ?_)
  refine lv_iconst (v := 0) hx hb dX9_split_12 (by decide +kernel) ?_
  refine lv_istore_n (lv' := [(3, .int 0), (2, .int 0), (0, .ref (o + 210)), (1, .ref (o + 1))]) hx hb dX9_split_13 rfl hl (by decide) rfl (fun ls hl => ?_)
  have L_219 : ∀ (n : Nat) (x_215 : Int32) (x_216 : Int32) (x_217 : Int32), (0 ≤ (x_215).toInt ∧ (x_215).toInt ≤ 1600) → (0 ≤ (x_216).toInt ∧ (x_216).toInt ≤ 1600) → (0 ≤ (x_217).toInt ∧ (x_217).toInt ≤ 1601) → ((1601 - (x_215).toInt).toNat < n) → ∀ S_218 : dg_S, CX o S_218 → dg_sm shX [(32, 3), (32, 4)] [33, 34, 35] S S_218 → S_218.1 210 3 = .int x_217 → ((x_217).toInt ≤ (x_216).toInt) → ∀ (H : Heap) (locs : List Loc), va_P D vwCl (dg_w g shX o rfX S_218) H → va_S A s.heap H locs → ∀ ls : Array Slot, lv_has ls 5 [(3, .int x_215), (2, .int x_216), (0, .ref (o + 210)), (1, .ref (o + 1))] → W p l e ({ frames := 8, cells := 0, slots := 0, locals := 350 } : Room) s m args below meth c H locs 0 0 (MQ below (va_Qv (fun S' => CX o S' ∧ dg_sm shX [(32, 3), (32, 4)] [33, 34, 35] S S' ∧ (∃ e9 : Int32, 0 ≤ e9.toInt ∧ e9.toInt ≤ 1600 ∧ (S'.2.1 211 e9.toNatClampNeg).toInt = 0) ∧ True) (dg_B g D shX o rfX) A) args s 0 0 A) (F0 m 14 ls []) := by
    intro n
    induction n with
    | zero =>
      intro x_215 x_216 x_217 b_x_215 b_x_216 b_x_217 hmu S_218 I_218 M_218 ff_218_3_210 srel_218_0 H locs hP hS ls hl
      omega
    | succ n ih =>
      intro x_215 x_216 x_217 b_x_215 b_x_216 b_x_217 hmu S_218 I_218 M_218 ff_218_3_210 srel_218_0 H locs hP hS ls hl
      refine lv_iload_n hx hb dX9_split_14 rfl (lv_at hl 0 rfl) ?_
      refine lv_sipush (v := 1600) hx hb dX9_split_15 (by decide +kernel) ?_
      refine lv_icmp_ge (tgt := 104) hx hb dX9_split_18 (by decide) (fun c_220 => ?_) (fun c_220 => ?_)
      · have jc_220 := dk_gec (k := 1600) (by decide +kernel) c_220
        refine lv_aload_n hx hb dX9_split_104 rfl (lv_at hl 2 rfl) ?_
        refine lv_iconst (v := 0) hx hb dX9_split_105 (by decide +kernel) ?_
        refine lv_aload_n hx hb dX9_split_106 rfl (lv_at hl 3 rfl) ?_
        obtain ⟨x_221, f_x_221, b_x_221⟩ := dg_I.int (i := 1) (k := 1) (lo := 0) (hi := 1600) I sX_1 (by decide +kernel)
        refine dg_get (C := RX8) (T := TX8) (N := 2) hx hb hts (fun w h => bw_mem (wU_X8 w h)) hown K hP sX_1 rfl 1 (by decide) (hts _ (bw_mem wB_648)) (fun _ h9 => h9) (v := .int x_221) ((M_218.1 1 1 _ sX_1 (by decide)).trans f_x_221) dX9_split_107 ?_
        refine lv_iconst (v := 0) hx hb dX9_split_110 (by decide +kernel) ?_
        refine dg_callv hS hA1 hA (va_runV (As := [.int 0, .int x_221, .int 0]) (rest := []) F (c_v_add l g D o S_218 0 x_221 0 x_217 ff_218_3_210 (by omega) I_218 H.size) (cwV 3 hts (bw_V wB_643 wB_644 wB_645 wB_646 wB_642) rfl rfl rfl (by decide +kernel) ⟨Nat.le_of_ble_eq_true rfl, Nat.le_of_ble_eq_true rfl⟩) (dg_preV sX_210 rfl K ST hP hS hA1 hA) rfl rfl hl.1 rfl (lv_room (Nat.le_of_ble_eq_true rfl)) dX9_split_111 ⟨Nat.le_of_ble_eq_true rfl, Nat.le_of_ble_eq_true rfl⟩) (fun S_222 hw_222 H locs hP hS => ?_)
        obtain ⟨I_222, m_222, w_222_0, w_222_1, -⟩ := hw_222
        have M_222 := dg_sm.tr M_218 m_222 (by decide) (by decide)
        have hz_223 : (0 : Int32).toInt = 0 := by decide +kernel
        have hz_224 : (0 : Int32).toInt = 0 := by decide +kernel
        obtain ⟨y_225, f_y_225, w_222_0⟩ := w_222_0
        have w_222_0 : (y_225).toInt = (x_217).toInt + 1 := w_222_0
        have b_y_225 : 0 ≤ (y_225).toInt ∧ (y_225).toInt ≤ 1601 := dg_I.intb (lo := 0) (hi := 1601) I_222 sX_210 (by decide +kernel) f_y_225
        obtain ⟨x_226, f_x_226⟩ : ∃ x, S_222.2.1 211 (x_217 : Int32).toNatClampNeg = x := ⟨_, rfl⟩
        have w_222_1 : (x_226).toInt = ((0 : Int32)).toInt := w_222_1 x_226 f_x_226
        refine W.widen (k := 0) (n := 0) (Nat.le_of_ble_eq_true rfl) (Nat.le_of_ble_eq_true rfl) ?_
        exact dg_vret hx hb hr hlocks hP hS ⟨I_222, M_222, ⟨x_217, by omega, by omega, by rw [f_x_226]; omega⟩, trivial⟩ dX9_split_114
      · have jc_220 := dk_ngec (k := 1600) (by decide +kernel) c_220
        refine lv_iload_n hx hb dX9_split_21 rfl (lv_at hl 1 rfl) ?_
        refine lv_aload_n hx hb dX9_split_22 rfl (lv_at hl 3 rfl) ?_
        obtain ⟨x_227, f_x_227, b_x_227⟩ := dg_I.int (i := 1) (k := 1) (lo := 0) (hi := 1600) I sX_1 (by decide +kernel)
        refine dg_get (C := RX8) (T := TX8) (N := 2) hx hb hts (fun w h => bw_mem (wU_X8 w h)) hown K hP sX_1 rfl 1 (by decide) (hts _ (bw_mem wB_648)) (fun _ h9 => h9) (v := .int x_227) ((M_218.1 1 1 _ sX_1 (by decide)).trans f_x_227) dX9_split_23 ?_
        refine lv_icmp_ge (tgt := 104) hx hb dX9_split_26 (by decide) (fun c_228 => ?_) (fun c_228 => ?_)
        · have jc_228 := dk_gec (k := (x_227).toInt) rfl c_228
          refine lv_aload_n hx hb dX9_split_104 rfl (lv_at hl 2 rfl) ?_
          refine lv_iconst (v := 0) hx hb dX9_split_105 (by decide +kernel) ?_
          refine lv_aload_n hx hb dX9_split_106 rfl (lv_at hl 3 rfl) ?_
          refine dg_get (C := RX8) (T := TX8) (N := 2) hx hb hts (fun w h => bw_mem (wU_X8 w h)) hown K hP sX_1 rfl 1 (by decide) (hts _ (bw_mem wB_648)) (fun _ h9 => h9) (v := .int x_227) ((M_218.1 1 1 _ sX_1 (by decide)).trans f_x_227) dX9_split_107 ?_
          refine lv_iconst (v := 0) hx hb dX9_split_110 (by decide +kernel) ?_
          refine dg_callv hS hA1 hA (va_runV (As := [.int 0, .int x_227, .int 0]) (rest := []) F (c_v_add l g D o S_218 0 x_227 0 x_217 ff_218_3_210 (by omega) I_218 H.size) (cwV 3 hts (bw_V wB_643 wB_644 wB_645 wB_646 wB_642) rfl rfl rfl (by decide +kernel) ⟨Nat.le_of_ble_eq_true rfl, Nat.le_of_ble_eq_true rfl⟩) (dg_preV sX_210 rfl K ST hP hS hA1 hA) rfl rfl hl.1 rfl (lv_room (Nat.le_of_ble_eq_true rfl)) dX9_split_111 ⟨Nat.le_of_ble_eq_true rfl, Nat.le_of_ble_eq_true rfl⟩) (fun S_229 hw_229 H locs hP hS => ?_)
          obtain ⟨I_229, m_229, w_229_0, w_229_1, -⟩ := hw_229
          have M_229 := dg_sm.tr M_218 m_229 (by decide) (by decide)
          have hz_230 : (0 : Int32).toInt = 0 := by decide +kernel
          have hz_231 : (0 : Int32).toInt = 0 := by decide +kernel
          obtain ⟨y_232, f_y_232, w_229_0⟩ := w_229_0
          have w_229_0 : (y_232).toInt = (x_217).toInt + 1 := w_229_0
          have b_y_232 : 0 ≤ (y_232).toInt ∧ (y_232).toInt ≤ 1601 := dg_I.intb (lo := 0) (hi := 1601) I_229 sX_210 (by decide +kernel) f_y_232
          obtain ⟨x_233, f_x_233⟩ : ∃ x, S_229.2.1 211 (x_217 : Int32).toNatClampNeg = x := ⟨_, rfl⟩
          have w_229_1 : (x_233).toInt = ((0 : Int32)).toInt := w_229_1 x_233 f_x_233
          refine W.widen (k := 0) (n := 0) (Nat.le_of_ble_eq_true rfl) (Nat.le_of_ble_eq_true rfl) ?_
          exact dg_vret hx hb hr hlocks hP hS ⟨I_229, M_229, ⟨x_217, by omega, by omega, by rw [f_x_233]; omega⟩, trivial⟩ dX9_split_114
        · have jc_228 := dk_ngec (k := (x_227).toInt) rfl c_228
          refine lv_aload_n hx hb dX9_split_29 rfl (lv_at hl 3 rfl) ?_
          refine dg_get (C := RX8) (T := TX8) (N := 2) hx hb hts (fun w h => bw_mem (wU_X8 w h)) hown K hP sX_1 rfl 0 (by decide) (hts _ (bw_mem wB_647)) (fun _ h9 => h9) (v := .ref (o + 2)) (show S_218.1 1 0 = .ref (o + 2) from dg_I.rel (d := 1) I_218 sX_1 (by decide +kernel)) dX9_split_30 ?_
          refine lv_iload_n hx hb dX9_split_33 rfl (lv_at hl 1 rfl) ?_
          have hin_234 : vp_in x_216 1600 := (dk_inv (by omega) (by omega))
          refine dg_iald hx hb K hP sX_2 hin_234 dX9_split_34 (fun x_235 ex_235 => ?_)
          have b_x_235 := dk_all_at (dg_I.row (lo := 0) (hi := 255) I_218 sX_2 (by decide +kernel)) hin_234 ex_235
          refine lv_istore (lv' := [(4, .int x_235), (3, .int x_215), (2, .int x_216), (0, .ref (o + 210)), (1, .ref (o + 1))]) hx hb dX9_split_35 hl (by decide) rfl (fun ls hl => ?_)
          refine lv_iload hx hb dX9_split_37 (lv_at hl 0 rfl) ?_
          refine dg_calli hS hA1 hA (va_runS (As := [.int x_235]) (rest := []) F (c_v_isLetter l g D o S_218 x_235 I_218 H.size) (va_cwS 1 hts (bw_S wB_650 wB_651 wB_646 wB_649) rfl rfl rfl (by decide +kernel) ⟨Nat.le_of_ble_eq_true rfl, Nat.le_of_ble_eq_true rfl⟩) (dg_preS K ST hP hS hA1 hA) rfl rfl hl.1 rfl (lv_room (Nat.le_of_ble_eq_true rfl)) dX9_split_39 ⟨Nat.le_of_ble_eq_true rfl, Nat.le_of_ble_eq_true rfl⟩) (fun x_236 S_237 hw_237 H locs hP hS => ?_)
          rw [hw_237.1] at hP
          obtain ⟨hq_237, w_237_0, w_237_1, -⟩ := hw_237
          have w_237_0 : 0 ≤ (x_236).toInt ∧ (x_236).toInt ≤ 1 := w_237_0
          have w_237_1 : (x_236).toInt = 1 ↔ (97 ≤ (x_235).toInt ∧ (x_235).toInt ≤ 122) := w_237_1
          refine lv_if_eq (tgt := 55) hx hb dX9_split_42 (by decide) (fun c_238 => ?_) (fun c_238 => ?_)
          · have jc_238 := dk_eqc (k := 0) (by decide +kernel) c_238
            refine lv_iload hx hb dX9_split_55 (lv_at hl 0 rfl) ?_
            refine dg_calli hS hA1 hA (va_runS (As := [.int x_235]) (rest := []) F (c_v_isDigit l g D o S_218 x_235 I_218 H.size) (va_cwS 1 hts (bw_S wB_663 wB_664 wB_646 wB_662) rfl rfl rfl (by decide +kernel) ⟨Nat.le_of_ble_eq_true rfl, Nat.le_of_ble_eq_true rfl⟩) (dg_preS K ST hP hS hA1 hA) rfl rfl hl.1 rfl (lv_room (Nat.le_of_ble_eq_true rfl)) dX9_split_57 ⟨Nat.le_of_ble_eq_true rfl, Nat.le_of_ble_eq_true rfl⟩) (fun x_239 S_240 hw_240 H locs hP hS => ?_)
            rw [hw_240.1] at hP
            obtain ⟨hq_240, w_240_0, w_240_1, -⟩ := hw_240
            have w_240_0 : 0 ≤ (x_239).toInt ∧ (x_239).toInt ≤ 1 := w_240_0
            have w_240_1 : (x_239).toInt = 1 ↔ (48 ≤ (x_235).toInt ∧ (x_235).toInt ≤ 57) := w_240_1
            refine lv_if_eq (tgt := 73) hx hb dX9_split_60 (by decide) (fun c_241 => ?_) (fun c_241 => ?_)
            · have jc_241 := dk_eqc (k := 0) (by decide +kernel) c_241
              refine lv_iload hx hb dX9_split_73 (lv_at hl 0 rfl) ?_
              refine lv_bipush (v := 32) hx hb dX9_split_75 (by decide +kernel) ?_
              refine lv_icmp_eq (tgt := 95) hx hb dX9_split_77 (by decide) (fun c_242 => ?_) (fun c_242 => ?_)
              · have jc_242 := dk_eqc (k := 32) (by decide +kernel) c_242
                obtain ⟨x_243, ex_243⟩ : ∃ z, z = x_216 + 1 := ⟨_, rfl⟩
                have jx_243 : (x_243).toInt = (x_216).toInt + 1 := by rw [ex_243]; exact dk_addT rfl (by decide +kernel) (by omega) (by omega)
                refine lv_iinc (v := x_243) (lv' := [(2, .int x_243), (4, .int x_235), (3, .int x_215), (0, .ref (o + 210)), (1, .ref (o + 1))]) hx hb dX9_split_95 hl (k := 2) rfl (by rw [ex_243]; rfl) (by decide) rfl (fun ls hl => ?_)
                obtain ⟨x_244, ex_244⟩ : ∃ z, z = x_215 + 1 := ⟨_, rfl⟩
                have jx_244 : (x_244).toInt = (x_215).toInt + 1 := by rw [ex_244]; exact dk_addT rfl (by decide +kernel) (by omega) (by omega)
                refine lv_iinc (v := x_244) (lv' := [(3, .int x_244), (2, .int x_243), (4, .int x_235), (0, .ref (o + 210)), (1, .ref (o + 1))]) hx hb dX9_split_98 hl (k := 2) rfl (by rw [ex_244]; rfl) (by decide) rfl (fun ls hl => ?_)
                refine lv_goto (tgt := 14) hx hb dX9_split_101 (by decide) ?_
                exact ih x_244 x_243 x_217 (by omega) (by omega) (by omega) (by omega) S_218 I_218 M_218 ff_218_3_210 (by omega) _ _ hP hS _ (lv_sub hl [0, 1, 3, 4] rfl)
              · have jc_242 := dk_neqc (k := 32) (by decide +kernel) c_242
                refine lv_iload hx hb dX9_split_80 (lv_at hl 0 rfl) ?_
                refine lv_bipush (v := 10) hx hb dX9_split_82 (by decide +kernel) ?_
                refine lv_icmp_eq (tgt := 95) hx hb dX9_split_84 (by decide) (fun c_245 => ?_) (fun c_245 => ?_)
                · have jc_245 := dk_eqc (k := 10) (by decide +kernel) c_245
                  obtain ⟨x_246, ex_246⟩ : ∃ z, z = x_216 + 1 := ⟨_, rfl⟩
                  have jx_246 : (x_246).toInt = (x_216).toInt + 1 := by rw [ex_246]; exact dk_addT rfl (by decide +kernel) (by omega) (by omega)
                  refine lv_iinc (v := x_246) (lv' := [(2, .int x_246), (4, .int x_235), (3, .int x_215), (0, .ref (o + 210)), (1, .ref (o + 1))]) hx hb dX9_split_95 hl (k := 2) rfl (by rw [ex_246]; rfl) (by decide) rfl (fun ls hl => ?_)
                  obtain ⟨x_247, ex_247⟩ : ∃ z, z = x_215 + 1 := ⟨_, rfl⟩
                  have jx_247 : (x_247).toInt = (x_215).toInt + 1 := by rw [ex_247]; exact dk_addT rfl (by decide +kernel) (by omega) (by omega)
                  refine lv_iinc (v := x_247) (lv' := [(3, .int x_247), (2, .int x_246), (4, .int x_235), (0, .ref (o + 210)), (1, .ref (o + 1))]) hx hb dX9_split_98 hl (k := 2) rfl (by rw [ex_247]; rfl) (by decide) rfl (fun ls hl => ?_)
                  refine lv_goto (tgt := 14) hx hb dX9_split_101 (by decide) ?_
                  exact ih x_247 x_246 x_217 (by omega) (by omega) (by omega) (by omega) S_218 I_218 M_218 ff_218_3_210 (by omega) _ _ hP hS _ (lv_sub hl [0, 1, 3, 4] rfl)
                · have jc_245 := dk_neqc (k := 10) (by decide +kernel) c_245
                  refine lv_aload_n hx hb dX9_split_87 rfl (lv_at hl 3 rfl) ?_
                  refine lv_iconst (v := 4) hx hb dX9_split_88 (by decide +kernel) ?_
                  refine lv_iload_n hx hb dX9_split_89 rfl (lv_at hl 2 rfl) ?_
                  refine lv_iload hx hb dX9_split_90 (lv_at hl 0 rfl) ?_
                  refine dg_callv hS hA1 hA (va_runV (As := [.int 4, .int x_216, .int x_235]) (rest := []) F (c_v_add l g D o S_218 4 x_216 x_235 x_217 ff_218_3_210 (by omega) I_218 H.size) (cwV 3 hts (bw_V wB_643 wB_644 wB_645 wB_646 wB_642) rfl rfl rfl (by decide +kernel) ⟨Nat.le_of_ble_eq_true rfl, Nat.le_of_ble_eq_true rfl⟩) (dg_preV sX_210 rfl K ST hP hS hA1 hA) rfl rfl hl.1 rfl (lv_room (Nat.le_of_ble_eq_true rfl)) dX9_split_92 ⟨Nat.le_of_ble_eq_true rfl, Nat.le_of_ble_eq_true rfl⟩) (fun S_248 hw_248 H locs hP hS => ?_)
                  obtain ⟨I_248, m_248, w_248_0, w_248_1, -⟩ := hw_248
                  have M_248 := dg_sm.tr M_218 m_248 (by decide) (by decide)
                  have hz_249 : (4 : Int32).toInt = 4 := by decide +kernel
                  obtain ⟨y_250, f_y_250, w_248_0⟩ := w_248_0
                  have w_248_0 : (y_250).toInt = (x_217).toInt + 1 := w_248_0
                  have b_y_250 : 0 ≤ (y_250).toInt ∧ (y_250).toInt ≤ 1601 := dg_I.intb (lo := 0) (hi := 1601) I_248 sX_210 (by decide +kernel) f_y_250
                  obtain ⟨x_251, f_x_251⟩ : ∃ x, S_248.2.1 211 (x_217 : Int32).toNatClampNeg = x := ⟨_, rfl⟩
                  have w_248_1 : (x_251).toInt = ((4 : Int32)).toInt := w_248_1 x_251 f_x_251
                  obtain ⟨x_252, ex_252⟩ : ∃ z, z = x_216 + 1 := ⟨_, rfl⟩
                  have jx_252 : (x_252).toInt = (x_216).toInt + 1 := by rw [ex_252]; exact dk_addT rfl (by decide +kernel) (by omega) (by omega)
                  refine lv_iinc (v := x_252) (lv' := [(2, .int x_252), (4, .int x_235), (3, .int x_215), (0, .ref (o + 210)), (1, .ref (o + 1))]) hx hb dX9_split_95 hl (k := 2) rfl (by rw [ex_252]; rfl) (by decide) rfl (fun ls hl => ?_)
                  obtain ⟨x_253, ex_253⟩ : ∃ z, z = x_215 + 1 := ⟨_, rfl⟩
                  have jx_253 : (x_253).toInt = (x_215).toInt + 1 := by rw [ex_253]; exact dk_addT rfl (by decide +kernel) (by omega) (by omega)
                  refine lv_iinc (v := x_253) (lv' := [(3, .int x_253), (2, .int x_252), (4, .int x_235), (0, .ref (o + 210)), (1, .ref (o + 1))]) hx hb dX9_split_98 hl (k := 2) rfl (by rw [ex_253]; rfl) (by decide) rfl (fun ls hl => ?_)
                  refine lv_goto (tgt := 14) hx hb dX9_split_101 (by decide) ?_
                  exact ih x_253 x_252 y_250 (by omega) (by omega) (by omega) (by omega) S_248 I_248 M_248 f_y_250 (by omega) _ _ hP hS _ (lv_sub hl [0, 1, 3, 4] rfl)
            · have jc_241 := dk_neqc (k := 0) (by decide +kernel) c_241
              refine lv_aload_n hx hb dX9_split_63 rfl (lv_at hl 3 rfl) ?_
              refine lv_aload_n hx hb dX9_split_64 rfl (lv_at hl 4 rfl) ?_
              refine lv_iload_n hx hb dX9_split_65 rfl (lv_at hl 2 rfl) ?_
              refine dg_calli hS hA1 hA (va_runV (As := [.ref (o + 1), .int x_216]) (rest := []) F (c_v_addNumber l g D o S_218 x_216 (by omega) x_217 ff_218_3_210 (by omega) x_227 ((M_218.1 1 1 _ sX_1 (by decide)).trans f_x_227) (by omega) x_235 ex_235.symm (by omega) (by omega) I_218 H.size) (cwV 2 hts (bw_V wB_666 wB_667 wB_668 wB_646 wB_665) rfl rfl rfl (by decide +kernel) ⟨Nat.le_of_ble_eq_true rfl, Nat.le_of_ble_eq_true rfl⟩) (dg_preV sX_210 rfl K ST hP hS hA1 hA) rfl rfl hl.1 rfl (lv_room (Nat.le_of_ble_eq_true rfl)) dX9_split_66 ⟨Nat.le_of_ble_eq_true rfl, Nat.le_of_ble_eq_true rfl⟩) (fun x_254 S_255 hw_255 H locs hP hS => ?_)
              obtain ⟨I_255, m_255, w_255_0, w_255_1, w_255_2, -⟩ := hw_255
              have M_255 := dg_sm.tr M_218 m_255 (by decide) (by decide)
              have w_255_0 : 1 ≤ (x_254).toInt ∧ (x_254).toInt ≤ 1600 := w_255_0
              have w_255_1 : (x_216).toInt < (x_254).toInt ∧ (x_254).toInt ≤ (x_227).toInt := w_255_1
              obtain ⟨y_256, f_y_256, w_255_2⟩ := w_255_2
              have w_255_2 : (y_256).toInt = (x_217).toInt + 1 := w_255_2
              have b_y_256 : 0 ≤ (y_256).toInt ∧ (y_256).toInt ≤ 1601 := dg_I.intb (lo := 0) (hi := 1601) I_255 sX_210 (by decide +kernel) f_y_256
              refine lv_istore_n (lv' := [(2, .int x_254), (4, .int x_235), (3, .int x_215), (0, .ref (o + 210)), (1, .ref (o + 1))]) hx hb dX9_split_69 rfl hl (by decide) rfl (fun ls hl => ?_)
              refine lv_goto (tgt := 98) hx hb dX9_split_70 (by decide) ?_
              obtain ⟨x_257, ex_257⟩ : ∃ z, z = x_215 + 1 := ⟨_, rfl⟩
              have jx_257 : (x_257).toInt = (x_215).toInt + 1 := by rw [ex_257]; exact dk_addT rfl (by decide +kernel) (by omega) (by omega)
              refine lv_iinc (v := x_257) (lv' := [(3, .int x_257), (2, .int x_254), (4, .int x_235), (0, .ref (o + 210)), (1, .ref (o + 1))]) hx hb dX9_split_98 hl (k := 2) rfl (by rw [ex_257]; rfl) (by decide) rfl (fun ls hl => ?_)
              refine lv_goto (tgt := 14) hx hb dX9_split_101 (by decide) ?_
              exact ih x_257 x_254 y_256 (by omega) (by omega) (by omega) (by omega) S_255 I_255 M_255 f_y_256 (by omega) _ _ hP hS _ (lv_sub hl [0, 1, 3, 4] rfl)
          · have jc_238 := dk_neqc (k := 0) (by decide +kernel) c_238
            refine lv_aload_n hx hb dX9_split_45 rfl (lv_at hl 3 rfl) ?_
            refine lv_aload_n hx hb dX9_split_46 rfl (lv_at hl 4 rfl) ?_
            refine lv_iload_n hx hb dX9_split_47 rfl (lv_at hl 2 rfl) ?_
            refine dg_calli hS hA1 hA (va_runV (As := [.ref (o + 1), .int x_216]) (rest := []) F (c_v_addWord l g D o S_218 x_216 (by omega) x_217 ff_218_3_210 (by omega) x_227 ((M_218.1 1 1 _ sX_1 (by decide)).trans f_x_227) (by omega) x_235 ex_235.symm (by omega) (by omega) I_218 H.size) (cwV 2 hts (bw_V wB_670 wB_671 wB_672 wB_646 wB_669) rfl rfl rfl (by decide +kernel) ⟨Nat.le_of_ble_eq_true rfl, Nat.le_of_ble_eq_true rfl⟩) (dg_preV sX_210 rfl K ST hP hS hA1 hA) rfl rfl hl.1 rfl (lv_room (Nat.le_of_ble_eq_true rfl)) dX9_split_48 ⟨Nat.le_of_ble_eq_true rfl, Nat.le_of_ble_eq_true rfl⟩) (fun x_258 S_259 hw_259 H locs hP hS => ?_)
            obtain ⟨I_259, m_259, w_259_0, w_259_1, w_259_2, -⟩ := hw_259
            have M_259 := dg_sm.tr M_218 m_259 (by decide) (by decide)
            have w_259_0 : 1 ≤ (x_258).toInt ∧ (x_258).toInt ≤ 1600 := w_259_0
            have w_259_1 : (x_216).toInt < (x_258).toInt ∧ (x_258).toInt ≤ (x_227).toInt := w_259_1
            obtain ⟨y_260, f_y_260, w_259_2⟩ := w_259_2
            have w_259_2 : (y_260).toInt = (x_217).toInt + 1 := w_259_2
            have b_y_260 : 0 ≤ (y_260).toInt ∧ (y_260).toInt ≤ 1601 := dg_I.intb (lo := 0) (hi := 1601) I_259 sX_210 (by decide +kernel) f_y_260
            refine lv_istore_n (lv' := [(2, .int x_258), (4, .int x_235), (3, .int x_215), (0, .ref (o + 210)), (1, .ref (o + 1))]) hx hb dX9_split_51 rfl hl (by decide) rfl (fun ls hl => ?_)
            refine lv_goto (tgt := 98) hx hb dX9_split_52 (by decide) ?_
            obtain ⟨x_261, ex_261⟩ : ∃ z, z = x_215 + 1 := ⟨_, rfl⟩
            have jx_261 : (x_261).toInt = (x_215).toInt + 1 := by rw [ex_261]; exact dk_addT rfl (by decide +kernel) (by omega) (by omega)
            refine lv_iinc (v := x_261) (lv' := [(3, .int x_261), (2, .int x_258), (4, .int x_235), (0, .ref (o + 210)), (1, .ref (o + 1))]) hx hb dX9_split_98 hl (k := 2) rfl (by rw [ex_261]; rfl) (by decide) rfl (fun ls hl => ?_)
            refine lv_goto (tgt := 14) hx hb dX9_split_101 (by decide) ?_
            exact ih x_261 x_258 y_260 (by omega) (by omega) (by omega) (by omega) S_259 I_259 M_259 f_y_260 (by omega) _ _ hP hS _ (lv_sub hl [0, 1, 3, 4] rfl)
  have hz_262 : (0 : Int32).toInt = 0 := by decide +kernel
  have hz_263 : (0 : Int32).toInt = 0 := by decide +kernel
  have hz_264 : (0 : Int32).toInt = 0 := by decide +kernel
  have hz_265 : (0 : Int32).toInt = 0 := by decide +kernel
  have hz_266 : (0 : Int32).toInt = 0 := by decide +kernel
  have hz_267 : (0 : Int32).toInt = 0 := by decide +kernel
  exact L_219 ((1601 - ((0 : Int32)).toInt).toNat + 1) 0 0 0 (by decide +kernel) (by decide +kernel) (by decide +kernel) (by omega) S_4 I_4 M_4 ((dg_uF_ne e_4 (fun z => absurd z.2 (by decide))).trans (dg_uF_at e_2)) (by omega) _ _ hP hS _ (lv_sub hl [0, 1, 2, 3] rfl)
