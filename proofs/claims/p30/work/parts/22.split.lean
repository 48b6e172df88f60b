/-! 22.split.lean.txt -/
theorem dX9_split_0 : decode cX9_split 0 = .ok (.aload_n 0, 1) := by decide +kernel
theorem dX9_split_1 : decode cX9_split 1 = .ok (.iconst 0, 1) := by decide +kernel
theorem dX9_split_2 : decode cX9_split 2 = .ok (.putfield 21, 3) := by decide +kernel
theorem dX9_split_5 : decode cX9_split 5 = .ok (.aload_n 0, 1) := by decide +kernel
theorem dX9_split_6 : decode cX9_split 6 = .ok (.iconst (-1), 1) := by decide +kernel
theorem dX9_split_7 : decode cX9_split 7 = .ok (.putfield 25, 3) := by decide +kernel
theorem dX9_split_10 : decode cX9_split 10 = .ok (.iconst 0, 1) := by decide +kernel
theorem dX9_split_11 : decode cX9_split 11 = .ok (.istore_n 2, 1) := by decide +kernel
theorem dX9_split_12 : decode cX9_split 12 = .ok (.iconst 0, 1) := by decide +kernel
theorem dX9_split_13 : decode cX9_split 13 = .ok (.istore_n 3, 1) := by decide +kernel
theorem dX9_split_14 : decode cX9_split 14 = .ok (.iload_n 3, 1) := by decide +kernel
theorem dX9_split_15 : decode cX9_split 15 = .ok (.sipush 1600, 3) := by decide +kernel
theorem dX9_split_18 : decode cX9_split 18 = .ok (.if_icmp .ge 86, 3) := by decide +kernel
theorem dX9_split_21 : decode cX9_split 21 = .ok (.iload_n 2, 1) := by decide +kernel
theorem dX9_split_22 : decode cX9_split 22 = .ok (.aload_n 1, 1) := by decide +kernel
theorem dX9_split_23 : decode cX9_split 23 = .ok (.getfield 28, 3) := by decide +kernel
theorem dX9_split_26 : decode cX9_split 26 = .ok (.if_icmp .ge 78, 3) := by decide +kernel
theorem dX9_split_29 : decode cX9_split 29 = .ok (.aload_n 1, 1) := by decide +kernel
theorem dX9_split_30 : decode cX9_split 30 = .ok (.getfield 33, 3) := by decide +kernel
theorem dX9_split_33 : decode cX9_split 33 = .ok (.iload_n 2, 1) := by decide +kernel
theorem dX9_split_34 : decode cX9_split 34 = .ok (.iaload, 1) := by decide +kernel
theorem dX9_split_35 : decode cX9_split 35 = .ok (.istore 4, 2) := by decide +kernel
theorem dX9_split_37 : decode cX9_split 37 = .ok (.iload 4, 2) := by decide +kernel
theorem dX9_split_39 : decode cX9_split 39 = .ok (.invokestatic 36, 3) := by decide +kernel
theorem dX9_split_42 : decode cX9_split 42 = .ok (.ifCond .eq 13, 3) := by decide +kernel
theorem dX9_split_45 : decode cX9_split 45 = .ok (.aload_n 0, 1) := by decide +kernel
theorem dX9_split_46 : decode cX9_split 46 = .ok (.aload_n 1, 1) := by decide +kernel
theorem dX9_split_47 : decode cX9_split 47 = .ok (.iload_n 2, 1) := by decide +kernel
theorem dX9_split_48 : decode cX9_split 48 = .ok (.invokevirtual 40, 3) := by decide +kernel
theorem dX9_split_51 : decode cX9_split 51 = .ok (.istore_n 2, 1) := by decide +kernel
theorem dX9_split_52 : decode cX9_split 52 = .ok (.goto 46, 3) := by decide +kernel
theorem dX9_split_55 : decode cX9_split 55 = .ok (.iload 4, 2) := by decide +kernel
theorem dX9_split_57 : decode cX9_split 57 = .ok (.invokestatic 44, 3) := by decide +kernel
theorem dX9_split_60 : decode cX9_split 60 = .ok (.ifCond .eq 13, 3) := by decide +kernel
theorem dX9_split_63 : decode cX9_split 63 = .ok (.aload_n 0, 1) := by decide +kernel
theorem dX9_split_64 : decode cX9_split 64 = .ok (.aload_n 1, 1) := by decide +kernel
theorem dX9_split_65 : decode cX9_split 65 = .ok (.iload_n 2, 1) := by decide +kernel
theorem dX9_split_66 : decode cX9_split 66 = .ok (.invokevirtual 47, 3) := by decide +kernel
theorem dX9_split_69 : decode cX9_split 69 = .ok (.istore_n 2, 1) := by decide +kernel
theorem dX9_split_70 : decode cX9_split 70 = .ok (.goto 28, 3) := by decide +kernel
theorem dX9_split_73 : decode cX9_split 73 = .ok (.iload 4, 2) := by decide +kernel
theorem dX9_split_75 : decode cX9_split 75 = .ok (.bipush 32, 2) := by decide +kernel
theorem dX9_split_77 : decode cX9_split 77 = .ok (.if_icmp .eq 18, 3) := by decide +kernel
theorem dX9_split_80 : decode cX9_split 80 = .ok (.iload 4, 2) := by decide +kernel
theorem dX9_split_82 : decode cX9_split 82 = .ok (.bipush 10, 2) := by decide +kernel
theorem dX9_split_84 : decode cX9_split 84 = .ok (.if_icmp .eq 11, 3) := by decide +kernel
theorem dX9_split_87 : decode cX9_split 87 = .ok (.aload_n 0, 1) := by decide +kernel
theorem dX9_split_88 : decode cX9_split 88 = .ok (.iconst 4, 1) := by decide +kernel
theorem dX9_split_89 : decode cX9_split 89 = .ok (.iload_n 2, 1) := by decide +kernel
theorem dX9_split_90 : decode cX9_split 90 = .ok (.iload 4, 2) := by decide +kernel
theorem dX9_split_92 : decode cX9_split 92 = .ok (.invokevirtual 50, 3) := by decide +kernel
theorem dX9_split_95 : decode cX9_split 95 = .ok (.iinc 2 1, 3) := by decide +kernel
theorem dX9_split_98 : decode cX9_split 98 = .ok (.iinc 3 1, 3) := by decide +kernel
theorem dX9_split_101 : decode cX9_split 101 = .ok (.goto (-87), 3) := by decide +kernel
theorem dX9_split_104 : decode cX9_split 104 = .ok (.aload_n 0, 1) := by decide +kernel
theorem dX9_split_105 : decode cX9_split 105 = .ok (.iconst 0, 1) := by decide +kernel
theorem dX9_split_106 : decode cX9_split 106 = .ok (.aload_n 1, 1) := by decide +kernel
theorem dX9_split_107 : decode cX9_split 107 = .ok (.getfield 28, 3) := by decide +kernel
theorem dX9_split_110 : decode cX9_split 110 = .ok (.iconst 0, 1) := by decide +kernel
theorem dX9_split_111 : decode cX9_split 111 = .ok (.invokevirtual 50, 3) := by decide +kernel
theorem dX9_split_114 : decode cX9_split 114 = .ok (.return_, 1) := by decide +kernel
theorem wB_641 : Cond.code yX9_addNumber cX9_addNumber 6 (some .int) ∈ dgB := List.mem_filter.mpr ⟨tbl_3 _ (List.mem_of_getElem? (i := 193) rfl), rfl⟩
theorem wB_642 : Cond.methodLink RX9 47 yX9_addNumber ∈ dgB := List.mem_filter.mpr ⟨tbl_3 _ (List.mem_of_getElem? (i := 190) (by decide +kernel)), by decide +kernel⟩
theorem wB_643 : Cond.instanceMethod yX9_addNumber ∈ dgB := List.mem_filter.mpr ⟨tbl_3 _ (List.mem_of_getElem? (i := 192) (by decide +kernel)), by decide +kernel⟩
theorem wB_644 : Cond.selects RX9 yX9_addNumber yX9_addNumber ∈ dgB := List.mem_filter.mpr ⟨List.mem_of_getElem? (i := 5) (by decide +kernel), by decide +kernel⟩
theorem wB_645 : Cond.code yX9_addWord cX9_addWord 5 (some .int) ∈ dgB := List.mem_filter.mpr ⟨tbl_3 _ (List.mem_of_getElem? (i := 131) rfl), rfl⟩
theorem wB_646 : Cond.methodLink RX9 40 yX9_addWord ∈ dgB := List.mem_filter.mpr ⟨tbl_3 _ (List.mem_of_getElem? (i := 128) (by decide +kernel)), by decide +kernel⟩
theorem wB_647 : Cond.instanceMethod yX9_addWord ∈ dgB := List.mem_filter.mpr ⟨tbl_3 _ (List.mem_of_getElem? (i := 130) (by decide +kernel)), by decide +kernel⟩
theorem wB_648 : Cond.selects RX9 yX9_addWord yX9_addWord ∈ dgB := List.mem_filter.mpr ⟨List.mem_of_getElem? (i := 2) (by decide +kernel), by decide +kernel⟩
set_option maxHeartbeats 8000000 in
set_option maxRecDepth 100000 in
theorem c_v_split (l : Launch) (g : Nat → ClassId) (D : va_G) (o : Nat) (S : dg_S) (I : CX o S) (sz : Nat) : Met l yX9_split (bw yX9_split cX9_split 5 none) ({ frames := 8, cells := 0, slots := 0, locals := 350 } : Room) (dk_Pc g D (dg_w g shX o rfX S) sz [.ref (o + 210), .ref (o + 1)]) (va_Qv (fun S' => CX o S' ∧ dg_sm shX [(32, 3), (32, 4)] [33, 34, 35] S S' ∧ (∃ e9 : Int32, 0 ≤ e9.toInt ∧ e9.toInt ≤ 1600 ∧ (S'.2.1 211 e9.toNatClampNeg).toInt = 0) ∧ True) (dg_B g D shX o rfX) (dg_A o shX.length sz)) 0 0 (dg_A o shX.length sz) := by
  refine dg_met (cc := cX9_split) (maxL := 5) (ret := none) (by decide) rfl (Nat.le_of_ble_eq_true rfl) ?_
  intro p e s m args below meth c A hAe harg hx hb hr hml hts hown hlocks hin hP K hS hA1 hA ST hsz ls hl
  rw [← hAe]
  have F : CallFix p m c cX9_split 5 s args (bw yX9_split cX9_split 5 none) RX9 := ⟨hx, hb, hml, hown, hts⟩
  have hl : lv_has ls 5 [(0, .ref (o + 210)), (1, .ref (o + 1))] := hl
  have M_0 : dg_sm shX [(32, 3), (32, 4)] [33, 34, 35] S S := dg_sm.rf
  refine lv_aload_n hx hb dX9_split_0 rfl (lv_at hl 0 rfl) ?_
  refine lv_iconst (v := 0) hx hb dX9_split_1 (by decide +kernel) ?_
  have hz_1 : (0 : Int32).toInt = 0 := by decide +kernel
  refine dg_put (ci := 9) (v := .int 0) (ty := tyX9 3) (C := RX9) (T := TX9) (N := 5) hx hb hts (fun w h => bw_mem (wU_X9 w h)) tyX9 tyX9_ok nmX9 hown K hP hS hA1 sX_210 rfl 3 (by decide) (hts _ (bw_mem wB_613)) (fun _ h9 => h9) rfl (by decide +kernel) rfl rfl dX9_split_2 (fun S_2 e_2 H locs hP hS => ?_)
  have I_2 := dg_I.uFi (lo := 0) (hi := 1601) I e_2 sX_210 (by decide +kernel) (show 0 ≤ ((0 : Int32)).toInt ∧ ((0 : Int32)).toInt ≤ 1601 from (by decide +kernel))
  have M_2 := dg_sm.uF M_0 e_2 sX_210 (by decide)
  refine lv_aload_n hx hb dX9_split_5 rfl (lv_at hl 0 rfl) ?_
  refine lv_iconst (v := (-1)) hx hb dX9_split_6 (by decide +kernel) ?_
  have hz_3 : (-1 : Int32).toInt = (-1) := by decide +kernel
  refine dg_put (ci := 9) (v := .int (-1)) (ty := tyX9 4) (C := RX9) (T := TX9) (N := 5) hx hb hts (fun w h => bw_mem (wU_X9 w h)) tyX9 tyX9_ok nmX9 hown K hP hS hA1 sX_210 rfl 4 (by decide) (hts _ (bw_mem wB_617)) (fun _ h9 => h9) rfl (by decide +kernel) rfl rfl dX9_split_7 (fun S_4 e_4 H locs hP hS => ?_)
  have I_4 := dg_I.uFi (lo := (-2147483648)) (hi := 2147483647) I_2 e_4 sX_210 (by decide +kernel) (show (-2147483648) ≤ ((-1 : Int32)).toInt ∧ ((-1 : Int32)).toInt ≤ 2147483647 from (by decide +kernel))
  have M_4 := dg_sm.uF M_2 e_4 sX_210 (by decide)
  refine lv_iconst (v := 0) hx hb dX9_split_10 (by decide +kernel) ?_
  refine lv_istore_n (lv' := [(2, .int 0), (0, .ref (o + 210)), (1, .ref (o + 1))]) hx hb dX9_split_11 rfl hl (by decide) rfl (fun ls hl => ?_)
  refine lv_iconst (v := 0) hx hb dX9_split_12 (by decide +kernel) ?_
  refine lv_istore_n (lv' := [(3, .int 0), (2, .int 0), (0, .ref (o + 210)), (1, .ref (o + 1))]) hx hb dX9_split_13 rfl hl (by decide) rfl (fun ls hl => ?_)
  have L_193 : ∀ (n : Nat) (x_189 : Int32) (x_190 : Int32) (x_191 : Int32), (0 ≤ (x_189).toInt ∧ (x_189).toInt ≤ 1600) → (0 ≤ (x_190).toInt ∧ (x_190).toInt ≤ 1600) → (0 ≤ (x_191).toInt ∧ (x_191).toInt ≤ 1601) → ((1601 - (x_189).toInt).toNat < n) → ∀ S_192 : dg_S, CX o S_192 → dg_sm shX [(32, 3), (32, 4)] [33, 34, 35] S S_192 → S_192.1 210 3 = .int x_191 → ((x_191).toInt ≤ (x_190).toInt) → ∀ (H : Heap) (locs : List Loc), va_P D vwCl (dg_w g shX o rfX S_192) H → va_S A s.heap H locs → ∀ ls : Array Slot, lv_has ls 5 [(3, .int x_189), (2, .int x_190), (0, .ref (o + 210)), (1, .ref (o + 1))] → W p l e ({ frames := 8, cells := 0, slots := 0, locals := 350 } : Room) s m args below meth c H locs 0 0 (MQ below (va_Qv (fun S' => CX o S' ∧ dg_sm shX [(32, 3), (32, 4)] [33, 34, 35] S S' ∧ (∃ e9 : Int32, 0 ≤ e9.toInt ∧ e9.toInt ≤ 1600 ∧ (S'.2.1 211 e9.toNatClampNeg).toInt = 0) ∧ True) (dg_B g D shX o rfX) A) args s 0 0 A) (F0 m 14 ls []) := by
    intro n
    induction n with
    | zero =>
      intro x_189 x_190 x_191 b_x_189 b_x_190 b_x_191 hmu S_192 I_192 M_192 ff_192_3_210 srel_192_0 H locs hP hS ls hl
      omega
    | succ n ih =>
      intro x_189 x_190 x_191 b_x_189 b_x_190 b_x_191 hmu S_192 I_192 M_192 ff_192_3_210 srel_192_0 H locs hP hS ls hl
      refine lv_iload_n hx hb dX9_split_14 rfl (lv_at hl 0 rfl) ?_
      refine lv_sipush (v := 1600) hx hb dX9_split_15 (by decide +kernel) ?_
      refine lv_icmp_ge (tgt := 104) hx hb dX9_split_18 (by decide) (fun c_194 => ?_) (fun c_194 => ?_)
      · have jc_194 := dk_gec (k := 1600) (by decide +kernel) c_194
        refine lv_aload_n hx hb dX9_split_104 rfl (lv_at hl 2 rfl) ?_
        refine lv_iconst (v := 0) hx hb dX9_split_105 (by decide +kernel) ?_
        refine lv_aload_n hx hb dX9_split_106 rfl (lv_at hl 3 rfl) ?_
        obtain ⟨x_195, f_x_195, b_x_195⟩ := dg_I.int (i := 1) (k := 1) (lo := 0) (hi := 1600) I sX_1 (by decide +kernel)
        refine dg_get (C := RX8) (T := TX8) (N := 2) hx hb hts (fun w h => bw_mem (wU_X8 w h)) hown K hP sX_1 rfl 1 (by decide) (hts _ (bw_mem wB_624)) (fun _ h9 => h9) (v := .int x_195) ((M_192.1 1 1 _ sX_1 (by decide)).trans f_x_195) dX9_split_107 ?_
        refine lv_iconst (v := 0) hx hb dX9_split_110 (by decide +kernel) ?_
        refine dg_callv hS hA1 hA (va_runV (As := [.int 0, .int x_195, .int 0]) (rest := []) F (c_v_add l g D o S_192 0 x_195 0 x_191 ff_192_3_210 (by omega) I_192 H.size) (cwV 3 hts (bw_V wB_619 wB_620 wB_621 wB_622 wB_618) rfl rfl rfl (by decide +kernel) ⟨Nat.le_of_ble_eq_true rfl, Nat.le_of_ble_eq_true rfl⟩) (dg_preV sX_210 rfl K ST hP hS hA1 hA) rfl rfl hl.1 rfl (lv_room (Nat.le_of_ble_eq_true rfl)) dX9_split_111 ⟨Nat.le_of_ble_eq_true rfl, Nat.le_of_ble_eq_true rfl⟩) (fun S_196 hw_196 H locs hP hS => ?_)
        obtain ⟨I_196, m_196, w_196_0, w_196_1, -⟩ := hw_196
        have M_196 := dg_sm.tr M_192 m_196 (by decide) (by decide)
        obtain ⟨y_197, f_y_197, w_196_0⟩ := w_196_0
        have w_196_0 : (y_197).toInt = (x_191).toInt + 1 := w_196_0
        have b_y_197 : 0 ≤ (y_197).toInt ∧ (y_197).toInt ≤ 1601 := dg_I.intb (lo := 0) (hi := 1601) I_196 sX_210 (by decide +kernel) f_y_197
        obtain ⟨x_198, f_x_198⟩ : ∃ x, S_196.2.1 211 (x_191 : Int32).toNatClampNeg = x := ⟨_, rfl⟩
        have w_196_1 : (x_198).toInt = ((0 : Int32)).toInt := w_196_1 x_198 f_x_198
        refine W.widen (k := 0) (n := 0) (Nat.le_of_ble_eq_true rfl) (Nat.le_of_ble_eq_true rfl) ?_
        exact dg_vret hx hb hr hlocks hP hS ⟨I_196, M_196, ⟨x_191, by omega, by omega, by rw [f_x_198]; omega⟩, trivial⟩ dX9_split_114
      · have jc_194 := dk_ngec (k := 1600) (by decide +kernel) c_194
        refine lv_iload_n hx hb dX9_split_21 rfl (lv_at hl 1 rfl) ?_
        refine lv_aload_n hx hb dX9_split_22 rfl (lv_at hl 3 rfl) ?_
        obtain ⟨x_199, f_x_199, b_x_199⟩ := dg_I.int (i := 1) (k := 1) (lo := 0) (hi := 1600) I sX_1 (by decide +kernel)
        refine dg_get (C := RX8) (T := TX8) (N := 2) hx hb hts (fun w h => bw_mem (wU_X8 w h)) hown K hP sX_1 rfl 1 (by decide) (hts _ (bw_mem wB_624)) (fun _ h9 => h9) (v := .int x_199) ((M_192.1 1 1 _ sX_1 (by decide)).trans f_x_199) dX9_split_23 ?_
        refine lv_icmp_ge (tgt := 104) hx hb dX9_split_26 (by decide) (fun c_200 => ?_) (fun c_200 => ?_)
        · have jc_200 := dk_gec (k := (x_199).toInt) rfl c_200
          refine lv_aload_n hx hb dX9_split_104 rfl (lv_at hl 2 rfl) ?_
          refine lv_iconst (v := 0) hx hb dX9_split_105 (by decide +kernel) ?_
          refine lv_aload_n hx hb dX9_split_106 rfl (lv_at hl 3 rfl) ?_
          refine dg_get (C := RX8) (T := TX8) (N := 2) hx hb hts (fun w h => bw_mem (wU_X8 w h)) hown K hP sX_1 rfl 1 (by decide) (hts _ (bw_mem wB_624)) (fun _ h9 => h9) (v := .int x_199) ((M_192.1 1 1 _ sX_1 (by decide)).trans f_x_199) dX9_split_107 ?_
          refine lv_iconst (v := 0) hx hb dX9_split_110 (by decide +kernel) ?_
          refine dg_callv hS hA1 hA (va_runV (As := [.int 0, .int x_199, .int 0]) (rest := []) F (c_v_add l g D o S_192 0 x_199 0 x_191 ff_192_3_210 (by omega) I_192 H.size) (cwV 3 hts (bw_V wB_619 wB_620 wB_621 wB_622 wB_618) rfl rfl rfl (by decide +kernel) ⟨Nat.le_of_ble_eq_true rfl, Nat.le_of_ble_eq_true rfl⟩) (dg_preV sX_210 rfl K ST hP hS hA1 hA) rfl rfl hl.1 rfl (lv_room (Nat.le_of_ble_eq_true rfl)) dX9_split_111 ⟨Nat.le_of_ble_eq_true rfl, Nat.le_of_ble_eq_true rfl⟩) (fun S_201 hw_201 H locs hP hS => ?_)
          obtain ⟨I_201, m_201, w_201_0, w_201_1, -⟩ := hw_201
          have M_201 := dg_sm.tr M_192 m_201 (by decide) (by decide)
          obtain ⟨y_202, f_y_202, w_201_0⟩ := w_201_0
          have w_201_0 : (y_202).toInt = (x_191).toInt + 1 := w_201_0
          have b_y_202 : 0 ≤ (y_202).toInt ∧ (y_202).toInt ≤ 1601 := dg_I.intb (lo := 0) (hi := 1601) I_201 sX_210 (by decide +kernel) f_y_202
          obtain ⟨x_203, f_x_203⟩ : ∃ x, S_201.2.1 211 (x_191 : Int32).toNatClampNeg = x := ⟨_, rfl⟩
          have w_201_1 : (x_203).toInt = ((0 : Int32)).toInt := w_201_1 x_203 f_x_203
          refine W.widen (k := 0) (n := 0) (Nat.le_of_ble_eq_true rfl) (Nat.le_of_ble_eq_true rfl) ?_
          exact dg_vret hx hb hr hlocks hP hS ⟨I_201, M_201, ⟨x_191, by omega, by omega, by rw [f_x_203]; omega⟩, trivial⟩ dX9_split_114
        · have jc_200 := dk_ngec (k := (x_199).toInt) rfl c_200
          refine lv_aload_n hx hb dX9_split_29 rfl (lv_at hl 3 rfl) ?_
          refine dg_get (C := RX8) (T := TX8) (N := 2) hx hb hts (fun w h => bw_mem (wU_X8 w h)) hown K hP sX_1 rfl 0 (by decide) (hts _ (bw_mem wB_623)) (fun _ h9 => h9) (v := .ref (o + 2)) (show S_192.1 1 0 = .ref (o + 2) from dg_I.rel (d := 1) I_192 sX_1 (by decide +kernel)) dX9_split_30 ?_
          refine lv_iload_n hx hb dX9_split_33 rfl (lv_at hl 1 rfl) ?_
          have hin_204 : vp_in x_190 1600 := (dk_inv (by omega) (by omega))
          refine dg_iald hx hb K hP sX_2 hin_204 dX9_split_34 (fun x_205 ex_205 => ?_)
          have b_x_205 := dk_all_at (dg_I.row (lo := 0) (hi := 255) I_192 sX_2 (by decide +kernel)) hin_204 ex_205
          refine lv_istore (lv' := [(4, .int x_205), (3, .int x_189), (2, .int x_190), (0, .ref (o + 210)), (1, .ref (o + 1))]) hx hb dX9_split_35 hl (by decide) rfl (fun ls hl => ?_)
          refine lv_iload hx hb dX9_split_37 (lv_at hl 0 rfl) ?_
          refine dg_calli hS hA1 hA (va_runS (As := [.int x_205]) (rest := []) F (c_v_isLetter l g D o S_192 x_205 I_192 H.size) (va_cwS 1 hts (bw_S wB_626 wB_627 wB_622 wB_625) rfl rfl rfl (by decide +kernel) ⟨Nat.le_of_ble_eq_true rfl, Nat.le_of_ble_eq_true rfl⟩) (dg_preS K ST hP hS hA1 hA) rfl rfl hl.1 rfl (lv_room (Nat.le_of_ble_eq_true rfl)) dX9_split_39 ⟨Nat.le_of_ble_eq_true rfl, Nat.le_of_ble_eq_true rfl⟩) (fun x_206 S_207 hw_207 H locs hP hS => ?_)
          rw [hw_207.1] at hP
          obtain ⟨hq_207, w_207_0, w_207_1, -⟩ := hw_207
          have w_207_0 : 0 ≤ (x_206).toInt ∧ (x_206).toInt ≤ 1 := w_207_0
          have w_207_1 : (x_206).toInt = 1 ↔ (97 ≤ (x_205).toInt ∧ (x_205).toInt ≤ 122) := w_207_1
          refine lv_if_eq (tgt := 55) hx hb dX9_split_42 (by decide) (fun c_208 => ?_) (fun c_208 => ?_)
          · have jc_208 := dk_eqc (k := 0) (by decide +kernel) c_208
            refine lv_iload hx hb dX9_split_55 (lv_at hl 0 rfl) ?_
            refine dg_calli hS hA1 hA (va_runS (As := [.int x_205]) (rest := []) F (c_v_isDigit l g D o S_192 x_205 I_192 H.size) (va_cwS 1 hts (bw_S wB_639 wB_640 wB_622 wB_638) rfl rfl rfl (by decide +kernel) ⟨Nat.le_of_ble_eq_true rfl, Nat.le_of_ble_eq_true rfl⟩) (dg_preS K ST hP hS hA1 hA) rfl rfl hl.1 rfl (lv_room (Nat.le_of_ble_eq_true rfl)) dX9_split_57 ⟨Nat.le_of_ble_eq_true rfl, Nat.le_of_ble_eq_true rfl⟩) (fun x_209 S_210 hw_210 H locs hP hS => ?_)
            rw [hw_210.1] at hP
            obtain ⟨hq_210, w_210_0, w_210_1, -⟩ := hw_210
            have w_210_0 : 0 ≤ (x_209).toInt ∧ (x_209).toInt ≤ 1 := w_210_0
            have w_210_1 : (x_209).toInt = 1 ↔ (48 ≤ (x_205).toInt ∧ (x_205).toInt ≤ 57) := w_210_1
            refine lv_if_eq (tgt := 73) hx hb dX9_split_60 (by decide) (fun c_211 => ?_) (fun c_211 => ?_)
            · have jc_211 := dk_eqc (k := 0) (by decide +kernel) c_211
              refine lv_iload hx hb dX9_split_73 (lv_at hl 0 rfl) ?_
              refine lv_bipush (v := 32) hx hb dX9_split_75 (by decide +kernel) ?_
              refine lv_icmp_eq (tgt := 95) hx hb dX9_split_77 (by decide) (fun c_212 => ?_) (fun c_212 => ?_)
              · have jc_212 := dk_eqc (k := 32) (by decide +kernel) c_212
                obtain ⟨x_213, ex_213⟩ : ∃ z, z = x_190 + 1 := ⟨_, rfl⟩
                have jx_213 : (x_213).toInt = (x_190).toInt + 1 := by rw [ex_213]; exact dk_addT rfl (by decide +kernel) (by omega) (by omega)
                refine lv_iinc (v := x_213) (lv' := [(2, .int x_213), (4, .int x_205), (3, .int x_189), (0, .ref (o + 210)), (1, .ref (o + 1))]) hx hb dX9_split_95 hl (k := 2) rfl (by rw [ex_213]; rfl) (by decide) rfl (fun ls hl => ?_)
                obtain ⟨x_214, ex_214⟩ : ∃ z, z = x_189 + 1 := ⟨_, rfl⟩
                have jx_214 : (x_214).toInt = (x_189).toInt + 1 := by rw [ex_214]; exact dk_addT rfl (by decide +kernel) (by omega) (by omega)
                refine lv_iinc (v := x_214) (lv' := [(3, .int x_214), (2, .int x_213), (4, .int x_205), (0, .ref (o + 210)), (1, .ref (o + 1))]) hx hb dX9_split_98 hl (k := 2) rfl (by rw [ex_214]; rfl) (by decide) rfl (fun ls hl => ?_)
                refine lv_goto (tgt := 14) hx hb dX9_split_101 (by decide) ?_
                exact ih x_214 x_213 x_191 (by omega) (by omega) (by omega) (by omega) S_192 I_192 M_192 ff_192_3_210 (by omega) _ _ hP hS _ (lv_sub hl [0, 1, 3, 4] rfl)
              · have jc_212 := dk_neqc (k := 32) (by decide +kernel) c_212
                refine lv_iload hx hb dX9_split_80 (lv_at hl 0 rfl) ?_
                refine lv_bipush (v := 10) hx hb dX9_split_82 (by decide +kernel) ?_
                refine lv_icmp_eq (tgt := 95) hx hb dX9_split_84 (by decide) (fun c_215 => ?_) (fun c_215 => ?_)
                · have jc_215 := dk_eqc (k := 10) (by decide +kernel) c_215
                  obtain ⟨x_216, ex_216⟩ : ∃ z, z = x_190 + 1 := ⟨_, rfl⟩
                  have jx_216 : (x_216).toInt = (x_190).toInt + 1 := by rw [ex_216]; exact dk_addT rfl (by decide +kernel) (by omega) (by omega)
                  refine lv_iinc (v := x_216) (lv' := [(2, .int x_216), (4, .int x_205), (3, .int x_189), (0, .ref (o + 210)), (1, .ref (o + 1))]) hx hb dX9_split_95 hl (k := 2) rfl (by rw [ex_216]; rfl) (by decide) rfl (fun ls hl => ?_)
                  obtain ⟨x_217, ex_217⟩ : ∃ z, z = x_189 + 1 := ⟨_, rfl⟩
                  have jx_217 : (x_217).toInt = (x_189).toInt + 1 := by rw [ex_217]; exact dk_addT rfl (by decide +kernel) (by omega) (by omega)
                  refine lv_iinc (v := x_217) (lv' := [(3, .int x_217), (2, .int x_216), (4, .int x_205), (0, .ref (o + 210)), (1, .ref (o + 1))]) hx hb dX9_split_98 hl (k := 2) rfl (by rw [ex_217]; rfl) (by decide) rfl (fun ls hl => ?_)
                  refine lv_goto (tgt := 14) hx hb dX9_split_101 (by decide) ?_
                  exact ih x_217 x_216 x_191 (by omega) (by omega) (by omega) (by omega) S_192 I_192 M_192 ff_192_3_210 (by omega) _ _ hP hS _ (lv_sub hl [0, 1, 3, 4] rfl)
                · have jc_215 := dk_neqc (k := 10) (by decide +kernel) c_215
                  refine lv_aload_n hx hb dX9_split_87 rfl (lv_at hl 3 rfl) ?_
                  refine lv_iconst (v := 4) hx hb dX9_split_88 (by decide +kernel) ?_
                  refine lv_iload_n hx hb dX9_split_89 rfl (lv_at hl 2 rfl) ?_
                  refine lv_iload hx hb dX9_split_90 (lv_at hl 0 rfl) ?_
                  refine dg_callv hS hA1 hA (va_runV (As := [.int 4, .int x_190, .int x_205]) (rest := []) F (c_v_add l g D o S_192 4 x_190 x_205 x_191 ff_192_3_210 (by omega) I_192 H.size) (cwV 3 hts (bw_V wB_619 wB_620 wB_621 wB_622 wB_618) rfl rfl rfl (by decide +kernel) ⟨Nat.le_of_ble_eq_true rfl, Nat.le_of_ble_eq_true rfl⟩) (dg_preV sX_210 rfl K ST hP hS hA1 hA) rfl rfl hl.1 rfl (lv_room (Nat.le_of_ble_eq_true rfl)) dX9_split_92 ⟨Nat.le_of_ble_eq_true rfl, Nat.le_of_ble_eq_true rfl⟩) (fun S_218 hw_218 H locs hP hS => ?_)
                  obtain ⟨I_218, m_218, w_218_0, w_218_1, -⟩ := hw_218
                  have M_218 := dg_sm.tr M_192 m_218 (by decide) (by decide)
                  obtain ⟨y_219, f_y_219, w_218_0⟩ := w_218_0
                  have w_218_0 : (y_219).toInt = (x_191).toInt + 1 := w_218_0
                  have b_y_219 : 0 ≤ (y_219).toInt ∧ (y_219).toInt ≤ 1601 := dg_I.intb (lo := 0) (hi := 1601) I_218 sX_210 (by decide +kernel) f_y_219
                  obtain ⟨x_220, f_x_220⟩ : ∃ x, S_218.2.1 211 (x_191 : Int32).toNatClampNeg = x := ⟨_, rfl⟩
                  have w_218_1 : (x_220).toInt = ((4 : Int32)).toInt := w_218_1 x_220 f_x_220
                  obtain ⟨x_221, ex_221⟩ : ∃ z, z = x_190 + 1 := ⟨_, rfl⟩
                  have jx_221 : (x_221).toInt = (x_190).toInt + 1 := by rw [ex_221]; exact dk_addT rfl (by decide +kernel) (by omega) (by omega)
                  refine lv_iinc (v := x_221) (lv' := [(2, .int x_221), (4, .int x_205), (3, .int x_189), (0, .ref (o + 210)), (1, .ref (o + 1))]) hx hb dX9_split_95 hl (k := 2) rfl (by rw [ex_221]; rfl) (by decide) rfl (fun ls hl => ?_)
                  obtain ⟨x_222, ex_222⟩ : ∃ z, z = x_189 + 1 := ⟨_, rfl⟩
                  have jx_222 : (x_222).toInt = (x_189).toInt + 1 := by rw [ex_222]; exact dk_addT rfl (by decide +kernel) (by omega) (by omega)
                  refine lv_iinc (v := x_222) (lv' := [(3, .int x_222), (2, .int x_221), (4, .int x_205), (0, .ref (o + 210)), (1, .ref (o + 1))]) hx hb dX9_split_98 hl (k := 2) rfl (by rw [ex_222]; rfl) (by decide) rfl (fun ls hl => ?_)
                  refine lv_goto (tgt := 14) hx hb dX9_split_101 (by decide) ?_
                  exact ih x_222 x_221 y_219 (by omega) (by omega) (by omega) (by omega) S_218 I_218 M_218 f_y_219 (by omega) _ _ hP hS _ (lv_sub hl [0, 1, 3, 4] rfl)
            · have jc_211 := dk_neqc (k := 0) (by decide +kernel) c_211
              refine lv_aload_n hx hb dX9_split_63 rfl (lv_at hl 3 rfl) ?_
              refine lv_aload_n hx hb dX9_split_64 rfl (lv_at hl 4 rfl) ?_
              refine lv_iload_n hx hb dX9_split_65 rfl (lv_at hl 2 rfl) ?_
              refine dg_calli hS hA1 hA (va_runV (As := [.ref (o + 1), .int x_190]) (rest := []) F (c_v_addNumber l g D o S_192 x_190 (by omega) x_191 ff_192_3_210 (by omega) x_199 ((M_192.1 1 1 _ sX_1 (by decide)).trans f_x_199) (by omega) x_205 ex_205.symm (by omega) (by omega) I_192 H.size) (cwV 2 hts (bw_V wB_642 wB_643 wB_644 wB_622 wB_641) rfl rfl rfl (by decide +kernel) ⟨Nat.le_of_ble_eq_true rfl, Nat.le_of_ble_eq_true rfl⟩) (dg_preV sX_210 rfl K ST hP hS hA1 hA) rfl rfl hl.1 rfl (lv_room (Nat.le_of_ble_eq_true rfl)) dX9_split_66 ⟨Nat.le_of_ble_eq_true rfl, Nat.le_of_ble_eq_true rfl⟩) (fun x_223 S_224 hw_224 H locs hP hS => ?_)
              obtain ⟨I_224, m_224, w_224_0, w_224_1, w_224_2, -⟩ := hw_224
              have M_224 := dg_sm.tr M_192 m_224 (by decide) (by decide)
              have w_224_0 : 1 ≤ (x_223).toInt ∧ (x_223).toInt ≤ 1600 := w_224_0
              have w_224_1 : (x_190).toInt < (x_223).toInt ∧ (x_223).toInt ≤ (x_199).toInt := w_224_1
              obtain ⟨y_225, f_y_225, w_224_2⟩ := w_224_2
              have w_224_2 : (y_225).toInt = (x_191).toInt + 1 := w_224_2
              have b_y_225 : 0 ≤ (y_225).toInt ∧ (y_225).toInt ≤ 1601 := dg_I.intb (lo := 0) (hi := 1601) I_224 sX_210 (by decide +kernel) f_y_225
              refine lv_istore_n (lv' := [(2, .int x_223), (4, .int x_205), (3, .int x_189), (0, .ref (o + 210)), (1, .ref (o + 1))]) hx hb dX9_split_69 rfl hl (by decide) rfl (fun ls hl => ?_)
              refine lv_goto (tgt := 98) hx hb dX9_split_70 (by decide) ?_
              obtain ⟨x_226, ex_226⟩ : ∃ z, z = x_189 + 1 := ⟨_, rfl⟩
              have jx_226 : (x_226).toInt = (x_189).toInt + 1 := by rw [ex_226]; exact dk_addT rfl (by decide +kernel) (by omega) (by omega)
              refine lv_iinc (v := x_226) (lv' := [(3, .int x_226), (2, .int x_223), (4, .int x_205), (0, .ref (o + 210)), (1, .ref (o + 1))]) hx hb dX9_split_98 hl (k := 2) rfl (by rw [ex_226]; rfl) (by decide) rfl (fun ls hl => ?_)
              refine lv_goto (tgt := 14) hx hb dX9_split_101 (by decide) ?_
              exact ih x_226 x_223 y_225 (by omega) (by omega) (by omega) (by omega) S_224 I_224 M_224 f_y_225 (by omega) _ _ hP hS _ (lv_sub hl [0, 1, 3, 4] rfl)
          · have jc_208 := dk_neqc (k := 0) (by decide +kernel) c_208
            refine lv_aload_n hx hb dX9_split_45 rfl (lv_at hl 3 rfl) ?_
            refine lv_aload_n hx hb dX9_split_46 rfl (lv_at hl 4 rfl) ?_
            refine lv_iload_n hx hb dX9_split_47 rfl (lv_at hl 2 rfl) ?_
            refine dg_calli hS hA1 hA (va_runV (As := [.ref (o + 1), .int x_190]) (rest := []) F (c_v_addWord l g D o S_192 x_190 (by omega) x_191 ff_192_3_210 (by omega) x_199 ((M_192.1 1 1 _ sX_1 (by decide)).trans f_x_199) (by omega) x_205 ex_205.symm (by omega) (by omega) I_192 H.size) (cwV 2 hts (bw_V wB_646 wB_647 wB_648 wB_622 wB_645) rfl rfl rfl (by decide +kernel) ⟨Nat.le_of_ble_eq_true rfl, Nat.le_of_ble_eq_true rfl⟩) (dg_preV sX_210 rfl K ST hP hS hA1 hA) rfl rfl hl.1 rfl (lv_room (Nat.le_of_ble_eq_true rfl)) dX9_split_48 ⟨Nat.le_of_ble_eq_true rfl, Nat.le_of_ble_eq_true rfl⟩) (fun x_227 S_228 hw_228 H locs hP hS => ?_)
            obtain ⟨I_228, m_228, w_228_0, w_228_1, w_228_2, -⟩ := hw_228
            have M_228 := dg_sm.tr M_192 m_228 (by decide) (by decide)
            have w_228_0 : 1 ≤ (x_227).toInt ∧ (x_227).toInt ≤ 1600 := w_228_0
            have w_228_1 : (x_190).toInt < (x_227).toInt ∧ (x_227).toInt ≤ (x_199).toInt := w_228_1
            obtain ⟨y_229, f_y_229, w_228_2⟩ := w_228_2
            have w_228_2 : (y_229).toInt = (x_191).toInt + 1 := w_228_2
            have b_y_229 : 0 ≤ (y_229).toInt ∧ (y_229).toInt ≤ 1601 := dg_I.intb (lo := 0) (hi := 1601) I_228 sX_210 (by decide +kernel) f_y_229
            refine lv_istore_n (lv' := [(2, .int x_227), (4, .int x_205), (3, .int x_189), (0, .ref (o + 210)), (1, .ref (o + 1))]) hx hb dX9_split_51 rfl hl (by decide) rfl (fun ls hl => ?_)
            refine lv_goto (tgt := 98) hx hb dX9_split_52 (by decide) ?_
            obtain ⟨x_230, ex_230⟩ : ∃ z, z = x_189 + 1 := ⟨_, rfl⟩
            have jx_230 : (x_230).toInt = (x_189).toInt + 1 := by rw [ex_230]; exact dk_addT rfl (by decide +kernel) (by omega) (by omega)
            refine lv_iinc (v := x_230) (lv' := [(3, .int x_230), (2, .int x_227), (4, .int x_205), (0, .ref (o + 210)), (1, .ref (o + 1))]) hx hb dX9_split_98 hl (k := 2) rfl (by rw [ex_230]; rfl) (by decide) rfl (fun ls hl => ?_)
            refine lv_goto (tgt := 14) hx hb dX9_split_101 (by decide) ?_
            exact ih x_230 x_227 y_229 (by omega) (by omega) (by omega) (by omega) S_228 I_228 M_228 f_y_229 (by omega) _ _ hP hS _ (lv_sub hl [0, 1, 3, 4] rfl)
  have hz_231 : (0 : Int32).toInt = 0 := by decide +kernel
  have hz_232 : (0 : Int32).toInt = 0 := by decide +kernel
  have hz_233 : (0 : Int32).toInt = 0 := by decide +kernel
  have hz_234 : (0 : Int32).toInt = 0 := by decide +kernel
  have hz_235 : (0 : Int32).toInt = 0 := by decide +kernel
  have hz_236 : (0 : Int32).toInt = 0 := by decide +kernel
  exact L_193 ((1601 - ((0 : Int32)).toInt).toNat + 1) 0 0 0 (by decide +kernel) (by decide +kernel) (by decide +kernel) (by omega) S_4 I_4 M_4 ((dg_uF_ne e_4 (fun z => absurd z.2 (by decide))).trans (dg_uF_at e_2)) (by omega) _ _ hP hS _ (lv_sub hl [0, 1, 2, 3] rfl)
