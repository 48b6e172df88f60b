/-! 22.split.lean.txt -/
theorem dX9_split_0 : decode cX9_split 0 = .ok (.aload_n 0, 1) := dk_o42 (by decide +kernel)
theorem dX9_split_1 : decode cX9_split 1 = .ok (.iconst 0, 1) := dk_o3 (by decide +kernel)
theorem dX9_split_2 : decode cX9_split 2 = .ok (.putfield 21, 3) := dk_o181 (by decide +kernel)
theorem dX9_split_5 : decode cX9_split 5 = .ok (.aload_n 0, 1) := dk_o42 (by decide +kernel)
theorem dX9_split_6 : decode cX9_split 6 = .ok (.iconst (-1), 1) := dk_o2 (by decide +kernel)
theorem dX9_split_7 : decode cX9_split 7 = .ok (.putfield 25, 3) := dk_o181 (by decide +kernel)
theorem dX9_split_10 : decode cX9_split 10 = .ok (.iconst 0, 1) := dk_o3 (by decide +kernel)
theorem dX9_split_11 : decode cX9_split 11 = .ok (.istore_n 2, 1) := dk_o61 (by decide +kernel)
theorem dX9_split_12 : decode cX9_split 12 = .ok (.iconst 0, 1) := dk_o3 (by decide +kernel)
theorem dX9_split_13 : decode cX9_split 13 = .ok (.istore_n 3, 1) := dk_o62 (by decide +kernel)
theorem dX9_split_14 : decode cX9_split 14 = .ok (.iload_n 3, 1) := dk_o29 (by decide +kernel)
theorem dX9_split_15 : decode cX9_split 15 = .ok (.sipush 1600, 3) := dk_o17 (by decide +kernel)
theorem dX9_split_18 : decode cX9_split 18 = .ok (.if_icmp .ge 86, 3) := dk_o162 (by decide +kernel)
theorem dX9_split_21 : decode cX9_split 21 = .ok (.iload_n 2, 1) := dk_o28 (by decide +kernel)
theorem dX9_split_22 : decode cX9_split 22 = .ok (.aload_n 1, 1) := dk_o43 (by decide +kernel)
theorem dX9_split_23 : decode cX9_split 23 = .ok (.getfield 28, 3) := dk_o180 (by decide +kernel)
theorem dX9_split_26 : decode cX9_split 26 = .ok (.if_icmp .ge 78, 3) := dk_o162 (by decide +kernel)
theorem dX9_split_29 : decode cX9_split 29 = .ok (.aload_n 1, 1) := dk_o43 (by decide +kernel)
theorem dX9_split_30 : decode cX9_split 30 = .ok (.getfield 33, 3) := dk_o180 (by decide +kernel)
theorem dX9_split_33 : decode cX9_split 33 = .ok (.iload_n 2, 1) := dk_o28 (by decide +kernel)
theorem dX9_split_34 : decode cX9_split 34 = .ok (.iaload, 1) := dk_o46 (by decide +kernel)
theorem dX9_split_35 : decode cX9_split 35 = .ok (.istore 4, 2) := dk_o54 (by decide +kernel)
theorem dX9_split_37 : decode cX9_split 37 = .ok (.iload 4, 2) := dk_o21 (by decide +kernel)
theorem dX9_split_39 : decode cX9_split 39 = .ok (.invokestatic 36, 3) := dk_o184 (by decide +kernel)
theorem dX9_split_42 : decode cX9_split 42 = .ok (.ifCond .eq 13, 3) := dk_o153 (by decide +kernel)
theorem dX9_split_45 : decode cX9_split 45 = .ok (.aload_n 0, 1) := dk_o42 (by decide +kernel)
theorem dX9_split_46 : decode cX9_split 46 = .ok (.aload_n 1, 1) := dk_o43 (by decide +kernel)
theorem dX9_split_47 : decode cX9_split 47 = .ok (.iload_n 2, 1) := dk_o28 (by decide +kernel)
theorem dX9_split_48 : decode cX9_split 48 = .ok (.invokevirtual 40, 3) := dk_o182 (by decide +kernel)
theorem dX9_split_51 : decode cX9_split 51 = .ok (.istore_n 2, 1) := dk_o61 (by decide +kernel)
theorem dX9_split_52 : decode cX9_split 52 = .ok (.goto 46, 3) := dk_o167 (by decide +kernel)
theorem dX9_split_55 : decode cX9_split 55 = .ok (.iload 4, 2) := dk_o21 (by decide +kernel)
theorem dX9_split_57 : decode cX9_split 57 = .ok (.invokestatic 44, 3) := dk_o184 (by decide +kernel)
theorem dX9_split_60 : decode cX9_split 60 = .ok (.ifCond .eq 13, 3) := dk_o153 (by decide +kernel)
theorem dX9_split_63 : decode cX9_split 63 = .ok (.aload_n 0, 1) := dk_o42 (by decide +kernel)
theorem dX9_split_64 : decode cX9_split 64 = .ok (.aload_n 1, 1) := dk_o43 (by decide +kernel)
theorem dX9_split_65 : decode cX9_split 65 = .ok (.iload_n 2, 1) := dk_o28 (by decide +kernel)
theorem dX9_split_66 : decode cX9_split 66 = .ok (.invokevirtual 47, 3) := dk_o182 (by decide +kernel)
theorem dX9_split_69 : decode cX9_split 69 = .ok (.istore_n 2, 1) := dk_o61 (by decide +kernel)
theorem dX9_split_70 : decode cX9_split 70 = .ok (.goto 28, 3) := dk_o167 (by decide +kernel)
theorem dX9_split_73 : decode cX9_split 73 = .ok (.iload 4, 2) := dk_o21 (by decide +kernel)
theorem dX9_split_75 : decode cX9_split 75 = .ok (.bipush 32, 2) := dk_o16 (by decide +kernel)
theorem dX9_split_77 : decode cX9_split 77 = .ok (.if_icmp .eq 18, 3) := dk_o159 (by decide +kernel)
theorem dX9_split_80 : decode cX9_split 80 = .ok (.iload 4, 2) := dk_o21 (by decide +kernel)
theorem dX9_split_82 : decode cX9_split 82 = .ok (.bipush 10, 2) := dk_o16 (by decide +kernel)
theorem dX9_split_84 : decode cX9_split 84 = .ok (.if_icmp .eq 11, 3) := dk_o159 (by decide +kernel)
theorem dX9_split_87 : decode cX9_split 87 = .ok (.aload_n 0, 1) := dk_o42 (by decide +kernel)
theorem dX9_split_88 : decode cX9_split 88 = .ok (.iconst 4, 1) := dk_o7 (by decide +kernel)
theorem dX9_split_89 : decode cX9_split 89 = .ok (.iload_n 2, 1) := dk_o28 (by decide +kernel)
theorem dX9_split_90 : decode cX9_split 90 = .ok (.iload 4, 2) := dk_o21 (by decide +kernel)
theorem dX9_split_92 : decode cX9_split 92 = .ok (.invokevirtual 50, 3) := dk_o182 (by decide +kernel)
theorem dX9_split_95 : decode cX9_split 95 = .ok (.iinc 2 1, 3) := dk_o132 (by decide +kernel)
theorem dX9_split_98 : decode cX9_split 98 = .ok (.iinc 3 1, 3) := dk_o132 (by decide +kernel)
theorem dX9_split_101 : decode cX9_split 101 = .ok (.goto (-87), 3) := dk_o167 (by decide +kernel)
theorem dX9_split_104 : decode cX9_split 104 = .ok (.aload_n 0, 1) := dk_o42 (by decide +kernel)
theorem dX9_split_105 : decode cX9_split 105 = .ok (.iconst 0, 1) := dk_o3 (by decide +kernel)
theorem dX9_split_106 : decode cX9_split 106 = .ok (.aload_n 1, 1) := dk_o43 (by decide +kernel)
theorem dX9_split_107 : decode cX9_split 107 = .ok (.getfield 28, 3) := dk_o180 (by decide +kernel)
theorem dX9_split_110 : decode cX9_split 110 = .ok (.iconst 0, 1) := dk_o3 (by decide +kernel)
theorem dX9_split_111 : decode cX9_split 111 = .ok (.invokevirtual 50, 3) := dk_o182 (by decide +kernel)
theorem dX9_split_114 : decode cX9_split 114 = .ok (.return_, 1) := dk_o177 (by decide +kernel)
theorem wB_207 : Cond.code yX9_addNumber cX9_addNumber 6 (some .int) ∈ dgB := List.mem_filter.mpr ⟨tbl_3 _ (List.mem_of_getElem? (i := 193) rfl), rfl⟩
theorem wB_208 : Cond.methodLink RX9 47 yX9_addNumber ∈ dgB := List.mem_filter.mpr ⟨tbl_3 _ (List.mem_of_getElem? (i := 190) (by decide +kernel)), by decide +kernel⟩
theorem wB_209 : Cond.instanceMethod yX9_addNumber ∈ dgB := List.mem_filter.mpr ⟨tbl_3 _ (List.mem_of_getElem? (i := 192) (by decide +kernel)), by decide +kernel⟩
theorem wB_210 : Cond.selects RX9 yX9_addNumber yX9_addNumber ∈ dgB := List.mem_filter.mpr ⟨List.mem_of_getElem? (i := 5) (by decide +kernel), by decide +kernel⟩
theorem wB_211 : Cond.code yX9_addWord cX9_addWord 5 (some .int) ∈ dgB := List.mem_filter.mpr ⟨tbl_3 _ (List.mem_of_getElem? (i := 131) rfl), rfl⟩
theorem wB_212 : Cond.methodLink RX9 40 yX9_addWord ∈ dgB := List.mem_filter.mpr ⟨tbl_3 _ (List.mem_of_getElem? (i := 128) (by decide +kernel)), by decide +kernel⟩
theorem wB_213 : Cond.instanceMethod yX9_addWord ∈ dgB := List.mem_filter.mpr ⟨tbl_3 _ (List.mem_of_getElem? (i := 130) (by decide +kernel)), by decide +kernel⟩
theorem wB_214 : Cond.selects RX9 yX9_addWord yX9_addWord ∈ dgB := List.mem_filter.mpr ⟨List.mem_of_getElem? (i := 2) (by decide +kernel), by decide +kernel⟩
set_option maxHeartbeats 8000000 in
set_option maxRecDepth 100000 in
theorem c_v_split (l : Launch) (g : Nat → ClassId) (D : va_G) (o : Nat) (S : dg_S) (tb : Nat → Int32) (le : Int32) (f_le : S.1 1 1 = .int le) (b_le : 0 ≤ (le).toInt ∧ (le).toInt ≤ 1600) (htb : S.2.1 2 = tb) (I : CX o S) (sz : Nat) : Met l yX9_split (bw yX9_split cX9_split 5 none) ({ frames := 8, cells := 0, slots := 0, locals := 350 } : Room) (dk_Pc g D (dg_w g shX o rfX S) sz [.ref (o + 210), .ref (o + 1)]) (va_Qv (fun S' => CX o S' ∧ dg_sm shX [(32, 3), (32, 4)] [33, 34, 35] S S' ∧ (∃ e9 : Int32, 0 ≤ e9.toInt ∧ e9.toInt ≤ 1600 ∧ (∀ k9 : Nat, k9 ≤ e9.toNatClampNeg → S'.2.1 211 k9 = T_kd tb (le : Int32).toNatClampNeg k9) ∧ (∀ k9 : Nat, k9 ≤ e9.toNatClampNeg → S'.2.1 213 k9 = T_vl tb (le : Int32).toNatClampNeg k9) ∧ (S'.2.1 211 e9.toNatClampNeg).toInt = 0) ∧ True) (dg_B g D shX o rfX) (dg_A o shX.length sz)) 0 0 (dg_A o shX.length sz) := by
  refine dg_met (cc := cX9_split) (maxL := 5) (ret := none) (dk_dq rfl) rfl (Nat.le_of_ble_eq_true rfl) ?_
  intro p e s m args below meth c A hAe harg hx hb hr hml hts hown hlocks hin hP K hS hA1 hA ST hsz ls hl
  rw [← hAe]
  have F : CallFix p m c cX9_split 5 s args (bw yX9_split cX9_split 5 none) RX9 := ⟨hx, hb, hml, hown, hts⟩
  have hl : lv_has ls 5 [(0, .ref (o + 210)), (1, .ref (o + 1))] := hl
  have M_0 : dg_sm shX [(32, 3), (32, 4)] [33, 34, 35] S S := dg_sm.rf
  refine lv_aload_n hx hb dX9_split_0 rfl (lv_at hl 0 rfl) ?_
  refine lv_iconst (v := 0) hx hb dX9_split_1 (by decide +kernel) ?_
  have hz_1 : (0 : Int32).toInt = 0 := by decide +kernel
  refine dg_put (ci := 9) (v := .int 0) (ty := tyX9 3) (C := RX9) (T := TX9) (N := 5) hx hb hts (fun w h => bw_mem (wU_X9 w h)) tyX9 tyX9_ok nmX9 hown K hP hS hA1 sX_210 rfl 3 (dk_dq rfl) (hts _ (bw_mem wB_179)) (fun _ h9 => h9) rfl (by decide +kernel) rfl rfl dX9_split_2 (fun S_2 e_2 H locs hP hS => ?_)
  have I_2 := dg_I.uFi (lo := 0) (hi := 1601) I e_2 sX_210 (by decide +kernel) (show 0 ≤ ((0 : Int32)).toInt ∧ ((0 : Int32)).toInt ≤ 1601 from (by decide +kernel))
  have M_2 := dg_sm.uF M_0 e_2 sX_210 (dk_dq rfl)
  refine lv_aload_n hx hb dX9_split_5 rfl (lv_at hl 0 rfl) ?_
  refine lv_iconst (v := (-1)) hx hb dX9_split_6 (by decide +kernel) ?_
  have hz_3 : (-1 : Int32).toInt = (-1) := by decide +kernel
  refine dg_put (ci := 9) (v := .int (-1)) (ty := tyX9 4) (C := RX9) (T := TX9) (N := 5) hx hb hts (fun w h => bw_mem (wU_X9 w h)) tyX9 tyX9_ok nmX9 hown K hP hS hA1 sX_210 rfl 4 (dk_dq rfl) (hts _ (bw_mem wB_183)) (fun _ h9 => h9) rfl (by decide +kernel) rfl rfl dX9_split_7 (fun S_4 e_4 H locs hP hS => ?_)
  have I_4 := dg_I.uFi (lo := (-2147483648)) (hi := 2147483647) I_2 e_4 sX_210 (by decide +kernel) (show (-2147483648) ≤ ((-1 : Int32)).toInt ∧ ((-1 : Int32)).toInt ≤ 2147483647 from (by decide +kernel))
  have M_4 := dg_sm.uF M_2 e_4 sX_210 (dk_dq rfl)
  refine lv_iconst (v := 0) hx hb dX9_split_10 (by decide +kernel) ?_
  refine lv_istore_n (lv' := [(2, .int 0), (0, .ref (o + 210)), (1, .ref (o + 1))]) hx hb dX9_split_11 rfl hl (dk_dq rfl) rfl (fun ls hl => ?_)
  refine lv_iconst (v := 0) hx hb dX9_split_12 (by decide +kernel) ?_
  refine lv_istore_n (lv' := [(3, .int 0), (2, .int 0), (0, .ref (o + 210)), (1, .ref (o + 1))]) hx hb dX9_split_13 rfl hl (dk_dq rfl) rfl (fun ls hl => ?_)
  have L_97 : ∀ (n : Nat) (x_92 : Int32) (x_93 : Int32) (x_94 : Int32) (x_95 : Int32), (0 ≤ (x_92).toInt ∧ (x_92).toInt ≤ 1600) → (0 ≤ (x_93).toInt ∧ (x_93).toInt ≤ 1600) → (0 ≤ (x_94).toInt ∧ (x_94).toInt ≤ 1601) → ((1601 - (x_92).toInt).toNat < n) → ∀ S_96 : dg_S, CX o S_96 → dg_sm shX [(32, 3), (32, 4)] [33, 34, 35] S S_96 → S_96.1 210 3 = .int x_94 → S_96.1 210 4 = .int x_95 → ((x_94).toInt ≤ (x_93).toInt ∧ (x_95).toInt ≤ (x_93).toInt ∧ (x_93).toInt ≤ (le).toInt ∧ -1 ≤ (x_95).toInt) → (t_inv tb (le : Int32).toNatClampNeg (S_96.2.1 211) (S_96.2.1 213) (x_94 : Int32).toNatClampNeg (x_93 : Int32).toNatClampNeg) → (((x_95).toInt = (x_93).toInt ↔ t_adj tb (x_93 : Int32).toNatClampNeg = true)) → ((x_92 : Int32).toInt ≤ (x_93).toInt) → ∀ (H : Heap) (locs : List Loc), va_P D vwCl (dg_w g shX o rfX S_96) H → va_S A s.heap H locs → ∀ ls : Array Slot, lv_has ls 5 [(3, .int x_92), (2, .int x_93), (0, .ref (o + 210)), (1, .ref (o + 1))] → W p l e ({ frames := 8, cells := 0, slots := 0, locals := 350 } : Room) s m args below meth c H locs 0 0 (MQ below (va_Qv (fun S' => CX o S' ∧ dg_sm shX [(32, 3), (32, 4)] [33, 34, 35] S S' ∧ (∃ e9 : Int32, 0 ≤ e9.toInt ∧ e9.toInt ≤ 1600 ∧ (∀ k9 : Nat, k9 ≤ e9.toNatClampNeg → S'.2.1 211 k9 = T_kd tb (le : Int32).toNatClampNeg k9) ∧ (∀ k9 : Nat, k9 ≤ e9.toNatClampNeg → S'.2.1 213 k9 = T_vl tb (le : Int32).toNatClampNeg k9) ∧ (S'.2.1 211 e9.toNatClampNeg).toInt = 0) ∧ True) (dg_B g D shX o rfX) A) args s 0 0 A) (F0 m 14 ls []) := by
    as_aux_lemma =>
      intro n
      induction n with
      | zero =>
        intro x_92 x_93 x_94 x_95 b_x_92 b_x_93 b_x_94 hmu S_96 I_96 M_96 ff_96_3_210 ff_96_4_210 srel_96_0 srel_96_1 srel_96_2 srel_96_3 H locs hP hS ls hl
        omega
      | succ n ih =>
        as_aux_lemma =>
          intro x_92 x_93 x_94 x_95 b_x_92 b_x_93 b_x_94 hmu S_96 I_96 M_96 ff_96_3_210 ff_96_4_210 srel_96_0 srel_96_1 srel_96_2 srel_96_3 H locs hP hS ls hl
          refine lv_iload_n hx hb dX9_split_14 rfl (lv_at hl 0 rfl) ?_
          refine lv_sipush (v := 1600) hx hb dX9_split_15 (by decide +kernel) ?_
          refine lv_icmp_ge (tgt := 104) hx hb dX9_split_18 (dk_dq rfl) (fun c_98 => ?_) (fun c_98 => ?_)
          · as_aux_lemma =>
              have jc_98 := dk_gec (k := 1600) (by decide +kernel) c_98
              refine lv_aload_n hx hb dX9_split_104 rfl (lv_at hl 2 rfl) ?_
              refine lv_iconst (v := 0) hx hb dX9_split_105 (by decide +kernel) ?_
              refine lv_aload_n hx hb dX9_split_106 rfl (lv_at hl 3 rfl) ?_
              refine dg_get (C := RX8) (T := TX8) (N := 2) hx hb hts (fun w h => bw_mem (wU_X8 w h)) hown K hP sX_1 rfl 1 (dk_dq rfl) (hts _ (bw_mem wB_190)) (fun _ h9 => h9) (v := .int le) ((M_96.1 1 1 _ sX_1 (dk_dq rfl)).trans f_le) dX9_split_107 ?_
              refine lv_iconst (v := 0) hx hb dX9_split_110 (by decide +kernel) ?_
              refine dg_callv hS hA1 hA (va_runV (As := [.int 0, .int le, .int 0]) (rest := []) F (c_v_add l g D o S_96 0 le 0 x_94 ff_96_3_210 (by omega) I_96 H.size) (cwV 3 hts (bw_V wB_185 wB_186 wB_187 wB_188 wB_184) rfl rfl rfl (by decide +kernel) ⟨Nat.le_of_ble_eq_true rfl, Nat.le_of_ble_eq_true rfl⟩) (dg_preV sX_210 rfl K ST hP hS hA1 hA) rfl rfl hl.1 rfl (lv_room (Nat.le_of_ble_eq_true rfl)) dX9_split_111 ⟨Nat.le_of_ble_eq_true rfl, Nat.le_of_ble_eq_true rfl⟩) (fun S_99 hw_99 H locs hP hS => ?_)
              obtain ⟨I_99, m_99, w_99_0, w_99_1, -⟩ := hw_99
              have M_99 := dg_sm.tr M_96 m_99 (dk_dq rfl) (dk_dq rfl)
              have hz_100 : (0 : Int32).toInt = 0 := by decide +kernel
              have hz_101 : (0 : Int32).toInt = 0 := by decide +kernel
              obtain ⟨y_102, f_y_102, w_99_0⟩ := w_99_0
              have w_99_0 : (y_102).toInt = (x_94).toInt + 1 := w_99_0
              have b_y_102 : 0 ≤ (y_102).toInt ∧ (y_102).toInt ≤ 1601 := dg_I.intb (lo := 0) (hi := 1601) I_99 sX_210 (by decide +kernel) f_y_102
              replace w_99_1 : S_99.2.1 211 = upd (S_96.2.1 211) (x_94 : Int32).toNatClampNeg (0 : Int32) ∧ S_99.2.1 213 = upd (S_96.2.1 213) (x_94 : Int32).toNatClampNeg (0 : Int32) := w_99_1
              obtain ⟨hz1, hz2⟩ := srel_96_1.fin (KD' := S_99.2.1 211) (VL' := S_99.2.1 213) (by have h8 := dk_clN le; have h9 := dk_clN x_93; omega) (show (0 : Int32).toInt = 0 by decide +kernel) (show (0 : Int32).toInt = 0 by decide +kernel) (by rw [w_99_1.1]) (by rw [w_99_1.2])
              have hz3 : (S_99.2.1 211 (x_94 : Int32).toNatClampNeg).toInt = 0 := by rw [w_99_1.1]; unfold upd; rw [if_pos rfl]; decide +kernel
              refine W.widen (k := 0) (n := 0) (Nat.le_of_ble_eq_true rfl) (Nat.le_of_ble_eq_true rfl) ?_
              exact dg_vret hx hb hr hlocks hP hS ⟨I_99, M_99, ⟨x_94, by omega, by omega, hz1, hz2, hz3⟩, trivial⟩ dX9_split_114
          · as_aux_lemma =>
              have jc_98 := dk_ngec (k := 1600) (by decide +kernel) c_98
              refine lv_iload_n hx hb dX9_split_21 rfl (lv_at hl 1 rfl) ?_
              refine lv_aload_n hx hb dX9_split_22 rfl (lv_at hl 3 rfl) ?_
              refine dg_get (C := RX8) (T := TX8) (N := 2) hx hb hts (fun w h => bw_mem (wU_X8 w h)) hown K hP sX_1 rfl 1 (dk_dq rfl) (hts _ (bw_mem wB_190)) (fun _ h9 => h9) (v := .int le) ((M_96.1 1 1 _ sX_1 (dk_dq rfl)).trans f_le) dX9_split_23 ?_
              refine lv_icmp_ge (tgt := 104) hx hb dX9_split_26 (dk_dq rfl) (fun c_103 => ?_) (fun c_103 => ?_)
              · as_aux_lemma =>
                  have jc_103 := dk_gec (k := (le).toInt) rfl c_103
                  refine lv_aload_n hx hb dX9_split_104 rfl (lv_at hl 2 rfl) ?_
                  refine lv_iconst (v := 0) hx hb dX9_split_105 (by decide +kernel) ?_
                  refine lv_aload_n hx hb dX9_split_106 rfl (lv_at hl 3 rfl) ?_
                  refine dg_get (C := RX8) (T := TX8) (N := 2) hx hb hts (fun w h => bw_mem (wU_X8 w h)) hown K hP sX_1 rfl 1 (dk_dq rfl) (hts _ (bw_mem wB_190)) (fun _ h9 => h9) (v := .int le) ((M_96.1 1 1 _ sX_1 (dk_dq rfl)).trans f_le) dX9_split_107 ?_
                  refine lv_iconst (v := 0) hx hb dX9_split_110 (by decide +kernel) ?_
                  refine dg_callv hS hA1 hA (va_runV (As := [.int 0, .int le, .int 0]) (rest := []) F (c_v_add l g D o S_96 0 le 0 x_94 ff_96_3_210 (by omega) I_96 H.size) (cwV 3 hts (bw_V wB_185 wB_186 wB_187 wB_188 wB_184) rfl rfl rfl (by decide +kernel) ⟨Nat.le_of_ble_eq_true rfl, Nat.le_of_ble_eq_true rfl⟩) (dg_preV sX_210 rfl K ST hP hS hA1 hA) rfl rfl hl.1 rfl (lv_room (Nat.le_of_ble_eq_true rfl)) dX9_split_111 ⟨Nat.le_of_ble_eq_true rfl, Nat.le_of_ble_eq_true rfl⟩) (fun S_104 hw_104 H locs hP hS => ?_)
                  obtain ⟨I_104, m_104, w_104_0, w_104_1, -⟩ := hw_104
                  have M_104 := dg_sm.tr M_96 m_104 (dk_dq rfl) (dk_dq rfl)
                  have hz_105 : (0 : Int32).toInt = 0 := by decide +kernel
                  have hz_106 : (0 : Int32).toInt = 0 := by decide +kernel
                  obtain ⟨y_107, f_y_107, w_104_0⟩ := w_104_0
                  have w_104_0 : (y_107).toInt = (x_94).toInt + 1 := w_104_0
                  have b_y_107 : 0 ≤ (y_107).toInt ∧ (y_107).toInt ≤ 1601 := dg_I.intb (lo := 0) (hi := 1601) I_104 sX_210 (by decide +kernel) f_y_107
                  replace w_104_1 : S_104.2.1 211 = upd (S_96.2.1 211) (x_94 : Int32).toNatClampNeg (0 : Int32) ∧ S_104.2.1 213 = upd (S_96.2.1 213) (x_94 : Int32).toNatClampNeg (0 : Int32) := w_104_1
                  obtain ⟨hz1, hz2⟩ := srel_96_1.fin (KD' := S_104.2.1 211) (VL' := S_104.2.1 213) (by have h8 := dk_clN le; have h9 := dk_clN x_93; omega) (show (0 : Int32).toInt = 0 by decide +kernel) (show (0 : Int32).toInt = 0 by decide +kernel) (by rw [w_104_1.1]) (by rw [w_104_1.2])
                  have hz3 : (S_104.2.1 211 (x_94 : Int32).toNatClampNeg).toInt = 0 := by rw [w_104_1.1]; unfold upd; rw [if_pos rfl]; decide +kernel
                  refine W.widen (k := 0) (n := 0) (Nat.le_of_ble_eq_true rfl) (Nat.le_of_ble_eq_true rfl) ?_
                  exact dg_vret hx hb hr hlocks hP hS ⟨I_104, M_104, ⟨x_94, by omega, by omega, hz1, hz2, hz3⟩, trivial⟩ dX9_split_114
              · as_aux_lemma =>
                  have jc_103 := dk_ngec (k := (le).toInt) rfl c_103
                  refine lv_aload_n hx hb dX9_split_29 rfl (lv_at hl 3 rfl) ?_
                  refine dg_get (C := RX8) (T := TX8) (N := 2) hx hb hts (fun w h => bw_mem (wU_X8 w h)) hown K hP sX_1 rfl 0 (dk_dq rfl) (hts _ (bw_mem wB_189)) (fun _ h9 => h9) (v := .ref (o + 2)) (show S_96.1 1 0 = .ref (o + 2) from dg_I.rel (d := 1) I_96 sX_1 (by decide +kernel)) dX9_split_30 ?_
                  refine lv_iload_n hx hb dX9_split_33 rfl (lv_at hl 1 rfl) ?_
                  have hin_108 : vp_in x_93 1600 := (dk_inv2 (by omega))
                  refine dg_iald hx hb K hP sX_2 hin_108 dX9_split_34 (fun x_109 ex_109 => ?_)
                  have b_x_109 := dk_all_at (dg_I.row (lo := 0) (hi := 255) I_96 sX_2 (by decide +kernel)) hin_108 ex_109
                  have kx_109 : tb (x_93 : Int32).toNatClampNeg = x_109 := by rw [ex_109, (M_96.2 2 _ sX_2 (dk_dq rfl)).1, htb]
                  refine lv_istore (lv' := [(4, .int x_109), (3, .int x_92), (2, .int x_93), (0, .ref (o + 210)), (1, .ref (o + 1))]) hx hb dX9_split_35 hl (dk_dq rfl) rfl (fun ls hl => ?_)
                  refine lv_iload hx hb dX9_split_37 (lv_at hl 0 rfl) ?_
                  refine dg_calli hS hA1 hA (va_runS (As := [.int x_109]) (rest := []) F (c_v_isLetter l g D o S_96 x_109 I_96 H.size) (va_cwS 1 hts (bw_S wB_192 wB_193 wB_188 wB_191) rfl rfl rfl (by decide +kernel) ⟨Nat.le_of_ble_eq_true rfl, Nat.le_of_ble_eq_true rfl⟩) (dg_preS K ST hP hS hA1 hA) rfl rfl hl.1 rfl (lv_room (Nat.le_of_ble_eq_true rfl)) dX9_split_39 ⟨Nat.le_of_ble_eq_true rfl, Nat.le_of_ble_eq_true rfl⟩) (fun x_110 S_111 hw_111 H locs hP hS => ?_)
                  rw [hw_111.1] at hP
                  obtain ⟨hq_111, w_111_0, w_111_1, -⟩ := hw_111
                  have w_111_0 : 0 ≤ (x_110).toInt ∧ (x_110).toInt ≤ 1 := w_111_0
                  have w_111_1 : (x_110).toInt = 1 ↔ (97 ≤ (x_109).toInt ∧ (x_109).toInt ≤ 122) := w_111_1
                  refine lv_if_eq (tgt := 55) hx hb dX9_split_42 (dk_dq rfl) (fun c_112 => ?_) (fun c_112 => ?_)
                  · as_aux_lemma =>
                      have jc_112 := dk_eqc (k := 0) (by decide +kernel) c_112
                      have qlw_111_1 : t_l x_109 = false := t_l_f (by omega)
                      refine lv_iload hx hb dX9_split_55 (lv_at hl 0 rfl) ?_
                      refine dg_calli hS hA1 hA (va_runS (As := [.int x_109]) (rest := []) F (c_v_isDigit l g D o S_96 x_109 I_96 H.size) (va_cwS 1 hts (bw_S wB_205 wB_206 wB_188 wB_204) rfl rfl rfl (by decide +kernel) ⟨Nat.le_of_ble_eq_true rfl, Nat.le_of_ble_eq_true rfl⟩) (dg_preS K ST hP hS hA1 hA) rfl rfl hl.1 rfl (lv_room (Nat.le_of_ble_eq_true rfl)) dX9_split_57 ⟨Nat.le_of_ble_eq_true rfl, Nat.le_of_ble_eq_true rfl⟩) (fun x_113 S_114 hw_114 H locs hP hS => ?_)
                      rw [hw_114.1] at hP
                      obtain ⟨hq_114, w_114_0, w_114_1, -⟩ := hw_114
                      have w_114_0 : 0 ≤ (x_113).toInt ∧ (x_113).toInt ≤ 1 := w_114_0
                      have w_114_1 : (x_113).toInt = 1 ↔ (48 ≤ (x_109).toInt ∧ (x_109).toInt ≤ 57) := w_114_1
                      refine lv_if_eq (tgt := 73) hx hb dX9_split_60 (dk_dq rfl) (fun c_115 => ?_) (fun c_115 => ?_)
                      · as_aux_lemma =>
                          have jc_115 := dk_eqc (k := 0) (by decide +kernel) c_115
                          have qlw_114_1 : t_d x_109 = false := t_d_f (by omega)
                          refine lv_iload hx hb dX9_split_73 (lv_at hl 0 rfl) ?_
                          refine lv_bipush (v := 32) hx hb dX9_split_75 (by decide +kernel) ?_
                          refine lv_icmp_eq (tgt := 95) hx hb dX9_split_77 (dk_dq rfl) (fun c_116 => ?_) (fun c_116 => ?_)
                          · have jc_116 := dk_eqc (k := 32) (by decide +kernel) c_116
                            obtain ⟨x_117, ex_117⟩ : ∃ z, z = x_93 + 1 := ⟨_, rfl⟩
                            have jx_117 : (x_117).toInt = (x_93).toInt + 1 := by rw [ex_117]; exact dk_addT2 rfl (by decide +kernel) (by omega)
                            refine lv_iinc (v := x_117) (lv' := [(2, .int x_117), (4, .int x_109), (3, .int x_92), (0, .ref (o + 210)), (1, .ref (o + 1))]) hx hb dX9_split_95 hl (k := 2) rfl (by rw [ex_117]; rfl) (dk_dq rfl) rfl (fun ls hl => ?_)
                            obtain ⟨x_118, ex_118⟩ : ∃ z, z = x_92 + 1 := ⟨_, rfl⟩
                            have jx_118 : (x_118).toInt = (x_92).toInt + 1 := by rw [ex_118]; exact dk_addT2 rfl (by decide +kernel) (by omega)
                            refine lv_iinc (v := x_118) (lv' := [(3, .int x_118), (2, .int x_117), (4, .int x_109), (0, .ref (o + 210)), (1, .ref (o + 1))]) hx hb dX9_split_98 hl (k := 2) rfl (by rw [ex_118]; rfl) (dk_dq rfl) rfl (fun ls hl => ?_)
                            refine lv_goto (tgt := 14) hx hb dX9_split_101 (dk_dq rfl) ?_
                            exact ih x_118 x_117 x_94 x_95 (by omega) (by omega) (by omega) (by first | exact mu_lt hmu (by omega) (by omega) | omega) S_96 I_96 M_96 ff_96_3_210 ff_96_4_210 (by omega) (t_inv_blank srel_96_1 (by have h8 := dk_clN le; omega) (by have h8 := dk_clN le; have h9 := dk_clN x_93; omega) (t_b_t (by rw [kx_109]; omega)) (by omega) (by omega) (rfl) (rfl)) (t_adj_nx (by rw [kx_109]; exact t_l_f (by omega)) (by rw [kx_109]; exact t_d_f (by omega)) (by omega) (by omega) (by omega)) (by omega) _ _ hP hS _ (lv_sub hl [0, 1, 3, 4] rfl)
                          · as_aux_lemma =>
                              have jc_116 := dk_neqc (k := 32) (by decide +kernel) c_116
                              refine lv_iload hx hb dX9_split_80 (lv_at hl 0 rfl) ?_
                              refine lv_bipush (v := 10) hx hb dX9_split_82 (by decide +kernel) ?_
                              refine lv_icmp_eq (tgt := 95) hx hb dX9_split_84 (dk_dq rfl) (fun c_119 => ?_) (fun c_119 => ?_)
                              · have jc_119 := dk_eqc (k := 10) (by decide +kernel) c_119
                                obtain ⟨x_120, ex_120⟩ : ∃ z, z = x_93 + 1 := ⟨_, rfl⟩
                                have jx_120 : (x_120).toInt = (x_93).toInt + 1 := by rw [ex_120]; exact dk_addT2 rfl (by decide +kernel) (by omega)
                                refine lv_iinc (v := x_120) (lv' := [(2, .int x_120), (4, .int x_109), (3, .int x_92), (0, .ref (o + 210)), (1, .ref (o + 1))]) hx hb dX9_split_95 hl (k := 2) rfl (by rw [ex_120]; rfl) (dk_dq rfl) rfl (fun ls hl => ?_)
                                obtain ⟨x_121, ex_121⟩ : ∃ z, z = x_92 + 1 := ⟨_, rfl⟩
                                have jx_121 : (x_121).toInt = (x_92).toInt + 1 := by rw [ex_121]; exact dk_addT2 rfl (by decide +kernel) (by omega)
                                refine lv_iinc (v := x_121) (lv' := [(3, .int x_121), (2, .int x_120), (4, .int x_109), (0, .ref (o + 210)), (1, .ref (o + 1))]) hx hb dX9_split_98 hl (k := 2) rfl (by rw [ex_121]; rfl) (dk_dq rfl) rfl (fun ls hl => ?_)
                                refine lv_goto (tgt := 14) hx hb dX9_split_101 (dk_dq rfl) ?_
                                exact ih x_121 x_120 x_94 x_95 (by omega) (by omega) (by omega) (by first | exact mu_lt hmu (by omega) (by omega) | omega) S_96 I_96 M_96 ff_96_3_210 ff_96_4_210 (by omega) (t_inv_blank srel_96_1 (by have h8 := dk_clN le; omega) (by have h8 := dk_clN le; have h9 := dk_clN x_93; omega) (t_b_t (by rw [kx_109]; omega)) (by omega) (by omega) (rfl) (rfl)) (t_adj_nx (by rw [kx_109]; exact t_l_f (by omega)) (by rw [kx_109]; exact t_d_f (by omega)) (by omega) (by omega) (by omega)) (by omega) _ _ hP hS _ (lv_sub hl [0, 1, 3, 4] rfl)
                              · as_aux_lemma =>
                                  have jc_119 := dk_neqc (k := 10) (by decide +kernel) c_119
                                  refine lv_aload_n hx hb dX9_split_87 rfl (lv_at hl 3 rfl) ?_
                                  refine lv_iconst (v := 4) hx hb dX9_split_88 (by decide +kernel) ?_
                                  refine lv_iload_n hx hb dX9_split_89 rfl (lv_at hl 2 rfl) ?_
                                  refine lv_iload hx hb dX9_split_90 (lv_at hl 0 rfl) ?_
                                  refine dg_callv hS hA1 hA (va_runV (As := [.int 4, .int x_93, .int x_109]) (rest := []) F (c_v_add l g D o S_96 4 x_93 x_109 x_94 ff_96_3_210 (by omega) I_96 H.size) (cwV 3 hts (bw_V wB_185 wB_186 wB_187 wB_188 wB_184) rfl rfl rfl (by decide +kernel) ⟨Nat.le_of_ble_eq_true rfl, Nat.le_of_ble_eq_true rfl⟩) (dg_preV sX_210 rfl K ST hP hS hA1 hA) rfl rfl hl.1 rfl (lv_room (Nat.le_of_ble_eq_true rfl)) dX9_split_92 ⟨Nat.le_of_ble_eq_true rfl, Nat.le_of_ble_eq_true rfl⟩) (fun S_122 hw_122 H locs hP hS => ?_)
                                  obtain ⟨I_122, m_122, w_122_0, w_122_1, -⟩ := hw_122
                                  have M_122 := dg_sm.tr M_96 m_122 (dk_dq rfl) (dk_dq rfl)
                                  have hz_123 : (4 : Int32).toInt = 4 := by decide +kernel
                                  obtain ⟨y_124, f_y_124, w_122_0⟩ := w_122_0
                                  have w_122_0 : (y_124).toInt = (x_94).toInt + 1 := w_122_0
                                  have b_y_124 : 0 ≤ (y_124).toInt ∧ (y_124).toInt ≤ 1601 := dg_I.intb (lo := 0) (hi := 1601) I_122 sX_210 (by decide +kernel) f_y_124
                                  replace w_122_1 : S_122.2.1 211 = upd (S_96.2.1 211) (x_94 : Int32).toNatClampNeg (4 : Int32) ∧ S_122.2.1 213 = upd (S_96.2.1 213) (x_94 : Int32).toNatClampNeg x_109 := w_122_1
                                  obtain ⟨x_125, ex_125⟩ : ∃ z, z = x_93 + 1 := ⟨_, rfl⟩
                                  have jx_125 : (x_125).toInt = (x_93).toInt + 1 := by rw [ex_125]; exact dk_addT2 rfl (by decide +kernel) (by omega)
                                  refine lv_iinc (v := x_125) (lv' := [(2, .int x_125), (4, .int x_109), (3, .int x_92), (0, .ref (o + 210)), (1, .ref (o + 1))]) hx hb dX9_split_95 hl (k := 2) rfl (by rw [ex_125]; rfl) (dk_dq rfl) rfl (fun ls hl => ?_)
                                  obtain ⟨x_126, ex_126⟩ : ∃ z, z = x_92 + 1 := ⟨_, rfl⟩
                                  have jx_126 : (x_126).toInt = (x_92).toInt + 1 := by rw [ex_126]; exact dk_addT2 rfl (by decide +kernel) (by omega)
                                  refine lv_iinc (v := x_126) (lv' := [(3, .int x_126), (2, .int x_125), (4, .int x_109), (0, .ref (o + 210)), (1, .ref (o + 1))]) hx hb dX9_split_98 hl (k := 2) rfl (by rw [ex_126]; rfl) (dk_dq rfl) rfl (fun ls hl => ?_)
                                  refine lv_goto (tgt := 14) hx hb dX9_split_101 (dk_dq rfl) ?_
                                  exact ih x_126 x_125 y_124 x_95 (by omega) (by omega) (by omega) (by first | exact mu_lt hmu (by omega) (by omega) | omega) S_122 I_122 M_122 f_y_124 ((m_122.1 210 4 _ sX_210 (dk_dq rfl)).trans ff_96_4_210) (by omega) (t_inv_tok srel_96_1 (by have h8 := dk_clN le; have h9 := dk_clN x_93; omega) (t_b_f (by rw [kx_109]; omega) (by rw [kx_109]; omega)) srel_96_2 (by rw [t_en_sign (by rw [kx_109]; exact t_l_f (by omega)) (by rw [kx_109]; exact t_d_f (by omega))]; have h8 := dk_clN x_93; have h9 := dk_clN x_125; omega) (t_K_sign kx_109 (t_l_f (by omega)) (t_d_f (by omega))) (by rw [w_122_1.1]) (by rw [w_122_1.2]) (by omega) (by omega)) (t_adj_nx (by rw [kx_109]; exact t_l_f (by omega)) (by rw [kx_109]; exact t_d_f (by omega)) (by omega) (by omega) (by omega)) (by omega) _ _ hP hS _ (lv_sub hl [0, 1, 3, 4] rfl)
                      · as_aux_lemma =>
                          have jc_115 := dk_neqc (k := 0) (by decide +kernel) c_115
                          have qlw_114_1 : t_d x_109 = true := t_d_iff.mpr (by omega)
                          refine lv_aload_n hx hb dX9_split_63 rfl (lv_at hl 3 rfl) ?_
                          refine lv_aload_n hx hb dX9_split_64 rfl (lv_at hl 4 rfl) ?_
                          refine lv_iload_n hx hb dX9_split_65 rfl (lv_at hl 2 rfl) ?_
                          refine dg_calli hS hA1 hA (va_runV (As := [.ref (o + 1), .int x_93]) (rest := []) F (c_v_addNumber l g D o S_96 x_93 (by omega) tb x_94 ff_96_3_210 (by omega) x_95 ff_96_4_210 (by omega) le ((M_96.1 1 1 _ sX_1 (dk_dq rfl)).trans f_le) (by omega) x_109 ex_109.symm (by omega) ((M_96.2 2 _ sX_2 (dk_dq rfl)).1.trans htb) (by omega) I_96 H.size) (cwV 2 hts (bw_V wB_208 wB_209 wB_210 wB_188 wB_207) rfl rfl rfl (by decide +kernel) ⟨Nat.le_of_ble_eq_true rfl, Nat.le_of_ble_eq_true rfl⟩) (dg_preV sX_210 rfl K ST hP hS hA1 hA) rfl rfl hl.1 rfl (lv_room (Nat.le_of_ble_eq_true rfl)) dX9_split_66 ⟨Nat.le_of_ble_eq_true rfl, Nat.le_of_ble_eq_true rfl⟩) (fun x_127 S_128 hw_128 H locs hP hS => ?_)
                          obtain ⟨I_128, m_128, w_128_0, w_128_1, w_128_2, w_128_3, w_128_4, -⟩ := hw_128
                          have M_128 := dg_sm.tr M_96 m_128 (dk_dq rfl) (dk_dq rfl)
                          have w_128_0 : 1 ≤ (x_127).toInt ∧ (x_127).toInt ≤ 1600 := w_128_0
                          have w_128_1 : ((x_93).toInt < (x_127).toInt ∧ (x_127).toInt ≤ (le).toInt) ∧ t_en tb (le : Int32).toNatClampNeg (x_93 : Int32).toNatClampNeg = (x_127 : Int32).toNatClampNeg := w_128_1
                          obtain ⟨y_129, f_y_129, w_128_2⟩ := w_128_2
                          have w_128_2 : (y_129).toInt = (x_94).toInt + 1 := w_128_2
                          have b_y_129 : 0 ≤ (y_129).toInt ∧ (y_129).toInt ≤ 1601 := dg_I.intb (lo := 0) (hi := 1601) I_128 sX_210 (by decide +kernel) f_y_129
                          obtain ⟨y_130, f_y_130, w_128_3⟩ := w_128_3
                          have w_128_3 : (y_130).toInt = (x_127).toInt := w_128_3
                          replace w_128_4 : ∃ k8 v8 : Int32, (k8.toInt = t_K tb (x_93 : Int32).toNatClampNeg (x_127 : Int32).toNatClampNeg (decide ((x_95).toInt = (x_93).toInt)) ∧ v8.toInt = t_V tb (x_93 : Int32).toNatClampNeg (x_127 : Int32).toNatClampNeg (decide ((x_95).toInt = (x_93).toInt))) ∧ S_128.2.1 211 = upd (S_96.2.1 211) (x_94 : Int32).toNatClampNeg k8 ∧ S_128.2.1 213 = upd (S_96.2.1 213) (x_94 : Int32).toNatClampNeg v8 := w_128_4
                          obtain ⟨k8_x_127, v8_x_127, hk_x_127, hr_x_127, hs_x_127⟩ := w_128_4
                          refine lv_istore_n (lv' := [(2, .int x_127), (4, .int x_109), (3, .int x_92), (0, .ref (o + 210)), (1, .ref (o + 1))]) hx hb dX9_split_69 rfl hl (dk_dq rfl) rfl (fun ls hl => ?_)
                          refine lv_goto (tgt := 98) hx hb dX9_split_70 (dk_dq rfl) ?_
                          obtain ⟨x_131, ex_131⟩ : ∃ z, z = x_92 + 1 := ⟨_, rfl⟩
                          have jx_131 : (x_131).toInt = (x_92).toInt + 1 := by rw [ex_131]; exact dk_addT2 rfl (by decide +kernel) (by omega)
                          refine lv_iinc (v := x_131) (lv' := [(3, .int x_131), (2, .int x_127), (4, .int x_109), (0, .ref (o + 210)), (1, .ref (o + 1))]) hx hb dX9_split_98 hl (k := 2) rfl (by rw [ex_131]; rfl) (dk_dq rfl) rfl (fun ls hl => ?_)
                          refine lv_goto (tgt := 14) hx hb dX9_split_101 (dk_dq rfl) ?_
                          exact ih x_131 x_127 y_129 y_130 (by omega) (by omega) (by omega) (by first | exact mu_lt hmu (by omega) (by omega) | omega) S_128 I_128 M_128 f_y_129 f_y_130 (by omega) (t_inv_tok srel_96_1 (by have h8 := dk_clN le; have h9 := dk_clN x_93; omega) (t_b_f (by rw [kx_109]; omega) (by rw [kx_109]; omega)) srel_96_2 w_128_1.2 hk_x_127 (by rw [hr_x_127]) (by rw [hs_x_127]) (by omega) (by omega)) (t_adj_pl (by have h8 := dk_clN le; have h9 := dk_clN x_93; omega) (Or.inr (by rw [kx_109]; exact qlw_114_1)) w_128_1.2 (by omega)) (by omega) _ _ hP hS _ (lv_sub hl [0, 1, 3, 4] rfl)
                  · as_aux_lemma =>
                      have jc_112 := dk_neqc (k := 0) (by decide +kernel) c_112
                      have qlw_111_1 : t_l x_109 = true := t_l_iff.mpr (by omega)
                      refine lv_aload_n hx hb dX9_split_45 rfl (lv_at hl 3 rfl) ?_
                      refine lv_aload_n hx hb dX9_split_46 rfl (lv_at hl 4 rfl) ?_
                      refine lv_iload_n hx hb dX9_split_47 rfl (lv_at hl 2 rfl) ?_
                      refine dg_calli hS hA1 hA (va_runV (As := [.ref (o + 1), .int x_93]) (rest := []) F (c_v_addWord l g D o S_96 x_93 (by omega) tb x_94 ff_96_3_210 (by omega) x_95 ff_96_4_210 (by omega) le ((M_96.1 1 1 _ sX_1 (dk_dq rfl)).trans f_le) (by omega) x_109 ex_109.symm (by omega) ((M_96.2 2 _ sX_2 (dk_dq rfl)).1.trans htb) (by omega) I_96 H.size) (cwV 2 hts (bw_V wB_212 wB_213 wB_214 wB_188 wB_211) rfl rfl rfl (by decide +kernel) ⟨Nat.le_of_ble_eq_true rfl, Nat.le_of_ble_eq_true rfl⟩) (dg_preV sX_210 rfl K ST hP hS hA1 hA) rfl rfl hl.1 rfl (lv_room (Nat.le_of_ble_eq_true rfl)) dX9_split_48 ⟨Nat.le_of_ble_eq_true rfl, Nat.le_of_ble_eq_true rfl⟩) (fun x_132 S_133 hw_133 H locs hP hS => ?_)
                      obtain ⟨I_133, m_133, w_133_0, w_133_1, w_133_2, w_133_3, w_133_4, -⟩ := hw_133
                      have M_133 := dg_sm.tr M_96 m_133 (dk_dq rfl) (dk_dq rfl)
                      have w_133_0 : 1 ≤ (x_132).toInt ∧ (x_132).toInt ≤ 1600 := w_133_0
                      have w_133_1 : ((x_93).toInt < (x_132).toInt ∧ (x_132).toInt ≤ (le).toInt) ∧ t_en tb (le : Int32).toNatClampNeg (x_93 : Int32).toNatClampNeg = (x_132 : Int32).toNatClampNeg := w_133_1
                      obtain ⟨y_134, f_y_134, w_133_2⟩ := w_133_2
                      have w_133_2 : (y_134).toInt = (x_94).toInt + 1 := w_133_2
                      have b_y_134 : 0 ≤ (y_134).toInt ∧ (y_134).toInt ≤ 1601 := dg_I.intb (lo := 0) (hi := 1601) I_133 sX_210 (by decide +kernel) f_y_134
                      obtain ⟨y_135, f_y_135, w_133_3⟩ := w_133_3
                      have w_133_3 : (y_135).toInt = (x_132).toInt := w_133_3
                      replace w_133_4 : ∃ k8 v8 : Int32, (k8.toInt = t_K tb (x_93 : Int32).toNatClampNeg (x_132 : Int32).toNatClampNeg (decide ((x_95).toInt = (x_93).toInt)) ∧ v8.toInt = t_V tb (x_93 : Int32).toNatClampNeg (x_132 : Int32).toNatClampNeg (decide ((x_95).toInt = (x_93).toInt))) ∧ S_133.2.1 211 = upd (S_96.2.1 211) (x_94 : Int32).toNatClampNeg k8 ∧ S_133.2.1 213 = upd (S_96.2.1 213) (x_94 : Int32).toNatClampNeg v8 := w_133_4
                      obtain ⟨k8_x_132, v8_x_132, hk_x_132, hr_x_132, hs_x_132⟩ := w_133_4
                      refine lv_istore_n (lv' := [(2, .int x_132), (4, .int x_109), (3, .int x_92), (0, .ref (o + 210)), (1, .ref (o + 1))]) hx hb dX9_split_51 rfl hl (dk_dq rfl) rfl (fun ls hl => ?_)
                      refine lv_goto (tgt := 98) hx hb dX9_split_52 (dk_dq rfl) ?_
                      obtain ⟨x_136, ex_136⟩ : ∃ z, z = x_92 + 1 := ⟨_, rfl⟩
                      have jx_136 : (x_136).toInt = (x_92).toInt + 1 := by rw [ex_136]; exact dk_addT2 rfl (by decide +kernel) (by omega)
                      refine lv_iinc (v := x_136) (lv' := [(3, .int x_136), (2, .int x_132), (4, .int x_109), (0, .ref (o + 210)), (1, .ref (o + 1))]) hx hb dX9_split_98 hl (k := 2) rfl (by rw [ex_136]; rfl) (dk_dq rfl) rfl (fun ls hl => ?_)
                      refine lv_goto (tgt := 14) hx hb dX9_split_101 (dk_dq rfl) ?_
                      exact ih x_136 x_132 y_134 y_135 (by omega) (by omega) (by omega) (by first | exact mu_lt hmu (by omega) (by omega) | omega) S_133 I_133 M_133 f_y_134 f_y_135 (by omega) (t_inv_tok srel_96_1 (by have h8 := dk_clN le; have h9 := dk_clN x_93; omega) (t_b_f (by rw [kx_109]; omega) (by rw [kx_109]; omega)) srel_96_2 w_133_1.2 hk_x_132 (by rw [hr_x_132]) (by rw [hs_x_132]) (by omega) (by omega)) (t_adj_pl (by have h8 := dk_clN le; have h9 := dk_clN x_93; omega) (Or.inl (by rw [kx_109]; exact qlw_111_1)) w_133_1.2 (by omega)) (by omega) _ _ hP hS _ (lv_sub hl [0, 1, 3, 4] rfl)
  have hz_137 : (0 : Int32).toInt = 0 := by decide +kernel
  have hz_138 : (0 : Int32).toInt = 0 := by decide +kernel
  have hz_139 : (0 : Int32).toInt = 0 := by decide +kernel
  have hz_140 : (0 : Int32).toInt = 0 := by decide +kernel
  have hz_141 : (0 : Int32).toInt = 0 := by decide +kernel
  have hz_142 : (0 : Int32).toInt = 0 := by decide +kernel
  have hz_143 : (-1 : Int32).toInt = (-1) := by decide +kernel
  exact L_97 ((1601 - ((0 : Int32)).toInt).toNat + 1) 0 0 0 (-1) (by decide +kernel) (by decide +kernel) (by decide +kernel) (by first | exact mu_lt hmu (by omega) (by omega) | omega) S_4 I_4 M_4 ((dg_uF_ne e_4 (fun z => absurd z.2 (dk_dq rfl))).trans (dg_uF_at e_2)) (dg_uF_at e_4) (by omega) (t_inv_z (by omega) (by decide +kernel)) (t_adj_0 (by decide +kernel) (by decide +kernel)) (by omega) _ _ hP hS _ (lv_sub hl [0, 1, 2, 3] rfl)
