/-! 12.pass.lean.txt -/
theorem dX10_pass_0 : decode cX10_pass 0 = .ok (.iconst 0, 1) := dk_o3 (by decide +kernel)
theorem dX10_pass_1 : decode cX10_pass 1 = .ok (.istore_n 2, 1) := dk_o61 (by decide +kernel)
theorem dX10_pass_2 : decode cX10_pass 2 = .ok (.iload_n 2, 1) := dk_o28 (by decide +kernel)
theorem dX10_pass_3 : decode cX10_pass 3 = .ok (.iload_n 1, 1) := dk_o27 (by decide +kernel)
theorem dX10_pass_4 : decode cX10_pass 4 = .ok (.if_icmp .ge 52, 3) := dk_o162 (by decide +kernel)
theorem dX10_pass_7 : decode cX10_pass 7 = .ok (.aload_n 0, 1) := dk_o42 (by decide +kernel)
theorem dX10_pass_8 : decode cX10_pass 8 = .ok (.iconst (-1), 1) := dk_o2 (by decide +kernel)
theorem dX10_pass_9 : decode cX10_pass 9 = .ok (.putfield 31, 3) := dk_o181 (by decide +kernel)
theorem dX10_pass_12 : decode cX10_pass 12 = .ok (.aload_n 0, 1) := dk_o42 (by decide +kernel)
theorem dX10_pass_13 : decode cX10_pass 13 = .ok (.invokevirtual 56, 3) := dk_o182 (by decide +kernel)
theorem dX10_pass_16 : decode cX10_pass 16 = .ok (.aload_n 0, 1) := dk_o42 (by decide +kernel)
theorem dX10_pass_17 : decode cX10_pass 17 = .ok (.invokevirtual 88, 3) := dk_o182 (by decide +kernel)
theorem dX10_pass_20 : decode cX10_pass 20 = .ok (.aload_n 0, 1) := dk_o42 (by decide +kernel)
theorem dX10_pass_21 : decode cX10_pass 21 = .ok (.invokevirtual 56, 3) := dk_o182 (by decide +kernel)
theorem dX10_pass_24 : decode cX10_pass 24 = .ok (.aload_n 0, 1) := dk_o42 (by decide +kernel)
theorem dX10_pass_25 : decode cX10_pass 25 = .ok (.invokevirtual 91, 3) := dk_o182 (by decide +kernel)
theorem dX10_pass_28 : decode cX10_pass 28 = .ok (.aload_n 0, 1) := dk_o42 (by decide +kernel)
theorem dX10_pass_29 : decode cX10_pass 29 = .ok (.getfield 45, 3) := dk_o180 (by decide +kernel)
theorem dX10_pass_32 : decode cX10_pass 32 = .ok (.sipush 999, 3) := dk_o17 (by decide +kernel)
theorem dX10_pass_35 : decode cX10_pass 35 = .ok (.aload_n 0, 1) := dk_o42 (by decide +kernel)
theorem dX10_pass_36 : decode cX10_pass 36 = .ok (.getfield 45, 3) := dk_o180 (by decide +kernel)
theorem dX10_pass_39 : decode cX10_pass 39 = .ok (.getfield 94, 3) := dk_o180 (by decide +kernel)
theorem dX10_pass_42 : decode cX10_pass 42 = .ok (.iconst 1, 1) := dk_o4 (by decide +kernel)
theorem dX10_pass_43 : decode cX10_pass 43 = .ok (.iadd, 1) := dk_o96 (by decide +kernel)
theorem dX10_pass_44 : decode cX10_pass 44 = .ok (.invokestatic 97, 3) := dk_o184 (by decide +kernel)
theorem dX10_pass_47 : decode cX10_pass 47 = .ok (.putfield 94, 3) := dk_o181 (by decide +kernel)
theorem dX10_pass_50 : decode cX10_pass 50 = .ok (.iinc 2 1, 3) := dk_o132 (by decide +kernel)
theorem dX10_pass_53 : decode cX10_pass 53 = .ok (.goto (-51), 3) := dk_o167 (by decide +kernel)
theorem dX10_pass_56 : decode cX10_pass 56 = .ok (.return_, 1) := dk_o177 (by decide +kernel)
theorem wB_646 : Cond.code yX10_digByPlan cX10_digByPlan 5 none ∈ dgB := List.mem_filter.mpr ⟨tbl_5 _ (List.mem_of_getElem? (i := 103) rfl), rfl⟩
theorem wB_647 : Cond.methodLink RX10 88 yX10_digByPlan ∈ dgB := List.mem_filter.mpr ⟨tbl_5 _ (List.mem_of_getElem? (i := 100) (by decide +kernel)), by decide +kernel⟩
theorem wB_648 : Cond.instanceMethod yX10_digByPlan ∈ dgB := List.mem_filter.mpr ⟨tbl_5 _ (List.mem_of_getElem? (i := 102) (by decide +kernel)), by decide +kernel⟩
theorem wB_649 : Cond.selects RX10 yX10_digByPlan yX10_digByPlan ∈ dgB := List.mem_filter.mpr ⟨List.mem_of_getElem? (i := 57) (by decide +kernel), by decide +kernel⟩
theorem wB_650 : Cond.code yX10_spoilExposed cX10_spoilExposed 5 none ∈ dgB := List.mem_filter.mpr ⟨tbl_5 _ (List.mem_of_getElem? (i := 118) rfl), rfl⟩
theorem wB_651 : Cond.methodLink RX10 91 yX10_spoilExposed ∈ dgB := List.mem_filter.mpr ⟨tbl_5 _ (List.mem_of_getElem? (i := 115) (by decide +kernel)), by decide +kernel⟩
theorem wB_652 : Cond.instanceMethod yX10_spoilExposed ∈ dgB := List.mem_filter.mpr ⟨tbl_5 _ (List.mem_of_getElem? (i := 117) (by decide +kernel)), by decide +kernel⟩
theorem wB_653 : Cond.selects RX10 yX10_spoilExposed yX10_spoilExposed ∈ dgB := List.mem_filter.mpr ⟨List.mem_of_getElem? (i := 58) (by decide +kernel), by decide +kernel⟩
noncomputable def F_w_pass_J2 (o : Nat) (S_78 : dg_S) (S : dg_S) (x_66 : Int32) : (Int32 × dg_S) ⊕ (dg_S) := let S_79 : dg_S := F_w_spoilExposed o S_78; let d_80 : Nat := zR o S 214 7; let x_81 : Int32 := zI S_79 d_80 0; let x_82 : Int32 := x_81 + (1 : Int32); let x_83 : Int32 := if x_82 < (999 : Int32) then x_82 else (999 : Int32); let S_84 : dg_S := dg_uF S_79 d_80 0 (.int x_83); let x_85 : Int32 := x_66 + 1; (Sum.inl (x_85, S_84))
noncomputable def F_w_pass_B1 (a1 : Int32) (o : Nat) (S : dg_S) : (Int32 × dg_S) → (Int32 × dg_S) ⊕ (dg_S) := fun w9 => match w9 with | (x_66, S_67) => (if a1 ≤ x_66 then (Sum.inr ((S_67))) else let S_75 : dg_S := dg_uF S_67 214 10 (.int (-1 : Int32)); let S_76 : dg_S := F_w_spreadLight o S_75; let S_77 : dg_S := F_w_digByPlan o S_76; let S_78 : dg_S := F_w_spreadLight o S_77; (F_w_pass_J2 o S_78 S x_66))
noncomputable def F_w_pass (o : Nat) (S : dg_S) (a1 : Int32) : dg_S := (lp (F_w_pass_B1 a1 o S) S ((2147483648 - ((0 : Int32)).toInt).toNat + 1) ((0 : Int32), S))
theorem F_w_pass_p0 {a1 : Int32} {o : Nat} {S : dg_S} {x_66 : Int32} {S_67 : dg_S} (h0 : a1 ≤ x_66) : (F_w_pass_B1 a1 o S) (x_66, S_67) = Sum.inr (S_67) := (Eq.trans (if_pos h0) rfl)
theorem F_w_pass_p1 {o : Nat} {S_78 : dg_S} {S : dg_S} {x_66 : Int32} {x_85 : Int32} {S_84 : dg_S} {S_79 : dg_S} {d_80 : Nat} {x_81 : Int32} {x_82 : Int32} {x_83 : Int32} (h0 : S_79 = F_w_spoilExposed o S_78) (h1 : d_80 = zR o S 214 7) (h2 : x_81 = zI S_79 d_80 0) (h3 : x_82 = x_81 + (1 : Int32)) (h4 : x_83 = if x_82 < (999 : Int32) then x_82 else (999 : Int32)) (h5 : S_84 = dg_uF S_79 d_80 0 (.int x_83)) (h6 : x_85 = x_66 + 1) : F_w_pass_J2 o S_78 S x_66 = Sum.inl (x_85, S_84) := by
  replace h0 := Eq.symm h0
  subst h0
  replace h1 := Eq.symm h1
  subst h1
  replace h2 := Eq.symm h2
  subst h2
  replace h3 := Eq.symm h3
  subst h3
  replace h4 := Eq.symm h4
  subst h4
  replace h5 := Eq.symm h5
  subst h5
  replace h6 := Eq.symm h6
  subst h6
  exact rfl
theorem F_w_pass_p2 {a1 : Int32} {o : Nat} {S : dg_S} {x_66 : Int32} {S_67 : dg_S} {S_78 : dg_S} {S_75 : dg_S} {S_76 : dg_S} {S_77 : dg_S} (h0 : ¬ (a1 ≤ x_66)) (h1 : S_75 = dg_uF S_67 214 10 (.int (-1 : Int32))) (h2 : S_76 = F_w_spreadLight o S_75) (h3 : S_77 = F_w_digByPlan o S_76) (h4 : S_78 = F_w_spreadLight o S_77) : (F_w_pass_B1 a1 o S) (x_66, S_67) = F_w_pass_J2 o S_78 S x_66 := by
  replace h1 := Eq.symm h1
  subst h1
  replace h2 := Eq.symm h2
  subst h2
  replace h3 := Eq.symm h3
  subst h3
  replace h4 := Eq.symm h4
  subst h4
  exact (Eq.trans (if_neg h0) rfl)
theorem F_w_pass_p3 {o : Nat} {S : dg_S} {a1 : Int32}  : F_w_pass o S a1 = lp (F_w_pass_B1 a1 o S) S ((2147483648 - ((0 : Int32)).toInt).toNat + 1) ((0 : Int32), S) := rfl
set_option maxHeartbeats 8000000 in
set_option maxRecDepth 100000 in
theorem c_w_pass (l : Launch) (g : Nat → ClassId) (D : va_G) (o : Nat) (S : dg_S) (a1 : Int32) (Z2 : Z2X S) (Z3 : Z3X o S) (I : CX o S) (sz : Nat) : Met l yX10_pass (bw yX10_pass cX10_pass 3 none) ({ frames := 5, cells := 0, slots := 0, locals := 127 } : Room) (dk_Pc g D (dg_w g shX o rfX S) sz [.ref (o + 214), .int a1]) (va_Qv (fun S' => CX o S' ∧ dg_sm shX [(3, 0), (36, 4), (36, 9), (36, 10), (36, 11), (36, 12), (37, 0), (37, 1), (37, 2), (37, 3), (37, 4), (37, 5), (37, 7)] [4, 5, 9, 38, 39, 40, 41, 42] S S' ∧ Z2X S' ∧ Z3X o S' ∧ dg_FG S S' ∧ (S' = F_w_pass o S a1) ∧ True) (dg_B g D shX o rfX) (dg_A o shX.length sz)) 0 0 (dg_A o shX.length sz) := by
  refine dg_met (cc := cX10_pass) (maxL := 3) (ret := none) (dk_dq rfl) rfl (Nat.le_of_ble_eq_true rfl) ?_
  intro p e s m args below meth c A hAe harg hx hb hr hml hts hown hlocks hin hP K hS hA1 hA ST hsz ls hl
  rw [← hAe]
  have F : CallFix p m c cX10_pass 3 s args (bw yX10_pass cX10_pass 3 none) RX10 := ⟨hx, hb, hml, hown, hts⟩
  have hl : lv_has ls 3 [(0, .ref (o + 214)), (1, .int a1)] := hl
  have M_0 : dg_sm shX [(3, 0), (36, 4), (36, 9), (36, 10), (36, 11), (36, 12), (37, 0), (37, 1), (37, 2), (37, 3), (37, 4), (37, 5), (37, 7)] [4, 5, 9, 38, 39, 40, 41, 42] S S := dg_sm.rf
  refine lv_iconst (v := 0) hx hb dX10_pass_0 (by decide +kernel) ?_
  refine lv_istore_n (lv' := [(2, .int 0), (0, .ref (o + 214)), (1, .int a1)]) hx hb dX10_pass_1 rfl hl (dk_dq rfl) rfl (fun ls hl => ?_)
  have L_68 : ∀ (n : Nat) (x_66 : Int32), (0 ≤ (x_66).toInt ∧ (x_66).toInt ≤ 2147483647) → ((2147483648 - (x_66).toInt).toNat < n) → ∀ S_67 : dg_S, CX o S_67 → dg_sm shX [(3, 0), (36, 4), (36, 9), (36, 10), (36, 11), (36, 12), (37, 0), (37, 1), (37, 2), (37, 3), (37, 4), (37, 5), (37, 7)] [4, 5, 9, 38, 39, 40, 41, 42] S S_67 → dg_FG S S_67 → Z2X S_67 → Z3X o S_67 → (F_w_pass o S a1 = lp (F_w_pass_B1 a1 o S) S n (x_66, S_67)) → ∀ (H : Heap) (locs : List Loc), va_P D vwCl (dg_w g shX o rfX S_67) H → va_S A s.heap H locs → ∀ ls : Array Slot, lv_has ls 3 [(2, .int x_66), (0, .ref (o + 214)), (1, .int a1)] → W p l e ({ frames := 5, cells := 0, slots := 0, locals := 127 } : Room) s m args below meth c H locs 0 0 (MQ below (va_Qv (fun S' => CX o S' ∧ dg_sm shX [(3, 0), (36, 4), (36, 9), (36, 10), (36, 11), (36, 12), (37, 0), (37, 1), (37, 2), (37, 3), (37, 4), (37, 5), (37, 7)] [4, 5, 9, 38, 39, 40, 41, 42] S S' ∧ Z2X S' ∧ Z3X o S' ∧ dg_FG S S' ∧ (S' = F_w_pass o S a1) ∧ True) (dg_B g D shX o rfX) A) args s 0 0 A) (F0 m 2 ls []) := by
    as_aux_lemma =>
      intro n
      induction n with
      | zero =>
        intro x_66 b_x_66 hmu S_67 I_67 M_67 G_67 Z2_67 Z3_67 hF_1 H locs hP hS ls hl
        omega
      | succ n ih =>
        as_aux_lemma =>
          intro x_66 b_x_66 hmu S_67 I_67 M_67 G_67 Z2_67 Z3_67 hF_1 H locs hP hS ls hl
          refine lv_iload_n hx hb dX10_pass_2 rfl (lv_at hl 0 rfl) ?_
          refine lv_iload_n hx hb dX10_pass_3 rfl (lv_at hl 2 rfl) ?_
          refine lv_icmp_ge (tgt := 56) hx hb dX10_pass_4 (dk_dq rfl) (fun c_69 => ?_) (fun c_69 => ?_)
          · have hf_69 := dk_full x_66
            have hf_70 := dk_full a1
            have jc_69 := dk_gec (k := (a1).toInt) rfl c_69
            refine W.widen (k := 0) (n := 0) (Nat.le_of_ble_eq_true rfl) (Nat.le_of_ble_eq_true rfl) ?_
            exact dg_vret hx hb hr hlocks hP hS ⟨I_67, M_67, Z2_67, Z3_67, G_67, (Eq.symm (lp_r hF_1 (F_w_pass_p0 c_69))), trivial⟩ dX10_pass_56
          · as_aux_lemma =>
              have hf_71 := dk_full x_66
              have hf_72 := dk_full a1
              have jc_69 := dk_ngec (k := (a1).toInt) rfl c_69
              refine lv_aload_n hx hb dX10_pass_7 rfl (lv_at hl 1 rfl) ?_
              refine lv_iconst (v := (-1)) hx hb dX10_pass_8 (by decide +kernel) ?_
              have hz_74 : (-1 : Int32).toInt = (-1) := by decide +kernel
              refine dg_put (ci := 10) (v := .int (-1)) (ty := tyX10 10) (C := RX10) (T := TX10) (N := 13) hx hb hts (fun w h => bw_mem (wU_X10 w h)) tyX10 tyX10_ok nmX10 hown K hP hS hA1 sX_214 rfl 10 (dk_dq rfl) (hts _ (bw_mem wB_634)) (fun _ h9 => h9) rfl (by decide +kernel) rfl rfl dX10_pass_9 (fun S_75 e_75 H locs hP hS => ?_)
              have I_75 := dg_I.uFi (lo := (-2147483648)) (hi := 2147483647) I_67 e_75 sX_214 (by decide +kernel) (show (-2147483648) ≤ ((-1 : Int32)).toInt ∧ ((-1 : Int32)).toInt ≤ 2147483647 from (by decide +kernel))
              have M_75 := dg_sm.uF M_67 e_75 sX_214 (dk_dq rfl)
              refine lv_aload_n hx hb dX10_pass_12 rfl (lv_at hl 1 rfl) ?_
              refine dg_callv hS hA1 hA (va_runV (As := []) (rest := []) F (c_w_spreadLight l g D o S_75 (Z2X.keep Z2_67 (dg_sm.uF (WF := [(36, 10)]) (WA := []) dg_sm.rf e_75 sX_214 (dk_dq rfl)) (dk_dq rfl) (dk_dq rfl)) (Z3X.keep Z3_67 (dg_sm.uF (WF := [(36, 10)]) (WA := []) dg_sm.rf e_75 sX_214 (dk_dq rfl)) (dg_FG.uF e_75) (dk_dq rfl)) I_75 H.size) (cwV 0 hts (bw_V wB_600 wB_601 wB_602 wB_594 wB_599) rfl rfl rfl (by decide +kernel) ⟨Nat.le_of_ble_eq_true rfl, Nat.le_of_ble_eq_true rfl⟩) (dg_preV sX_214 rfl K ST hP hS hA1 hA) rfl rfl hl.1 rfl (lv_room (Nat.le_of_ble_eq_true rfl)) dX10_pass_13 ⟨Nat.le_of_ble_eq_true rfl, Nat.le_of_ble_eq_true rfl⟩) (fun S_76 hw_76 H locs hP hS => ?_)
              obtain ⟨I_76, m_76, w_76_0, w_76_1, -⟩ := hw_76
              have M_76 := dg_sm.tr M_75 m_76 (dk_dq rfl) (dk_dq rfl)
              refine lv_aload_n hx hb dX10_pass_16 rfl (lv_at hl 1 rfl) ?_
              refine dg_callv hS hA1 hA (va_runV (As := []) (rest := []) F (c_w_digByPlan l g D o S_76 (Z3X.keep (Z3X.keep Z3_67 (dg_sm.uF (WF := [(36, 10)]) (WA := []) dg_sm.rf e_75 sX_214 (dk_dq rfl)) (dg_FG.uF e_75) (dk_dq rfl)) m_76 (dg_FG.sm m_76 (dk_dq rfl)) (dk_dq rfl)) I_76 H.size) (cwV 0 hts (bw_V wB_647 wB_648 wB_649 wB_594 wB_646) rfl rfl rfl (by decide +kernel) ⟨Nat.le_of_ble_eq_true rfl, Nat.le_of_ble_eq_true rfl⟩) (dg_preV sX_214 rfl K ST hP hS hA1 hA) rfl rfl hl.1 rfl (lv_room (Nat.le_of_ble_eq_true rfl)) dX10_pass_17 ⟨Nat.le_of_ble_eq_true rfl, Nat.le_of_ble_eq_true rfl⟩) (fun S_77 hw_77 H locs hP hS => ?_)
              obtain ⟨I_77, m_77, w_77_0, w_77_1, w_77_2, -⟩ := hw_77
              have M_77 := dg_sm.tr M_76 m_77 (dk_dq rfl) (dk_dq rfl)
              refine lv_aload_n hx hb dX10_pass_20 rfl (lv_at hl 1 rfl) ?_
              refine dg_callv hS hA1 hA (va_runV (As := []) (rest := []) F (c_w_spreadLight l g D o S_77 (Z2X.keep w_76_0 m_77 (dk_dq rfl) (dk_dq rfl)) w_77_0 I_77 H.size) (cwV 0 hts (bw_V wB_600 wB_601 wB_602 wB_594 wB_599) rfl rfl rfl (by decide +kernel) ⟨Nat.le_of_ble_eq_true rfl, Nat.le_of_ble_eq_true rfl⟩) (dg_preV sX_214 rfl K ST hP hS hA1 hA) rfl rfl hl.1 rfl (lv_room (Nat.le_of_ble_eq_true rfl)) dX10_pass_21 ⟨Nat.le_of_ble_eq_true rfl, Nat.le_of_ble_eq_true rfl⟩) (fun S_78 hw_78 H locs hP hS => ?_)
              obtain ⟨I_78, m_78, w_78_0, w_78_1, -⟩ := hw_78
              have M_78 := dg_sm.tr M_77 m_78 (dk_dq rfl) (dk_dq rfl)
              have hF_2 : (F_w_pass_B1 a1 o S) (x_66, S_67) = F_w_pass_J2 o S_78 S x_66 := (F_w_pass_p2 c_69 e_75 w_76_1 w_77_2 w_78_1)
              refine lv_aload_n hx hb dX10_pass_24 rfl (lv_at hl 1 rfl) ?_
              refine dg_callv hS hA1 hA (va_runV (As := []) (rest := []) F (c_w_spoilExposed l g D o S_78 w_78_0 (Z3X.keep w_77_0 m_78 (dg_FG.sm m_78 (dk_dq rfl)) (dk_dq rfl)) I_78 H.size) (cwV 0 hts (bw_V wB_651 wB_652 wB_653 wB_594 wB_650) rfl rfl rfl (by decide +kernel) ⟨Nat.le_of_ble_eq_true rfl, Nat.le_of_ble_eq_true rfl⟩) (dg_preV sX_214 rfl K ST hP hS hA1 hA) rfl rfl hl.1 rfl (lv_room (Nat.le_of_ble_eq_true rfl)) dX10_pass_25 ⟨Nat.le_of_ble_eq_true rfl, Nat.le_of_ble_eq_true rfl⟩) (fun S_79 hw_79 H locs hP hS => ?_)
              obtain ⟨I_79, m_79, w_79_0, w_79_1, w_79_2, -⟩ := hw_79
              have M_79 := dg_sm.tr M_78 m_79 (dk_dq rfl) (dk_dq rfl)
              refine lv_aload_n hx hb dX10_pass_28 rfl (lv_at hl 1 rfl) ?_
              obtain ⟨d_80, hk_d_80, f_d_80⟩ := dg_I.one (i := 214) (k := 7) (d := 1) I sX_214 (by decide +kernel)
              have hk_d_80 : pX d_80 := hk_d_80
              refine dg_get (C := RX10) (T := TX10) (N := 13) hx hb hts (fun w h => bw_mem (wU_X10 w h)) hown K hP sX_214 rfl 7 (dk_dq rfl) (hts _ (bw_mem wB_578)) (fun _ h9 => h9) (v := .ref (o + d_80)) (((m_79.1 214 7 _ sX_214 (dk_dq rfl)).trans ((m_78.1 214 7 _ sX_214 (dk_dq rfl)).trans ((m_77.1 214 7 _ sX_214 (dk_dq rfl)).trans ((m_76.1 214 7 _ sX_214 (dk_dq rfl)).trans ((dg_uF_ne e_75 (fun z => absurd z.2 (dk_dq rfl))).trans (M_67.1 214 7 _ sX_214 (dk_dq rfl))))))).trans f_d_80) dX10_pass_29 ?_
              refine lv_sipush (v := 999) hx hb dX10_pass_32 (by decide +kernel) ?_
              refine lv_aload_n hx hb dX10_pass_35 rfl (lv_at hl 1 rfl) ?_
              refine dg_get (C := RX10) (T := TX10) (N := 13) hx hb hts (fun w h => bw_mem (wU_X10 w h)) hown K hP sX_214 rfl 7 (dk_dq rfl) (hts _ (bw_mem wB_578)) (fun _ h9 => h9) (v := .ref (o + d_80)) (((m_79.1 214 7 _ sX_214 (dk_dq rfl)).trans ((m_78.1 214 7 _ sX_214 (dk_dq rfl)).trans ((m_77.1 214 7 _ sX_214 (dk_dq rfl)).trans ((m_76.1 214 7 _ sX_214 (dk_dq rfl)).trans ((dg_uF_ne e_75 (fun z => absurd z.2 (dk_dq rfl))).trans (M_67.1 214 7 _ sX_214 (dk_dq rfl))))))).trans f_d_80) dX10_pass_36 ?_
              obtain ⟨x_81, f_x_81, b_x_81⟩ := dg_I.int (i := d_80) (k := 0) (lo := 0) (hi := 65535) I_79 (pX_0 d_80 hk_d_80) (by decide +kernel)
              refine dg_get (C := RX5) (T := TX5) (N := 8) hx hb hts (fun w h => bw_mem (wU_X5 w h)) hown K hP (pX_0 d_80 hk_d_80) rfl 0 (dk_dq rfl) (hts _ (bw_mem wB_613)) (fun _ h9 => h9) (v := .int x_81) f_x_81 dX10_pass_39 ?_
              refine lv_iconst (v := 1) hx hb dX10_pass_42 (by decide +kernel) ?_
              refine lv_iadd hx hb dX10_pass_43 ?_
              refine lv_topi (fun x_82 ex_82 => ?_)
              have jx_82 : (x_82).toInt = (x_81).toInt + 1 := by rw [ex_82]; exact dk_addT2 rfl (by decide +kernel) (by omega)
              refine va_mmin hx hb (by rw [hml]; exact hl.1.symm) hown (hts _ (bw_mem wB_636)) (hts _ (bw_mem wB_504)) (hts _ (bw_mem wB_505)) (hts _ (bw_mem wB_506)) (Nat.le_of_ble_eq_true rfl) (Nat.le_of_ble_eq_true rfl) (Nat.le_of_ble_eq_true rfl) (Nat.le_of_ble_eq_true rfl) dX10_pass_44 ?_
              refine lv_topi (fun x_83 ex_83 => ?_)
              have jx_83 := dk_minT (a := 999) (b := (x_82).toInt) (by decide +kernel) rfl ex_83
              refine dg_put (ci := 5) (v := .int x_83) (ty := tyX5 0) (C := RX5) (T := TX5) (N := 8) hx hb hts (fun w h => bw_mem (wU_X5 w h)) tyX5 tyX5_ok nmX5 hown K hP hS hA1 (pX_0 d_80 hk_d_80) rfl 0 (dk_dq rfl) (hts _ (bw_mem wB_613)) (fun _ h9 => h9) rfl (by decide +kernel) rfl rfl dX10_pass_47 (fun S_84 e_84 H locs hP hS => ?_)
              have I_84 := dg_I.uFi (lo := 0) (hi := 65535) I_79 e_84 (pX_0 d_80 hk_d_80) (by decide +kernel) (show 0 ≤ (x_83).toInt ∧ (x_83).toInt ≤ 65535 from (by omega))
              have M_84 := dg_sm.uF M_79 e_84 (pX_0 d_80 hk_d_80) (dk_dq rfl)
              obtain ⟨x_85, ex_85⟩ : ∃ z, z = x_66 + 1 := ⟨_, rfl⟩
              have jx_85 : (x_85).toInt = (x_66).toInt + 1 := by rw [ex_85]; exact dk_addT2 rfl (by decide +kernel) (by omega)
              refine lv_iinc (v := x_85) (lv' := [(2, .int x_85), (0, .ref (o + 214)), (1, .int a1)]) hx hb dX10_pass_50 hl (k := 0) rfl (by rw [ex_85]; rfl) (dk_dq rfl) rfl (fun ls hl => ?_)
              refine lv_goto (tgt := 2) hx hb dX10_pass_53 (dk_dq rfl) ?_
              have hf_85 := dk_full x_85
              exact ih x_85 (by omega) (by first | exact mu_lt hmu (by omega) (by omega) | omega) S_84 I_84 M_84 (dg_FG.tr (dg_FG.tr (dg_FG.tr (dg_FG.tr (dg_FG.tr (dg_FG.tr G_67 (dg_FG.uF e_75)) (dg_FG.sm m_76 (dk_dq rfl))) w_77_1) (dg_FG.sm m_78 (dk_dq rfl))) w_79_1) (dg_FG.uF e_84)) (Z2X.keep (Z2X.keep w_78_0 m_79 (dk_dq rfl) (dk_dq rfl)) (dg_sm.uF (WF := [(3, 0)]) (WA := []) dg_sm.rf e_84 (pX_0 d_80 hk_d_80) (dk_dq rfl)) (dk_dq rfl) (dk_dq rfl)) (Z3X.keep w_79_0 (dg_sm.uF (WF := [(3, 0)]) (WA := []) dg_sm.rf e_84 (pX_0 d_80 hk_d_80) (dk_dq rfl)) (dg_FG.uF e_84) (dk_dq rfl)) (lp_l hF_1 (Eq.trans hF_2 (F_w_pass_p1 w_79_2 (zR_eq f_d_80) (zI_eq f_x_81) ex_82 ex_83 e_84 ex_85))) _ _ hP hS _ (lv_sub hl [0, 1, 2] rfl)
  have hz_87 : (0 : Int32).toInt = 0 := by decide +kernel
  have hz_88 : (0 : Int32).toInt = 0 := by decide +kernel
  exact L_68 ((2147483648 - ((0 : Int32)).toInt).toNat + 1) 0 (by decide +kernel) (by first | exact mu_lt hmu (by omega) (by omega) | omega) S I M_0 dg_FG.rf Z2 Z3 (F_w_pass_p3) _ _ hP hS _ (lv_sub hl [0, 1, 2] rfl)
