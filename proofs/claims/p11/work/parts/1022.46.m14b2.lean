/-! 46.m14b2.lean.txt -/
theorem dX12_ordering_0 : decode cX12_ordering 0 = .ok (.aload_n 0, 1) := dk_o42 (by decide +kernel)
theorem dX12_ordering_1 : decode cX12_ordering 1 = .ok (.aload_n 0, 1) := dk_o42 (by decide +kernel)
theorem dX12_ordering_2 : decode cX12_ordering 2 = .ok (.getfield 84, 3) := dk_o180 (by decide +kernel)
theorem dX12_ordering_5 : decode cX12_ordering 5 = .ok (.aload_n 0, 1) := dk_o42 (by decide +kernel)
theorem dX12_ordering_6 : decode cX12_ordering 6 = .ok (.getfield 118, 3) := dk_o180 (by decide +kernel)
theorem dX12_ordering_9 : decode cX12_ordering 9 = .ok (.iaload, 1) := dk_o46 (by decide +kernel)
theorem dX12_ordering_10 : decode cX12_ordering 10 = .ok (.iconst 5, 1) := dk_o8 (by decide +kernel)
theorem dX12_ordering_11 : decode cX12_ordering 11 = .ok (.if_icmp .ne 7, 3) := dk_o160 (by decide +kernel)
theorem dX12_ordering_14 : decode cX12_ordering 14 = .ok (.iconst 1, 1) := dk_o4 (by decide +kernel)
theorem dX12_ordering_15 : decode cX12_ordering 15 = .ok (.goto 4, 3) := dk_o167 (by decide +kernel)
theorem dX12_ordering_18 : decode cX12_ordering 18 = .ok (.iconst 0, 1) := dk_o3 (by decide +kernel)
theorem dX12_ordering_19 : decode cX12_ordering 19 = .ok (.invokevirtual 382, 3) := dk_o182 (by decide +kernel)
theorem dX12_ordering_22 : decode cX12_ordering 22 = .ok (.ifCond .ne 4, 3) := dk_o154 (by decide +kernel)
theorem dX12_ordering_25 : decode cX12_ordering 25 = .ok (.return_, 1) := dk_o177 (by decide +kernel)
theorem dX12_ordering_26 : decode cX12_ordering 26 = .ok (.iconst 5, 1) := dk_o8 (by decide +kernel)
theorem dX12_ordering_27 : decode cX12_ordering 27 = .ok (.aload_n 0, 1) := dk_o42 (by decide +kernel)
theorem dX12_ordering_28 : decode cX12_ordering 28 = .ok (.getfield 118, 3) := dk_o180 (by decide +kernel)
theorem dX12_ordering_31 : decode cX12_ordering 31 = .ok (.imul, 1) := dk_o104 (by decide +kernel)
theorem dX12_ordering_32 : decode cX12_ordering 32 = .ok (.aload_n 0, 1) := dk_o42 (by decide +kernel)
theorem dX12_ordering_33 : decode cX12_ordering 33 = .ok (.getfield 84, 3) := dk_o180 (by decide +kernel)
theorem dX12_ordering_36 : decode cX12_ordering 36 = .ok (.aload_n 0, 1) := dk_o42 (by decide +kernel)
theorem dX12_ordering_37 : decode cX12_ordering 37 = .ok (.getfield 118, 3) := dk_o180 (by decide +kernel)
theorem dX12_ordering_40 : decode cX12_ordering 40 = .ok (.iaload, 1) := dk_o46 (by decide +kernel)
theorem dX12_ordering_41 : decode cX12_ordering 41 = .ok (.iadd, 1) := dk_o96 (by decide +kernel)
theorem dX12_ordering_42 : decode cX12_ordering 42 = .ok (.istore_n 1, 1) := dk_o60 (by decide +kernel)
theorem dX12_ordering_43 : decode cX12_ordering 43 = .ok (.aload_n 0, 1) := dk_o42 (by decide +kernel)
theorem dX12_ordering_44 : decode cX12_ordering 44 = .ok (.getfield 112, 3) := dk_o180 (by decide +kernel)
theorem dX12_ordering_47 : decode cX12_ordering 47 = .ok (.iload_n 1, 1) := dk_o27 (by decide +kernel)
theorem dX12_ordering_48 : decode cX12_ordering 48 = .ok (.aload_n 0, 1) := dk_o42 (by decide +kernel)
theorem dX12_ordering_49 : decode cX12_ordering 49 = .ok (.invokevirtual 390, 3) := dk_o182 (by decide +kernel)
theorem dX12_ordering_52 : decode cX12_ordering 52 = .ok (.lastore, 1) := dk_o80 (by decide +kernel)
theorem dX12_ordering_53 : decode cX12_ordering 53 = .ok (.aload_n 0, 1) := dk_o42 (by decide +kernel)
theorem dX12_ordering_54 : decode cX12_ordering 54 = .ok (.ldc2_w 285, 3) := dk_o20 (by decide +kernel)
theorem dX12_ordering_57 : decode cX12_ordering 57 = .ok (.invokevirtual 378, 3) := dk_o182 (by decide +kernel)
theorem dX12_ordering_60 : decode cX12_ordering 60 = .ok (.aload_n 0, 1) := dk_o42 (by decide +kernel)
theorem dX12_ordering_61 : decode cX12_ordering 61 = .ok (.getfield 87, 3) := dk_o180 (by decide +kernel)
theorem dX12_ordering_64 : decode cX12_ordering 64 = .ok (.iload_n 1, 1) := dk_o27 (by decide +kernel)
theorem dX12_ordering_65 : decode cX12_ordering 65 = .ok (.aload_n 0, 1) := dk_o42 (by decide +kernel)
theorem dX12_ordering_66 : decode cX12_ordering 66 = .ok (.iconst 0, 1) := dk_o3 (by decide +kernel)
theorem dX12_ordering_67 : decode cX12_ordering 67 = .ok (.bipush 9, 2) := dk_o16 (by decide +kernel)
theorem dX12_ordering_69 : decode cX12_ordering 69 = .ok (.invokevirtual 374, 3) := dk_o182 (by decide +kernel)
theorem dX12_ordering_72 : decode cX12_ordering 72 = .ok (.iastore, 1) := dk_o79 (by decide +kernel)
theorem dX12_ordering_73 : decode cX12_ordering 73 = .ok (.aload_n 0, 1) := dk_o42 (by decide +kernel)
theorem dX12_ordering_74 : decode cX12_ordering 74 = .ok (.ldc2_w 295, 3) := dk_o20 (by decide +kernel)
theorem dX12_ordering_77 : decode cX12_ordering 77 = .ok (.invokevirtual 378, 3) := dk_o182 (by decide +kernel)
theorem dX12_ordering_80 : decode cX12_ordering 80 = .ok (.aload_n 0, 1) := dk_o42 (by decide +kernel)
theorem dX12_ordering_81 : decode cX12_ordering 81 = .ok (.getfield 90, 3) := dk_o180 (by decide +kernel)
theorem dX12_ordering_84 : decode cX12_ordering 84 = .ok (.iload_n 1, 1) := dk_o27 (by decide +kernel)
theorem dX12_ordering_85 : decode cX12_ordering 85 = .ok (.aload_n 0, 1) := dk_o42 (by decide +kernel)
theorem dX12_ordering_86 : decode cX12_ordering 86 = .ok (.iconst 1, 1) := dk_o4 (by decide +kernel)
theorem dX12_ordering_87 : decode cX12_ordering 87 = .ok (.bipush 9, 2) := dk_o16 (by decide +kernel)
theorem dX12_ordering_89 : decode cX12_ordering 89 = .ok (.invokevirtual 374, 3) := dk_o182 (by decide +kernel)
theorem dX12_ordering_92 : decode cX12_ordering 92 = .ok (.iastore, 1) := dk_o79 (by decide +kernel)
theorem dX12_ordering_93 : decode cX12_ordering 93 = .ok (.aload_n 0, 1) := dk_o42 (by decide +kernel)
theorem dX12_ordering_94 : decode cX12_ordering 94 = .ok (.ldc2_w 297, 3) := dk_o20 (by decide +kernel)
theorem dX12_ordering_97 : decode cX12_ordering 97 = .ok (.invokevirtual 378, 3) := dk_o182 (by decide +kernel)
theorem dX12_ordering_100 : decode cX12_ordering 100 = .ok (.aload_n 0, 1) := dk_o42 (by decide +kernel)
theorem dX12_ordering_101 : decode cX12_ordering 101 = .ok (.getfield 93, 3) := dk_o180 (by decide +kernel)
theorem dX12_ordering_104 : decode cX12_ordering 104 = .ok (.iload_n 1, 1) := dk_o27 (by decide +kernel)
theorem dX12_ordering_105 : decode cX12_ordering 105 = .ok (.aload_n 0, 1) := dk_o42 (by decide +kernel)
theorem dX12_ordering_106 : decode cX12_ordering 106 = .ok (.iconst 0, 1) := dk_o3 (by decide +kernel)
theorem dX12_ordering_107 : decode cX12_ordering 107 = .ok (.sipush 999, 3) := dk_o17 (by decide +kernel)
theorem dX12_ordering_110 : decode cX12_ordering 110 = .ok (.invokevirtual 374, 3) := dk_o182 (by decide +kernel)
theorem dX12_ordering_113 : decode cX12_ordering 113 = .ok (.iastore, 1) := dk_o79 (by decide +kernel)
theorem dX12_ordering_114 : decode cX12_ordering 114 = .ok (.aload_n 0, 1) := dk_o42 (by decide +kernel)
theorem dX12_ordering_115 : decode cX12_ordering 115 = .ok (.getfield 36, 3) := dk_o180 (by decide +kernel)
theorem dX12_ordering_118 : decode cX12_ordering 118 = .ok (.ifCond .ne 16, 3) := dk_o154 (by decide +kernel)
theorem dX12_ordering_121 : decode cX12_ordering 121 = .ok (.aload_n 0, 1) := dk_o42 (by decide +kernel)
theorem dX12_ordering_122 : decode cX12_ordering 122 = .ok (.getfield 84, 3) := dk_o180 (by decide +kernel)
theorem dX12_ordering_125 : decode cX12_ordering 125 = .ok (.aload_n 0, 1) := dk_o42 (by decide +kernel)
theorem dX12_ordering_126 : decode cX12_ordering 126 = .ok (.getfield 118, 3) := dk_o180 (by decide +kernel)
theorem dX12_ordering_129 : decode cX12_ordering 129 = .ok (.dup2, 1) := dk_o92 (by decide +kernel)
theorem dX12_ordering_130 : decode cX12_ordering 130 = .ok (.iaload, 1) := dk_o46 (by decide +kernel)
theorem dX12_ordering_131 : decode cX12_ordering 131 = .ok (.iconst 1, 1) := dk_o4 (by decide +kernel)
theorem dX12_ordering_132 : decode cX12_ordering 132 = .ok (.iadd, 1) := dk_o96 (by decide +kernel)
theorem dX12_ordering_133 : decode cX12_ordering 133 = .ok (.iastore, 1) := dk_o79 (by decide +kernel)
theorem dX12_ordering_134 : decode cX12_ordering 134 = .ok (.return_, 1) := dk_o177 (by decide +kernel)
theorem wB_398 : Cond.fieldLink RX12 87 "DarkMineModel" "orderGrade" "[I" ∈ dgB := List.mem_filter.mpr ⟨tbl_6 _ (List.mem_of_getElem? (i := 188) (by decide +kernel)), by decide +kernel⟩
theorem wB_399 : Cond.fieldLink RX12 90 "DarkMineModel" "orderTubs" "[I" ∈ dgB := List.mem_filter.mpr ⟨tbl_6 _ (List.mem_of_getElem? (i := 189) (by decide +kernel)), by decide +kernel⟩
theorem wB_400 : Cond.fieldLink RX12 93 "DarkMineModel" "orderPays" "[I" ∈ dgB := List.mem_filter.mpr ⟨tbl_6 _ (List.mem_of_getElem? (i := 190) (by decide +kernel)), by decide +kernel⟩
set_option maxHeartbeats 8000000 in
set_option maxRecDepth 100000 in
theorem c_m_ordering (l : Launch) (g : Nat → ClassId) (D : va_G) (o : Nat) (S : dg_S) (tb : Nat → Int32) (tn : Nat) (sg9 : y_S) (S0 : dg_S) (sg : Int32) (f_sg : S.1 0 3 = .int sg) (b_sg : 0 ≤ (sg).toInt ∧ (sg).toInt ≤ 3) (sa : Int32) (f_sa : S.1 0 4 = .int sa) (b_sa : 0 ≤ (sa).toInt ∧ (sa).toInt ≤ 1600) (se : Int32) (f_se : S.1 0 5 = .int se) (b_se : 0 ≤ (se).toInt ∧ (se).toInt ≤ 1600) (sl : Int32) (f_sl : S.1 0 2 = .int sl) (b_sl : 0 ≤ (sl).toInt ∧ (sl).toInt ≤ 1600) (fk : Int32) (f_fk : S.1 0 8 = .int fk) (b_fk : 0 ≤ (fk).toInt ∧ (fk).toInt ≤ 6) (ii : Int32) (f_ii : S.1 0 35 = .int ii) (b_ii : 0 ≤ (ii).toInt ∧ (ii).toInt ≤ 1) (mi : Int32) (f_mi : S.2.1 8 (ii : Int32).toNatClampNeg = mi) (b_mi : 0 ≤ (mi).toInt ∧ (mi).toInt ≤ 6) (od : Int32) (f_od : S.2.1 12 (ii : Int32).toNatClampNeg = od) (b_od : 0 ≤ (od).toInt ∧ (od).toInt ≤ 5) (hlx : (sa).toInt ≤ (se).toInt ∧ (se).toInt ≤ (sl).toInt ∧ ((sg).toInt ≠ 0 → (sa).toInt + 1 ≤ (se).toInt)) (hk1 : (T_kd tb tn (t_ix tb tn (sa : Int32).toNatClampNeg)).toInt = 1) (TK : TKM tb tn S) (GS : GSM sg9 S) (GB : GBM S0 S) (ZK : ZKM S) (I : CM o S) (sz : Nat) : Met l yX12_ordering (bw yX12_ordering cX12_ordering 2 none) ({ frames := 4, cells := 0, slots := 0, locals := 100 } : Room) (dk_Pc g D (dg_w g shM o rfM S) sz [.ref (o + 0)]) (va_Qv (fun S' => CM o S' ∧ dg_sm shM [(0, 3), (0, 4), (0, 5), (0, 6), (0, 7), (0, 8), (0, 9), (0, 12)] [12, 13, 14, 15, 21] S S' ∧ (∃ y9_3 y9_4 y9_5 y9_8 : Int32, S'.1 0 3 = .int y9_3 ∧ S'.1 0 4 = .int y9_4 ∧ S'.1 0 5 = .int y9_5 ∧ S'.1 0 8 = .int y9_8 ∧ (((y9_4).toInt ≤ (y9_5).toInt ∧ (y9_5).toInt ≤ (sl).toInt ∧ ((y9_3).toInt ≠ 0 → (y9_4).toInt + 1 ≤ (y9_5).toInt)) ∧ (sa).toInt ≤ (y9_4).toInt ∧ ((fk).toInt ≠ 0 → (y9_8).toInt ≠ 0) ∧ ((y9_8).toInt = 0 → (sa).toInt + 1 ≤ (y9_4).toInt))) ∧ (SOK tb tn fk (if sg9.2.2.2.1.length = 5 then none else ((y_new (T_kd tb tn) (T_vl tb tn) sg9.2.1 sg9.2.2.2.1 ((t_ix tb tn (sa : Int32).toNatClampNeg) + 1)).bind fun k1 => (y_own (T_kd tb tn) (T_vl tb tn) 5 k1).bind fun k2 => (y_num (T_kd tb tn) (T_vl tb tn) 0 9 k2).bind fun k3 => (y_own (T_kd tb tn) (T_vl tb tn) 10 k3).bind fun k4 => (y_num (T_kd tb tn) (T_vl tb tn) 1 9 k4).bind fun k5 => (y_own (T_kd tb tn) (T_vl tb tn) 11 k5).bind (y_num (T_kd tb tn) (T_vl tb tn) 0 999)).map fun k9 => ((sg9.1, sg9.2.1, sg9.2.2.1, sg9.2.2.2.1 ++ [(T_vl tb tn ((t_ix tb tn (sa : Int32).toNatClampNeg) + 1)).toInt], sg9.2.2.2.2), k9)) S') ∧ (m_hid ((fk).toInt = 0 → ∀ f9 : Int32, S'.1 0 8 = .int f9 → f9.toInt = 0 → ∃ (u9 v9 w9 : Int32) (i9 : Nat), u9.toInt = (T_vl tb tn ((t_ix tb tn (sa : Int32).toNatClampNeg) + 3)).toInt ∧ v9.toInt = (T_vl tb tn ((t_ix tb tn (sa : Int32).toNatClampNeg) + 5)).toInt ∧ w9.toInt = (T_vl tb tn ((t_ix tb tn (sa : Int32).toNatClampNeg) + 7)).toInt ∧ i9 = 5 * (ii : Int32).toNatClampNeg + (od : Int32).toNatClampNeg ∧ S'.2.1 13 = upd (S.2.1 13) i9 u9 ∧ S'.2.1 14 = upd (S.2.1 14) i9 v9 ∧ S'.2.1 15 = upd (S.2.1 15) i9 w9 ∧ (od : Int32).toNatClampNeg < 5)) ∧ TKM tb tn S' ∧ GBM S0 S' ∧ True) (dg_B g D shM o rfM) (dg_A o shM.length sz)) 0 0 (dg_A o shM.length sz) := by
  refine dg_met (cc := cX12_ordering) (maxL := 2) (ret := none) (dk_dq rfl) rfl (Nat.le_of_ble_eq_true rfl) ?_
  intro p e s m args below meth c A hAe harg hx hb hr hml hts hown hlocks hin hP K hS hA1 hA ST hsz ls hl
  rw [← hAe]
  have F : CallFix p m c cX12_ordering 2 s args (bw yX12_ordering cX12_ordering 2 none) RX12 := ⟨hx, hb, hml, hown, hts⟩
  have hl : lv_has ls 2 [(0, .ref (o + 0))] := hl
  have M_0 : dg_sm shM [(0, 3), (0, 4), (0, 5), (0, 6), (0, 7), (0, 8), (0, 9), (0, 12)] [12, 13, 14, 15, 21] S S := dg_sm.rf
  obtain ⟨Q9, hQ9⟩ : ∃ Q : State → Prop, Q = MQ below (va_Qv (fun S' => CM o S' ∧ dg_sm shM [(0, 3), (0, 4), (0, 5), (0, 6), (0, 7), (0, 8), (0, 9), (0, 12)] [12, 13, 14, 15, 21] S S' ∧ (∃ y9_3 y9_4 y9_5 y9_8 : Int32, S'.1 0 3 = .int y9_3 ∧ S'.1 0 4 = .int y9_4 ∧ S'.1 0 5 = .int y9_5 ∧ S'.1 0 8 = .int y9_8 ∧ (((y9_4).toInt ≤ (y9_5).toInt ∧ (y9_5).toInt ≤ (sl).toInt ∧ ((y9_3).toInt ≠ 0 → (y9_4).toInt + 1 ≤ (y9_5).toInt)) ∧ (sa).toInt ≤ (y9_4).toInt ∧ ((fk).toInt ≠ 0 → (y9_8).toInt ≠ 0) ∧ ((y9_8).toInt = 0 → (sa).toInt + 1 ≤ (y9_4).toInt))) ∧ (SOK tb tn fk (if sg9.2.2.2.1.length = 5 then none else ((y_new (T_kd tb tn) (T_vl tb tn) sg9.2.1 sg9.2.2.2.1 ((t_ix tb tn (sa : Int32).toNatClampNeg) + 1)).bind fun k1 => (y_own (T_kd tb tn) (T_vl tb tn) 5 k1).bind fun k2 => (y_num (T_kd tb tn) (T_vl tb tn) 0 9 k2).bind fun k3 => (y_own (T_kd tb tn) (T_vl tb tn) 10 k3).bind fun k4 => (y_num (T_kd tb tn) (T_vl tb tn) 1 9 k4).bind fun k5 => (y_own (T_kd tb tn) (T_vl tb tn) 11 k5).bind (y_num (T_kd tb tn) (T_vl tb tn) 0 999)).map fun k9 => ((sg9.1, sg9.2.1, sg9.2.2.1, sg9.2.2.2.1 ++ [(T_vl tb tn ((t_ix tb tn (sa : Int32).toNatClampNeg) + 1)).toInt], sg9.2.2.2.2), k9)) S') ∧ (m_hid ((fk).toInt = 0 → ∀ f9 : Int32, S'.1 0 8 = .int f9 → f9.toInt = 0 → ∃ (u9 v9 w9 : Int32) (i9 : Nat), u9.toInt = (T_vl tb tn ((t_ix tb tn (sa : Int32).toNatClampNeg) + 3)).toInt ∧ v9.toInt = (T_vl tb tn ((t_ix tb tn (sa : Int32).toNatClampNeg) + 5)).toInt ∧ w9.toInt = (T_vl tb tn ((t_ix tb tn (sa : Int32).toNatClampNeg) + 7)).toInt ∧ i9 = 5 * (ii : Int32).toNatClampNeg + (od : Int32).toNatClampNeg ∧ S'.2.1 13 = upd (S.2.1 13) i9 u9 ∧ S'.2.1 14 = upd (S.2.1 14) i9 v9 ∧ S'.2.1 15 = upd (S.2.1 15) i9 w9 ∧ (od : Int32).toNatClampNeg < 5)) ∧ TKM tb tn S' ∧ GBM S0 S' ∧ True) (dg_B g D shM o rfM) A) args s 0 0 A := ⟨_, rfl⟩
  rw [← hQ9]
  obtain ⟨hlx_0, hlx_1, hlx_2⟩ := hlx
  have hlen := GSM.orders GS f_ii f_od; have hcm : (((od : Int32).toNatClampNeg : Nat) : Int) = (od).toInt := (by rw [dk_clN]; omega)
  refine lv_aload_n hx hb dX12_ordering_0 rfl (lv_at hl 0 rfl) ?_
  refine lv_aload_n hx hb dX12_ordering_1 rfl (lv_at hl 0 rfl) ?_
  refine dg_get (C := RX12) (T := TX12) (N := 77) hx hb hts (fun w h => bw_mem (wU_X12 w h)) hown K hP sM_0 rfl 24 (dk_dq rfl) (hts _ (bw_mem wB_355)) (fun _ h9 => h9) (v := .ref (o + 12)) (show S.1 0 24 = .ref (o + 12) from dg_I.rel (d := 12) I sM_0 (by decide +kernel)) dX12_ordering_2 ?_
  refine lv_aload_n hx hb dX12_ordering_5 rfl (lv_at hl 0 rfl) ?_
  refine dg_get (C := RX12) (T := TX12) (N := 77) hx hb hts (fun w h => bw_mem (wU_X12 w h)) hown K hP sM_0 rfl 35 (dk_dq rfl) (hts _ (bw_mem wB_353)) (fun _ h9 => h9) (v := .int ii) f_ii dX12_ordering_6 ?_
  have hin_1 : vp_in ii 2 := (dk_inv2 (by omega))
  refine dg_iald hx hb K hP sM_12 hin_1 dX12_ordering_9 (fun y_2 ey_2 => ?_)
  obtain rfl : od = y_2 := (ey_2.trans f_od).symm
  refine lv_iconst (v := 5) hx hb dX12_ordering_10 (by decide +kernel) ?_
  refine lv_icmp_ne (tgt := 18) hx hb dX12_ordering_11 (dk_dq rfl) (fun c_3 => ?_) (fun c_3 => ?_)
  · as_aux_lemma =>
      have jc_3 := dk_neqc (k := 5) (by decide +kernel) c_3
      have jtc_3 : (od).toInt ≤ 4 := by omega
      clear jc_3
      refine lv_iconst (v := 0) hx hb dX12_ordering_18 (by decide +kernel) ?_
      have hz_4 : (0 : Int32).toInt = 0 := by decide +kernel
      refine dg_calli hS hA1 hA (va_runV (As := [.int 0]) (rest := []) F (c_m_isCounted l g D o S 0 (by decide +kernel) tb tn sg f_sg (by omega) sa f_sa (by omega) se f_se (by omega) sl f_sl (by omega) fk f_fk (by omega) (by omega) (by omega) TK I s.heap.size) (cwV 1 hts (bw_V wB_379 wB_380 wB_381 wB_297 wB_378) rfl rfl rfl (by decide +kernel) ⟨Nat.le_of_ble_eq_true rfl, Nat.le_of_ble_eq_true rfl⟩) (dg_preV sM_0 rfl K ST hP hS hA1 hA) rfl rfl hl.1 rfl (lv_room (Nat.le_of_ble_eq_true rfl)) dX12_ordering_19 ⟨Nat.le_of_ble_eq_true rfl, Nat.le_of_ble_eq_true rfl⟩) (fun x_5 S_6 hw_6 H locs hP hS => ?_)
      obtain ⟨I_6, m_6, w_6_0, w_6_1, w_6_2, -⟩ := hw_6
      have M_6 := dg_sm.tr M_0 m_6 (dk_dq rfl) (dk_dq rfl)
      have hz_7 : (0 : Int32).toInt = 0 := by decide +kernel
      have w_6_0 : 0 ≤ (x_5).toInt ∧ (x_5).toInt ≤ 1 := w_6_0
      obtain ⟨y_8, y_9, y_10, y_11, f_y_8, f_y_9, f_y_10, f_y_11, w_6_1⟩ := w_6_1
      have w_6_1 : (((y_9).toInt ≤ (y_10).toInt ∧ (y_10).toInt ≤ (sl).toInt ∧ ((y_8).toInt ≠ 0 → (y_9).toInt + 1 ≤ (y_10).toInt)) ∧ (sa).toInt ≤ (y_9).toInt ∧ ((fk).toInt ≠ 0 → (y_11).toInt ≠ 0) ∧ (((x_5).toInt = 1 → ((y_11).toInt = 0 ∧ (fk).toInt = 0 ∧ ((0 : Int32)).toInt = 0 ∧ ((sg).toInt ≠ 0 → (sa).toInt + 1 ≤ (y_9).toInt))) ∧ ((x_5).toInt = 0 → (y_11).toInt ≠ 0))) ∧ (((x_5).toInt = 1 → (t_ix tb tn (y_9 : Int32).toNatClampNeg) = (t_ix tb tn (sa : Int32).toNatClampNeg) + 1) ∧ ((fk).toInt = 0 → ((0 : Int32)).toInt = 0 → (x_5).toInt = 1)) := w_6_1
      obtain ⟨⟨⟨w_6_1_0, w_6_1_1, w_6_1_2⟩, w_6_1_3, w_6_1_4, ⟨w_6_1_5, w_6_1_6⟩⟩, ⟨w_6_1_7, w_6_1_8⟩⟩ := w_6_1
      clear hlx_2
      have b_y_8 : 0 ≤ (y_8).toInt ∧ (y_8).toInt ≤ 3 := dg_I.intb (lo := 0) (hi := 3) I_6 sM_0 (by decide +kernel) f_y_8
      have b_y_9 : 0 ≤ (y_9).toInt ∧ (y_9).toInt ≤ 1600 := dg_I.intb (lo := 0) (hi := 1600) I_6 sM_0 (by decide +kernel) f_y_9
      have b_y_10 : 0 ≤ (y_10).toInt ∧ (y_10).toInt ≤ 1600 := dg_I.intb (lo := 0) (hi := 1600) I_6 sM_0 (by decide +kernel) f_y_10
      have b_y_11 : 0 ≤ (y_11).toInt ∧ (y_11).toInt ≤ 6 := dg_I.intb (lo := 0) (hi := 6) I_6 sM_0 (by decide +kernel) f_y_11
      refine lv_if_ne (tgt := 26) hx hb dX12_ordering_22 (dk_dq rfl) (fun c_12 => ?_) (fun c_12 => ?_)
      · as_aux_lemma =>
          have jc_12 := dk_neqc (k := 0) (by decide +kernel) c_12
          have jbc_12 : 1 ≤ (x_5).toInt := by omega
          clear jc_12
          have w_6_1_5r := w_6_1_5 (by omega)
          clear w_6_1_5
          clear w_6_1_6
          have w_6_1_7r := w_6_1_7 (by omega)
          clear w_6_1_7
          obtain ⟨w_6_1_5r_0, w_6_1_5r_1, w_6_1_5r_2, w_6_1_5r_3⟩ := w_6_1_5r
          clear w_6_1_4
          have w_6_1_8r := w_6_1_8 (by omega)
          clear w_6_1_8
          refine lv_iconst (v := 5) hx hb dX12_ordering_26 (by decide +kernel) ?_
          refine lv_aload_n hx hb dX12_ordering_27 rfl (lv_at hl 0 rfl) ?_
          refine dg_get (C := RX12) (T := TX12) (N := 77) hx hb hts (fun w h => bw_mem (wU_X12 w h)) hown K hP sM_0 rfl 35 (dk_dq rfl) (hts _ (bw_mem wB_353)) (fun _ h9 => h9) (v := .int ii) ((m_6.1 0 35 _ sM_0 (dk_dq rfl)).trans f_ii) dX12_ordering_28 ?_
          refine lv_imul hx hb dX12_ordering_31 ?_
          refine lv_topi (fun x_13 ex_13 => ?_)
          have jx_13 : (x_13).toInt = 5 * (ii).toInt := by rw [ex_13]; exact dk_mulT2 (by decide +kernel) rfl (by omega)
          refine lv_aload_n hx hb dX12_ordering_32 rfl (lv_at hl 0 rfl) ?_
          refine dg_get (C := RX12) (T := TX12) (N := 77) hx hb hts (fun w h => bw_mem (wU_X12 w h)) hown K hP sM_0 rfl 24 (dk_dq rfl) (hts _ (bw_mem wB_355)) (fun _ h9 => h9) (v := .ref (o + 12)) (show S_6.1 0 24 = .ref (o + 12) from dg_I.rel (d := 12) I_6 sM_0 (by decide +kernel)) dX12_ordering_33 ?_
          refine lv_aload_n hx hb dX12_ordering_36 rfl (lv_at hl 0 rfl) ?_
          refine dg_get (C := RX12) (T := TX12) (N := 77) hx hb hts (fun w h => bw_mem (wU_X12 w h)) hown K hP sM_0 rfl 35 (dk_dq rfl) (hts _ (bw_mem wB_353)) (fun _ h9 => h9) (v := .int ii) ((m_6.1 0 35 _ sM_0 (dk_dq rfl)).trans f_ii) dX12_ordering_37 ?_
          have hin_14 : vp_in ii 2 := (dk_inv2 (by omega))
          refine dg_iald hx hb K hP sM_12 hin_14 dX12_ordering_40 (fun y_15 ey_15 => ?_)
          obtain rfl : od = y_15 := ((ey_15.trans (congrFun (m_6.2 12 _ sM_12 (dk_dq rfl)).1 _)).trans f_od).symm
          refine lv_iadd hx hb dX12_ordering_41 ?_
          refine lv_topi (fun x_16 ex_16 => ?_)
          have jx_16 : (x_16).toInt = (x_13).toInt + (od).toInt := by rw [ex_16]; exact dk_addT2 rfl rfl (by omega)
          refine lv_istore_n (lv' := [(1, .int x_16), (0, .ref (o + 0))]) hx hb dX12_ordering_42 rfl hl (dk_dq rfl) rfl (fun ls hl => ?_)
          refine lv_aload_n hx hb dX12_ordering_43 rfl (lv_at hl 1 rfl) ?_
          refine dg_get (C := RX12) (T := TX12) (N := 77) hx hb hts (fun w h => bw_mem (wU_X12 w h)) hown K hP sM_0 rfl 33 (dk_dq rfl) (hts _ (bw_mem wB_360)) (fun _ h9 => h9) (v := .ref (o + 21)) (show S_6.1 0 33 = .ref (o + 21) from dg_I.rel (d := 21) I_6 sM_0 (by decide +kernel)) dX12_ordering_44 ?_
          refine lv_iload_n hx hb dX12_ordering_47 rfl (lv_at hl 0 rfl) ?_
          refine lv_aload_n hx hb dX12_ordering_48 rfl (lv_at hl 1 rfl) ?_
          refine dg_calll hS hA1 hA (va_runV (As := []) (rest := [.int x_16, .ref (o + 21)]) F (c_m_fresh l g D o S_6 tb tn sg9 y_8 f_y_8 (by omega) y_9 f_y_9 (by omega) y_10 f_y_10 (by omega) sl ((m_6.1 0 2 _ sM_0 (dk_dq rfl)).trans f_sl) (by omega) y_11 f_y_11 (by omega) ii ((m_6.1 0 35 _ sM_0 (dk_dq rfl)).trans f_ii) (by omega) mi ((congrFun (m_6.2 8 _ sM_8 (dk_dq rfl)).1 _).trans f_mi) (by omega) od ((congrFun (m_6.2 12 _ sM_12 (dk_dq rfl)).1 _).trans f_od) (by omega) (by omega) w_6_2 (GSM.keep GS m_6 (dk_dq rfl) (dk_dq rfl) (dk_dq rfl) (dk_dq rfl) (dk_dq rfl) (dk_dq rfl) (dk_dq rfl) (dk_dq rfl) (dk_dq rfl)) I_6 H.size) (cwV 0 hts (bw_V wB_388 wB_389 wB_390 wB_297 wB_387) rfl rfl rfl (by decide +kernel) ⟨Nat.le_of_ble_eq_true rfl, Nat.le_of_ble_eq_true rfl⟩) (dg_preV sM_0 rfl K ST hP hS hA1 hA) rfl rfl hl.1 rfl (lv_room (Nat.le_of_ble_eq_true rfl)) dX12_ordering_49 ⟨Nat.le_of_ble_eq_true rfl, Nat.le_of_ble_eq_true rfl⟩) (fun x_17 S_18 hw_18 H locs hP hS => ?_)
          obtain ⟨I_18, m_18, w_18_0, w_18_1, -⟩ := hw_18
          have M_18 := dg_sm.tr M_6 m_18 (dk_dq rfl) (dk_dq rfl)
          obtain ⟨y_19, y_20, y_21, y_22, f_y_19, f_y_20, f_y_21, f_y_22, w_18_0⟩ := w_18_0
          have w_18_0 : (((y_20).toInt ≤ (y_21).toInt ∧ (y_21).toInt ≤ (sl).toInt ∧ ((y_19).toInt ≠ 0 → (y_20).toInt + 1 ≤ (y_21).toInt)) ∧ (y_9).toInt ≤ (y_20).toInt ∧ ((y_11).toInt ≠ 0 → (y_22).toInt ≠ 0) ∧ ((y_22).toInt = 0 → (y_9).toInt + 1 ≤ (y_20).toInt)) ∧ m_hid ((y_11).toInt = 0 → m_an y_22 (y_new (T_kd tb tn) (T_vl tb tn) sg9.2.1 sg9.2.2.2.1 (t_ix tb tn (y_9 : Int32).toNatClampNeg)) (t_ix tb tn (y_20 : Int32).toNatClampNeg) ∧ ((y_22).toInt = 0 → m_WG (x_17).toInt = (T_vl tb tn (t_ix tb tn (y_9 : Int32).toNatClampNeg)).toInt ∧ m_WF (m_WG (x_17).toInt) = (x_17).toInt)) := w_18_0
          obtain ⟨⟨⟨w_18_0_0, w_18_0_1, w_18_0_2⟩, w_18_0_3, w_18_0_4, w_18_0_5⟩, w_18_0_6⟩ := w_18_0
          clear w_6_1_2
          clear w_18_0_4
          have b_y_19 : 0 ≤ (y_19).toInt ∧ (y_19).toInt ≤ 3 := dg_I.intb (lo := 0) (hi := 3) I_18 sM_0 (by decide +kernel) f_y_19
          have b_y_20 : 0 ≤ (y_20).toInt ∧ (y_20).toInt ≤ 1600 := dg_I.intb (lo := 0) (hi := 1600) I_18 sM_0 (by decide +kernel) f_y_20
          have b_y_21 : 0 ≤ (y_21).toInt ∧ (y_21).toInt ≤ 1600 := dg_I.intb (lo := 0) (hi := 1600) I_18 sM_0 (by decide +kernel) f_y_21
          have b_y_22 : 0 ≤ (y_22).toInt ∧ (y_22).toInt ≤ 6 := dg_I.intb (lo := 0) (hi := 6) I_18 sM_0 (by decide +kernel) f_y_22
          have hin_23 : vp_in x_16 10 := (dk_inv2 (by omega))
          as_aux_lemma =>
            refine dg_last hx hb K hP hS hA1 sM_21 hin_23 dX12_ordering_52 (fun S_24 e_24 H locs hP hS => ?_)
            have I_24 := dg_I.ul I_18 e_24
            have M_24 := dg_sm.ul M_18 e_24 sM_21 (dk_dq rfl)
            have gw_24 := GSM.w21 (GSM.keep (GSM.keep GS m_6 (dk_dq rfl) (dk_dq rfl) (dk_dq rfl) (dk_dq rfl) (dk_dq rfl) (dk_dq rfl) (dk_dq rfl) (dk_dq rfl) (dk_dq rfl)) m_18 (dk_dq rfl) (dk_dq rfl) (dk_dq rfl) (dk_dq rfl) (dk_dq rfl) (dk_dq rfl) (dk_dq rfl) (dk_dq rfl) (dk_dq rfl)) (((m_18.1 0 35 _ sM_0 (dk_dq rfl)).trans (m_6.1 0 35 _ sM_0 (dk_dq rfl))).trans f_ii) ((congrFun ((m_18.2 12 _ sM_12 (dk_dq rfl)).1.trans (m_6.2 12 _ sM_12 (dk_dq rfl)).1) _).trans f_od) e_24 (by omega) (by omega)
            have GB_24 := GBM.stl (GBM.keep (GBM.keep GB m_6 (dk_dq rfl) (dk_dq rfl) (dk_dq rfl)) m_18 (dk_dq rfl) (dk_dq rfl) (dk_dq rfl)) (ZKM.keep (ZKM.keep ZK m_6 (dk_dq rfl) (dk_dq rfl)) m_18 (dk_dq rfl) (dk_dq rfl)) (((m_18.1 0 35 _ sM_0 (dk_dq rfl)).trans (m_6.1 0 35 _ sM_0 (dk_dq rfl))).trans f_ii) 5 rfl (wi := 5) rfl e_24 (by omega) (by omega)
            refine lv_aload_n hx hb dX12_ordering_53 rfl (lv_at hl 1 rfl) ?_
            refine lv_ldc2 hx hb hown (hts _ (bw_mem wB_330)) dX12_ordering_54 ?_
            refine dg_callv hS hA1 hA (va_runV (As := [.long 444300616805]) (rest := []) F (c_m_must_ l g D o S_24 444300616805 tb tn 5 y_19 ((dg_ul_F e_24 0 3).trans f_y_19) (by omega) y_20 ((dg_ul_F e_24 0 4).trans f_y_20) (by omega) y_21 ((dg_ul_F e_24 0 5).trans f_y_21) (by omega) sl (((dg_ul_F e_24 0 2).trans ((m_18.1 0 2 _ sM_0 (dk_dq rfl)).trans (m_6.1 0 2 _ sM_0 (dk_dq rfl)))).trans f_sl) (by omega) y_22 ((dg_ul_F e_24 0 8).trans f_y_22) (by omega) (by omega) ⟨by decide, by decide +kernel⟩ (TKM.keep w_18_1 (dg_sm.ul (WF := []) (WA := [21]) dg_sm.rf e_24 sM_21 (dk_dq rfl)) (dk_dq rfl) (dk_dq rfl) (dk_dq rfl) (dk_dq rfl) (dk_dq rfl) (dk_dq rfl) (dk_dq rfl) (dk_dq rfl)) I_24 H.size) (cwV 1 hts (bw_V wB_393 wB_394 wB_395 wB_297 wB_392) rfl rfl rfl (by decide +kernel) ⟨Nat.le_of_ble_eq_true rfl, Nat.le_of_ble_eq_true rfl⟩) (dg_preV sM_0 rfl K ST hP hS hA1 hA) rfl rfl hl.1 rfl (lv_room (Nat.le_of_ble_eq_true rfl)) dX12_ordering_57 ⟨Nat.le_of_ble_eq_true rfl, Nat.le_of_ble_eq_true rfl⟩) (fun S_25 hw_25 H locs hP hS => ?_)
            obtain ⟨I_25, m_25, w_25_0, w_25_1, -⟩ := hw_25
            have M_25 := dg_sm.tr M_24 m_25 (dk_dq rfl) (dk_dq rfl)
            obtain ⟨y_26, y_27, y_28, y_29, f_y_26, f_y_27, f_y_28, f_y_29, w_25_0⟩ := w_25_0
            have w_25_0 : (((y_27).toInt ≤ (y_28).toInt ∧ (y_28).toInt ≤ (sl).toInt ∧ ((y_26).toInt ≠ 0 → (y_27).toInt + 1 ≤ (y_28).toInt)) ∧ (y_20).toInt ≤ (y_27).toInt ∧ ((y_22).toInt ≠ 0 → (y_29).toInt ≠ 0) ∧ ((y_29).toInt = 0 → (y_20).toInt + 1 ≤ (y_27).toInt)) ∧ m_hid ((y_22).toInt = 0 → m_an y_29 (y_own (T_kd tb tn) (T_vl tb tn) 5 (t_ix tb tn (y_20 : Int32).toNatClampNeg)) (t_ix tb tn (y_27 : Int32).toNatClampNeg)) := w_25_0
            obtain ⟨⟨⟨w_25_0_0, w_25_0_1, w_25_0_2⟩, w_25_0_3, w_25_0_4, w_25_0_5⟩, w_25_0_6⟩ := w_25_0
            clear w_18_0_2
            have b_y_26 : 0 ≤ (y_26).toInt ∧ (y_26).toInt ≤ 3 := dg_I.intb (lo := 0) (hi := 3) I_25 sM_0 (by decide +kernel) f_y_26
            have b_y_27 : 0 ≤ (y_27).toInt ∧ (y_27).toInt ≤ 1600 := dg_I.intb (lo := 0) (hi := 1600) I_25 sM_0 (by decide +kernel) f_y_27
            have b_y_28 : 0 ≤ (y_28).toInt ∧ (y_28).toInt ≤ 1600 := dg_I.intb (lo := 0) (hi := 1600) I_25 sM_0 (by decide +kernel) f_y_28
            have b_y_29 : 0 ≤ (y_29).toInt ∧ (y_29).toInt ≤ 6 := dg_I.intb (lo := 0) (hi := 6) I_25 sM_0 (by decide +kernel) f_y_29
            refine lv_aload_n hx hb dX12_ordering_60 rfl (lv_at hl 1 rfl) ?_
            refine dg_get (C := RX12) (T := TX12) (N := 77) hx hb hts (fun w h => bw_mem (wU_X12 w h)) hown K hP sM_0 rfl 25 (dk_dq rfl) (hts _ (bw_mem wB_398)) (fun _ h9 => h9) (v := .ref (o + 13)) (show S_25.1 0 25 = .ref (o + 13) from dg_I.rel (d := 13) I_25 sM_0 (by decide +kernel)) dX12_ordering_61 ?_
            refine lv_iload_n hx hb dX12_ordering_64 rfl (lv_at hl 0 rfl) ?_
            refine lv_aload_n hx hb dX12_ordering_65 rfl (lv_at hl 1 rfl) ?_
            refine lv_iconst (v := 0) hx hb dX12_ordering_66 (by decide +kernel) ?_
            refine lv_bipush (v := 9) hx hb dX12_ordering_67 (by decide +kernel) ?_
            refine dg_calli hS hA1 hA (va_runV (As := [.int 0, .int 9]) (rest := [.int x_16, .ref (o + 13)]) F (c_m_number l g D o S_25 0 9 tb tn y_26 f_y_26 (by omega) y_27 f_y_27 (by omega) y_28 f_y_28 (by omega) sl (((m_25.1 0 2 _ sM_0 (dk_dq rfl)).trans ((dg_ul_F e_24 0 2).trans ((m_18.1 0 2 _ sM_0 (dk_dq rfl)).trans (m_6.1 0 2 _ sM_0 (dk_dq rfl))))).trans f_sl) (by omega) y_29 f_y_29 (by omega) (by omega) w_25_1 I_25 H.size) (cwV 2 hts (bw_V wB_374 wB_375 wB_376 wB_297 wB_373) rfl rfl rfl (by decide +kernel) ⟨Nat.le_of_ble_eq_true rfl, Nat.le_of_ble_eq_true rfl⟩) (dg_preV sM_0 rfl K ST hP hS hA1 hA) rfl rfl hl.1 rfl (lv_room (Nat.le_of_ble_eq_true rfl)) dX12_ordering_69 ⟨Nat.le_of_ble_eq_true rfl, Nat.le_of_ble_eq_true rfl⟩) (fun x_30 S_31 hw_31 H locs hP hS => ?_)
            obtain ⟨I_31, m_31, w_31_0, w_31_1, w_31_2, -⟩ := hw_31
            have M_31 := dg_sm.tr M_25 m_31 (dk_dq rfl) (dk_dq rfl)
            have hz_32 : (0 : Int32).toInt = 0 := by decide +kernel
            have hz_33 : (9 : Int32).toInt = 9 := by decide +kernel
            have w_31_0 : 0 ≤ (x_30).toInt ∧ (x_30).toInt ≤ 9999 := w_31_0
            obtain ⟨y_34, y_35, y_36, y_37, f_y_34, f_y_35, f_y_36, f_y_37, w_31_1⟩ := w_31_1
            have w_31_1 : (((y_35).toInt ≤ (y_36).toInt ∧ (y_36).toInt ≤ (sl).toInt ∧ ((y_34).toInt ≠ 0 → (y_35).toInt + 1 ≤ (y_36).toInt)) ∧ (y_27).toInt ≤ (y_35).toInt ∧ ((y_29).toInt ≠ 0 → (y_37).toInt ≠ 0) ∧ ((y_37).toInt = 0 → (((0 : Int32)).toInt ≤ (x_30).toInt ∧ (x_30).toInt ≤ ((9 : Int32)).toInt ∧ (y_27).toInt + 1 ≤ (y_35).toInt))) ∧ m_hid ((y_29).toInt = 0 → m_an y_37 (y_num (T_kd tb tn) (T_vl tb tn) ((0 : Int32)).toInt ((9 : Int32)).toInt (t_ix tb tn (y_27 : Int32).toNatClampNeg)) (t_ix tb tn (y_35 : Int32).toNatClampNeg) ∧ ((y_37).toInt = 0 → (x_30).toInt = (T_vl tb tn (t_ix tb tn (y_27 : Int32).toNatClampNeg)).toInt)) := w_31_1
            obtain ⟨⟨⟨w_31_1_0, w_31_1_1, w_31_1_2⟩, w_31_1_3, w_31_1_4, w_31_1_5⟩, w_31_1_6⟩ := w_31_1
            clear w_25_0_2
            have b_y_34 : 0 ≤ (y_34).toInt ∧ (y_34).toInt ≤ 3 := dg_I.intb (lo := 0) (hi := 3) I_31 sM_0 (by decide +kernel) f_y_34
            have b_y_35 : 0 ≤ (y_35).toInt ∧ (y_35).toInt ≤ 1600 := dg_I.intb (lo := 0) (hi := 1600) I_31 sM_0 (by decide +kernel) f_y_35
            have b_y_36 : 0 ≤ (y_36).toInt ∧ (y_36).toInt ≤ 1600 := dg_I.intb (lo := 0) (hi := 1600) I_31 sM_0 (by decide +kernel) f_y_36
            have b_y_37 : 0 ≤ (y_37).toInt ∧ (y_37).toInt ≤ 6 := dg_I.intb (lo := 0) (hi := 6) I_31 sM_0 (by decide +kernel) f_y_37
            have hin_38 : vp_in x_16 10 := (dk_inv2 (by omega))
            refine dg_iast hx hb K hP hS hA1 sM_13 hin_38 dX12_ordering_72 (fun S_39 e_39 H locs hP hS => ?_)
            have I_39 := dg_I.ufu (lo := 0) (hi := 9999) I_31 e_39 sM_13 (by decide +kernel) (show 0 ≤ (x_30).toInt ∧ (x_30).toInt ≤ 9999 from (by omega))
            have M_39 := dg_sm.uf M_31 e_39 sM_13 (dk_dq rfl)
            have GB_39 := GBM.st (GBM.keep (GBM.keep GB_24 m_25 (dk_dq rfl) (dk_dq rfl) (dk_dq rfl)) m_31 (dk_dq rfl) (dk_dq rfl) (dk_dq rfl)) (ZKM.keep (ZKM.keep (ZKM.keep (ZKM.keep (ZKM.keep ZK m_6 (dk_dq rfl) (dk_dq rfl)) m_18 (dk_dq rfl) (dk_dq rfl)) (dg_sm.ul (WF := []) (WA := [21]) dg_sm.rf e_24 sM_21 (dk_dq rfl)) (dk_dq rfl) (dk_dq rfl)) m_25 (dk_dq rfl) (dk_dq rfl)) m_31 (dk_dq rfl) (dk_dq rfl)) (((m_31.1 0 35 _ sM_0 (dk_dq rfl)).trans ((m_25.1 0 35 _ sM_0 (dk_dq rfl)).trans ((dg_ul_F e_24 0 35).trans ((m_18.1 0 35 _ sM_0 (dk_dq rfl)).trans (m_6.1 0 35 _ sM_0 (dk_dq rfl)))))).trans f_ii) 5 rfl (wi := 5) rfl e_39 (by omega) (by omega)
            as_aux_lemma =>
              refine lv_aload_n hx hb dX12_ordering_73 rfl (lv_at hl 1 rfl) ?_
              refine lv_ldc2 hx hb hown (hts _ (bw_mem wB_335)) dX12_ordering_74 ?_
              refine dg_callv hS hA1 hA (va_runV (As := [.long 1953849971]) (rest := []) F (c_m_must_ l g D o S_39 1953849971 tb tn 10 y_34 ((dg_uf_F e_39 0 3).trans f_y_34) (by omega) y_35 ((dg_uf_F e_39 0 4).trans f_y_35) (by omega) y_36 ((dg_uf_F e_39 0 5).trans f_y_36) (by omega) sl (((dg_uf_F e_39 0 2).trans ((m_31.1 0 2 _ sM_0 (dk_dq rfl)).trans ((m_25.1 0 2 _ sM_0 (dk_dq rfl)).trans ((dg_ul_F e_24 0 2).trans ((m_18.1 0 2 _ sM_0 (dk_dq rfl)).trans (m_6.1 0 2 _ sM_0 (dk_dq rfl))))))).trans f_sl) (by omega) y_37 ((dg_uf_F e_39 0 8).trans f_y_37) (by omega) (by omega) ⟨by decide, by decide +kernel⟩ (TKM.keep w_31_2 (dg_sm.uf (WF := []) (WA := [13]) dg_sm.rf e_39 sM_13 (dk_dq rfl)) (dk_dq rfl) (dk_dq rfl) (dk_dq rfl) (dk_dq rfl) (dk_dq rfl) (dk_dq rfl) (dk_dq rfl) (dk_dq rfl)) I_39 H.size) (cwV 1 hts (bw_V wB_393 wB_394 wB_395 wB_297 wB_392) rfl rfl rfl (by decide +kernel) ⟨Nat.le_of_ble_eq_true rfl, Nat.le_of_ble_eq_true rfl⟩) (dg_preV sM_0 rfl K ST hP hS hA1 hA) rfl rfl hl.1 rfl (lv_room (Nat.le_of_ble_eq_true rfl)) dX12_ordering_77 ⟨Nat.le_of_ble_eq_true rfl, Nat.le_of_ble_eq_true rfl⟩) (fun S_40 hw_40 H locs hP hS => ?_)
              obtain ⟨I_40, m_40, w_40_0, w_40_1, -⟩ := hw_40
              have M_40 := dg_sm.tr M_39 m_40 (dk_dq rfl) (dk_dq rfl)
              obtain ⟨y_41, y_42, y_43, y_44, f_y_41, f_y_42, f_y_43, f_y_44, w_40_0⟩ := w_40_0
              have w_40_0 : (((y_42).toInt ≤ (y_43).toInt ∧ (y_43).toInt ≤ (sl).toInt ∧ ((y_41).toInt ≠ 0 → (y_42).toInt + 1 ≤ (y_43).toInt)) ∧ (y_35).toInt ≤ (y_42).toInt ∧ ((y_37).toInt ≠ 0 → (y_44).toInt ≠ 0) ∧ ((y_44).toInt = 0 → (y_35).toInt + 1 ≤ (y_42).toInt)) ∧ m_hid ((y_37).toInt = 0 → m_an y_44 (y_own (T_kd tb tn) (T_vl tb tn) 10 (t_ix tb tn (y_35 : Int32).toNatClampNeg)) (t_ix tb tn (y_42 : Int32).toNatClampNeg)) := w_40_0
              obtain ⟨⟨⟨w_40_0_0, w_40_0_1, w_40_0_2⟩, w_40_0_3, w_40_0_4, w_40_0_5⟩, w_40_0_6⟩ := w_40_0
              clear w_31_1_2
              have b_y_41 : 0 ≤ (y_41).toInt ∧ (y_41).toInt ≤ 3 := dg_I.intb (lo := 0) (hi := 3) I_40 sM_0 (by decide +kernel) f_y_41
              have b_y_42 : 0 ≤ (y_42).toInt ∧ (y_42).toInt ≤ 1600 := dg_I.intb (lo := 0) (hi := 1600) I_40 sM_0 (by decide +kernel) f_y_42
              have b_y_43 : 0 ≤ (y_43).toInt ∧ (y_43).toInt ≤ 1600 := dg_I.intb (lo := 0) (hi := 1600) I_40 sM_0 (by decide +kernel) f_y_43
              have b_y_44 : 0 ≤ (y_44).toInt ∧ (y_44).toInt ≤ 6 := dg_I.intb (lo := 0) (hi := 6) I_40 sM_0 (by decide +kernel) f_y_44
              refine lv_aload_n hx hb dX12_ordering_80 rfl (lv_at hl 1 rfl) ?_
              refine dg_get (C := RX12) (T := TX12) (N := 77) hx hb hts (fun w h => bw_mem (wU_X12 w h)) hown K hP sM_0 rfl 26 (dk_dq rfl) (hts _ (bw_mem wB_399)) (fun _ h9 => h9) (v := .ref (o + 14)) (show S_40.1 0 26 = .ref (o + 14) from dg_I.rel (d := 14) I_40 sM_0 (by decide +kernel)) dX12_ordering_81 ?_
              refine lv_iload_n hx hb dX12_ordering_84 rfl (lv_at hl 0 rfl) ?_
              refine lv_aload_n hx hb dX12_ordering_85 rfl (lv_at hl 1 rfl) ?_
              refine lv_iconst (v := 1) hx hb dX12_ordering_86 (by decide +kernel) ?_
              refine lv_bipush (v := 9) hx hb dX12_ordering_87 (by decide +kernel) ?_
              refine dg_calli hS hA1 hA (va_runV (As := [.int 1, .int 9]) (rest := [.int x_16, .ref (o + 14)]) F (c_m_number l g D o S_40 1 9 tb tn y_41 f_y_41 (by omega) y_42 f_y_42 (by omega) y_43 f_y_43 (by omega) sl (((m_40.1 0 2 _ sM_0 (dk_dq rfl)).trans ((dg_uf_F e_39 0 2).trans ((m_31.1 0 2 _ sM_0 (dk_dq rfl)).trans ((m_25.1 0 2 _ sM_0 (dk_dq rfl)).trans ((dg_ul_F e_24 0 2).trans ((m_18.1 0 2 _ sM_0 (dk_dq rfl)).trans (m_6.1 0 2 _ sM_0 (dk_dq rfl)))))))).trans f_sl) (by omega) y_44 f_y_44 (by omega) (by omega) w_40_1 I_40 H.size) (cwV 2 hts (bw_V wB_374 wB_375 wB_376 wB_297 wB_373) rfl rfl rfl (by decide +kernel) ⟨Nat.le_of_ble_eq_true rfl, Nat.le_of_ble_eq_true rfl⟩) (dg_preV sM_0 rfl K ST hP hS hA1 hA) rfl rfl hl.1 rfl (lv_room (Nat.le_of_ble_eq_true rfl)) dX12_ordering_89 ⟨Nat.le_of_ble_eq_true rfl, Nat.le_of_ble_eq_true rfl⟩) (fun x_45 S_46 hw_46 H locs hP hS => ?_)
              obtain ⟨I_46, m_46, w_46_0, w_46_1, w_46_2, -⟩ := hw_46
              have M_46 := dg_sm.tr M_40 m_46 (dk_dq rfl) (dk_dq rfl)
              have hz_47 : (1 : Int32).toInt = 1 := by decide +kernel
              have hz_48 : (9 : Int32).toInt = 9 := by decide +kernel
              have w_46_0 : 0 ≤ (x_45).toInt ∧ (x_45).toInt ≤ 9999 := w_46_0
              obtain ⟨y_49, y_50, y_51, y_52, f_y_49, f_y_50, f_y_51, f_y_52, w_46_1⟩ := w_46_1
              have w_46_1 : (((y_50).toInt ≤ (y_51).toInt ∧ (y_51).toInt ≤ (sl).toInt ∧ ((y_49).toInt ≠ 0 → (y_50).toInt + 1 ≤ (y_51).toInt)) ∧ (y_42).toInt ≤ (y_50).toInt ∧ ((y_44).toInt ≠ 0 → (y_52).toInt ≠ 0) ∧ ((y_52).toInt = 0 → (((1 : Int32)).toInt ≤ (x_45).toInt ∧ (x_45).toInt ≤ ((9 : Int32)).toInt ∧ (y_42).toInt + 1 ≤ (y_50).toInt))) ∧ m_hid ((y_44).toInt = 0 → m_an y_52 (y_num (T_kd tb tn) (T_vl tb tn) ((1 : Int32)).toInt ((9 : Int32)).toInt (t_ix tb tn (y_42 : Int32).toNatClampNeg)) (t_ix tb tn (y_50 : Int32).toNatClampNeg) ∧ ((y_52).toInt = 0 → (x_45).toInt = (T_vl tb tn (t_ix tb tn (y_42 : Int32).toNatClampNeg)).toInt)) := w_46_1
              obtain ⟨⟨⟨w_46_1_0, w_46_1_1, w_46_1_2⟩, w_46_1_3, w_46_1_4, w_46_1_5⟩, w_46_1_6⟩ := w_46_1
              clear w_40_0_2
              have b_y_49 : 0 ≤ (y_49).toInt ∧ (y_49).toInt ≤ 3 := dg_I.intb (lo := 0) (hi := 3) I_46 sM_0 (by decide +kernel) f_y_49
              have b_y_50 : 0 ≤ (y_50).toInt ∧ (y_50).toInt ≤ 1600 := dg_I.intb (lo := 0) (hi := 1600) I_46 sM_0 (by decide +kernel) f_y_50
              have b_y_51 : 0 ≤ (y_51).toInt ∧ (y_51).toInt ≤ 1600 := dg_I.intb (lo := 0) (hi := 1600) I_46 sM_0 (by decide +kernel) f_y_51
              have b_y_52 : 0 ≤ (y_52).toInt ∧ (y_52).toInt ≤ 6 := dg_I.intb (lo := 0) (hi := 6) I_46 sM_0 (by decide +kernel) f_y_52
              have hin_53 : vp_in x_16 10 := (dk_inv2 (by omega))
              refine dg_iast hx hb K hP hS hA1 sM_14 hin_53 dX12_ordering_92 (fun S_54 e_54 H locs hP hS => ?_)
              have I_54 := dg_I.uf0 I_46 e_54 sM_14 (by decide +kernel)
              have M_54 := dg_sm.uf M_46 e_54 sM_14 (dk_dq rfl)
              have GB_54 := GBM.st (GBM.keep (GBM.keep GB_39 m_40 (dk_dq rfl) (dk_dq rfl) (dk_dq rfl)) m_46 (dk_dq rfl) (dk_dq rfl) (dk_dq rfl)) (ZKM.keep (ZKM.keep (ZKM.keep (ZKM.keep (ZKM.keep (ZKM.keep (ZKM.keep (ZKM.keep ZK m_6 (dk_dq rfl) (dk_dq rfl)) m_18 (dk_dq rfl) (dk_dq rfl)) (dg_sm.ul (WF := []) (WA := [21]) dg_sm.rf e_24 sM_21 (dk_dq rfl)) (dk_dq rfl) (dk_dq rfl)) m_25 (dk_dq rfl) (dk_dq rfl)) m_31 (dk_dq rfl) (dk_dq rfl)) (dg_sm.uf (WF := []) (WA := [13]) dg_sm.rf e_39 sM_13 (dk_dq rfl)) (dk_dq rfl) (dk_dq rfl)) m_40 (dk_dq rfl) (dk_dq rfl)) m_46 (dk_dq rfl) (dk_dq rfl)) (((m_46.1 0 35 _ sM_0 (dk_dq rfl)).trans ((m_40.1 0 35 _ sM_0 (dk_dq rfl)).trans ((dg_uf_F e_39 0 35).trans ((m_31.1 0 35 _ sM_0 (dk_dq rfl)).trans ((m_25.1 0 35 _ sM_0 (dk_dq rfl)).trans ((dg_ul_F e_24 0 35).trans ((m_18.1 0 35 _ sM_0 (dk_dq rfl)).trans (m_6.1 0 35 _ sM_0 (dk_dq rfl))))))))).trans f_ii) 5 rfl (wi := 5) rfl e_54 (by omega) (by omega)
              refine lv_aload_n hx hb dX12_ordering_93 rfl (lv_at hl 1 rfl) ?_
              refine lv_ldc2 hx hb hown (hts _ (bw_mem wB_336)) dX12_ordering_94 ?_
              as_aux_lemma =>
                refine dg_callv hS hA1 hA (va_runV (As := [.long 1885436275]) (rest := []) F (c_m_must_ l g D o S_54 1885436275 tb tn 11 y_49 ((dg_uf_F e_54 0 3).trans f_y_49) (by omega) y_50 ((dg_uf_F e_54 0 4).trans f_y_50) (by omega) y_51 ((dg_uf_F e_54 0 5).trans f_y_51) (by omega) sl (((dg_uf_F e_54 0 2).trans ((m_46.1 0 2 _ sM_0 (dk_dq rfl)).trans ((m_40.1 0 2 _ sM_0 (dk_dq rfl)).trans ((dg_uf_F e_39 0 2).trans ((m_31.1 0 2 _ sM_0 (dk_dq rfl)).trans ((m_25.1 0 2 _ sM_0 (dk_dq rfl)).trans ((dg_ul_F e_24 0 2).trans ((m_18.1 0 2 _ sM_0 (dk_dq rfl)).trans (m_6.1 0 2 _ sM_0 (dk_dq rfl)))))))))).trans f_sl) (by omega) y_52 ((dg_uf_F e_54 0 8).trans f_y_52) (by omega) (by omega) ⟨by decide, by decide +kernel⟩ (TKM.keep w_46_2 (dg_sm.uf (WF := []) (WA := [14]) dg_sm.rf e_54 sM_14 (dk_dq rfl)) (dk_dq rfl) (dk_dq rfl) (dk_dq rfl) (dk_dq rfl) (dk_dq rfl) (dk_dq rfl) (dk_dq rfl) (dk_dq rfl)) I_54 H.size) (cwV 1 hts (bw_V wB_393 wB_394 wB_395 wB_297 wB_392) rfl rfl rfl (by decide +kernel) ⟨Nat.le_of_ble_eq_true rfl, Nat.le_of_ble_eq_true rfl⟩) (dg_preV sM_0 rfl K ST hP hS hA1 hA) rfl rfl hl.1 rfl (lv_room (Nat.le_of_ble_eq_true rfl)) dX12_ordering_97 ⟨Nat.le_of_ble_eq_true rfl, Nat.le_of_ble_eq_true rfl⟩) (fun S_55 hw_55 H locs hP hS => ?_)
                obtain ⟨I_55, m_55, w_55_0, w_55_1, -⟩ := hw_55
                have M_55 := dg_sm.tr M_54 m_55 (dk_dq rfl) (dk_dq rfl)
                obtain ⟨y_56, y_57, y_58, y_59, f_y_56, f_y_57, f_y_58, f_y_59, w_55_0⟩ := w_55_0
                have w_55_0 : (((y_57).toInt ≤ (y_58).toInt ∧ (y_58).toInt ≤ (sl).toInt ∧ ((y_56).toInt ≠ 0 → (y_57).toInt + 1 ≤ (y_58).toInt)) ∧ (y_50).toInt ≤ (y_57).toInt ∧ ((y_52).toInt ≠ 0 → (y_59).toInt ≠ 0) ∧ ((y_59).toInt = 0 → (y_50).toInt + 1 ≤ (y_57).toInt)) ∧ m_hid ((y_52).toInt = 0 → m_an y_59 (y_own (T_kd tb tn) (T_vl tb tn) 11 (t_ix tb tn (y_50 : Int32).toNatClampNeg)) (t_ix tb tn (y_57 : Int32).toNatClampNeg)) := w_55_0
                obtain ⟨⟨⟨w_55_0_0, w_55_0_1, w_55_0_2⟩, w_55_0_3, w_55_0_4, w_55_0_5⟩, w_55_0_6⟩ := w_55_0
                clear w_46_1_2
                have b_y_56 : 0 ≤ (y_56).toInt ∧ (y_56).toInt ≤ 3 := dg_I.intb (lo := 0) (hi := 3) I_55 sM_0 (by decide +kernel) f_y_56
                have b_y_57 : 0 ≤ (y_57).toInt ∧ (y_57).toInt ≤ 1600 := dg_I.intb (lo := 0) (hi := 1600) I_55 sM_0 (by decide +kernel) f_y_57
                have b_y_58 : 0 ≤ (y_58).toInt ∧ (y_58).toInt ≤ 1600 := dg_I.intb (lo := 0) (hi := 1600) I_55 sM_0 (by decide +kernel) f_y_58
                have b_y_59 : 0 ≤ (y_59).toInt ∧ (y_59).toInt ≤ 6 := dg_I.intb (lo := 0) (hi := 6) I_55 sM_0 (by decide +kernel) f_y_59
                refine lv_aload_n hx hb dX12_ordering_100 rfl (lv_at hl 1 rfl) ?_
                refine dg_get (C := RX12) (T := TX12) (N := 77) hx hb hts (fun w h => bw_mem (wU_X12 w h)) hown K hP sM_0 rfl 27 (dk_dq rfl) (hts _ (bw_mem wB_400)) (fun _ h9 => h9) (v := .ref (o + 15)) (show S_55.1 0 27 = .ref (o + 15) from dg_I.rel (d := 15) I_55 sM_0 (by decide +kernel)) dX12_ordering_101 ?_
                refine lv_iload_n hx hb dX12_ordering_104 rfl (lv_at hl 0 rfl) ?_
                refine lv_aload_n hx hb dX12_ordering_105 rfl (lv_at hl 1 rfl) ?_
                refine lv_iconst (v := 0) hx hb dX12_ordering_106 (by decide +kernel) ?_
                refine lv_sipush (v := 999) hx hb dX12_ordering_107 (by decide +kernel) ?_
                refine dg_calli hS hA1 hA (va_runV (As := [.int 0, .int 999]) (rest := [.int x_16, .ref (o + 15)]) F (c_m_number l g D o S_55 0 999 tb tn y_56 f_y_56 (by omega) y_57 f_y_57 (by omega) y_58 f_y_58 (by omega) sl (((m_55.1 0 2 _ sM_0 (dk_dq rfl)).trans ((dg_uf_F e_54 0 2).trans ((m_46.1 0 2 _ sM_0 (dk_dq rfl)).trans ((m_40.1 0 2 _ sM_0 (dk_dq rfl)).trans ((dg_uf_F e_39 0 2).trans ((m_31.1 0 2 _ sM_0 (dk_dq rfl)).trans ((m_25.1 0 2 _ sM_0 (dk_dq rfl)).trans ((dg_ul_F e_24 0 2).trans ((m_18.1 0 2 _ sM_0 (dk_dq rfl)).trans (m_6.1 0 2 _ sM_0 (dk_dq rfl))))))))))).trans f_sl) (by omega) y_59 f_y_59 (by omega) (by omega) w_55_1 I_55 H.size) (cwV 2 hts (bw_V wB_374 wB_375 wB_376 wB_297 wB_373) rfl rfl rfl (by decide +kernel) ⟨Nat.le_of_ble_eq_true rfl, Nat.le_of_ble_eq_true rfl⟩) (dg_preV sM_0 rfl K ST hP hS hA1 hA) rfl rfl hl.1 rfl (lv_room (Nat.le_of_ble_eq_true rfl)) dX12_ordering_110 ⟨Nat.le_of_ble_eq_true rfl, Nat.le_of_ble_eq_true rfl⟩) (fun x_60 S_61 hw_61 H locs hP hS => ?_)
                obtain ⟨I_61, m_61, w_61_0, w_61_1, w_61_2, -⟩ := hw_61
                have M_61 := dg_sm.tr M_55 m_61 (dk_dq rfl) (dk_dq rfl)
                have hz_62 : (0 : Int32).toInt = 0 := by decide +kernel
                have hz_63 : (999 : Int32).toInt = 999 := by decide +kernel
                have w_61_0 : 0 ≤ (x_60).toInt ∧ (x_60).toInt ≤ 9999 := w_61_0
                obtain ⟨y_64, y_65, y_66, y_67, f_y_64, f_y_65, f_y_66, f_y_67, w_61_1⟩ := w_61_1
                have w_61_1 : (((y_65).toInt ≤ (y_66).toInt ∧ (y_66).toInt ≤ (sl).toInt ∧ ((y_64).toInt ≠ 0 → (y_65).toInt + 1 ≤ (y_66).toInt)) ∧ (y_57).toInt ≤ (y_65).toInt ∧ ((y_59).toInt ≠ 0 → (y_67).toInt ≠ 0) ∧ ((y_67).toInt = 0 → (((0 : Int32)).toInt ≤ (x_60).toInt ∧ (x_60).toInt ≤ ((999 : Int32)).toInt ∧ (y_57).toInt + 1 ≤ (y_65).toInt))) ∧ m_hid ((y_59).toInt = 0 → m_an y_67 (y_num (T_kd tb tn) (T_vl tb tn) ((0 : Int32)).toInt ((999 : Int32)).toInt (t_ix tb tn (y_57 : Int32).toNatClampNeg)) (t_ix tb tn (y_65 : Int32).toNatClampNeg) ∧ ((y_67).toInt = 0 → (x_60).toInt = (T_vl tb tn (t_ix tb tn (y_57 : Int32).toNatClampNeg)).toInt)) := w_61_1
                obtain ⟨⟨⟨w_61_1_0, w_61_1_1, w_61_1_2⟩, w_61_1_3, w_61_1_4, w_61_1_5⟩, w_61_1_6⟩ := w_61_1
                clear w_55_0_2
                have b_y_64 : 0 ≤ (y_64).toInt ∧ (y_64).toInt ≤ 3 := dg_I.intb (lo := 0) (hi := 3) I_61 sM_0 (by decide +kernel) f_y_64
                have b_y_65 : 0 ≤ (y_65).toInt ∧ (y_65).toInt ≤ 1600 := dg_I.intb (lo := 0) (hi := 1600) I_61 sM_0 (by decide +kernel) f_y_65
                have b_y_66 : 0 ≤ (y_66).toInt ∧ (y_66).toInt ≤ 1600 := dg_I.intb (lo := 0) (hi := 1600) I_61 sM_0 (by decide +kernel) f_y_66
                have b_y_67 : 0 ≤ (y_67).toInt ∧ (y_67).toInt ≤ 6 := dg_I.intb (lo := 0) (hi := 6) I_61 sM_0 (by decide +kernel) f_y_67
                have hin_68 : vp_in x_16 10 := (dk_inv2 (by omega))
                refine dg_iast hx hb K hP hS hA1 sM_15 hin_68 dX12_ordering_113 (fun S_69 e_69 H locs hP hS => ?_)
                have I_69 := dg_I.uf0 I_61 e_69 sM_15 (by decide +kernel)
                have M_69 := dg_sm.uf M_61 e_69 sM_15 (dk_dq rfl)
                have GB_69 := GBM.st (GBM.keep (GBM.keep GB_54 m_55 (dk_dq rfl) (dk_dq rfl) (dk_dq rfl)) m_61 (dk_dq rfl) (dk_dq rfl) (dk_dq rfl)) (ZKM.keep (ZKM.keep (ZKM.keep (ZKM.keep (ZKM.keep (ZKM.keep (ZKM.keep (ZKM.keep (ZKM.keep (ZKM.keep (ZKM.keep ZK m_6 (dk_dq rfl) (dk_dq rfl)) m_18 (dk_dq rfl) (dk_dq rfl)) (dg_sm.ul (WF := []) (WA := [21]) dg_sm.rf e_24 sM_21 (dk_dq rfl)) (dk_dq rfl) (dk_dq rfl)) m_25 (dk_dq rfl) (dk_dq rfl)) m_31 (dk_dq rfl) (dk_dq rfl)) (dg_sm.uf (WF := []) (WA := [13]) dg_sm.rf e_39 sM_13 (dk_dq rfl)) (dk_dq rfl) (dk_dq rfl)) m_40 (dk_dq rfl) (dk_dq rfl)) m_46 (dk_dq rfl) (dk_dq rfl)) (dg_sm.uf (WF := []) (WA := [14]) dg_sm.rf e_54 sM_14 (dk_dq rfl)) (dk_dq rfl) (dk_dq rfl)) m_55 (dk_dq rfl) (dk_dq rfl)) m_61 (dk_dq rfl) (dk_dq rfl)) (((m_61.1 0 35 _ sM_0 (dk_dq rfl)).trans ((m_55.1 0 35 _ sM_0 (dk_dq rfl)).trans ((dg_uf_F e_54 0 35).trans ((m_46.1 0 35 _ sM_0 (dk_dq rfl)).trans ((m_40.1 0 35 _ sM_0 (dk_dq rfl)).trans ((dg_uf_F e_39 0 35).trans ((m_31.1 0 35 _ sM_0 (dk_dq rfl)).trans ((m_25.1 0 35 _ sM_0 (dk_dq rfl)).trans ((dg_ul_F e_24 0 35).trans ((m_18.1 0 35 _ sM_0 (dk_dq rfl)).trans (m_6.1 0 35 _ sM_0 (dk_dq rfl)))))))))))).trans f_ii) 5 rfl (wi := 5) rfl e_69 (by omega) (by omega)
                refine lv_aload_n hx hb dX12_ordering_114 rfl (lv_at hl 1 rfl) ?_
                refine dg_get (C := RX12) (T := TX12) (N := 77) hx hb hts (fun w h => bw_mem (wU_X12 w h)) hown K hP sM_0 rfl 8 (dk_dq rfl) (hts _ (bw_mem wB_303)) (fun _ h9 => h9) (v := .int y_67) ((dg_uf_F e_69 0 8).trans f_y_67) dX12_ordering_115 ?_
                refine lv_if_ne (tgt := 134) hx hb dX12_ordering_118 (dk_dq rfl) (fun c_70 => ?_) (fun c_70 => ?_)
                · have jc_70 := dk_neqc (k := 0) (by decide +kernel) c_70
                  have jbc_70 : 1 ≤ (y_67).toInt := by omega
                  clear jc_70
                  clear w_61_1_5
                  refine W.widen (k := 0) (n := 0) (Nat.le_of_ble_eq_true rfl) (Nat.le_of_ble_eq_true rfl) ?_
                  rw [hQ9]
                  exact dg_vret hx hb hr hlocks hP hS ⟨I_69, M_69, ⟨y_64, y_65, y_66, y_67, ((dg_uf_F e_69 0 3).trans f_y_64), ((dg_uf_F e_69 0 4).trans f_y_65), ((dg_uf_F e_69 0 5).trans f_y_66), ((dg_uf_F e_69 0 8).trans f_y_67), (by omega)⟩, (SOK.mk (fk := fk) ((dg_uf_F e_69 0 8).trans f_y_67) ((dg_uf_F e_69 0 4).trans f_y_65) (fun h0 q9 => by exfalso; omega) (fun h0 q9 => (m_an.bind (by have h9 := (w_18_0_6.out (by omega)).1; rw [show (t_ix tb tn (y_9 : Int32).toNatClampNeg) = ((t_ix tb tn (sa : Int32).toNatClampNeg) + 1) from by omega] at h9; exact h9) (fun q1 => m_an.bind (w_25_0_6.out (by omega)) (fun q2 => m_an.bind (by have h9 := (w_31_1_6.out (by omega)).1; rw [show ((0 : Int32)).toInt = 0 from by decide +kernel, show ((9 : Int32)).toInt = 9 from by decide +kernel] at h9; exact h9) (fun q3 => m_an.bind (w_40_0_6.out (by omega)) (fun q4 => m_an.bind (by have h9 := (w_46_1_6.out (by omega)).1; rw [show ((1 : Int32)).toInt = 1 from by decide +kernel, show ((9 : Int32)).toInt = 9 from by decide +kernel] at h9; exact h9) (fun q5 => m_an.bind (w_55_0_6.out (by omega)) (fun q6 => (by have h9 := (w_61_1_6.out (by omega)).1; rw [show ((0 : Int32)).toInt = 0 from by decide +kernel, show ((999 : Int32)).toInt = 999 from by decide +kernel] at h9; exact h9)) (by omega)) (by omega)) (by omega)) (by omega)) (by omega)) (by omega))) (fun h0 q8 q9 => by exfalso; omega) rfl), (m_hid.mk (fun h0 f9 q9 q8 => by have q7 := (((dg_uf_F e_69 0 8).trans f_y_67)).symm.trans q9; cases q7; exfalso; omega)), (TKM.keep w_61_2 (dg_sm.uf (WF := []) (WA := [15]) dg_sm.rf e_69 sM_15 (dk_dq rfl)) (dk_dq rfl) (dk_dq rfl) (dk_dq rfl) (dk_dq rfl) (dk_dq rfl) (dk_dq rfl) (dk_dq rfl) (dk_dq rfl)), GB_69, trivial⟩ dX12_ordering_134
                · as_aux_lemma =>
                    have jc_70 := dk_eqc (k := 0) (by decide +kernel) c_70
                    have w_61_1_4c : (y_59).toInt = 0 := by omega
                    clear w_61_1_4
                    have w_61_1_5r := w_61_1_5 (by omega)
                    clear w_61_1_5
                    obtain ⟨w_61_1_5r_0, w_61_1_5r_1, w_61_1_5r_2⟩ := w_61_1_5r
                    have w_55_0_4c : (y_52).toInt = 0 := by omega
                    clear w_55_0_4
                    have w_55_0_5r := w_55_0_5 (by omega)
                    clear w_55_0_5
                    have w_46_1_4c : (y_44).toInt = 0 := by omega
                    clear w_46_1_4
                    have w_46_1_5r := w_46_1_5 (by omega)
                    clear w_46_1_5
                    obtain ⟨w_46_1_5r_0, w_46_1_5r_1, w_46_1_5r_2⟩ := w_46_1_5r
                    have w_40_0_4c : (y_37).toInt = 0 := by omega
                    clear w_40_0_4
                    have w_40_0_5r := w_40_0_5 (by omega)
                    clear w_40_0_5
                    have w_31_1_4c : (y_29).toInt = 0 := by omega
                    clear w_31_1_4
                    have w_31_1_5r := w_31_1_5 (by omega)
                    clear w_31_1_5
                    obtain ⟨w_31_1_5r_0, w_31_1_5r_1, w_31_1_5r_2⟩ := w_31_1_5r
                    have w_25_0_4c : (y_22).toInt = 0 := by omega
                    clear w_25_0_4
                    have w_25_0_5r := w_25_0_5 (by omega)
                    clear w_25_0_5
                    have w_18_0_5r := w_18_0_5 (by omega)
                    clear w_18_0_5
                    refine lv_aload_n hx hb dX12_ordering_121 rfl (lv_at hl 1 rfl) ?_
                    refine dg_get (C := RX12) (T := TX12) (N := 77) hx hb hts (fun w h => bw_mem (wU_X12 w h)) hown K hP sM_0 rfl 24 (dk_dq rfl) (hts _ (bw_mem wB_355)) (fun _ h9 => h9) (v := .ref (o + 12)) (show S_69.1 0 24 = .ref (o + 12) from dg_I.rel (d := 12) I_69 sM_0 (by decide +kernel)) dX12_ordering_122 ?_
                    refine lv_aload_n hx hb dX12_ordering_125 rfl (lv_at hl 1 rfl) ?_
                    refine dg_get (C := RX12) (T := TX12) (N := 77) hx hb hts (fun w h => bw_mem (wU_X12 w h)) hown K hP sM_0 rfl 35 (dk_dq rfl) (hts _ (bw_mem wB_353)) (fun _ h9 => h9) (v := .int ii) (((dg_uf_F e_69 0 35).trans ((m_61.1 0 35 _ sM_0 (dk_dq rfl)).trans ((m_55.1 0 35 _ sM_0 (dk_dq rfl)).trans ((dg_uf_F e_54 0 35).trans ((m_46.1 0 35 _ sM_0 (dk_dq rfl)).trans ((m_40.1 0 35 _ sM_0 (dk_dq rfl)).trans ((dg_uf_F e_39 0 35).trans ((m_31.1 0 35 _ sM_0 (dk_dq rfl)).trans ((m_25.1 0 35 _ sM_0 (dk_dq rfl)).trans ((dg_ul_F e_24 0 35).trans ((m_18.1 0 35 _ sM_0 (dk_dq rfl)).trans (m_6.1 0 35 _ sM_0 (dk_dq rfl))))))))))))).trans f_ii) dX12_ordering_126 ?_
                    refine lv_dup2_11 hx hb dX12_ordering_129 rfl rfl ?_
                    have hin_71 : vp_in ii 2 := (dk_inv2 (by omega))
                    refine dg_iald hx hb K hP sM_12 hin_71 dX12_ordering_130 (fun y_72 ey_72 => ?_)
                    obtain rfl : od = y_72 := ((ey_72.trans (congrFun ((dg_uf_ne e_69 (dk_dq rfl)).trans ((m_61.2 12 _ sM_12 (dk_dq rfl)).1.trans ((m_55.2 12 _ sM_12 (dk_dq rfl)).1.trans ((dg_uf_ne e_54 (dk_dq rfl)).trans ((m_46.2 12 _ sM_12 (dk_dq rfl)).1.trans ((m_40.2 12 _ sM_12 (dk_dq rfl)).1.trans ((dg_uf_ne e_39 (dk_dq rfl)).trans ((m_31.2 12 _ sM_12 (dk_dq rfl)).1.trans ((m_25.2 12 _ sM_12 (dk_dq rfl)).1.trans ((dg_ul_f e_24 12).trans ((m_18.2 12 _ sM_12 (dk_dq rfl)).1.trans (m_6.2 12 _ sM_12 (dk_dq rfl)).1))))))))))) _)).trans f_od).symm
                    refine lv_iconst (v := 1) hx hb dX12_ordering_131 (by decide +kernel) ?_
                    refine lv_iadd hx hb dX12_ordering_132 ?_
                    refine lv_topi (fun x_73 ex_73 => ?_)
                    have jx_73 : (x_73).toInt = (od).toInt + 1 := by rw [ex_73]; exact dk_addT2 rfl (by decide +kernel) (by omega)
                    have hin_74 : vp_in ii 2 := (dk_inv2 (by omega))
                    refine dg_iast hx hb K hP hS hA1 sM_12 hin_74 dX12_ordering_133 (fun S_75 e_75 H locs hP hS => ?_)
                    have I_75 := dg_I.ufu (lo := 0) (hi := 5) I_69 e_75 sM_12 (by decide +kernel) (show 0 ≤ (x_73).toInt ∧ (x_73).toInt ≤ 5 from (by omega))
                    have M_75 := dg_sm.uf M_69 e_75 sM_12 (dk_dq rfl)
                    have GB_75 := GBM.st GB_69 (ZKM.keep (ZKM.keep (ZKM.keep (ZKM.keep (ZKM.keep (ZKM.keep (ZKM.keep (ZKM.keep (ZKM.keep (ZKM.keep (ZKM.keep (ZKM.keep ZK m_6 (dk_dq rfl) (dk_dq rfl)) m_18 (dk_dq rfl) (dk_dq rfl)) (dg_sm.ul (WF := []) (WA := [21]) dg_sm.rf e_24 sM_21 (dk_dq rfl)) (dk_dq rfl) (dk_dq rfl)) m_25 (dk_dq rfl) (dk_dq rfl)) m_31 (dk_dq rfl) (dk_dq rfl)) (dg_sm.uf (WF := []) (WA := [13]) dg_sm.rf e_39 sM_13 (dk_dq rfl)) (dk_dq rfl) (dk_dq rfl)) m_40 (dk_dq rfl) (dk_dq rfl)) m_46 (dk_dq rfl) (dk_dq rfl)) (dg_sm.uf (WF := []) (WA := [14]) dg_sm.rf e_54 sM_14 (dk_dq rfl)) (dk_dq rfl) (dk_dq rfl)) m_55 (dk_dq rfl) (dk_dq rfl)) m_61 (dk_dq rfl) (dk_dq rfl)) (dg_sm.uf (WF := []) (WA := [15]) dg_sm.rf e_69 sM_15 (dk_dq rfl)) (dk_dq rfl) (dk_dq rfl)) (((dg_uf_F e_69 0 35).trans ((m_61.1 0 35 _ sM_0 (dk_dq rfl)).trans ((m_55.1 0 35 _ sM_0 (dk_dq rfl)).trans ((dg_uf_F e_54 0 35).trans ((m_46.1 0 35 _ sM_0 (dk_dq rfl)).trans ((m_40.1 0 35 _ sM_0 (dk_dq rfl)).trans ((dg_uf_F e_39 0 35).trans ((m_31.1 0 35 _ sM_0 (dk_dq rfl)).trans ((m_25.1 0 35 _ sM_0 (dk_dq rfl)).trans ((dg_ul_F e_24 0 35).trans ((m_18.1 0 35 _ sM_0 (dk_dq rfl)).trans (m_6.1 0 35 _ sM_0 (dk_dq rfl))))))))))))).trans f_ii) 1 rfl (wi := 1) rfl e_75 (by omega) (by omega)
                    refine W.widen (k := 0) (n := 0) (Nat.le_of_ble_eq_true rfl) (Nat.le_of_ble_eq_true rfl) ?_
                    rw [hQ9]
                    exact dg_vret hx hb hr hlocks hP hS ⟨I_75, M_75, ⟨y_64, y_65, y_66, y_67, (((dg_uf_F e_75 0 3).trans (dg_uf_F e_69 0 3)).trans f_y_64), (((dg_uf_F e_75 0 4).trans (dg_uf_F e_69 0 4)).trans f_y_65), (((dg_uf_F e_75 0 5).trans (dg_uf_F e_69 0 5)).trans f_y_66), (((dg_uf_F e_75 0 8).trans (dg_uf_F e_69 0 8)).trans f_y_67), (by omega)⟩, (SOK.mk (fk := fk) (((dg_uf_F e_75 0 8).trans (dg_uf_F e_69 0 8)).trans f_y_67) (((dg_uf_F e_75 0 4).trans (dg_uf_F e_69 0 4)).trans f_y_65) (fun h0 q9 => by exfalso; omega) (fun h0 q9 => (m_an.bind (by have h9 := (w_18_0_6.out (by omega)).1; rw [show (t_ix tb tn (y_9 : Int32).toNatClampNeg) = ((t_ix tb tn (sa : Int32).toNatClampNeg) + 1) from by omega] at h9; exact h9) (fun q1 => m_an.bind (w_25_0_6.out (by omega)) (fun q2 => m_an.bind (by have h9 := (w_31_1_6.out (by omega)).1; rw [show ((0 : Int32)).toInt = 0 from by decide +kernel, show ((9 : Int32)).toInt = 9 from by decide +kernel] at h9; exact h9) (fun q3 => m_an.bind (w_40_0_6.out (by omega)) (fun q4 => m_an.bind (by have h9 := (w_46_1_6.out (by omega)).1; rw [show ((1 : Int32)).toInt = 1 from by decide +kernel, show ((9 : Int32)).toInt = 9 from by decide +kernel] at h9; exact h9) (fun q5 => m_an.bind (w_55_0_6.out (by omega)) (fun q6 => (by have h9 := (w_61_1_6.out (by omega)).1; rw [show ((0 : Int32)).toInt = 0 from by decide +kernel, show ((999 : Int32)).toInt = 999 from by decide +kernel] at h9; exact h9)) (by omega)) (by omega)) (by omega)) (by omega)) (by omega)) (by omega))) (fun h0 q8 q9 => by have h9 := (w_18_0_6.out (by omega)).2 (by omega); have g9 := (GSM.c12 (GSM.keep (GSM.keep (GSM.keep (GSM.keep (GSM.keep (GSM.keep (GSM.keep (GSM.keep (GSM.keep gw_24.1 m_25 (dk_dq rfl) (dk_dq rfl) (dk_dq rfl) (dk_dq rfl) (dk_dq rfl) (dk_dq rfl) (dk_dq rfl) (dk_dq rfl) (dk_dq rfl)) m_31 (dk_dq rfl) (dk_dq rfl) (dk_dq rfl) (dk_dq rfl) (dk_dq rfl) (dk_dq rfl) (dk_dq rfl) (dk_dq rfl) (dk_dq rfl)) (dg_sm.uf (WF := []) (WA := [13]) dg_sm.rf e_39 sM_13 (dk_dq rfl)) (dk_dq rfl) (dk_dq rfl) (dk_dq rfl) (dk_dq rfl) (dk_dq rfl) (dk_dq rfl) (dk_dq rfl) (dk_dq rfl) (dk_dq rfl)) m_40 (dk_dq rfl) (dk_dq rfl) (dk_dq rfl) (dk_dq rfl) (dk_dq rfl) (dk_dq rfl) (dk_dq rfl) (dk_dq rfl) (dk_dq rfl)) m_46 (dk_dq rfl) (dk_dq rfl) (dk_dq rfl) (dk_dq rfl) (dk_dq rfl) (dk_dq rfl) (dk_dq rfl) (dk_dq rfl) (dk_dq rfl)) (dg_sm.uf (WF := []) (WA := [14]) dg_sm.rf e_54 sM_14 (dk_dq rfl)) (dk_dq rfl) (dk_dq rfl) (dk_dq rfl) (dk_dq rfl) (dk_dq rfl) (dk_dq rfl) (dk_dq rfl) (dk_dq rfl) (dk_dq rfl)) m_55 (dk_dq rfl) (dk_dq rfl) (dk_dq rfl) (dk_dq rfl) (dk_dq rfl) (dk_dq rfl) (dk_dq rfl) (dk_dq rfl) (dk_dq rfl)) m_61 (dk_dq rfl) (dk_dq rfl) (dk_dq rfl) (dk_dq rfl) (dk_dq rfl) (dk_dq rfl) (dk_dq rfl) (dk_dq rfl) (dk_dq rfl)) (dg_sm.uf (WF := []) (WA := [15]) dg_sm.rf e_69 sM_15 (dk_dq rfl)) (dk_dq rfl) (dk_dq rfl) (dk_dq rfl) (dk_dq rfl) (dk_dq rfl) (dk_dq rfl) (dk_dq rfl) (dk_dq rfl) (dk_dq rfl)) (((dg_uf_F e_69 0 35).trans ((m_61.1 0 35 _ sM_0 (dk_dq rfl)).trans ((m_55.1 0 35 _ sM_0 (dk_dq rfl)).trans ((dg_uf_F e_54 0 35).trans ((m_46.1 0 35 _ sM_0 (dk_dq rfl)).trans ((m_40.1 0 35 _ sM_0 (dk_dq rfl)).trans ((dg_uf_F e_39 0 35).trans ((m_31.1 0 35 _ sM_0 (dk_dq rfl)).trans ((m_25.1 0 35 _ sM_0 (dk_dq rfl)).trans ((dg_ul_F e_24 0 35).trans ((m_18.1 0 35 _ sM_0 (dk_dq rfl)).trans (m_6.1 0 35 _ sM_0 (dk_dq rfl))))))))))))).trans f_ii) ((congrFun ((dg_uf_ne e_69 (dk_dq rfl)).trans ((m_61.2 12 _ sM_12 (dk_dq rfl)).1.trans ((m_55.2 12 _ sM_12 (dk_dq rfl)).1.trans ((dg_uf_ne e_54 (dk_dq rfl)).trans ((m_46.2 12 _ sM_12 (dk_dq rfl)).1.trans ((m_40.2 12 _ sM_12 (dk_dq rfl)).1.trans ((dg_uf_ne e_39 (dk_dq rfl)).trans ((m_31.2 12 _ sM_12 (dk_dq rfl)).1.trans ((m_25.2 12 _ sM_12 (dk_dq rfl)).1.trans ((dg_ul_f e_24 12).trans ((m_18.2 12 _ sM_12 (dk_dq rfl)).1.trans (m_6.2 12 _ sM_12 (dk_dq rfl)).1))))))))))) _).trans f_od) ((congrFun ((dg_uf_l e_69 21).trans ((m_61.2 21 _ sM_21 (dk_dq rfl)).2.trans ((m_55.2 21 _ sM_21 (dk_dq rfl)).2.trans ((dg_uf_l e_54 21).trans ((m_46.2 21 _ sM_21 (dk_dq rfl)).2.trans ((m_40.2 21 _ sM_21 (dk_dq rfl)).2.trans ((dg_uf_l e_39 21).trans ((m_31.2 21 _ sM_21 (dk_dq rfl)).2.trans (m_25.2 21 _ sM_21 (dk_dq rfl)).2)))))))) _).trans gw_24.2) h9.2 e_75 (by omega) (by omega)); rw [h9.1, show (t_ix tb tn (y_9 : Int32).toNatClampNeg) = ((t_ix tb tn (sa : Int32).toNatClampNeg) + 1) from by omega] at g9; exact g9) rfl), (m_hid.mk (fun h0 f9 q9 q8 => by have q7 := ((((dg_uf_F e_75 0 8).trans (dg_uf_F e_69 0 8)).trans f_y_67)).symm.trans q9; cases q7; have g0 := (y_new_o ((w_18_0_6.out (by omega)).1.1 (by omega))).2; have m0 := (y_own_o ((w_25_0_6.out (by omega)).1 (by omega))).2; have n0 := (y_num_o ((w_31_1_6.out (by omega)).1.1 (by omega))).2.2.2; have m1 := (y_own_o ((w_40_0_6.out (by omega)).1 (by omega))).2; have n1 := (y_num_o ((w_46_1_6.out (by omega)).1.1 (by omega))).2.2.2; have m2 := (y_own_o ((w_55_0_6.out (by omega)).1 (by omega))).2; have n2 := (y_num_o ((w_61_1_6.out (by omega)).1.1 (by omega))).2.2.2; rw [show (t_ix tb tn (y_9 : Int32).toNatClampNeg) = (t_ix tb tn (sa : Int32).toNatClampNeg) + 1 from by omega] at g0; rw [g0] at m0; rw [m0] at n0; rw [n0] at m1; rw [m1] at n1; rw [n1] at m2; exact ⟨x_30, x_45, x_60, (x_16 : Int32).toNatClampNeg, by have h9 := (w_31_1_6.out (by omega)).2 (by omega); rw [m0] at h9; (try simp only [Nat.add_assoc, Nat.reduceAdd] at h9); exact h9, by have h9 := (w_46_1_6.out (by omega)).2 (by omega); rw [m1] at h9; (try simp only [Nat.add_assoc, Nat.reduceAdd] at h9); exact h9, by have h9 := (w_61_1_6.out (by omega)).2 (by omega); rw [m2] at h9; (try simp only [Nat.add_assoc, Nat.reduceAdd] at h9); exact h9, by have h8 := dk_clN x_16; have h7 := dk_clN ii; have h6 := dk_clN od; omega, by rw [((dg_uf_ne e_75 (dk_dq rfl)).trans ((dg_uf_ne e_69 (dk_dq rfl)).trans ((m_61.2 13 _ sM_13 (dk_dq rfl)).1.trans ((m_55.2 13 _ sM_13 (dk_dq rfl)).1.trans ((dg_uf_ne e_54 (dk_dq rfl)).trans ((m_46.2 13 _ sM_13 (dk_dq rfl)).1.trans (m_40.2 13 _ sM_13 (dk_dq rfl)).1)))))), dg_uf_at e_39, ((m_31.2 13 _ sM_13 (dk_dq rfl)).1.trans ((m_25.2 13 _ sM_13 (dk_dq rfl)).1.trans ((dg_ul_f e_24 13).trans ((m_18.2 13 _ sM_13 (dk_dq rfl)).1.trans (m_6.2 13 _ sM_13 (dk_dq rfl)).1))))], by rw [((dg_uf_ne e_75 (dk_dq rfl)).trans ((dg_uf_ne e_69 (dk_dq rfl)).trans ((m_61.2 14 _ sM_14 (dk_dq rfl)).1.trans (m_55.2 14 _ sM_14 (dk_dq rfl)).1))), dg_uf_at e_54, ((m_46.2 14 _ sM_14 (dk_dq rfl)).1.trans ((m_40.2 14 _ sM_14 (dk_dq rfl)).1.trans ((dg_uf_ne e_39 (dk_dq rfl)).trans ((m_31.2 14 _ sM_14 (dk_dq rfl)).1.trans ((m_25.2 14 _ sM_14 (dk_dq rfl)).1.trans ((dg_ul_f e_24 14).trans ((m_18.2 14 _ sM_14 (dk_dq rfl)).1.trans (m_6.2 14 _ sM_14 (dk_dq rfl)).1)))))))], by rw [(dg_uf_ne e_75 (dk_dq rfl)), dg_uf_at e_69, ((m_61.2 15 _ sM_15 (dk_dq rfl)).1.trans ((m_55.2 15 _ sM_15 (dk_dq rfl)).1.trans ((dg_uf_ne e_54 (dk_dq rfl)).trans ((m_46.2 15 _ sM_15 (dk_dq rfl)).1.trans ((m_40.2 15 _ sM_15 (dk_dq rfl)).1.trans ((dg_uf_ne e_39 (dk_dq rfl)).trans ((m_31.2 15 _ sM_15 (dk_dq rfl)).1.trans ((m_25.2 15 _ sM_15 (dk_dq rfl)).1.trans ((dg_ul_f e_24 15).trans ((m_18.2 15 _ sM_15 (dk_dq rfl)).1.trans (m_6.2 15 _ sM_15 (dk_dq rfl)).1))))))))))], by have h6 := dk_clN od; omega⟩)), (TKM.keep (TKM.keep w_61_2 (dg_sm.uf (WF := []) (WA := [15]) dg_sm.rf e_69 sM_15 (dk_dq rfl)) (dk_dq rfl) (dk_dq rfl) (dk_dq rfl) (dk_dq rfl) (dk_dq rfl) (dk_dq rfl) (dk_dq rfl) (dk_dq rfl)) (dg_sm.uf (WF := []) (WA := [12]) dg_sm.rf e_75 sM_12 (dk_dq rfl)) (dk_dq rfl) (dk_dq rfl) (dk_dq rfl) (dk_dq rfl) (dk_dq rfl) (dk_dq rfl) (dk_dq rfl) (dk_dq rfl)), GB_75, trivial⟩ dX12_ordering_134
      · have jc_12 := dk_eqc (k := 0) (by decide +kernel) c_12
        clear w_6_1_5
        have w_6_1_6r := w_6_1_6 (by omega)
        clear w_6_1_6
        clear w_6_1_7
        have w_6_1_6rb : 1 ≤ (y_11).toInt := by omega
        clear w_6_1_6r
        refine W.widen (k := 0) (n := 0) (Nat.le_of_ble_eq_true rfl) (Nat.le_of_ble_eq_true rfl) ?_
        rw [hQ9]
        exact dg_vret hx hb hr hlocks hP hS ⟨I_6, M_6, ⟨y_8, y_9, y_10, y_11, f_y_8, f_y_9, f_y_10, f_y_11, (by omega)⟩, (SOK.mk (fk := fk) f_y_11 f_y_9 (fun h0 q9 => by omega) (fun h0 q9 => by exfalso; omega) (fun h0 q8 q9 => by exfalso; omega) rfl), (m_hid.mk (fun h0 f9 q9 q8 => by have q7 := (f_y_11).symm.trans q9; cases q7; exfalso; omega)), w_6_2, (GBM.keep GB m_6 (dk_dq rfl) (dk_dq rfl) (dk_dq rfl)), trivial⟩ dX12_ordering_25
  · as_aux_lemma =>
      have jc_3 := dk_eqc (k := 5) (by decide +kernel) c_3
      refine lv_iconst (v := 1) hx hb dX12_ordering_14 (by decide +kernel) ?_
      refine lv_goto (tgt := 19) hx hb dX12_ordering_15 (dk_dq rfl) ?_
      have hz_76 : (1 : Int32).toInt = 1 := by decide +kernel
      refine dg_calli hS hA1 hA (va_runV (As := [.int 1]) (rest := []) F (c_m_isCounted l g D o S 1 (by decide +kernel) tb tn sg f_sg (by omega) sa f_sa (by omega) se f_se (by omega) sl f_sl (by omega) fk f_fk (by omega) (by omega) (by omega) TK I s.heap.size) (cwV 1 hts (bw_V wB_379 wB_380 wB_381 wB_297 wB_378) rfl rfl rfl (by decide +kernel) ⟨Nat.le_of_ble_eq_true rfl, Nat.le_of_ble_eq_true rfl⟩) (dg_preV sM_0 rfl K ST hP hS hA1 hA) rfl rfl hl.1 rfl (lv_room (Nat.le_of_ble_eq_true rfl)) dX12_ordering_19 ⟨Nat.le_of_ble_eq_true rfl, Nat.le_of_ble_eq_true rfl⟩) (fun x_77 S_78 hw_78 H locs hP hS => ?_)
      obtain ⟨I_78, m_78, w_78_0, w_78_1, w_78_2, -⟩ := hw_78
      have M_78 := dg_sm.tr M_0 m_78 (dk_dq rfl) (dk_dq rfl)
      have hz_79 : (1 : Int32).toInt = 1 := by decide +kernel
      have w_78_0 : 0 ≤ (x_77).toInt ∧ (x_77).toInt ≤ 1 := w_78_0
      obtain ⟨y_80, y_81, y_82, y_83, f_y_80, f_y_81, f_y_82, f_y_83, w_78_1⟩ := w_78_1
      have w_78_1 : (((y_81).toInt ≤ (y_82).toInt ∧ (y_82).toInt ≤ (sl).toInt ∧ ((y_80).toInt ≠ 0 → (y_81).toInt + 1 ≤ (y_82).toInt)) ∧ (sa).toInt ≤ (y_81).toInt ∧ ((fk).toInt ≠ 0 → (y_83).toInt ≠ 0) ∧ (((x_77).toInt = 1 → ((y_83).toInt = 0 ∧ (fk).toInt = 0 ∧ ((1 : Int32)).toInt = 0 ∧ ((sg).toInt ≠ 0 → (sa).toInt + 1 ≤ (y_81).toInt))) ∧ ((x_77).toInt = 0 → (y_83).toInt ≠ 0))) ∧ (((x_77).toInt = 1 → (t_ix tb tn (y_81 : Int32).toNatClampNeg) = (t_ix tb tn (sa : Int32).toNatClampNeg) + 1) ∧ ((fk).toInt = 0 → ((1 : Int32)).toInt = 0 → (x_77).toInt = 1)) := w_78_1
      obtain ⟨⟨⟨w_78_1_0, w_78_1_1, w_78_1_2⟩, w_78_1_3, w_78_1_4, ⟨w_78_1_5, w_78_1_6⟩⟩, ⟨w_78_1_7, w_78_1_8⟩⟩ := w_78_1
      clear hlx_2
      have b_y_80 : 0 ≤ (y_80).toInt ∧ (y_80).toInt ≤ 3 := dg_I.intb (lo := 0) (hi := 3) I_78 sM_0 (by decide +kernel) f_y_80
      have b_y_81 : 0 ≤ (y_81).toInt ∧ (y_81).toInt ≤ 1600 := dg_I.intb (lo := 0) (hi := 1600) I_78 sM_0 (by decide +kernel) f_y_81
      have b_y_82 : 0 ≤ (y_82).toInt ∧ (y_82).toInt ≤ 1600 := dg_I.intb (lo := 0) (hi := 1600) I_78 sM_0 (by decide +kernel) f_y_82
      have b_y_83 : 0 ≤ (y_83).toInt ∧ (y_83).toInt ≤ 6 := dg_I.intb (lo := 0) (hi := 6) I_78 sM_0 (by decide +kernel) f_y_83
      refine lv_if_ne (tgt := 26) hx hb dX12_ordering_22 (dk_dq rfl) (fun c_84 => ?_) (fun c_84 => ?_)
      · have jc_84 := dk_neqc (k := 0) (by decide +kernel) c_84
        have jbc_84 : 1 ≤ (x_77).toInt := by omega
        clear jc_84
        have w_78_1_5r := w_78_1_5 (by omega)
        clear w_78_1_5
        clear w_78_1_6
        have w_78_1_7r := w_78_1_7 (by omega)
        clear w_78_1_7
        obtain ⟨w_78_1_5r_0, w_78_1_5r_1, w_78_1_5r_2, w_78_1_5r_3⟩ := w_78_1_5r
        clear w_78_1_4
        have w_78_1_8r := w_78_1_8 (by omega)
        clear w_78_1_8
        omega
      · have jc_84 := dk_eqc (k := 0) (by decide +kernel) c_84
        clear w_78_1_5
        have w_78_1_6r := w_78_1_6 (by omega)
        clear w_78_1_6
        clear w_78_1_7
        have w_78_1_6rb : 1 ≤ (y_83).toInt := by omega
        clear w_78_1_6r
        refine W.widen (k := 0) (n := 0) (Nat.le_of_ble_eq_true rfl) (Nat.le_of_ble_eq_true rfl) ?_
        rw [hQ9]
        exact dg_vret hx hb hr hlocks hP hS ⟨I_78, M_78, ⟨y_80, y_81, y_82, y_83, f_y_80, f_y_81, f_y_82, f_y_83, (by omega)⟩, (SOK.mk (fk := fk) f_y_83 f_y_81 (fun h0 q9 => by omega) (fun h0 q9 => by exfalso; omega) (fun h0 q8 q9 => by exfalso; omega) rfl), (m_hid.mk (fun h0 f9 q9 q8 => by have q7 := (f_y_83).symm.trans q9; cases q7; exfalso; omega)), w_78_2, (GBM.keep GB m_78 (dk_dq rfl) (dk_dq rfl) (dk_dq rfl)), trivial⟩ dX12_ordering_25
  