/-! 46.m14b1.lean.txt -/
theorem dX12_digging_0 : decode cX12_digging 0 = .ok (.aload_n 0, 1) := dk_o42 (by decide +kernel)
theorem dX12_digging_1 : decode cX12_digging 1 = .ok (.aload_n 0, 1) := dk_o42 (by decide +kernel)
theorem dX12_digging_2 : decode cX12_digging 2 = .ok (.getfield 75, 3) := dk_o180 (by decide +kernel)
theorem dX12_digging_5 : decode cX12_digging 5 = .ok (.aload_n 0, 1) := dk_o42 (by decide +kernel)
theorem dX12_digging_6 : decode cX12_digging 6 = .ok (.getfield 118, 3) := dk_o180 (by decide +kernel)
theorem dX12_digging_9 : decode cX12_digging 9 = .ok (.iaload, 1) := dk_o46 (by decide +kernel)
theorem dX12_digging_10 : decode cX12_digging 10 = .ok (.bipush 16, 2) := dk_o16 (by decide +kernel)
theorem dX12_digging_12 : decode cX12_digging 12 = .ok (.if_icmp .ne 7, 3) := dk_o160 (by decide +kernel)
theorem dX12_digging_15 : decode cX12_digging 15 = .ok (.iconst 1, 1) := dk_o4 (by decide +kernel)
theorem dX12_digging_16 : decode cX12_digging 16 = .ok (.goto 4, 3) := dk_o167 (by decide +kernel)
theorem dX12_digging_19 : decode cX12_digging 19 = .ok (.iconst 0, 1) := dk_o3 (by decide +kernel)
theorem dX12_digging_20 : decode cX12_digging 20 = .ok (.invokevirtual 382, 3) := dk_o182 (by decide +kernel)
theorem dX12_digging_23 : decode cX12_digging 23 = .ok (.ifCond .ne 4, 3) := dk_o154 (by decide +kernel)
theorem dX12_digging_26 : decode cX12_digging 26 = .ok (.return_, 1) := dk_o177 (by decide +kernel)
theorem dX12_digging_27 : decode cX12_digging 27 = .ok (.aload_n 0, 1) := dk_o42 (by decide +kernel)
theorem dX12_digging_28 : decode cX12_digging 28 = .ok (.invokevirtual 266, 3) := dk_o182 (by decide +kernel)
theorem dX12_digging_31 : decode cX12_digging 31 = .ok (.aload_n 0, 1) := dk_o42 (by decide +kernel)
theorem dX12_digging_32 : decode cX12_digging 32 = .ok (.getfield 36, 3) := dk_o180 (by decide +kernel)
theorem dX12_digging_35 : decode cX12_digging 35 = .ok (.ifCond .le 4, 3) := dk_o158 (by decide +kernel)
theorem dX12_digging_38 : decode cX12_digging 38 = .ok (.return_, 1) := dk_o177 (by decide +kernel)
theorem dX12_digging_39 : decode cX12_digging 39 = .ok (.aload_n 0, 1) := dk_o42 (by decide +kernel)
theorem dX12_digging_40 : decode cX12_digging 40 = .ok (.getfield 20, 3) := dk_o180 (by decide +kernel)
theorem dX12_digging_43 : decode cX12_digging 43 = .ok (.iconst 1, 1) := dk_o4 (by decide +kernel)
theorem dX12_digging_44 : decode cX12_digging 44 = .ok (.if_icmp .ne 14, 3) := dk_o160 (by decide +kernel)
theorem dX12_digging_47 : decode cX12_digging 47 = .ok (.aload_n 0, 1) := dk_o42 (by decide +kernel)
theorem dX12_digging_48 : decode cX12_digging 48 = .ok (.aload_n 0, 1) := dk_o42 (by decide +kernel)
theorem dX12_digging_49 : decode cX12_digging 49 = .ok (.getfield 32, 3) := dk_o180 (by decide +kernel)
theorem dX12_digging_52 : decode cX12_digging 52 = .ok (.invokevirtual 368, 3) := dk_o182 (by decide +kernel)
theorem dX12_digging_55 : decode cX12_digging 55 = .ok (.ifCond .eq 12, 3) := dk_o153 (by decide +kernel)
theorem dX12_digging_58 : decode cX12_digging 58 = .ok (.aload_n 0, 1) := dk_o42 (by decide +kernel)
theorem dX12_digging_59 : decode cX12_digging 59 = .ok (.iconst 1, 1) := dk_o4 (by decide +kernel)
theorem dX12_digging_60 : decode cX12_digging 60 = .ok (.aload_n 0, 1) := dk_o42 (by decide +kernel)
theorem dX12_digging_61 : decode cX12_digging 61 = .ok (.getfield 23, 3) := dk_o180 (by decide +kernel)
theorem dX12_digging_64 : decode cX12_digging 64 = .ok (.invokevirtual 255, 3) := dk_o182 (by decide +kernel)
theorem dX12_digging_67 : decode cX12_digging 67 = .ok (.aload_n 0, 1) := dk_o42 (by decide +kernel)
theorem dX12_digging_68 : decode cX12_digging 68 = .ok (.getfield 36, 3) := dk_o180 (by decide +kernel)
theorem dX12_digging_71 : decode cX12_digging 71 = .ok (.ifCond .le 7, 3) := dk_o158 (by decide +kernel)
theorem dX12_digging_74 : decode cX12_digging 74 = .ok (.iconst 0, 1) := dk_o3 (by decide +kernel)
theorem dX12_digging_75 : decode cX12_digging 75 = .ok (.goto 11, 3) := dk_o167 (by decide +kernel)
theorem dX12_digging_78 : decode cX12_digging 78 = .ok (.aload_n 0, 1) := dk_o42 (by decide +kernel)
theorem dX12_digging_79 : decode cX12_digging 79 = .ok (.aload_n 0, 1) := dk_o42 (by decide +kernel)
theorem dX12_digging_80 : decode cX12_digging 80 = .ok (.getfield 32, 3) := dk_o180 (by decide +kernel)
theorem dX12_digging_83 : decode cX12_digging 83 = .ok (.invokevirtual 329, 3) := dk_o182 (by decide +kernel)
theorem dX12_digging_86 : decode cX12_digging 86 = .ok (.istore_n 1, 1) := dk_o60 (by decide +kernel)
theorem dX12_digging_87 : decode cX12_digging 87 = .ok (.aload_n 0, 1) := dk_o42 (by decide +kernel)
theorem dX12_digging_88 : decode cX12_digging 88 = .ok (.getfield 36, 3) := dk_o180 (by decide +kernel)
theorem dX12_digging_91 : decode cX12_digging 91 = .ok (.ifCond .ne 17, 3) := dk_o154 (by decide +kernel)
theorem dX12_digging_94 : decode cX12_digging 94 = .ok (.iload_n 1, 1) := dk_o27 (by decide +kernel)
theorem dX12_digging_95 : decode cX12_digging 95 = .ok (.iconst (-1), 1) := dk_o2 (by decide +kernel)
theorem dX12_digging_96 : decode cX12_digging 96 = .ok (.if_icmp .ne 12, 3) := dk_o160 (by decide +kernel)
theorem dX12_digging_99 : decode cX12_digging 99 = .ok (.aload_n 0, 1) := dk_o42 (by decide +kernel)
theorem dX12_digging_100 : decode cX12_digging 100 = .ok (.iconst 3, 1) := dk_o6 (by decide +kernel)
theorem dX12_digging_101 : decode cX12_digging 101 = .ok (.aload_n 0, 1) := dk_o42 (by decide +kernel)
theorem dX12_digging_102 : decode cX12_digging 102 = .ok (.getfield 23, 3) := dk_o180 (by decide +kernel)
theorem dX12_digging_105 : decode cX12_digging 105 = .ok (.invokevirtual 255, 3) := dk_o182 (by decide +kernel)
theorem dX12_digging_108 : decode cX12_digging 108 = .ok (.aload_n 0, 1) := dk_o42 (by decide +kernel)
theorem dX12_digging_109 : decode cX12_digging 109 = .ok (.getfield 36, 3) := dk_o180 (by decide +kernel)
theorem dX12_digging_112 : decode cX12_digging 112 = .ok (.ifCond .le 4, 3) := dk_o158 (by decide +kernel)
theorem dX12_digging_115 : decode cX12_digging 115 = .ok (.return_, 1) := dk_o177 (by decide +kernel)
theorem dX12_digging_116 : decode cX12_digging 116 = .ok (.aload_n 0, 1) := dk_o42 (by decide +kernel)
theorem dX12_digging_117 : decode cX12_digging 117 = .ok (.invokevirtual 272, 3) := dk_o182 (by decide +kernel)
theorem dX12_digging_120 : decode cX12_digging 120 = .ok (.aload_n 0, 1) := dk_o42 (by decide +kernel)
theorem dX12_digging_121 : decode cX12_digging 121 = .ok (.ldc2_w 291, 3) := dk_o20 (by decide +kernel)
theorem dX12_digging_124 : decode cX12_digging 124 = .ok (.invokevirtual 378, 3) := dk_o182 (by decide +kernel)
theorem dX12_digging_127 : decode cX12_digging 127 = .ok (.bipush 16, 2) := dk_o16 (by decide +kernel)
theorem dX12_digging_129 : decode cX12_digging 129 = .ok (.aload_n 0, 1) := dk_o42 (by decide +kernel)
theorem dX12_digging_130 : decode cX12_digging 130 = .ok (.getfield 118, 3) := dk_o180 (by decide +kernel)
theorem dX12_digging_133 : decode cX12_digging 133 = .ok (.imul, 1) := dk_o104 (by decide +kernel)
theorem dX12_digging_134 : decode cX12_digging 134 = .ok (.aload_n 0, 1) := dk_o42 (by decide +kernel)
theorem dX12_digging_135 : decode cX12_digging 135 = .ok (.getfield 75, 3) := dk_o180 (by decide +kernel)
theorem dX12_digging_138 : decode cX12_digging 138 = .ok (.aload_n 0, 1) := dk_o42 (by decide +kernel)
theorem dX12_digging_139 : decode cX12_digging 139 = .ok (.getfield 118, 3) := dk_o180 (by decide +kernel)
theorem dX12_digging_142 : decode cX12_digging 142 = .ok (.iaload, 1) := dk_o46 (by decide +kernel)
theorem dX12_digging_143 : decode cX12_digging 143 = .ok (.iadd, 1) := dk_o96 (by decide +kernel)
theorem dX12_digging_144 : decode cX12_digging 144 = .ok (.istore_n 2, 1) := dk_o61 (by decide +kernel)
theorem dX12_digging_145 : decode cX12_digging 145 = .ok (.aload_n 0, 1) := dk_o42 (by decide +kernel)
theorem dX12_digging_146 : decode cX12_digging 146 = .ok (.getfield 78, 3) := dk_o180 (by decide +kernel)
theorem dX12_digging_149 : decode cX12_digging 149 = .ok (.iload_n 2, 1) := dk_o28 (by decide +kernel)
theorem dX12_digging_150 : decode cX12_digging 150 = .ok (.iload_n 1, 1) := dk_o27 (by decide +kernel)
theorem dX12_digging_151 : decode cX12_digging 151 = .ok (.iastore, 1) := dk_o79 (by decide +kernel)
theorem dX12_digging_152 : decode cX12_digging 152 = .ok (.aload_n 0, 1) := dk_o42 (by decide +kernel)
theorem dX12_digging_153 : decode cX12_digging 153 = .ok (.getfield 81, 3) := dk_o180 (by decide +kernel)
theorem dX12_digging_156 : decode cX12_digging 156 = .ok (.iload_n 2, 1) := dk_o28 (by decide +kernel)
theorem dX12_digging_157 : decode cX12_digging 157 = .ok (.aload_n 0, 1) := dk_o42 (by decide +kernel)
theorem dX12_digging_158 : decode cX12_digging 158 = .ok (.invokevirtual 386, 3) := dk_o182 (by decide +kernel)
theorem dX12_digging_161 : decode cX12_digging 161 = .ok (.iastore, 1) := dk_o79 (by decide +kernel)
theorem dX12_digging_162 : decode cX12_digging 162 = .ok (.aload_n 0, 1) := dk_o42 (by decide +kernel)
theorem dX12_digging_163 : decode cX12_digging 163 = .ok (.getfield 36, 3) := dk_o180 (by decide +kernel)
theorem dX12_digging_166 : decode cX12_digging 166 = .ok (.ifCond .ne 16, 3) := dk_o154 (by decide +kernel)
theorem dX12_digging_169 : decode cX12_digging 169 = .ok (.aload_n 0, 1) := dk_o42 (by decide +kernel)
theorem dX12_digging_170 : decode cX12_digging 170 = .ok (.getfield 75, 3) := dk_o180 (by decide +kernel)
theorem dX12_digging_173 : decode cX12_digging 173 = .ok (.aload_n 0, 1) := dk_o42 (by decide +kernel)
theorem dX12_digging_174 : decode cX12_digging 174 = .ok (.getfield 118, 3) := dk_o180 (by decide +kernel)
theorem dX12_digging_177 : decode cX12_digging 177 = .ok (.dup2, 1) := dk_o92 (by decide +kernel)
theorem dX12_digging_178 : decode cX12_digging 178 = .ok (.iaload, 1) := dk_o46 (by decide +kernel)
theorem dX12_digging_179 : decode cX12_digging 179 = .ok (.iconst 1, 1) := dk_o4 (by decide +kernel)
theorem dX12_digging_180 : decode cX12_digging 180 = .ok (.iadd, 1) := dk_o96 (by decide +kernel)
theorem dX12_digging_181 : decode cX12_digging 181 = .ok (.iastore, 1) := dk_o79 (by decide +kernel)
theorem dX12_digging_182 : decode cX12_digging 182 = .ok (.return_, 1) := dk_o177 (by decide +kernel)
theorem wB_391 : Cond.fieldLink RX12 75 "DarkMineModel" "plans" "[I" ∈ dgB := List.mem_filter.mpr ⟨tbl_6 _ (List.mem_of_getElem? (i := 184) (by decide +kernel)), by decide +kernel⟩
theorem wB_392 : Cond.code yX12_must_ cX12_must_ 3 none ∈ dgB := List.mem_filter.mpr ⟨tbl_7 _ (List.mem_of_getElem? (i := 195) rfl), rfl⟩
theorem wB_393 : Cond.methodLink RX12 378 yX12_must_ ∈ dgB := List.mem_filter.mpr ⟨tbl_7 _ (List.mem_of_getElem? (i := 192) (by decide +kernel)), by decide +kernel⟩
theorem wB_394 : Cond.instanceMethod yX12_must_ ∈ dgB := List.mem_filter.mpr ⟨tbl_7 _ (List.mem_of_getElem? (i := 194) (by decide +kernel)), by decide +kernel⟩
theorem wB_395 : Cond.selects RX12 yX12_must_ yX12_must_ ∈ dgB := List.mem_filter.mpr ⟨List.mem_of_getElem? (i := 85) (by decide +kernel), by decide +kernel⟩
theorem wB_396 : Cond.fieldLink RX12 78 "DarkMineModel" "planMiner" "[I" ∈ dgB := List.mem_filter.mpr ⟨tbl_6 _ (List.mem_of_getElem? (i := 185) (by decide +kernel)), by decide +kernel⟩
theorem wB_397 : Cond.fieldLink RX12 81 "DarkMineModel" "planCell" "[I" ∈ dgB := List.mem_filter.mpr ⟨tbl_6 _ (List.mem_of_getElem? (i := 186) (by decide +kernel)), by decide +kernel⟩
set_option maxHeartbeats 8000000 in
set_option maxRecDepth 100000 in
theorem c_m_digging (l : Launch) (g : Nat → ClassId) (D : va_G) (o : Nat) (S : dg_S) (tb : Nat → Int32) (tn : Nat) (sg9 : y_S) (S0 : dg_S) (sg : Int32) (f_sg : S.1 0 3 = .int sg) (b_sg : 0 ≤ (sg).toInt ∧ (sg).toInt ≤ 3) (sa : Int32) (f_sa : S.1 0 4 = .int sa) (b_sa : 0 ≤ (sa).toInt ∧ (sa).toInt ≤ 1600) (se : Int32) (f_se : S.1 0 5 = .int se) (b_se : 0 ≤ (se).toInt ∧ (se).toInt ≤ 1600) (sl : Int32) (f_sl : S.1 0 2 = .int sl) (b_sl : 0 ≤ (sl).toInt ∧ (sl).toInt ≤ 1600) (fk : Int32) (f_fk : S.1 0 8 = .int fk) (b_fk : 0 ≤ (fk).toInt ∧ (fk).toInt ≤ 6) (ii : Int32) (f_ii : S.1 0 35 = .int ii) (b_ii : 0 ≤ (ii).toInt ∧ (ii).toInt ≤ 1) (mi : Int32) (f_mi : S.2.1 8 (ii : Int32).toNatClampNeg = mi) (b_mi : 0 ≤ (mi).toInt ∧ (mi).toInt ≤ 6) (pl : Int32) (f_pl : S.2.1 9 (ii : Int32).toNatClampNeg = pl) (b_pl : 0 ≤ (pl).toInt ∧ (pl).toInt ≤ 16) (cc : Int32) (f_cc : S.2.1 2 (ii : Int32).toNatClampNeg = cc) (b_cc : 3 ≤ (cc).toInt ∧ (cc).toInt ≤ 7) (rr : Int32) (f_rr : S.2.1 3 (ii : Int32).toNatClampNeg = rr) (b_rr : 3 ≤ (rr).toInt ∧ (rr).toInt ≤ 7) (hlx : (sa).toInt ≤ (se).toInt ∧ (se).toInt ≤ (sl).toInt ∧ ((sg).toInt ≠ 0 → (sa).toInt + 1 ≤ (se).toInt)) (hk1 : (T_kd tb tn (t_ix tb tn (sa : Int32).toNatClampNeg)).toInt = 1) (TK : TKM tb tn S) (GS : GSM sg9 S) (ZC : ZCM S) (GB : GBM S0 S) (ZK : ZKM S) (I : CM o S) (sz : Nat) : Met l yX12_digging (bw yX12_digging cX12_digging 3 none) ({ frames := 5, cells := 0, slots := 0, locals := 122 } : Room) (dk_Pc g D (dg_w g shM o rfM S) sz [.ref (o + 0)]) (va_Qv (fun S' => CM o S' ∧ dg_sm shM [(0, 3), (0, 4), (0, 5), (0, 6), (0, 7), (0, 8), (0, 9), (0, 12)] [9, 10, 11] S S' ∧ (∃ y9_3 y9_4 y9_5 y9_8 : Int32, S'.1 0 3 = .int y9_3 ∧ S'.1 0 4 = .int y9_4 ∧ S'.1 0 5 = .int y9_5 ∧ S'.1 0 8 = .int y9_8 ∧ (((y9_4).toInt ≤ (y9_5).toInt ∧ (y9_5).toInt ≤ (sl).toInt ∧ ((y9_3).toInt ≠ 0 → (y9_4).toInt + 1 ≤ (y9_5).toInt)) ∧ (sa).toInt ≤ (y9_4).toInt ∧ ((fk).toInt ≠ 0 → (y9_8).toInt ≠ 0) ∧ ((y9_8).toInt = 0 → (sa).toInt + 1 ≤ (y9_4).toInt))) ∧ (SOK tb tn fk (if sg9.2.2.1 = 16 then none else ((y_old (T_kd tb tn) (T_vl tb tn) sg9.2.1 ((t_ix tb tn (sa : Int32).toNatClampNeg) + 1)).bind fun k1 => (y_own (T_kd tb tn) (T_vl tb tn) 8 k1).bind (y_cell (T_kd tb tn) (T_vl tb tn) sg9.1)).map fun k9 => ((sg9.1, sg9.2.1, sg9.2.2.1 + 1, sg9.2.2.2), k9)) S') ∧ (m_hid ((fk).toInt = 0 → ∀ f9 : Int32, S'.1 0 8 = .int f9 → f9.toInt = 0 → ∃ (v9 w9 : Int32) (i9 : Nat), v9.toInt = z_ix sg9.2.1 (T_vl tb tn ((t_ix tb tn (sa : Int32).toNatClampNeg) + 1)).toInt ∧ w9.toInt = 8 * (T_vl tb tn ((t_ix tb tn (sa : Int32).toNatClampNeg) + 4)).toInt + (T_vl tb tn ((t_ix tb tn (sa : Int32).toNatClampNeg) + 3)).toInt ∧ i9 = 16 * (ii : Int32).toNatClampNeg + (pl : Int32).toNatClampNeg ∧ S'.2.1 10 = upd (S.2.1 10) i9 v9 ∧ S'.2.1 11 = upd (S.2.1 11) i9 w9 ∧ (pl : Int32).toNatClampNeg < 16)) ∧ TKM tb tn S' ∧ GBM S0 S' ∧ True) (dg_B g D shM o rfM) (dg_A o shM.length sz)) 0 0 (dg_A o shM.length sz) := by
  refine dg_met (cc := cX12_digging) (maxL := 3) (ret := none) (dk_dq rfl) rfl (Nat.le_of_ble_eq_true rfl) ?_
  intro p e s m args below meth c A hAe harg hx hb hr hml hts hown hlocks hin hP K hS hA1 hA ST hsz ls hl
  rw [← hAe]
  have F : CallFix p m c cX12_digging 3 s args (bw yX12_digging cX12_digging 3 none) RX12 := ⟨hx, hb, hml, hown, hts⟩
  have hl : lv_has ls 3 [(0, .ref (o + 0))] := hl
  have M_0 : dg_sm shM [(0, 3), (0, 4), (0, 5), (0, 6), (0, 7), (0, 8), (0, 9), (0, 12)] [9, 10, 11] S S := dg_sm.rf
  obtain ⟨Q9, hQ9⟩ : ∃ Q : State → Prop, Q = MQ below (va_Qv (fun S' => CM o S' ∧ dg_sm shM [(0, 3), (0, 4), (0, 5), (0, 6), (0, 7), (0, 8), (0, 9), (0, 12)] [9, 10, 11] S S' ∧ (∃ y9_3 y9_4 y9_5 y9_8 : Int32, S'.1 0 3 = .int y9_3 ∧ S'.1 0 4 = .int y9_4 ∧ S'.1 0 5 = .int y9_5 ∧ S'.1 0 8 = .int y9_8 ∧ (((y9_4).toInt ≤ (y9_5).toInt ∧ (y9_5).toInt ≤ (sl).toInt ∧ ((y9_3).toInt ≠ 0 → (y9_4).toInt + 1 ≤ (y9_5).toInt)) ∧ (sa).toInt ≤ (y9_4).toInt ∧ ((fk).toInt ≠ 0 → (y9_8).toInt ≠ 0) ∧ ((y9_8).toInt = 0 → (sa).toInt + 1 ≤ (y9_4).toInt))) ∧ (SOK tb tn fk (if sg9.2.2.1 = 16 then none else ((y_old (T_kd tb tn) (T_vl tb tn) sg9.2.1 ((t_ix tb tn (sa : Int32).toNatClampNeg) + 1)).bind fun k1 => (y_own (T_kd tb tn) (T_vl tb tn) 8 k1).bind (y_cell (T_kd tb tn) (T_vl tb tn) sg9.1)).map fun k9 => ((sg9.1, sg9.2.1, sg9.2.2.1 + 1, sg9.2.2.2), k9)) S') ∧ (m_hid ((fk).toInt = 0 → ∀ f9 : Int32, S'.1 0 8 = .int f9 → f9.toInt = 0 → ∃ (v9 w9 : Int32) (i9 : Nat), v9.toInt = z_ix sg9.2.1 (T_vl tb tn ((t_ix tb tn (sa : Int32).toNatClampNeg) + 1)).toInt ∧ w9.toInt = 8 * (T_vl tb tn ((t_ix tb tn (sa : Int32).toNatClampNeg) + 4)).toInt + (T_vl tb tn ((t_ix tb tn (sa : Int32).toNatClampNeg) + 3)).toInt ∧ i9 = 16 * (ii : Int32).toNatClampNeg + (pl : Int32).toNatClampNeg ∧ S'.2.1 10 = upd (S.2.1 10) i9 v9 ∧ S'.2.1 11 = upd (S.2.1 11) i9 w9 ∧ (pl : Int32).toNatClampNeg < 16)) ∧ TKM tb tn S' ∧ GBM S0 S' ∧ True) (dg_B g D shM o rfM) A) args s 0 0 A := ⟨_, rfl⟩
  rw [← hQ9]
  obtain ⟨hlx_0, hlx_1, hlx_2⟩ := hlx
  have hlen := GSM.plans GS f_ii f_pl; have hcm : (((pl : Int32).toNatClampNeg : Nat) : Int) = (pl).toInt := (by rw [dk_clN]; omega);  have hcols := GSM.cols GS f_ii f_cc f_rr
  refine lv_aload_n hx hb dX12_digging_0 rfl (lv_at hl 0 rfl) ?_
  refine lv_aload_n hx hb dX12_digging_1 rfl (lv_at hl 0 rfl) ?_
  refine dg_get (C := RX12) (T := TX12) (N := 77) hx hb hts (fun w h => bw_mem (wU_X12 w h)) hown K hP sM_0 rfl 21 (dk_dq rfl) (hts _ (bw_mem wB_391)) (fun _ h9 => h9) (v := .ref (o + 9)) (show S.1 0 21 = .ref (o + 9) from dg_I.rel (d := 9) I sM_0 (by decide +kernel)) dX12_digging_2 ?_
  refine lv_aload_n hx hb dX12_digging_5 rfl (lv_at hl 0 rfl) ?_
  refine dg_get (C := RX12) (T := TX12) (N := 77) hx hb hts (fun w h => bw_mem (wU_X12 w h)) hown K hP sM_0 rfl 35 (dk_dq rfl) (hts _ (bw_mem wB_353)) (fun _ h9 => h9) (v := .int ii) f_ii dX12_digging_6 ?_
  have hin_1 : vp_in ii 2 := (dk_inv2 (by omega))
  refine dg_iald hx hb K hP sM_9 hin_1 dX12_digging_9 (fun y_2 ey_2 => ?_)
  obtain rfl : pl = y_2 := (ey_2.trans f_pl).symm
  refine lv_bipush (v := 16) hx hb dX12_digging_10 (by decide +kernel) ?_
  refine lv_icmp_ne (tgt := 19) hx hb dX12_digging_12 (dk_dq rfl) (fun c_3 => ?_) (fun c_3 => ?_)
  · as_aux_lemma =>
      have jc_3 := dk_neqc (k := 16) (by decide +kernel) c_3
      have jtc_3 : (pl).toInt ≤ 15 := by omega
      clear jc_3
      refine lv_iconst (v := 0) hx hb dX12_digging_19 (by decide +kernel) ?_
      have hz_4 : (0 : Int32).toInt = 0 := by decide +kernel
      refine dg_calli hS hA1 hA (va_runV (As := [.int 0]) (rest := []) F (c_m_isCounted l g D o S 0 (by decide +kernel) tb tn sg f_sg (by omega) sa f_sa (by omega) se f_se (by omega) sl f_sl (by omega) fk f_fk (by omega) (by omega) (by omega) TK I s.heap.size) (cwV 1 hts (bw_V wB_379 wB_380 wB_381 wB_297 wB_378) rfl rfl rfl (by decide +kernel) ⟨Nat.le_of_ble_eq_true rfl, Nat.le_of_ble_eq_true rfl⟩) (dg_preV sM_0 rfl K ST hP hS hA1 hA) rfl rfl hl.1 rfl (lv_room (Nat.le_of_ble_eq_true rfl)) dX12_digging_20 ⟨Nat.le_of_ble_eq_true rfl, Nat.le_of_ble_eq_true rfl⟩) (fun x_5 S_6 hw_6 H locs hP hS => ?_)
      obtain ⟨I_6, m_6, w_6_0, w_6_1, w_6_2, -⟩ := hw_6
      have M_6 := dg_sm.tr M_0 m_6 (dk_dq rfl) (dk_dq rfl)
      have hz_7 : (0 : Int32).toInt = 0 := by decide +kernel
      have w_6_0 : 0 ≤ (x_5).toInt ∧ (x_5).toInt ≤ 1 := w_6_0
      obtain ⟨y_8, y_9, y_10, y_11, f_y_8, f_y_9, f_y_10, f_y_11, w_6_1⟩ := w_6_1
      have w_6_1 : (((y_9).toInt ≤ (y_10).toInt ∧ (y_10).toInt ≤ (sl).toInt ∧ ((y_8).toInt ≠ 0 → (y_9).toInt + 1 ≤ (y_10).toInt)) ∧ (sa).toInt ≤ (y_9).toInt ∧ ((fk).toInt ≠ 0 → (y_11).toInt ≠ 0) ∧ (((x_5).toInt = 1 → ((y_11).toInt = 0 ∧ (fk).toInt = 0 ∧ ((0 : Int32)).toInt = 0 ∧ ((sg).toInt ≠ 0 → (sa).toInt + 1 ≤ (y_9).toInt))) ∧ ((x_5).toInt = 0 → (y_11).toInt ≠ 0))) ∧ (((x_5).toInt = 1 → (t_ix tb tn (y_9 : Int32).toNatClampNeg) = (t_ix tb tn (sa : Int32).toNatClampNeg) + 1) ∧ ((fk).toInt = 0 → ((0 : Int32)).toInt = 0 → (x_5).toInt = 1)) := w_6_1
      obtain ⟨⟨⟨w_6_1_0, w_6_1_1, w_6_1_2⟩, w_6_1_3, w_6_1_4, ⟨w_6_1_5, w_6_1_6⟩⟩, ⟨w_6_1_7, w_6_1_8⟩⟩ := w_6_1
      have b_y_8 : 0 ≤ (y_8).toInt ∧ (y_8).toInt ≤ 3 := dg_I.intb (lo := 0) (hi := 3) I_6 sM_0 (by decide +kernel) f_y_8
      have b_y_9 : 0 ≤ (y_9).toInt ∧ (y_9).toInt ≤ 1600 := dg_I.intb (lo := 0) (hi := 1600) I_6 sM_0 (by decide +kernel) f_y_9
      have b_y_10 : 0 ≤ (y_10).toInt ∧ (y_10).toInt ≤ 1600 := dg_I.intb (lo := 0) (hi := 1600) I_6 sM_0 (by decide +kernel) f_y_10
      have b_y_11 : 0 ≤ (y_11).toInt ∧ (y_11).toInt ≤ 6 := dg_I.intb (lo := 0) (hi := 6) I_6 sM_0 (by decide +kernel) f_y_11
      refine lv_if_ne (tgt := 27) hx hb dX12_digging_23 (dk_dq rfl) (fun c_12 => ?_) (fun c_12 => ?_)
      · as_aux_lemma =>
          have jc_12 := dk_neqc (k := 0) (by decide +kernel) c_12
          have jbc_12 : 1 ≤ (x_5).toInt := by omega
          clear jc_12
          have w_6_1_5r := w_6_1_5 (by omega)
          clear w_6_1_5
          clear w_6_1_6
          have w_6_1_7r := w_6_1_7 (by omega)
          clear w_6_1_7
          obtain ⟨w_6_1_5r_0, w_6_1_5r_1, w_6_1_5r_2, w_6_1_5r_3⟩ := w_6_1_5r
          clear w_6_1_4
          have w_6_1_8r := w_6_1_8 (by omega)
          clear w_6_1_8
          refine lv_aload_n hx hb dX12_digging_27 rfl (lv_at hl 0 rfl) ?_
          refine dg_callv hS hA1 hA (va_runV (As := []) (rest := []) F (c_m_lex l g D o S_6 tb tn y_11 f_y_11 (by omega) y_9 f_y_9 (by omega) w_6_2 I_6 H.size) (cwV 0 hts (bw_V wB_310 wB_311 wB_312 wB_297 wB_309) rfl rfl rfl (by decide +kernel) ⟨Nat.le_of_ble_eq_true rfl, Nat.le_of_ble_eq_true rfl⟩) (dg_preV sM_0 rfl K ST hP hS hA1 hA) rfl rfl hl.1 rfl (lv_room (Nat.le_of_ble_eq_true rfl)) dX12_digging_28 ⟨Nat.le_of_ble_eq_true rfl, Nat.le_of_ble_eq_true rfl⟩) (fun S_13 hw_13 H locs hP hS => ?_)
          obtain ⟨I_13, m_13, w_13_0, -⟩ := hw_13
          have M_13 := dg_sm.tr M_6 m_13 (dk_dq rfl) (dk_dq rfl)
          obtain ⟨y_14, f_y_14, w_13_0⟩ := w_13_0
          have w_13_0 : ((y_11).toInt ≠ 0 → (y_14).toInt = (y_11).toInt) ∧ ((y_11).toInt = 0 → ((y_14).toInt = 0 ↔ (T_kd tb tn (t_ix tb tn (y_9 : Int32).toNatClampNeg)).toInt ≠ 5)) := w_13_0
          obtain ⟨w_13_0_0, w_13_0_1⟩ := w_13_0
          clear w_13_0_0
          have w_13_0_1r := w_13_0_1 (by omega)
          clear w_13_0_1
          have b_y_14 : 0 ≤ (y_14).toInt ∧ (y_14).toInt ≤ 6 := dg_I.intb (lo := 0) (hi := 6) I_13 sM_0 (by decide +kernel) f_y_14
          obtain ⟨x_15, f_x_15⟩ := dg_I.long (i := 0) (k := 7) I_13 sM_0 (by decide +kernel)
          refine lv_aload_n hx hb dX12_digging_31 rfl (lv_at hl 0 rfl) ?_
          refine dg_get (C := RX12) (T := TX12) (N := 77) hx hb hts (fun w h => bw_mem (wU_X12 w h)) hown K hP sM_0 rfl 8 (dk_dq rfl) (hts _ (bw_mem wB_303)) (fun _ h9 => h9) (v := .int y_14) f_y_14 dX12_digging_32 ?_
          refine lv_if_le (tgt := 39) hx hb dX12_digging_35 (dk_dq rfl) (fun c_16 => ?_) (fun c_16 => ?_)
          · as_aux_lemma =>
              have jc_16 := dk_lec (k := 0) (by decide +kernel) c_16
              refine lv_aload_n hx hb dX12_digging_39 rfl (lv_at hl 0 rfl) ?_
              refine dg_get (C := RX12) (T := TX12) (N := 77) hx hb hts (fun w h => bw_mem (wU_X12 w h)) hown K hP sM_0 rfl 3 (dk_dq rfl) (hts _ (bw_mem wB_292)) (fun _ h9 => h9) (v := .int y_8) ((m_13.1 0 3 _ sM_0 (dk_dq rfl)).trans f_y_8) dX12_digging_40 ?_
              refine lv_iconst (v := 1) hx hb dX12_digging_43 (by decide +kernel) ?_
              refine lv_icmp_ne (tgt := 58) hx hb dX12_digging_44 (dk_dq rfl) (fun c_17 => ?_) (fun c_17 => ?_)
              · as_aux_lemma =>
                  have jc_17 := dk_neqc (k := 1) (by decide +kernel) c_17
                  refine lv_aload_n hx hb dX12_digging_58 rfl (lv_at hl 0 rfl) ?_
                  refine lv_iconst (v := 1) hx hb dX12_digging_59 (by decide +kernel) ?_
                  refine lv_aload_n hx hb dX12_digging_60 rfl (lv_at hl 0 rfl) ?_
                  refine dg_get (C := RX12) (T := TX12) (N := 77) hx hb hts (fun w h => bw_mem (wU_X12 w h)) hown K hP sM_0 rfl 4 (dk_dq rfl) (hts _ (bw_mem wB_291)) (fun _ h9 => h9) (v := .int y_9) ((m_13.1 0 4 _ sM_0 (dk_dq rfl)).trans f_y_9) dX12_digging_61 ?_
                  have hz_18 : (1 : Int32).toInt = 1 := by decide +kernel
                  refine dg_callv hS hA1 hA (va_runV (As := [.int 1, .int y_9]) (rest := []) F (c_m_blame l g D o S_13 1 (by decide +kernel) y_9 y_14 f_y_14 (by omega) I_13 H.size) (cwV 2 hts (bw_V wB_306 wB_307 wB_308 wB_297 wB_305) rfl rfl rfl (by decide +kernel) ⟨Nat.le_of_ble_eq_true rfl, Nat.le_of_ble_eq_true rfl⟩) (dg_preV sM_0 rfl K ST hP hS hA1 hA) rfl rfl hl.1 rfl (lv_room (Nat.le_of_ble_eq_true rfl)) dX12_digging_64 ⟨Nat.le_of_ble_eq_true rfl, Nat.le_of_ble_eq_true rfl⟩) (fun S_19 hw_19 H locs hP hS => ?_)
                  obtain ⟨I_19, m_19, w_19_0, -⟩ := hw_19
                  have M_19 := dg_sm.tr M_13 m_19 (dk_dq rfl) (dk_dq rfl)
                  have hz_20 : (1 : Int32).toInt = 1 := by decide +kernel
                  obtain ⟨y_21, f_y_21, w_19_0⟩ := w_19_0
                  have w_19_0 : ((y_14).toInt ≠ 0 → (y_21).toInt = (y_14).toInt) ∧ ((y_14).toInt = 0 → (y_21).toInt = ((1 : Int32)).toInt) := w_19_0
                  obtain ⟨w_19_0_0, w_19_0_1⟩ := w_19_0
                  clear w_19_0_0
                  have w_19_0_1r := w_19_0_1 (by omega)
                  clear w_19_0_1
                  have b_y_21 : 0 ≤ (y_21).toInt ∧ (y_21).toInt ≤ 6 := dg_I.intb (lo := 0) (hi := 6) I_19 sM_0 (by decide +kernel) f_y_21
                  have hbl_y_21 : 1 ≤ (y_21).toInt := by omega
                  refine lv_aload_n hx hb dX12_digging_67 rfl (lv_at hl 0 rfl) ?_
                  refine dg_get (C := RX12) (T := TX12) (N := 77) hx hb hts (fun w h => bw_mem (wU_X12 w h)) hown K hP sM_0 rfl 8 (dk_dq rfl) (hts _ (bw_mem wB_303)) (fun _ h9 => h9) (v := .int y_21) f_y_21 dX12_digging_68 ?_
                  refine lv_if_le (tgt := 78) hx hb dX12_digging_71 (dk_dq rfl) (fun c => absurd c (fun z => absurd (dk_lec (k := 0) (by decide +kernel) z) (by omega))) (fun _ => ?_)
                  refine lv_iconst (v := 0) hx hb dX12_digging_74 (by decide +kernel) ?_
                  refine lv_goto (tgt := 86) hx hb dX12_digging_75 (dk_dq rfl) ?_
                  refine lv_istore_n (lv' := [(1, .int 0), (0, .ref (o + 0))]) hx hb dX12_digging_86 rfl hl (dk_dq rfl) rfl (fun ls hl => ?_)
                  refine lv_aload_n hx hb dX12_digging_87 rfl (lv_at hl 1 rfl) ?_
                  refine dg_get (C := RX12) (T := TX12) (N := 77) hx hb hts (fun w h => bw_mem (wU_X12 w h)) hown K hP sM_0 rfl 8 (dk_dq rfl) (hts _ (bw_mem wB_303)) (fun _ h9 => h9) (v := .int y_21) f_y_21 dX12_digging_88 ?_
                  refine lv_if_ne (tgt := 108) hx hb dX12_digging_91 (dk_dq rfl) (fun _ => ?_) (fun c => absurd c (fun z => absurd (dk_eqc (k := 0) (by decide +kernel) z) (by omega)))
                  refine lv_aload_n hx hb dX12_digging_108 rfl (lv_at hl 1 rfl) ?_
                  refine dg_get (C := RX12) (T := TX12) (N := 77) hx hb hts (fun w h => bw_mem (wU_X12 w h)) hown K hP sM_0 rfl 8 (dk_dq rfl) (hts _ (bw_mem wB_303)) (fun _ h9 => h9) (v := .int y_21) f_y_21 dX12_digging_109 ?_
                  refine lv_if_le (tgt := 116) hx hb dX12_digging_112 (dk_dq rfl) (fun c => absurd c (fun z => absurd (dk_lec (k := 0) (by decide +kernel) z) (by omega))) (fun _ => ?_)
                  refine W.widen (k := 0) (n := 0) (Nat.le_of_ble_eq_true rfl) (Nat.le_of_ble_eq_true rfl) ?_
                  rw [hQ9]
                  exact dg_vret hx hb hr hlocks hP hS ⟨I_19, M_19, ⟨y_8, y_9, y_10, y_21, (((m_19.1 0 3 _ sM_0 (dk_dq rfl)).trans (m_13.1 0 3 _ sM_0 (dk_dq rfl))).trans f_y_8), (((m_19.1 0 4 _ sM_0 (dk_dq rfl)).trans (m_13.1 0 4 _ sM_0 (dk_dq rfl))).trans f_y_9), (((m_19.1 0 5 _ sM_0 (dk_dq rfl)).trans (m_13.1 0 5 _ sM_0 (dk_dq rfl))).trans f_y_10), f_y_21, (by omega)⟩, (SOK.mk (fk := fk) f_y_21 (((m_19.1 0 4 _ sM_0 (dk_dq rfl)).trans (m_13.1 0 4 _ sM_0 (dk_dq rfl))).trans f_y_9) (fun h0 q9 => by exfalso; omega) (fun h0 q9 => m_an.no (by omega) (by rw [show ((t_ix tb tn (sa : Int32).toNatClampNeg) + 1) = (t_ix tb tn (y_9 : Int32).toNatClampNeg) from by omega, (y_old_f (fun q2 => by first | omega | exact absurd ((TKM.w1 (TKM.keep w_6_2 m_13 (dk_dq rfl) (dk_dq rfl) (dk_dq rfl) (dk_dq rfl) (dk_dq rfl) (dk_dq rfl) (dk_dq rfl) (dk_dq rfl)) ((m_13.1 0 3 _ sM_0 (dk_dq rfl)).trans f_y_8) ((m_13.1 0 4 _ sM_0 (dk_dq rfl)).trans f_y_9) (by omega)).mpr (Or.inr q2)) (by omega)))]; rfl)) (fun h0 q8 q9 => by exfalso; omega) rfl), (m_hid.mk (fun h0 f9 q9 q8 => by have q7 := (f_y_21).symm.trans q9; cases q7; exfalso; omega)), (TKM.keep (TKM.keep w_6_2 m_13 (dk_dq rfl) (dk_dq rfl) (dk_dq rfl) (dk_dq rfl) (dk_dq rfl) (dk_dq rfl) (dk_dq rfl) (dk_dq rfl)) m_19 (dk_dq rfl) (dk_dq rfl) (dk_dq rfl) (dk_dq rfl) (dk_dq rfl) (dk_dq rfl) (dk_dq rfl) (dk_dq rfl)), (GBM.keep (GBM.keep (GBM.keep GB m_6 (dk_dq rfl) (dk_dq rfl) (dk_dq rfl)) m_13 (dk_dq rfl) (dk_dq rfl) (dk_dq rfl)) m_19 (dk_dq rfl) (dk_dq rfl) (dk_dq rfl)), trivial⟩ dX12_digging_115
              · as_aux_lemma =>
                  have jc_17 := dk_eqc (k := 1) (by decide +kernel) c_17
                  have w_6_1_2r := w_6_1_2 (by omega)
                  clear w_6_1_2
                  refine lv_aload_n hx hb dX12_digging_47 rfl (lv_at hl 0 rfl) ?_
                  refine lv_aload_n hx hb dX12_digging_48 rfl (lv_at hl 0 rfl) ?_
                  refine dg_get (C := RX12) (T := TX12) (N := 77) hx hb hts (fun w h => bw_mem (wU_X12 w h)) hown K hP sM_0 rfl 7 (dk_dq rfl) (hts _ (bw_mem wB_302)) (fun _ h9 => h9) (v := .long x_15) f_x_15 dX12_digging_49 ?_
                  refine dg_calli hS hA1 hA (va_runV (As := [.long x_15]) (rest := []) F (c_m_isOwn l g D o S_13 x_15 I_13 H.size) (cwV 1 hts (bw_V wB_365 wB_366 wB_367 wB_297 wB_364) rfl rfl rfl (by decide +kernel) ⟨Nat.le_of_ble_eq_true rfl, Nat.le_of_ble_eq_true rfl⟩) (dg_preV sM_0 rfl K ST hP hS hA1 hA) rfl rfl hl.1 rfl (lv_room (Nat.le_of_ble_eq_true rfl)) dX12_digging_52 ⟨Nat.le_of_ble_eq_true rfl, Nat.le_of_ble_eq_true rfl⟩) (fun x_22 S_23 hw_23 H locs hP hS => ?_)
                  rw [hw_23.1] at hP
                  obtain ⟨hq_23, w_23_0, w_23_1, -⟩ := hw_23
                  have w_23_0 : 0 ≤ (x_22).toInt ∧ (x_22).toInt ≤ 1 := w_23_0
                  have w_23_1 : (x_22).toInt = 1 ↔ m_ow (x_15).toInt = true := w_23_1
                  refine lv_if_eq (tgt := 67) hx hb dX12_digging_55 (dk_dq rfl) (fun c_24 => ?_) (fun c_24 => ?_)
                  · as_aux_lemma =>
                      have jc_24 := dk_eqc (k := 0) (by decide +kernel) c_24
                      refine lv_aload_n hx hb dX12_digging_67 rfl (lv_at hl 0 rfl) ?_
                      refine dg_get (C := RX12) (T := TX12) (N := 77) hx hb hts (fun w h => bw_mem (wU_X12 w h)) hown K hP sM_0 rfl 8 (dk_dq rfl) (hts _ (bw_mem wB_303)) (fun _ h9 => h9) (v := .int y_14) f_y_14 dX12_digging_68 ?_
                      refine lv_if_le (tgt := 78) hx hb dX12_digging_71 (dk_dq rfl) (fun _ => ?_) (fun c => absurd (dk_lep (k := 0) (by decide +kernel) (by omega)) c)
                      refine lv_aload_n hx hb dX12_digging_78 rfl (lv_at hl 0 rfl) ?_
                      refine lv_aload_n hx hb dX12_digging_79 rfl (lv_at hl 0 rfl) ?_
                      refine dg_get (C := RX12) (T := TX12) (N := 77) hx hb hts (fun w h => bw_mem (wU_X12 w h)) hown K hP sM_0 rfl 7 (dk_dq rfl) (hts _ (bw_mem wB_302)) (fun _ h9 => h9) (v := .long x_15) f_x_15 dX12_digging_80 ?_
                      refine dg_calli hS hA1 hA (va_runV (As := [.long x_15]) (rest := []) F (c_m_minerNamed l g D o S_13 x_15 ii (((m_13.1 0 35 _ sM_0 (dk_dq rfl)).trans (m_6.1 0 35 _ sM_0 (dk_dq rfl))).trans f_ii) (by omega) mi ((congrFun ((m_13.2 8 _ sM_8 (dk_dq rfl)).1.trans (m_6.2 8 _ sM_8 (dk_dq rfl)).1) _).trans f_mi) (by omega) I_13 H.size) (cwV 1 hts (bw_V wB_357 wB_358 wB_359 wB_297 wB_356) rfl rfl rfl (by decide +kernel) ⟨Nat.le_of_ble_eq_true rfl, Nat.le_of_ble_eq_true rfl⟩) (dg_preV sM_0 rfl K ST hP hS hA1 hA) rfl rfl hl.1 rfl (lv_room (Nat.le_of_ble_eq_true rfl)) dX12_digging_83 ⟨Nat.le_of_ble_eq_true rfl, Nat.le_of_ble_eq_true rfl⟩) (fun x_25 S_26 hw_26 H locs hP hS => ?_)
                      rw [hw_26.1] at hP
                      obtain ⟨hq_26, w_26_0, w_26_1, w_26_2, -⟩ := hw_26
                      try rw [hq_26] at w_26_1
                      try rw [hq_26] at w_26_2
                      have w_26_0 : (-1) ≤ (x_25).toInt ∧ (x_25).toInt ≤ 5 := w_26_0
                      replace w_26_1 : m_hid ((x_25).toInt ≠ -1 ↔ ∃ j9 : Nat, j9 < (mi : Int32).toNatClampNeg ∧ (S_13.2.2 20 (6 * (ii : Int32).toNatClampNeg + j9)).toInt = (x_15).toInt) := w_26_1
                      have fre := FRE (TKM.keep w_6_2 m_13 (dk_dq rfl) (dk_dq rfl) (dk_dq rfl) (dk_dq rfl) (dk_dq rfl) (dk_dq rfl) (dk_dq rfl) (dk_dq rfl)) (GSM.keep (GSM.keep GS m_6 (dk_dq rfl) (dk_dq rfl) (dk_dq rfl) (dk_dq rfl) (dk_dq rfl) (dk_dq rfl) (dk_dq rfl) (dk_dq rfl) (dk_dq rfl)) m_13 (dk_dq rfl) (dk_dq rfl) (dk_dq rfl) (dk_dq rfl) (dk_dq rfl) (dk_dq rfl) (dk_dq rfl) (dk_dq rfl) (dk_dq rfl)) ((m_13.1 0 3 _ sM_0 (dk_dq rfl)).trans f_y_8) ((m_13.1 0 4 _ sM_0 (dk_dq rfl)).trans f_y_9) f_x_15 (by omega)
                      have hk2 := fre.1.mp ⟨by omega, fun q9 => absurd (w_23_1.mpr q9) (by omega)⟩
                      have hpv := fre.2 hk2
                      have hmm := m_hid.mk (GSM.miner (GSM.keep (GSM.keep GS m_6 (dk_dq rfl) (dk_dq rfl) (dk_dq rfl) (dk_dq rfl) (dk_dq rfl) (dk_dq rfl) (dk_dq rfl) (dk_dq rfl) (dk_dq rfl)) m_13 (dk_dq rfl) (dk_dq rfl) (dk_dq rfl) (dk_dq rfl) (dk_dq rfl) (dk_dq rfl) (dk_dq rfl) (dk_dq rfl) (dk_dq rfl)) (((m_13.1 0 35 _ sM_0 (dk_dq rfl)).trans (m_6.1 0 35 _ sM_0 (dk_dq rfl))).trans f_ii) ((congrFun ((m_13.2 8 _ sM_8 (dk_dq rfl)).1.trans (m_6.2 8 _ sM_8 (dk_dq rfl)).1) _).trans f_mi) hpv.1 hpv.2)
                      clear fre w_23_1 w_13_0_1r
                      replace w_26_2 : m_hid ((x_25).toInt ≠ -1 → (∀ j9 : Nat, j9 < (x_25 : Int32).toNatClampNeg → (S_13.2.2 20 (6 * (ii : Int32).toNatClampNeg + j9)).toInt ≠ (x_15).toInt) ∧ (S_13.2.2 20 (6 * (ii : Int32).toNatClampNeg + (x_25 : Int32).toNatClampNeg)).toInt = (x_15).toInt ∧ (x_25 : Int32).toNatClampNeg < (mi : Int32).toNatClampNeg) := w_26_2
                      have hzx : m_hid ((x_25).toInt ≠ -1 → _) := m_hid.mk (fun q9 => GSM.ix (GSM.keep (GSM.keep GS m_6 (dk_dq rfl) (dk_dq rfl) (dk_dq rfl) (dk_dq rfl) (dk_dq rfl) (dk_dq rfl) (dk_dq rfl) (dk_dq rfl) (dk_dq rfl)) m_13 (dk_dq rfl) (dk_dq rfl) (dk_dq rfl) (dk_dq rfl) (dk_dq rfl) (dk_dq rfl) (dk_dq rfl) (dk_dq rfl) (dk_dq rfl)) (((m_13.1 0 35 _ sM_0 (dk_dq rfl)).trans (m_6.1 0 35 _ sM_0 (dk_dq rfl))).trans f_ii) ((congrFun ((m_13.2 8 _ sM_8 (dk_dq rfl)).1.trans (m_6.2 8 _ sM_8 (dk_dq rfl)).1) _).trans f_mi) hpv.1 hpv.2 (w_26_2.out q9).2.2 (w_26_2.out q9).2.1 (w_26_2.out q9).1)
                      clear w_26_2
                      refine lv_istore_n (lv' := [(1, .int x_25), (0, .ref (o + 0))]) hx hb dX12_digging_86 rfl hl (dk_dq rfl) rfl (fun ls hl => ?_)
                      refine lv_aload_n hx hb dX12_digging_87 rfl (lv_at hl 1 rfl) ?_
                      refine dg_get (C := RX12) (T := TX12) (N := 77) hx hb hts (fun w h => bw_mem (wU_X12 w h)) hown K hP sM_0 rfl 8 (dk_dq rfl) (hts _ (bw_mem wB_303)) (fun _ h9 => h9) (v := .int y_14) f_y_14 dX12_digging_88 ?_
                      refine lv_if_ne (tgt := 108) hx hb dX12_digging_91 (dk_dq rfl) (fun c => absurd (dk_eqp (k := 0) (by decide +kernel) (by omega)) c) (fun _ => ?_)
                      refine lv_iload_n hx hb dX12_digging_94 rfl (lv_at hl 0 rfl) ?_
                      refine lv_iconst (v := (-1)) hx hb dX12_digging_95 (by decide +kernel) ?_
                      refine lv_icmp_ne (tgt := 108) hx hb dX12_digging_96 (dk_dq rfl) (fun c_27 => ?_) (fun c_27 => ?_)
                      · as_aux_lemma =>
                          have jc_27 := dk_neqc (k := (-1)) (by decide +kernel) c_27
                          have jbc_27 : 0 ≤ (x_25).toInt := by omega
                          clear jc_27
                          refine lv_aload_n hx hb dX12_digging_108 rfl (lv_at hl 1 rfl) ?_
                          refine dg_get (C := RX12) (T := TX12) (N := 77) hx hb hts (fun w h => bw_mem (wU_X12 w h)) hown K hP sM_0 rfl 8 (dk_dq rfl) (hts _ (bw_mem wB_303)) (fun _ h9 => h9) (v := .int y_14) f_y_14 dX12_digging_109 ?_
                          refine lv_if_le (tgt := 116) hx hb dX12_digging_112 (dk_dq rfl) (fun _ => ?_) (fun c => absurd (dk_lep (k := 0) (by decide +kernel) (by omega)) c)
                          refine lv_aload_n hx hb dX12_digging_116 rfl (lv_at hl 1 rfl) ?_
                          refine dg_callv hS hA1 hA (va_runV (As := []) (rest := []) F (c_m_ahead l g D o S_13 tb tn y_10 ((m_13.1 0 5 _ sM_0 (dk_dq rfl)).trans f_y_10) (by omega) sl (((m_13.1 0 2 _ sM_0 (dk_dq rfl)).trans (m_6.1 0 2 _ sM_0 (dk_dq rfl))).trans f_sl) (by omega) (by omega) (TKM.keep w_6_2 m_13 (dk_dq rfl) (dk_dq rfl) (dk_dq rfl) (dk_dq rfl) (dk_dq rfl) (dk_dq rfl) (dk_dq rfl) (dk_dq rfl)).1 I_13 H.size) (cwV 0 hts (bw_V wB_318 wB_319 wB_320 wB_297 wB_317) rfl rfl rfl (by decide +kernel) ⟨Nat.le_of_ble_eq_true rfl, Nat.le_of_ble_eq_true rfl⟩) (dg_preV sM_0 rfl K ST hP hS hA1 hA) rfl rfl hl.1 rfl (lv_room (Nat.le_of_ble_eq_true rfl)) dX12_digging_117 ⟨Nat.le_of_ble_eq_true rfl, Nat.le_of_ble_eq_true rfl⟩) (fun S_28 hw_28 H locs hP hS => ?_)
                          obtain ⟨I_28, m_28, w_28_0, w_28_1, -⟩ := hw_28
                          have M_28 := dg_sm.tr M_13 m_28 (dk_dq rfl) (dk_dq rfl)
                          obtain ⟨y_29, y_30, y_31, f_y_29, f_y_30, f_y_31, w_28_0⟩ := w_28_0
                          have w_28_0 : (y_10).toInt ≤ (y_30).toInt ∧ (y_30).toInt ≤ (y_31).toInt ∧ (y_31).toInt ≤ (sl).toInt ∧ ((y_29).toInt ≠ 0 → (y_30).toInt + 1 ≤ (y_31).toInt) := w_28_0
                          obtain ⟨w_28_0_0, w_28_0_1, w_28_0_2, w_28_0_3⟩ := w_28_0
                          have b_y_29 : 0 ≤ (y_29).toInt ∧ (y_29).toInt ≤ 3 := dg_I.intb (lo := 0) (hi := 3) I_28 sM_0 (by decide +kernel) f_y_29
                          have b_y_30 : 0 ≤ (y_30).toInt ∧ (y_30).toInt ≤ 1600 := dg_I.intb (lo := 0) (hi := 1600) I_28 sM_0 (by decide +kernel) f_y_30
                          have b_y_31 : 0 ≤ (y_31).toInt ∧ (y_31).toInt ≤ 1600 := dg_I.intb (lo := 0) (hi := 1600) I_28 sM_0 (by decide +kernel) f_y_31
                          replace w_28_1 : TNX tb tn y_10 S_28 := w_28_1
                          obtain ⟨TK_28, nx_28, -⟩ := TKM.nx (TKM.keep w_6_2 m_13 (dk_dq rfl) (dk_dq rfl) (dk_dq rfl) (dk_dq rfl) (dk_dq rfl) (dk_dq rfl) (dk_dq rfl) (dk_dq rfl)) ((m_13.1 0 4 _ sM_0 (dk_dq rfl)).trans f_y_9) ((m_13.1 0 5 _ sM_0 (dk_dq rfl)).trans f_y_10) w_28_1 m_28 (dk_dq rfl) (dk_dq rfl) f_y_30
                          replace nx_28 := nx_28 (by omega)
                          refine lv_aload_n hx hb dX12_digging_120 rfl (lv_at hl 1 rfl) ?_
                          refine lv_ldc2 hx hb hown (hts _ (bw_mem wB_333)) dX12_digging_121 ?_
                          refine dg_callv hS hA1 hA (va_runV (As := [.long 24948]) (rest := []) F (c_m_must_ l g D o S_28 24948 tb tn 8 y_29 f_y_29 (by omega) y_30 f_y_30 (by omega) y_31 f_y_31 (by omega) sl (((m_28.1 0 2 _ sM_0 (dk_dq rfl)).trans ((m_13.1 0 2 _ sM_0 (dk_dq rfl)).trans (m_6.1 0 2 _ sM_0 (dk_dq rfl)))).trans f_sl) (by omega) y_14 ((m_28.1 0 8 _ sM_0 (dk_dq rfl)).trans f_y_14) (by omega) (by omega) ⟨by decide, by decide +kernel⟩ TK_28 I_28 H.size) (cwV 1 hts (bw_V wB_393 wB_394 wB_395 wB_297 wB_392) rfl rfl rfl (by decide +kernel) ⟨Nat.le_of_ble_eq_true rfl, Nat.le_of_ble_eq_true rfl⟩) (dg_preV sM_0 rfl K ST hP hS hA1 hA) rfl rfl hl.1 rfl (lv_room (Nat.le_of_ble_eq_true rfl)) dX12_digging_124 ⟨Nat.le_of_ble_eq_true rfl, Nat.le_of_ble_eq_true rfl⟩) (fun S_32 hw_32 H locs hP hS => ?_)
                          obtain ⟨I_32, m_32, w_32_0, w_32_1, -⟩ := hw_32
                          have M_32 := dg_sm.tr M_28 m_32 (dk_dq rfl) (dk_dq rfl)
                          obtain ⟨y_33, y_34, y_35, y_36, f_y_33, f_y_34, f_y_35, f_y_36, w_32_0⟩ := w_32_0
                          have w_32_0 : (((y_34).toInt ≤ (y_35).toInt ∧ (y_35).toInt ≤ (sl).toInt ∧ ((y_33).toInt ≠ 0 → (y_34).toInt + 1 ≤ (y_35).toInt)) ∧ (y_30).toInt ≤ (y_34).toInt ∧ ((y_14).toInt ≠ 0 → (y_36).toInt ≠ 0) ∧ ((y_36).toInt = 0 → (y_30).toInt + 1 ≤ (y_34).toInt)) ∧ m_hid ((y_14).toInt = 0 → m_an y_36 (y_own (T_kd tb tn) (T_vl tb tn) 8 (t_ix tb tn (y_30 : Int32).toNatClampNeg)) (t_ix tb tn (y_34 : Int32).toNatClampNeg)) := w_32_0
                          obtain ⟨⟨⟨w_32_0_0, w_32_0_1, w_32_0_2⟩, w_32_0_3, w_32_0_4, w_32_0_5⟩, w_32_0_6⟩ := w_32_0
                          clear w_32_0_4
                          have b_y_33 : 0 ≤ (y_33).toInt ∧ (y_33).toInt ≤ 3 := dg_I.intb (lo := 0) (hi := 3) I_32 sM_0 (by decide +kernel) f_y_33
                          have b_y_34 : 0 ≤ (y_34).toInt ∧ (y_34).toInt ≤ 1600 := dg_I.intb (lo := 0) (hi := 1600) I_32 sM_0 (by decide +kernel) f_y_34
                          have b_y_35 : 0 ≤ (y_35).toInt ∧ (y_35).toInt ≤ 1600 := dg_I.intb (lo := 0) (hi := 1600) I_32 sM_0 (by decide +kernel) f_y_35
                          have b_y_36 : 0 ≤ (y_36).toInt ∧ (y_36).toInt ≤ 6 := dg_I.intb (lo := 0) (hi := 6) I_32 sM_0 (by decide +kernel) f_y_36
                          refine lv_bipush (v := 16) hx hb dX12_digging_127 (by decide +kernel) ?_
                          refine lv_aload_n hx hb dX12_digging_129 rfl (lv_at hl 1 rfl) ?_
                          refine dg_get (C := RX12) (T := TX12) (N := 77) hx hb hts (fun w h => bw_mem (wU_X12 w h)) hown K hP sM_0 rfl 35 (dk_dq rfl) (hts _ (bw_mem wB_353)) (fun _ h9 => h9) (v := .int ii) (((m_32.1 0 35 _ sM_0 (dk_dq rfl)).trans ((m_28.1 0 35 _ sM_0 (dk_dq rfl)).trans ((m_13.1 0 35 _ sM_0 (dk_dq rfl)).trans (m_6.1 0 35 _ sM_0 (dk_dq rfl))))).trans f_ii) dX12_digging_130 ?_
                          refine lv_imul hx hb dX12_digging_133 ?_
                          refine lv_topi (fun x_37 ex_37 => ?_)
                          have jx_37 : (x_37).toInt = 16 * (ii).toInt := by rw [ex_37]; exact dk_mulT2 (by decide +kernel) rfl (by omega)
                          refine lv_aload_n hx hb dX12_digging_134 rfl (lv_at hl 1 rfl) ?_
                          refine dg_get (C := RX12) (T := TX12) (N := 77) hx hb hts (fun w h => bw_mem (wU_X12 w h)) hown K hP sM_0 rfl 21 (dk_dq rfl) (hts _ (bw_mem wB_391)) (fun _ h9 => h9) (v := .ref (o + 9)) (show S_32.1 0 21 = .ref (o + 9) from dg_I.rel (d := 9) I_32 sM_0 (by decide +kernel)) dX12_digging_135 ?_
                          as_aux_lemma =>
                            refine lv_aload_n hx hb dX12_digging_138 rfl (lv_at hl 1 rfl) ?_
                            refine dg_get (C := RX12) (T := TX12) (N := 77) hx hb hts (fun w h => bw_mem (wU_X12 w h)) hown K hP sM_0 rfl 35 (dk_dq rfl) (hts _ (bw_mem wB_353)) (fun _ h9 => h9) (v := .int ii) (((m_32.1 0 35 _ sM_0 (dk_dq rfl)).trans ((m_28.1 0 35 _ sM_0 (dk_dq rfl)).trans ((m_13.1 0 35 _ sM_0 (dk_dq rfl)).trans (m_6.1 0 35 _ sM_0 (dk_dq rfl))))).trans f_ii) dX12_digging_139 ?_
                            have hin_38 : vp_in ii 2 := (dk_inv2 (by omega))
                            refine dg_iald hx hb K hP sM_9 hin_38 dX12_digging_142 (fun y_39 ey_39 => ?_)
                            obtain rfl : pl = y_39 := ((ey_39.trans (congrFun ((m_32.2 9 _ sM_9 (dk_dq rfl)).1.trans ((m_28.2 9 _ sM_9 (dk_dq rfl)).1.trans ((m_13.2 9 _ sM_9 (dk_dq rfl)).1.trans (m_6.2 9 _ sM_9 (dk_dq rfl)).1))) _)).trans f_pl).symm
                            refine lv_iadd hx hb dX12_digging_143 ?_
                            refine lv_topi (fun x_40 ex_40 => ?_)
                            have jx_40 : (x_40).toInt = (x_37).toInt + (pl).toInt := by rw [ex_40]; exact dk_addT2 rfl rfl (by omega)
                            refine lv_istore_n (lv' := [(2, .int x_40), (1, .int x_25), (0, .ref (o + 0))]) hx hb dX12_digging_144 rfl hl (dk_dq rfl) rfl (fun ls hl => ?_)
                            refine lv_aload_n hx hb dX12_digging_145 rfl (lv_at hl 2 rfl) ?_
                            refine dg_get (C := RX12) (T := TX12) (N := 77) hx hb hts (fun w h => bw_mem (wU_X12 w h)) hown K hP sM_0 rfl 22 (dk_dq rfl) (hts _ (bw_mem wB_396)) (fun _ h9 => h9) (v := .ref (o + 10)) (show S_32.1 0 22 = .ref (o + 10) from dg_I.rel (d := 10) I_32 sM_0 (by decide +kernel)) dX12_digging_146 ?_
                            refine lv_iload_n hx hb dX12_digging_149 rfl (lv_at hl 0 rfl) ?_
                            refine lv_iload_n hx hb dX12_digging_150 rfl (lv_at hl 1 rfl) ?_
                            have hin_41 : vp_in x_40 32 := (dk_inv2 (by omega))
                            refine dg_iast hx hb K hP hS hA1 sM_10 hin_41 dX12_digging_151 (fun S_42 e_42 H locs hP hS => ?_)
                            have I_42 := dg_I.uf0 I_32 e_42 sM_10 (by decide +kernel)
                            have M_42 := dg_sm.uf M_32 e_42 sM_10 (dk_dq rfl)
                            have GB_42 := GBM.st (GBM.keep (GBM.keep (GBM.keep (GBM.keep GB m_6 (dk_dq rfl) (dk_dq rfl) (dk_dq rfl)) m_13 (dk_dq rfl) (dk_dq rfl) (dk_dq rfl)) m_28 (dk_dq rfl) (dk_dq rfl) (dk_dq rfl)) m_32 (dk_dq rfl) (dk_dq rfl) (dk_dq rfl)) (ZKM.keep (ZKM.keep (ZKM.keep (ZKM.keep ZK m_6 (dk_dq rfl) (dk_dq rfl)) m_13 (dk_dq rfl) (dk_dq rfl)) m_28 (dk_dq rfl) (dk_dq rfl)) m_32 (dk_dq rfl) (dk_dq rfl)) (((m_32.1 0 35 _ sM_0 (dk_dq rfl)).trans ((m_28.1 0 35 _ sM_0 (dk_dq rfl)).trans ((m_13.1 0 35 _ sM_0 (dk_dq rfl)).trans (m_6.1 0 35 _ sM_0 (dk_dq rfl))))).trans f_ii) 16 rfl (wi := 16) rfl e_42 (by omega) (by omega)
                            refine lv_aload_n hx hb dX12_digging_152 rfl (lv_at hl 2 rfl) ?_
                            refine dg_get (C := RX12) (T := TX12) (N := 77) hx hb hts (fun w h => bw_mem (wU_X12 w h)) hown K hP sM_0 rfl 23 (dk_dq rfl) (hts _ (bw_mem wB_397)) (fun _ h9 => h9) (v := .ref (o + 11)) (show S_42.1 0 23 = .ref (o + 11) from dg_I.rel (d := 11) I_42 sM_0 (by decide +kernel)) dX12_digging_153 ?_
                            refine lv_iload_n hx hb dX12_digging_156 rfl (lv_at hl 0 rfl) ?_
                            refine lv_aload_n hx hb dX12_digging_157 rfl (lv_at hl 2 rfl) ?_
                            refine dg_calli hS hA1 hA (va_runV (As := []) (rest := [.int x_40, .ref (o + 11)]) F (c_m_cellTold l g D o S_42 tb tn y_33 ((dg_uf_F e_42 0 3).trans f_y_33) (by omega) y_34 ((dg_uf_F e_42 0 4).trans f_y_34) (by omega) y_35 ((dg_uf_F e_42 0 5).trans f_y_35) (by omega) sl (((dg_uf_F e_42 0 2).trans ((m_32.1 0 2 _ sM_0 (dk_dq rfl)).trans ((m_28.1 0 2 _ sM_0 (dk_dq rfl)).trans ((m_13.1 0 2 _ sM_0 (dk_dq rfl)).trans (m_6.1 0 2 _ sM_0 (dk_dq rfl)))))).trans f_sl) (by omega) y_36 ((dg_uf_F e_42 0 8).trans f_y_36) (by omega) ii (((dg_uf_F e_42 0 35).trans ((m_32.1 0 35 _ sM_0 (dk_dq rfl)).trans ((m_28.1 0 35 _ sM_0 (dk_dq rfl)).trans ((m_13.1 0 35 _ sM_0 (dk_dq rfl)).trans (m_6.1 0 35 _ sM_0 (dk_dq rfl)))))).trans f_ii) (by omega) cc ((congrFun ((dg_uf_ne e_42 (dk_dq rfl)).trans ((m_32.2 2 _ sM_2 (dk_dq rfl)).1.trans ((m_28.2 2 _ sM_2 (dk_dq rfl)).1.trans ((m_13.2 2 _ sM_2 (dk_dq rfl)).1.trans (m_6.2 2 _ sM_2 (dk_dq rfl)).1)))) _).trans f_cc) (by omega) rr ((congrFun ((dg_uf_ne e_42 (dk_dq rfl)).trans ((m_32.2 3 _ sM_3 (dk_dq rfl)).1.trans ((m_28.2 3 _ sM_3 (dk_dq rfl)).1.trans ((m_13.2 3 _ sM_3 (dk_dq rfl)).1.trans (m_6.2 3 _ sM_3 (dk_dq rfl)).1)))) _).trans f_rr) (by omega) (by omega) (TKM.keep w_32_1 (dg_sm.uf (WF := []) (WA := [10]) dg_sm.rf e_42 sM_10 (dk_dq rfl)) (dk_dq rfl) (dk_dq rfl) (dk_dq rfl) (dk_dq rfl) (dk_dq rfl) (dk_dq rfl) (dk_dq rfl) (dk_dq rfl)) (ZCM.keep (ZCM.keep (ZCM.keep (ZCM.keep (ZCM.keep ZC m_6 (dk_dq rfl) (dk_dq rfl) (dk_dq rfl) (dk_dq rfl)) m_13 (dk_dq rfl) (dk_dq rfl) (dk_dq rfl) (dk_dq rfl)) m_28 (dk_dq rfl) (dk_dq rfl) (dk_dq rfl) (dk_dq rfl)) m_32 (dk_dq rfl) (dk_dq rfl) (dk_dq rfl) (dk_dq rfl)) (dg_sm.uf (WF := []) (WA := [10]) dg_sm.rf e_42 sM_10 (dk_dq rfl)) (dk_dq rfl) (dk_dq rfl) (dk_dq rfl) (dk_dq rfl)) I_42 H.size) (cwV 0 hts (bw_V wB_383 wB_384 wB_385 wB_297 wB_382) rfl rfl rfl (by decide +kernel) ⟨Nat.le_of_ble_eq_true rfl, Nat.le_of_ble_eq_true rfl⟩) (dg_preV sM_0 rfl K ST hP hS hA1 hA) rfl rfl hl.1 rfl (lv_room (Nat.le_of_ble_eq_true rfl)) dX12_digging_158 ⟨Nat.le_of_ble_eq_true rfl, Nat.le_of_ble_eq_true rfl⟩) (fun x_43 S_44 hw_44 H locs hP hS => ?_)
                            obtain ⟨I_44, m_44, w_44_0, w_44_1, w_44_2, w_44_3, -⟩ := hw_44
                            have M_44 := dg_sm.tr M_42 m_44 (dk_dq rfl) (dk_dq rfl)
                            have w_44_0 : 0 ≤ (x_43).toInt ∧ (x_43).toInt ≤ 54 := w_44_0
                            obtain ⟨y_45, y_46, y_47, y_48, f_y_45, f_y_46, f_y_47, f_y_48, w_44_1⟩ := w_44_1
                            have w_44_1 : (((y_46).toInt ≤ (y_47).toInt ∧ (y_47).toInt ≤ (sl).toInt ∧ ((y_45).toInt ≠ 0 → (y_46).toInt + 1 ≤ (y_47).toInt)) ∧ (y_34).toInt ≤ (y_46).toInt ∧ ((y_36).toInt ≠ 0 → (y_48).toInt ≠ 0) ∧ ((y_34).toInt ≤ (y_34).toInt)) ∧ m_hid ((y_36).toInt = 0 → m_an y_48 (y_cell (T_kd tb tn) (T_vl tb tn) ((cc).toInt, (rr).toInt) (t_ix tb tn (y_34 : Int32).toNatClampNeg)) (t_ix tb tn (y_46 : Int32).toNatClampNeg)) := w_44_1
                            obtain ⟨⟨⟨w_44_1_0, w_44_1_1, w_44_1_2⟩, w_44_1_3, w_44_1_4, w_44_1_5⟩, w_44_1_6⟩ := w_44_1
                            have b_y_45 : 0 ≤ (y_45).toInt ∧ (y_45).toInt ≤ 3 := dg_I.intb (lo := 0) (hi := 3) I_44 sM_0 (by decide +kernel) f_y_45
                            have b_y_46 : 0 ≤ (y_46).toInt ∧ (y_46).toInt ≤ 1600 := dg_I.intb (lo := 0) (hi := 1600) I_44 sM_0 (by decide +kernel) f_y_46
                            have b_y_47 : 0 ≤ (y_47).toInt ∧ (y_47).toInt ≤ 1600 := dg_I.intb (lo := 0) (hi := 1600) I_44 sM_0 (by decide +kernel) f_y_47
                            have b_y_48 : 0 ≤ (y_48).toInt ∧ (y_48).toInt ≤ 6 := dg_I.intb (lo := 0) (hi := 6) I_44 sM_0 (by decide +kernel) f_y_48
                            replace w_44_2 : m_hid ((y_36).toInt = 0 → ∀ f9 : Int32, S_44.1 0 8 = .int f9 → f9.toInt = 0 → (x_43).toInt = 8 * (T_vl tb tn ((t_ix tb tn (y_34 : Int32).toNatClampNeg) + 1)).toInt + (T_vl tb tn ((t_ix tb tn (y_34 : Int32).toNatClampNeg))).toInt) := w_44_2
                            have hin_49 : vp_in x_40 32 := (dk_inv2 (by omega))
                            refine dg_iast hx hb K hP hS hA1 sM_11 hin_49 dX12_digging_161 (fun S_50 e_50 H locs hP hS => ?_)
                            have I_50 := dg_I.ufu (lo := 0) (hi := 63) I_44 e_50 sM_11 (by decide +kernel) (show 0 ≤ (x_43).toInt ∧ (x_43).toInt ≤ 63 from (by omega))
                            have M_50 := dg_sm.uf M_44 e_50 sM_11 (dk_dq rfl)
                            have GB_50 := GBM.st (GBM.keep GB_42 m_44 (dk_dq rfl) (dk_dq rfl) (dk_dq rfl)) (ZKM.keep (ZKM.keep (ZKM.keep (ZKM.keep (ZKM.keep (ZKM.keep ZK m_6 (dk_dq rfl) (dk_dq rfl)) m_13 (dk_dq rfl) (dk_dq rfl)) m_28 (dk_dq rfl) (dk_dq rfl)) m_32 (dk_dq rfl) (dk_dq rfl)) (dg_sm.uf (WF := []) (WA := [10]) dg_sm.rf e_42 sM_10 (dk_dq rfl)) (dk_dq rfl) (dk_dq rfl)) m_44 (dk_dq rfl) (dk_dq rfl)) (((m_44.1 0 35 _ sM_0 (dk_dq rfl)).trans ((dg_uf_F e_42 0 35).trans ((m_32.1 0 35 _ sM_0 (dk_dq rfl)).trans ((m_28.1 0 35 _ sM_0 (dk_dq rfl)).trans ((m_13.1 0 35 _ sM_0 (dk_dq rfl)).trans (m_6.1 0 35 _ sM_0 (dk_dq rfl))))))).trans f_ii) 16 rfl (wi := 16) rfl e_50 (by omega) (by omega)
                            refine lv_aload_n hx hb dX12_digging_162 rfl (lv_at hl 2 rfl) ?_
                            as_aux_lemma =>
                              refine dg_get (C := RX12) (T := TX12) (N := 77) hx hb hts (fun w h => bw_mem (wU_X12 w h)) hown K hP sM_0 rfl 8 (dk_dq rfl) (hts _ (bw_mem wB_303)) (fun _ h9 => h9) (v := .int y_48) ((dg_uf_F e_50 0 8).trans f_y_48) dX12_digging_163 ?_
                              refine lv_if_ne (tgt := 182) hx hb dX12_digging_166 (dk_dq rfl) (fun c_51 => ?_) (fun c_51 => ?_)
                              · have jc_51 := dk_neqc (k := 0) (by decide +kernel) c_51
                                have jbc_51 : 1 ≤ (y_48).toInt := by omega
                                clear jc_51
                                refine W.widen (k := 0) (n := 0) (Nat.le_of_ble_eq_true rfl) (Nat.le_of_ble_eq_true rfl) ?_
                                rw [hQ9]
                                exact dg_vret hx hb hr hlocks hP hS ⟨I_50, M_50, ⟨y_45, y_46, y_47, y_48, ((dg_uf_F e_50 0 3).trans f_y_45), ((dg_uf_F e_50 0 4).trans f_y_46), ((dg_uf_F e_50 0 5).trans f_y_47), ((dg_uf_F e_50 0 8).trans f_y_48), (by omega)⟩, (SOK.mk (fk := fk) ((dg_uf_F e_50 0 8).trans f_y_48) ((dg_uf_F e_50 0 4).trans f_y_46) (fun h0 q9 => by exfalso; omega) (fun h0 q9 => (by rw [show ((t_ix tb tn (sa : Int32).toNatClampNeg) + 1) = (t_ix tb tn (y_9 : Int32).toNatClampNeg) from by omega, (y_old_t hk2 rfl (hmm.out.mpr (w_26_1.out.mp (by omega)))).trans (show some ((t_ix tb tn (y_9 : Int32).toNatClampNeg) + 1) = some (t_ix tb tn (y_30 : Int32).toNatClampNeg) from by rw [show (t_ix tb tn (y_30 : Int32).toNatClampNeg) = (t_ix tb tn (y_9 : Int32).toNatClampNeg) + 1 from by omega])]; show m_an _ ((y_own (T_kd tb tn) (T_vl tb tn) 8 (t_ix tb tn (y_30 : Int32).toNatClampNeg)).bind (y_cell (T_kd tb tn) (T_vl tb tn) sg9.1)) _; rw [hcols]; exact m_an.bind (w_32_0_6.out (by omega)) (fun q1 => w_44_1_6.out (by omega)) (by omega))) (fun h0 q8 q9 => by exfalso; omega) rfl), (m_hid.mk (fun h0 f9 q9 q8 => by have q7 := (((dg_uf_F e_50 0 8).trans f_y_48)).symm.trans q9; cases q7; exfalso; omega)), (TKM.keep w_44_3 (dg_sm.uf (WF := []) (WA := [11]) dg_sm.rf e_50 sM_11 (dk_dq rfl)) (dk_dq rfl) (dk_dq rfl) (dk_dq rfl) (dk_dq rfl) (dk_dq rfl) (dk_dq rfl) (dk_dq rfl) (dk_dq rfl)), GB_50, trivial⟩ dX12_digging_182
                              · as_aux_lemma =>
                                  have jc_51 := dk_eqc (k := 0) (by decide +kernel) c_51
                                  have w_44_1_4c : (y_36).toInt = 0 := by omega
                                  clear w_44_1_4
                                  have w_32_0_5r := w_32_0_5 (by omega)
                                  clear w_32_0_5
                                  refine lv_aload_n hx hb dX12_digging_169 rfl (lv_at hl 2 rfl) ?_
                                  refine dg_get (C := RX12) (T := TX12) (N := 77) hx hb hts (fun w h => bw_mem (wU_X12 w h)) hown K hP sM_0 rfl 21 (dk_dq rfl) (hts _ (bw_mem wB_391)) (fun _ h9 => h9) (v := .ref (o + 9)) (show S_50.1 0 21 = .ref (o + 9) from dg_I.rel (d := 9) I_50 sM_0 (by decide +kernel)) dX12_digging_170 ?_
                                  refine lv_aload_n hx hb dX12_digging_173 rfl (lv_at hl 2 rfl) ?_
                                  refine dg_get (C := RX12) (T := TX12) (N := 77) hx hb hts (fun w h => bw_mem (wU_X12 w h)) hown K hP sM_0 rfl 35 (dk_dq rfl) (hts _ (bw_mem wB_353)) (fun _ h9 => h9) (v := .int ii) (((dg_uf_F e_50 0 35).trans ((m_44.1 0 35 _ sM_0 (dk_dq rfl)).trans ((dg_uf_F e_42 0 35).trans ((m_32.1 0 35 _ sM_0 (dk_dq rfl)).trans ((m_28.1 0 35 _ sM_0 (dk_dq rfl)).trans ((m_13.1 0 35 _ sM_0 (dk_dq rfl)).trans (m_6.1 0 35 _ sM_0 (dk_dq rfl)))))))).trans f_ii) dX12_digging_174 ?_
                                  refine lv_dup2_11 hx hb dX12_digging_177 rfl rfl ?_
                                  have hin_52 : vp_in ii 2 := (dk_inv2 (by omega))
                                  refine dg_iald hx hb K hP sM_9 hin_52 dX12_digging_178 (fun y_53 ey_53 => ?_)
                                  obtain rfl : pl = y_53 := ((ey_53.trans (congrFun ((dg_uf_ne e_50 (dk_dq rfl)).trans ((m_44.2 9 _ sM_9 (dk_dq rfl)).1.trans ((dg_uf_ne e_42 (dk_dq rfl)).trans ((m_32.2 9 _ sM_9 (dk_dq rfl)).1.trans ((m_28.2 9 _ sM_9 (dk_dq rfl)).1.trans ((m_13.2 9 _ sM_9 (dk_dq rfl)).1.trans (m_6.2 9 _ sM_9 (dk_dq rfl)).1)))))) _)).trans f_pl).symm
                                  refine lv_iconst (v := 1) hx hb dX12_digging_179 (by decide +kernel) ?_
                                  refine lv_iadd hx hb dX12_digging_180 ?_
                                  refine lv_topi (fun x_54 ex_54 => ?_)
                                  have jx_54 : (x_54).toInt = (pl).toInt + 1 := by rw [ex_54]; exact dk_addT2 rfl (by decide +kernel) (by omega)
                                  have hin_55 : vp_in ii 2 := (dk_inv2 (by omega))
                                  refine dg_iast hx hb K hP hS hA1 sM_9 hin_55 dX12_digging_181 (fun S_56 e_56 H locs hP hS => ?_)
                                  have I_56 := dg_I.ufu (lo := 0) (hi := 16) I_50 e_56 sM_9 (by decide +kernel) (show 0 ≤ (x_54).toInt ∧ (x_54).toInt ≤ 16 from (by omega))
                                  have M_56 := dg_sm.uf M_50 e_56 sM_9 (dk_dq rfl)
                                  have GB_56 := GBM.st GB_50 (ZKM.keep (ZKM.keep (ZKM.keep (ZKM.keep (ZKM.keep (ZKM.keep (ZKM.keep ZK m_6 (dk_dq rfl) (dk_dq rfl)) m_13 (dk_dq rfl) (dk_dq rfl)) m_28 (dk_dq rfl) (dk_dq rfl)) m_32 (dk_dq rfl) (dk_dq rfl)) (dg_sm.uf (WF := []) (WA := [10]) dg_sm.rf e_42 sM_10 (dk_dq rfl)) (dk_dq rfl) (dk_dq rfl)) m_44 (dk_dq rfl) (dk_dq rfl)) (dg_sm.uf (WF := []) (WA := [11]) dg_sm.rf e_50 sM_11 (dk_dq rfl)) (dk_dq rfl) (dk_dq rfl)) (((dg_uf_F e_50 0 35).trans ((m_44.1 0 35 _ sM_0 (dk_dq rfl)).trans ((dg_uf_F e_42 0 35).trans ((m_32.1 0 35 _ sM_0 (dk_dq rfl)).trans ((m_28.1 0 35 _ sM_0 (dk_dq rfl)).trans ((m_13.1 0 35 _ sM_0 (dk_dq rfl)).trans (m_6.1 0 35 _ sM_0 (dk_dq rfl)))))))).trans f_ii) 1 rfl (wi := 1) rfl e_56 (by omega) (by omega)
                                  refine W.widen (k := 0) (n := 0) (Nat.le_of_ble_eq_true rfl) (Nat.le_of_ble_eq_true rfl) ?_
                                  rw [hQ9]
                                  exact dg_vret hx hb hr hlocks hP hS ⟨I_56, M_56, ⟨y_45, y_46, y_47, y_48, (((dg_uf_F e_56 0 3).trans (dg_uf_F e_50 0 3)).trans f_y_45), (((dg_uf_F e_56 0 4).trans (dg_uf_F e_50 0 4)).trans f_y_46), (((dg_uf_F e_56 0 5).trans (dg_uf_F e_50 0 5)).trans f_y_47), (((dg_uf_F e_56 0 8).trans (dg_uf_F e_50 0 8)).trans f_y_48), (by omega)⟩, (SOK.mk (fk := fk) (((dg_uf_F e_56 0 8).trans (dg_uf_F e_50 0 8)).trans f_y_48) (((dg_uf_F e_56 0 4).trans (dg_uf_F e_50 0 4)).trans f_y_46) (fun h0 q9 => by exfalso; omega) (fun h0 q9 => (by rw [show ((t_ix tb tn (sa : Int32).toNatClampNeg) + 1) = (t_ix tb tn (y_9 : Int32).toNatClampNeg) from by omega, (y_old_t hk2 rfl (hmm.out.mpr (w_26_1.out.mp (by omega)))).trans (show some ((t_ix tb tn (y_9 : Int32).toNatClampNeg) + 1) = some (t_ix tb tn (y_30 : Int32).toNatClampNeg) from by rw [show (t_ix tb tn (y_30 : Int32).toNatClampNeg) = (t_ix tb tn (y_9 : Int32).toNatClampNeg) + 1 from by omega])]; show m_an _ ((y_own (T_kd tb tn) (T_vl tb tn) 8 (t_ix tb tn (y_30 : Int32).toNatClampNeg)).bind (y_cell (T_kd tb tn) (T_vl tb tn) sg9.1)) _; rw [hcols]; exact m_an.bind (w_32_0_6.out (by omega)) (fun q1 => w_44_1_6.out (by omega)) (by omega))) (fun h0 q8 q9 => (GSM.c9 (GSM.keep (GSM.keep (GSM.keep (GSM.keep (GSM.keep (GSM.keep (GSM.keep GS m_6 (dk_dq rfl) (dk_dq rfl) (dk_dq rfl) (dk_dq rfl) (dk_dq rfl) (dk_dq rfl) (dk_dq rfl) (dk_dq rfl) (dk_dq rfl)) m_13 (dk_dq rfl) (dk_dq rfl) (dk_dq rfl) (dk_dq rfl) (dk_dq rfl) (dk_dq rfl) (dk_dq rfl) (dk_dq rfl) (dk_dq rfl)) m_28 (dk_dq rfl) (dk_dq rfl) (dk_dq rfl) (dk_dq rfl) (dk_dq rfl) (dk_dq rfl) (dk_dq rfl) (dk_dq rfl) (dk_dq rfl)) m_32 (dk_dq rfl) (dk_dq rfl) (dk_dq rfl) (dk_dq rfl) (dk_dq rfl) (dk_dq rfl) (dk_dq rfl) (dk_dq rfl) (dk_dq rfl)) (dg_sm.uf (WF := []) (WA := [10]) dg_sm.rf e_42 sM_10 (dk_dq rfl)) (dk_dq rfl) (dk_dq rfl) (dk_dq rfl) (dk_dq rfl) (dk_dq rfl) (dk_dq rfl) (dk_dq rfl) (dk_dq rfl) (dk_dq rfl)) m_44 (dk_dq rfl) (dk_dq rfl) (dk_dq rfl) (dk_dq rfl) (dk_dq rfl) (dk_dq rfl) (dk_dq rfl) (dk_dq rfl) (dk_dq rfl)) (dg_sm.uf (WF := []) (WA := [11]) dg_sm.rf e_50 sM_11 (dk_dq rfl)) (dk_dq rfl) (dk_dq rfl) (dk_dq rfl) (dk_dq rfl) (dk_dq rfl) (dk_dq rfl) (dk_dq rfl) (dk_dq rfl) (dk_dq rfl)) (((dg_uf_F e_50 0 35).trans ((m_44.1 0 35 _ sM_0 (dk_dq rfl)).trans ((dg_uf_F e_42 0 35).trans ((m_32.1 0 35 _ sM_0 (dk_dq rfl)).trans ((m_28.1 0 35 _ sM_0 (dk_dq rfl)).trans ((m_13.1 0 35 _ sM_0 (dk_dq rfl)).trans (m_6.1 0 35 _ sM_0 (dk_dq rfl)))))))).trans f_ii) ((congrFun ((dg_uf_ne e_50 (dk_dq rfl)).trans ((m_44.2 9 _ sM_9 (dk_dq rfl)).1.trans ((dg_uf_ne e_42 (dk_dq rfl)).trans ((m_32.2 9 _ sM_9 (dk_dq rfl)).1.trans ((m_28.2 9 _ sM_9 (dk_dq rfl)).1.trans ((m_13.2 9 _ sM_9 (dk_dq rfl)).1.trans (m_6.2 9 _ sM_9 (dk_dq rfl)).1)))))) _).trans f_pl) e_56 (by omega) (by omega))) rfl), (m_hid.mk (fun h0 f9 q9 q8 => by have q7 := ((((dg_uf_F e_56 0 8).trans (dg_uf_F e_50 0 8)).trans f_y_48)).symm.trans q9; cases q7; exact ⟨x_25, x_43, (x_40 : Int32).toNatClampNeg, by have h9 := hzx.out (by omega); rw [show (t_ix tb tn (y_9 : Int32).toNatClampNeg) = (t_ix tb tn (sa : Int32).toNatClampNeg) + 1 from by omega] at h9; have h8 := dk_clN x_25; omega, by have m0 := (y_own_o ((w_32_0_6.out (by omega)).1 (by omega))).2; have c9 := w_44_2.out (by omega) _ f_y_48 (by omega); rw [show (t_ix tb tn (y_34 : Int32).toNatClampNeg) = (t_ix tb tn (sa : Int32).toNatClampNeg) + 3 from by omega] at c9; (try simp only [Nat.add_assoc, Nat.reduceAdd] at c9); omega, by have h8 := dk_clN x_40; have h7 := dk_clN ii; have h6 := dk_clN pl; omega, by rw [((dg_uf_ne e_56 (dk_dq rfl)).trans ((dg_uf_ne e_50 (dk_dq rfl)).trans (m_44.2 10 _ sM_10 (dk_dq rfl)).1)), dg_uf_at e_42, ((m_32.2 10 _ sM_10 (dk_dq rfl)).1.trans ((m_28.2 10 _ sM_10 (dk_dq rfl)).1.trans ((m_13.2 10 _ sM_10 (dk_dq rfl)).1.trans (m_6.2 10 _ sM_10 (dk_dq rfl)).1)))], by rw [(dg_uf_ne e_56 (dk_dq rfl)), dg_uf_at e_50, ((m_44.2 11 _ sM_11 (dk_dq rfl)).1.trans ((dg_uf_ne e_42 (dk_dq rfl)).trans ((m_32.2 11 _ sM_11 (dk_dq rfl)).1.trans ((m_28.2 11 _ sM_11 (dk_dq rfl)).1.trans ((m_13.2 11 _ sM_11 (dk_dq rfl)).1.trans (m_6.2 11 _ sM_11 (dk_dq rfl)).1)))))], by have h6 := dk_clN pl; omega⟩)), (TKM.keep (TKM.keep w_44_3 (dg_sm.uf (WF := []) (WA := [11]) dg_sm.rf e_50 sM_11 (dk_dq rfl)) (dk_dq rfl) (dk_dq rfl) (dk_dq rfl) (dk_dq rfl) (dk_dq rfl) (dk_dq rfl) (dk_dq rfl) (dk_dq rfl)) (dg_sm.uf (WF := []) (WA := [9]) dg_sm.rf e_56 sM_9 (dk_dq rfl)) (dk_dq rfl) (dk_dq rfl) (dk_dq rfl) (dk_dq rfl) (dk_dq rfl) (dk_dq rfl) (dk_dq rfl) (dk_dq rfl)), GB_56, trivial⟩ dX12_digging_182
                      · as_aux_lemma =>
                          have jc_27 := dk_eqc (k := (-1)) (by decide +kernel) c_27
                          refine lv_aload_n hx hb dX12_digging_99 rfl (lv_at hl 1 rfl) ?_
                          refine lv_iconst (v := 3) hx hb dX12_digging_100 (by decide +kernel) ?_
                          refine lv_aload_n hx hb dX12_digging_101 rfl (lv_at hl 1 rfl) ?_
                          refine dg_get (C := RX12) (T := TX12) (N := 77) hx hb hts (fun w h => bw_mem (wU_X12 w h)) hown K hP sM_0 rfl 4 (dk_dq rfl) (hts _ (bw_mem wB_291)) (fun _ h9 => h9) (v := .int y_9) ((m_13.1 0 4 _ sM_0 (dk_dq rfl)).trans f_y_9) dX12_digging_102 ?_
                          have hz_57 : (3 : Int32).toInt = 3 := by decide +kernel
                          refine dg_callv hS hA1 hA (va_runV (As := [.int 3, .int y_9]) (rest := []) F (c_m_blame l g D o S_13 3 (by decide +kernel) y_9 y_14 f_y_14 (by omega) I_13 H.size) (cwV 2 hts (bw_V wB_306 wB_307 wB_308 wB_297 wB_305) rfl rfl rfl (by decide +kernel) ⟨Nat.le_of_ble_eq_true rfl, Nat.le_of_ble_eq_true rfl⟩) (dg_preV sM_0 rfl K ST hP hS hA1 hA) rfl rfl hl.1 rfl (lv_room (Nat.le_of_ble_eq_true rfl)) dX12_digging_105 ⟨Nat.le_of_ble_eq_true rfl, Nat.le_of_ble_eq_true rfl⟩) (fun S_58 hw_58 H locs hP hS => ?_)
                          obtain ⟨I_58, m_58, w_58_0, -⟩ := hw_58
                          have M_58 := dg_sm.tr M_13 m_58 (dk_dq rfl) (dk_dq rfl)
                          have hz_59 : (3 : Int32).toInt = 3 := by decide +kernel
                          obtain ⟨y_60, f_y_60, w_58_0⟩ := w_58_0
                          have w_58_0 : ((y_14).toInt ≠ 0 → (y_60).toInt = (y_14).toInt) ∧ ((y_14).toInt = 0 → (y_60).toInt = ((3 : Int32)).toInt) := w_58_0
                          obtain ⟨w_58_0_0, w_58_0_1⟩ := w_58_0
                          clear w_58_0_0
                          have w_58_0_1r := w_58_0_1 (by omega)
                          clear w_58_0_1
                          have b_y_60 : 0 ≤ (y_60).toInt ∧ (y_60).toInt ≤ 6 := dg_I.intb (lo := 0) (hi := 6) I_58 sM_0 (by decide +kernel) f_y_60
                          have hbl_y_60 : 1 ≤ (y_60).toInt := by omega
                          refine lv_aload_n hx hb dX12_digging_108 rfl (lv_at hl 1 rfl) ?_
                          refine dg_get (C := RX12) (T := TX12) (N := 77) hx hb hts (fun w h => bw_mem (wU_X12 w h)) hown K hP sM_0 rfl 8 (dk_dq rfl) (hts _ (bw_mem wB_303)) (fun _ h9 => h9) (v := .int y_60) f_y_60 dX12_digging_109 ?_
                          refine lv_if_le (tgt := 116) hx hb dX12_digging_112 (dk_dq rfl) (fun c => absurd c (fun z => absurd (dk_lec (k := 0) (by decide +kernel) z) (by omega))) (fun _ => ?_)
                          refine W.widen (k := 0) (n := 0) (Nat.le_of_ble_eq_true rfl) (Nat.le_of_ble_eq_true rfl) ?_
                          rw [hQ9]
                          exact dg_vret hx hb hr hlocks hP hS ⟨I_58, M_58, ⟨y_8, y_9, y_10, y_60, (((m_58.1 0 3 _ sM_0 (dk_dq rfl)).trans (m_13.1 0 3 _ sM_0 (dk_dq rfl))).trans f_y_8), (((m_58.1 0 4 _ sM_0 (dk_dq rfl)).trans (m_13.1 0 4 _ sM_0 (dk_dq rfl))).trans f_y_9), (((m_58.1 0 5 _ sM_0 (dk_dq rfl)).trans (m_13.1 0 5 _ sM_0 (dk_dq rfl))).trans f_y_10), f_y_60, (by omega)⟩, (SOK.mk (fk := fk) f_y_60 (((m_58.1 0 4 _ sM_0 (dk_dq rfl)).trans (m_13.1 0 4 _ sM_0 (dk_dq rfl))).trans f_y_9) (fun h0 q9 => by exfalso; omega) (fun h0 q9 => m_an.no (by omega) (by rw [show ((t_ix tb tn (sa : Int32).toNatClampNeg) + 1) = (t_ix tb tn (y_9 : Int32).toNatClampNeg) from by omega, (y_old_f2 rfl (by cases q8 : sg9.2.1.contains (T_vl tb tn (t_ix tb tn (y_9 : Int32).toNatClampNeg)).toInt with | false => rfl | true => exact absurd (w_26_1.out.mpr (hmm.out.mp q8)) (by omega)))]; rfl)) (fun h0 q8 q9 => by exfalso; omega) rfl), (m_hid.mk (fun h0 f9 q9 q8 => by have q7 := (f_y_60).symm.trans q9; cases q7; exfalso; omega)), (TKM.keep (TKM.keep w_6_2 m_13 (dk_dq rfl) (dk_dq rfl) (dk_dq rfl) (dk_dq rfl) (dk_dq rfl) (dk_dq rfl) (dk_dq rfl) (dk_dq rfl)) m_58 (dk_dq rfl) (dk_dq rfl) (dk_dq rfl) (dk_dq rfl) (dk_dq rfl) (dk_dq rfl) (dk_dq rfl) (dk_dq rfl)), (GBM.keep (GBM.keep (GBM.keep GB m_6 (dk_dq rfl) (dk_dq rfl) (dk_dq rfl)) m_13 (dk_dq rfl) (dk_dq rfl) (dk_dq rfl)) m_58 (dk_dq rfl) (dk_dq rfl) (dk_dq rfl)), trivial⟩ dX12_digging_115
                  · as_aux_lemma =>
                      have jc_24 := dk_neqc (k := 0) (by decide +kernel) c_24
                      have jbc_24 : 1 ≤ (x_22).toInt := by omega
                      clear jc_24
                      refine lv_aload_n hx hb dX12_digging_58 rfl (lv_at hl 0 rfl) ?_
                      refine lv_iconst (v := 1) hx hb dX12_digging_59 (by decide +kernel) ?_
                      refine lv_aload_n hx hb dX12_digging_60 rfl (lv_at hl 0 rfl) ?_
                      refine dg_get (C := RX12) (T := TX12) (N := 77) hx hb hts (fun w h => bw_mem (wU_X12 w h)) hown K hP sM_0 rfl 4 (dk_dq rfl) (hts _ (bw_mem wB_291)) (fun _ h9 => h9) (v := .int y_9) ((m_13.1 0 4 _ sM_0 (dk_dq rfl)).trans f_y_9) dX12_digging_61 ?_
                      have hz_61 : (1 : Int32).toInt = 1 := by decide +kernel
                      refine dg_callv hS hA1 hA (va_runV (As := [.int 1, .int y_9]) (rest := []) F (c_m_blame l g D o S_13 1 (by decide +kernel) y_9 y_14 f_y_14 (by omega) I_13 H.size) (cwV 2 hts (bw_V wB_306 wB_307 wB_308 wB_297 wB_305) rfl rfl rfl (by decide +kernel) ⟨Nat.le_of_ble_eq_true rfl, Nat.le_of_ble_eq_true rfl⟩) (dg_preV sM_0 rfl K ST hP hS hA1 hA) rfl rfl hl.1 rfl (lv_room (Nat.le_of_ble_eq_true rfl)) dX12_digging_64 ⟨Nat.le_of_ble_eq_true rfl, Nat.le_of_ble_eq_true rfl⟩) (fun S_62 hw_62 H locs hP hS => ?_)
                      obtain ⟨I_62, m_62, w_62_0, -⟩ := hw_62
                      have M_62 := dg_sm.tr M_13 m_62 (dk_dq rfl) (dk_dq rfl)
                      have hz_63 : (1 : Int32).toInt = 1 := by decide +kernel
                      obtain ⟨y_64, f_y_64, w_62_0⟩ := w_62_0
                      have w_62_0 : ((y_14).toInt ≠ 0 → (y_64).toInt = (y_14).toInt) ∧ ((y_14).toInt = 0 → (y_64).toInt = ((1 : Int32)).toInt) := w_62_0
                      obtain ⟨w_62_0_0, w_62_0_1⟩ := w_62_0
                      clear w_62_0_0
                      have w_62_0_1r := w_62_0_1 (by omega)
                      clear w_62_0_1
                      have b_y_64 : 0 ≤ (y_64).toInt ∧ (y_64).toInt ≤ 6 := dg_I.intb (lo := 0) (hi := 6) I_62 sM_0 (by decide +kernel) f_y_64
                      have hbl_y_64 : 1 ≤ (y_64).toInt := by omega
                      refine lv_aload_n hx hb dX12_digging_67 rfl (lv_at hl 0 rfl) ?_
                      refine dg_get (C := RX12) (T := TX12) (N := 77) hx hb hts (fun w h => bw_mem (wU_X12 w h)) hown K hP sM_0 rfl 8 (dk_dq rfl) (hts _ (bw_mem wB_303)) (fun _ h9 => h9) (v := .int y_64) f_y_64 dX12_digging_68 ?_
                      refine lv_if_le (tgt := 78) hx hb dX12_digging_71 (dk_dq rfl) (fun c => absurd c (fun z => absurd (dk_lec (k := 0) (by decide +kernel) z) (by omega))) (fun _ => ?_)
                      refine lv_iconst (v := 0) hx hb dX12_digging_74 (by decide +kernel) ?_
                      refine lv_goto (tgt := 86) hx hb dX12_digging_75 (dk_dq rfl) ?_
                      refine lv_istore_n (lv' := [(1, .int 0), (0, .ref (o + 0))]) hx hb dX12_digging_86 rfl hl (dk_dq rfl) rfl (fun ls hl => ?_)
                      refine lv_aload_n hx hb dX12_digging_87 rfl (lv_at hl 1 rfl) ?_
                      refine dg_get (C := RX12) (T := TX12) (N := 77) hx hb hts (fun w h => bw_mem (wU_X12 w h)) hown K hP sM_0 rfl 8 (dk_dq rfl) (hts _ (bw_mem wB_303)) (fun _ h9 => h9) (v := .int y_64) f_y_64 dX12_digging_88 ?_
                      refine lv_if_ne (tgt := 108) hx hb dX12_digging_91 (dk_dq rfl) (fun _ => ?_) (fun c => absurd c (fun z => absurd (dk_eqc (k := 0) (by decide +kernel) z) (by omega)))
                      refine lv_aload_n hx hb dX12_digging_108 rfl (lv_at hl 1 rfl) ?_
                      refine dg_get (C := RX12) (T := TX12) (N := 77) hx hb hts (fun w h => bw_mem (wU_X12 w h)) hown K hP sM_0 rfl 8 (dk_dq rfl) (hts _ (bw_mem wB_303)) (fun _ h9 => h9) (v := .int y_64) f_y_64 dX12_digging_109 ?_
                      refine lv_if_le (tgt := 116) hx hb dX12_digging_112 (dk_dq rfl) (fun c => absurd c (fun z => absurd (dk_lec (k := 0) (by decide +kernel) z) (by omega))) (fun _ => ?_)
                      refine W.widen (k := 0) (n := 0) (Nat.le_of_ble_eq_true rfl) (Nat.le_of_ble_eq_true rfl) ?_
                      rw [hQ9]
                      exact dg_vret hx hb hr hlocks hP hS ⟨I_62, M_62, ⟨y_8, y_9, y_10, y_64, (((m_62.1 0 3 _ sM_0 (dk_dq rfl)).trans (m_13.1 0 3 _ sM_0 (dk_dq rfl))).trans f_y_8), (((m_62.1 0 4 _ sM_0 (dk_dq rfl)).trans (m_13.1 0 4 _ sM_0 (dk_dq rfl))).trans f_y_9), (((m_62.1 0 5 _ sM_0 (dk_dq rfl)).trans (m_13.1 0 5 _ sM_0 (dk_dq rfl))).trans f_y_10), f_y_64, (by omega)⟩, (SOK.mk (fk := fk) f_y_64 (((m_62.1 0 4 _ sM_0 (dk_dq rfl)).trans (m_13.1 0 4 _ sM_0 (dk_dq rfl))).trans f_y_9) (fun h0 q9 => by exfalso; omega) (fun h0 q9 => m_an.no (by omega) (by rw [show ((t_ix tb tn (sa : Int32).toNatClampNeg) + 1) = (t_ix tb tn (y_9 : Int32).toNatClampNeg) from by omega, (y_old_f (fun q2 => by first | omega | exact absurd ((TKM.w1 (TKM.keep w_6_2 m_13 (dk_dq rfl) (dk_dq rfl) (dk_dq rfl) (dk_dq rfl) (dk_dq rfl) (dk_dq rfl) (dk_dq rfl) (dk_dq rfl)) ((m_13.1 0 3 _ sM_0 (dk_dq rfl)).trans f_y_8) ((m_13.1 0 4 _ sM_0 (dk_dq rfl)).trans f_y_9) (by omega)).mpr (Or.inr q2)) (by omega) | exact ((FRE (TKM.keep w_6_2 m_13 (dk_dq rfl) (dk_dq rfl) (dk_dq rfl) (dk_dq rfl) (dk_dq rfl) (dk_dq rfl) (dk_dq rfl) (dk_dq rfl)) (GSM.keep (GSM.keep GS m_6 (dk_dq rfl) (dk_dq rfl) (dk_dq rfl) (dk_dq rfl) (dk_dq rfl) (dk_dq rfl) (dk_dq rfl) (dk_dq rfl) (dk_dq rfl)) m_13 (dk_dq rfl) (dk_dq rfl) (dk_dq rfl) (dk_dq rfl) (dk_dq rfl) (dk_dq rfl) (dk_dq rfl) (dk_dq rfl) (dk_dq rfl)) ((m_13.1 0 3 _ sM_0 (dk_dq rfl)).trans f_y_8) ((m_13.1 0 4 _ sM_0 (dk_dq rfl)).trans f_y_9) f_x_15 (by omega)).1.mpr q2).2 (w_23_1.mp (by omega))))]; rfl)) (fun h0 q8 q9 => by exfalso; omega) rfl), (m_hid.mk (fun h0 f9 q9 q8 => by have q7 := (f_y_64).symm.trans q9; cases q7; exfalso; omega)), (TKM.keep (TKM.keep w_6_2 m_13 (dk_dq rfl) (dk_dq rfl) (dk_dq rfl) (dk_dq rfl) (dk_dq rfl) (dk_dq rfl) (dk_dq rfl) (dk_dq rfl)) m_62 (dk_dq rfl) (dk_dq rfl) (dk_dq rfl) (dk_dq rfl) (dk_dq rfl) (dk_dq rfl) (dk_dq rfl) (dk_dq rfl)), (GBM.keep (GBM.keep (GBM.keep GB m_6 (dk_dq rfl) (dk_dq rfl) (dk_dq rfl)) m_13 (dk_dq rfl) (dk_dq rfl) (dk_dq rfl)) m_62 (dk_dq rfl) (dk_dq rfl) (dk_dq rfl)), trivial⟩ dX12_digging_115
          · have jc_16 := dk_nlec (k := 0) (by decide +kernel) c_16
            refine W.widen (k := 0) (n := 0) (Nat.le_of_ble_eq_true rfl) (Nat.le_of_ble_eq_true rfl) ?_
            rw [hQ9]
            exact dg_vret hx hb hr hlocks hP hS ⟨I_13, M_13, ⟨y_8, y_9, y_10, y_14, ((m_13.1 0 3 _ sM_0 (dk_dq rfl)).trans f_y_8), ((m_13.1 0 4 _ sM_0 (dk_dq rfl)).trans f_y_9), ((m_13.1 0 5 _ sM_0 (dk_dq rfl)).trans f_y_10), f_y_14, (by omega)⟩, (SOK.mk (fk := fk) f_y_14 ((m_13.1 0 4 _ sM_0 (dk_dq rfl)).trans f_y_9) (fun h0 q9 => by exfalso; omega) (fun h0 q9 => m_an.no (by omega) (by rw [show ((t_ix tb tn (sa : Int32).toNatClampNeg) + 1) = (t_ix tb tn (y_9 : Int32).toNatClampNeg) from by omega, (y_old_f (fun q2 => by first | omega | exact absurd ((TKM.w1 (TKM.keep w_6_2 m_13 (dk_dq rfl) (dk_dq rfl) (dk_dq rfl) (dk_dq rfl) (dk_dq rfl) (dk_dq rfl) (dk_dq rfl) (dk_dq rfl)) ((m_13.1 0 3 _ sM_0 (dk_dq rfl)).trans f_y_8) ((m_13.1 0 4 _ sM_0 (dk_dq rfl)).trans f_y_9) (by omega)).mpr (Or.inr q2)) (by omega)))]; rfl)) (fun h0 q8 q9 => by exfalso; omega) rfl), (m_hid.mk (fun h0 f9 q9 q8 => by have q7 := (f_y_14).symm.trans q9; cases q7; exfalso; omega)), (TKM.keep w_6_2 m_13 (dk_dq rfl) (dk_dq rfl) (dk_dq rfl) (dk_dq rfl) (dk_dq rfl) (dk_dq rfl) (dk_dq rfl) (dk_dq rfl)), (GBM.keep (GBM.keep GB m_6 (dk_dq rfl) (dk_dq rfl) (dk_dq rfl)) m_13 (dk_dq rfl) (dk_dq rfl) (dk_dq rfl)), trivial⟩ dX12_digging_38
      · have jc_12 := dk_eqc (k := 0) (by decide +kernel) c_12
        clear w_6_1_5
        have w_6_1_6r := w_6_1_6 (by omega)
        clear w_6_1_6
        clear w_6_1_7
        have w_6_1_6rb : 1 ≤ (y_11).toInt := by omega
        clear w_6_1_6r
        refine W.widen (k := 0) (n := 0) (Nat.le_of_ble_eq_true rfl) (Nat.le_of_ble_eq_true rfl) ?_
        rw [hQ9]
        exact dg_vret hx hb hr hlocks hP hS ⟨I_6, M_6, ⟨y_8, y_9, y_10, y_11, f_y_8, f_y_9, f_y_10, f_y_11, (by omega)⟩, (SOK.mk (fk := fk) f_y_11 f_y_9 (fun h0 q9 => by omega) (fun h0 q9 => by exfalso; omega) (fun h0 q8 q9 => by exfalso; omega) rfl), (m_hid.mk (fun h0 f9 q9 q8 => by have q7 := (f_y_11).symm.trans q9; cases q7; exfalso; omega)), w_6_2, (GBM.keep GB m_6 (dk_dq rfl) (dk_dq rfl) (dk_dq rfl)), trivial⟩ dX12_digging_26
  · as_aux_lemma =>
      have jc_3 := dk_eqc (k := 16) (by decide +kernel) c_3
      refine lv_iconst (v := 1) hx hb dX12_digging_15 (by decide +kernel) ?_
      refine lv_goto (tgt := 20) hx hb dX12_digging_16 (dk_dq rfl) ?_
      have hz_65 : (1 : Int32).toInt = 1 := by decide +kernel
      refine dg_calli hS hA1 hA (va_runV (As := [.int 1]) (rest := []) F (c_m_isCounted l g D o S 1 (by decide +kernel) tb tn sg f_sg (by omega) sa f_sa (by omega) se f_se (by omega) sl f_sl (by omega) fk f_fk (by omega) (by omega) (by omega) TK I s.heap.size) (cwV 1 hts (bw_V wB_379 wB_380 wB_381 wB_297 wB_378) rfl rfl rfl (by decide +kernel) ⟨Nat.le_of_ble_eq_true rfl, Nat.le_of_ble_eq_true rfl⟩) (dg_preV sM_0 rfl K ST hP hS hA1 hA) rfl rfl hl.1 rfl (lv_room (Nat.le_of_ble_eq_true rfl)) dX12_digging_20 ⟨Nat.le_of_ble_eq_true rfl, Nat.le_of_ble_eq_true rfl⟩) (fun x_66 S_67 hw_67 H locs hP hS => ?_)
      obtain ⟨I_67, m_67, w_67_0, w_67_1, w_67_2, -⟩ := hw_67
      have M_67 := dg_sm.tr M_0 m_67 (dk_dq rfl) (dk_dq rfl)
      have hz_68 : (1 : Int32).toInt = 1 := by decide +kernel
      have w_67_0 : 0 ≤ (x_66).toInt ∧ (x_66).toInt ≤ 1 := w_67_0
      obtain ⟨y_69, y_70, y_71, y_72, f_y_69, f_y_70, f_y_71, f_y_72, w_67_1⟩ := w_67_1
      have w_67_1 : (((y_70).toInt ≤ (y_71).toInt ∧ (y_71).toInt ≤ (sl).toInt ∧ ((y_69).toInt ≠ 0 → (y_70).toInt + 1 ≤ (y_71).toInt)) ∧ (sa).toInt ≤ (y_70).toInt ∧ ((fk).toInt ≠ 0 → (y_72).toInt ≠ 0) ∧ (((x_66).toInt = 1 → ((y_72).toInt = 0 ∧ (fk).toInt = 0 ∧ ((1 : Int32)).toInt = 0 ∧ ((sg).toInt ≠ 0 → (sa).toInt + 1 ≤ (y_70).toInt))) ∧ ((x_66).toInt = 0 → (y_72).toInt ≠ 0))) ∧ (((x_66).toInt = 1 → (t_ix tb tn (y_70 : Int32).toNatClampNeg) = (t_ix tb tn (sa : Int32).toNatClampNeg) + 1) ∧ ((fk).toInt = 0 → ((1 : Int32)).toInt = 0 → (x_66).toInt = 1)) := w_67_1
      obtain ⟨⟨⟨w_67_1_0, w_67_1_1, w_67_1_2⟩, w_67_1_3, w_67_1_4, ⟨w_67_1_5, w_67_1_6⟩⟩, ⟨w_67_1_7, w_67_1_8⟩⟩ := w_67_1
      have b_y_69 : 0 ≤ (y_69).toInt ∧ (y_69).toInt ≤ 3 := dg_I.intb (lo := 0) (hi := 3) I_67 sM_0 (by decide +kernel) f_y_69
      have b_y_70 : 0 ≤ (y_70).toInt ∧ (y_70).toInt ≤ 1600 := dg_I.intb (lo := 0) (hi := 1600) I_67 sM_0 (by decide +kernel) f_y_70
      have b_y_71 : 0 ≤ (y_71).toInt ∧ (y_71).toInt ≤ 1600 := dg_I.intb (lo := 0) (hi := 1600) I_67 sM_0 (by decide +kernel) f_y_71
      have b_y_72 : 0 ≤ (y_72).toInt ∧ (y_72).toInt ≤ 6 := dg_I.intb (lo := 0) (hi := 6) I_67 sM_0 (by decide +kernel) f_y_72
      refine lv_if_ne (tgt := 27) hx hb dX12_digging_23 (dk_dq rfl) (fun c_73 => ?_) (fun c_73 => ?_)
      · have jc_73 := dk_neqc (k := 0) (by decide +kernel) c_73
        have jbc_73 : 1 ≤ (x_66).toInt := by omega
        clear jc_73
        have w_67_1_5r := w_67_1_5 (by omega)
        clear w_67_1_5
        clear w_67_1_6
        have w_67_1_7r := w_67_1_7 (by omega)
        clear w_67_1_7
        obtain ⟨w_67_1_5r_0, w_67_1_5r_1, w_67_1_5r_2, w_67_1_5r_3⟩ := w_67_1_5r
        clear w_67_1_4
        have w_67_1_8r := w_67_1_8 (by omega)
        clear w_67_1_8
        omega
      · have jc_73 := dk_eqc (k := 0) (by decide +kernel) c_73
        clear w_67_1_5
        have w_67_1_6r := w_67_1_6 (by omega)
        clear w_67_1_6
        clear w_67_1_7
        have w_67_1_6rb : 1 ≤ (y_72).toInt := by omega
        clear w_67_1_6r
        refine W.widen (k := 0) (n := 0) (Nat.le_of_ble_eq_true rfl) (Nat.le_of_ble_eq_true rfl) ?_
        rw [hQ9]
        exact dg_vret hx hb hr hlocks hP hS ⟨I_67, M_67, ⟨y_69, y_70, y_71, y_72, f_y_69, f_y_70, f_y_71, f_y_72, (by omega)⟩, (SOK.mk (fk := fk) f_y_72 f_y_70 (fun h0 q9 => by omega) (fun h0 q9 => by exfalso; omega) (fun h0 q8 q9 => by exfalso; omega) rfl), (m_hid.mk (fun h0 f9 q9 q8 => by have q7 := (f_y_72).symm.trans q9; cases q7; exfalso; omega)), w_67_2, (GBM.keep GB m_67 (dk_dq rfl) (dk_dq rfl) (dk_dq rfl)), trivial⟩ dX12_digging_26
  