/-! 46.mine.lean.txt -/
theorem dX12_mine_0 : decode cX12_mine 0 = .ok (.aload_n 0, 1) := by decide +kernel
theorem dX12_mine_1 : decode cX12_mine 1 = .ok (.aload_n 0, 1) := by decide +kernel
theorem dX12_mine_2 : decode cX12_mine 2 = .ok (.getfield 13, 3) := by decide +kernel
theorem dX12_mine_5 : decode cX12_mine 5 = .ok (.putfield 17, 3) := by decide +kernel
theorem dX12_mine_8 : decode cX12_mine 8 = .ok (.aload_n 0, 1) := by decide +kernel
theorem dX12_mine_9 : decode cX12_mine 9 = .ok (.iconst 0, 1) := by decide +kernel
theorem dX12_mine_10 : decode cX12_mine 10 = .ok (.putfield 13, 3) := by decide +kernel
theorem dX12_mine_13 : decode cX12_mine 13 = .ok (.aload_n 0, 1) := by decide +kernel
theorem dX12_mine_14 : decode cX12_mine 14 = .ok (.iconst 0, 1) := by decide +kernel
theorem dX12_mine_15 : decode cX12_mine 15 = .ok (.putfield 26, 3) := by decide +kernel
theorem dX12_mine_18 : decode cX12_mine 18 = .ok (.aload_n 0, 1) := by decide +kernel
theorem dX12_mine_19 : decode cX12_mine 19 = .ok (.iconst 0, 1) := by decide +kernel
theorem dX12_mine_20 : decode cX12_mine 20 = .ok (.putfield 36, 3) := by decide +kernel
theorem dX12_mine_23 : decode cX12_mine 23 = .ok (.aload_n 0, 1) := by decide +kernel
theorem dX12_mine_24 : decode cX12_mine 24 = .ok (.iconst (-1), 1) := by decide +kernel
theorem dX12_mine_25 : decode cX12_mine 25 = .ok (.putfield 39, 3) := by decide +kernel
theorem dX12_mine_28 : decode cX12_mine 28 = .ok (.aload_n 0, 1) := by decide +kernel
theorem dX12_mine_29 : decode cX12_mine 29 = .ok (.iconst 1, 1) := by decide +kernel
theorem dX12_mine_30 : decode cX12_mine 30 = .ok (.aload_n 0, 1) := by decide +kernel
theorem dX12_mine_31 : decode cX12_mine 31 = .ok (.getfield 51, 3) := by decide +kernel
theorem dX12_mine_34 : decode cX12_mine 34 = .ok (.isub, 1) := by decide +kernel
theorem dX12_mine_35 : decode cX12_mine 35 = .ok (.putfield 118, 3) := by decide +kernel
theorem dX12_mine_38 : decode cX12_mine 38 = .ok (.aload_n 0, 1) := by decide +kernel
theorem dX12_mine_39 : decode cX12_mine 39 = .ok (.getfield 60, 3) := by decide +kernel
theorem dX12_mine_42 : decode cX12_mine 42 = .ok (.aload_n 0, 1) := by decide +kernel
theorem dX12_mine_43 : decode cX12_mine 43 = .ok (.getfield 118, 3) := by decide +kernel
theorem dX12_mine_46 : decode cX12_mine 46 = .ok (.iconst 0, 1) := by decide +kernel
theorem dX12_mine_47 : decode cX12_mine 47 = .ok (.iastore, 1) := by decide +kernel
theorem dX12_mine_48 : decode cX12_mine 48 = .ok (.aload_n 0, 1) := by decide +kernel
theorem dX12_mine_49 : decode cX12_mine 49 = .ok (.getfield 63, 3) := by decide +kernel
theorem dX12_mine_52 : decode cX12_mine 52 = .ok (.aload_n 0, 1) := by decide +kernel
theorem dX12_mine_53 : decode cX12_mine 53 = .ok (.getfield 118, 3) := by decide +kernel
theorem dX12_mine_56 : decode cX12_mine 56 = .ok (.iconst 3, 1) := by decide +kernel
theorem dX12_mine_57 : decode cX12_mine 57 = .ok (.iastore, 1) := by decide +kernel
theorem dX12_mine_58 : decode cX12_mine 58 = .ok (.aload_n 0, 1) := by decide +kernel
theorem dX12_mine_59 : decode cX12_mine 59 = .ok (.getfield 66, 3) := by decide +kernel
theorem dX12_mine_62 : decode cX12_mine 62 = .ok (.aload_n 0, 1) := by decide +kernel
theorem dX12_mine_63 : decode cX12_mine 63 = .ok (.getfield 118, 3) := by decide +kernel
theorem dX12_mine_66 : decode cX12_mine 66 = .ok (.iconst 0, 1) := by decide +kernel
theorem dX12_mine_67 : decode cX12_mine 67 = .ok (.iastore, 1) := by decide +kernel
theorem dX12_mine_68 : decode cX12_mine 68 = .ok (.aload_n 0, 1) := by decide +kernel
theorem dX12_mine_69 : decode cX12_mine 69 = .ok (.getfield 72, 3) := by decide +kernel
theorem dX12_mine_72 : decode cX12_mine 72 = .ok (.aload_n 0, 1) := by decide +kernel
theorem dX12_mine_73 : decode cX12_mine 73 = .ok (.getfield 118, 3) := by decide +kernel
theorem dX12_mine_76 : decode cX12_mine 76 = .ok (.iconst 0, 1) := by decide +kernel
theorem dX12_mine_77 : decode cX12_mine 77 = .ok (.iastore, 1) := by decide +kernel
theorem dX12_mine_78 : decode cX12_mine 78 = .ok (.aload_n 0, 1) := by decide +kernel
theorem dX12_mine_79 : decode cX12_mine 79 = .ok (.getfield 75, 3) := by decide +kernel
theorem dX12_mine_82 : decode cX12_mine 82 = .ok (.aload_n 0, 1) := by decide +kernel
theorem dX12_mine_83 : decode cX12_mine 83 = .ok (.getfield 118, 3) := by decide +kernel
theorem dX12_mine_86 : decode cX12_mine 86 = .ok (.iconst 0, 1) := by decide +kernel
theorem dX12_mine_87 : decode cX12_mine 87 = .ok (.iastore, 1) := by decide +kernel
theorem dX12_mine_88 : decode cX12_mine 88 = .ok (.aload_n 0, 1) := by decide +kernel
theorem dX12_mine_89 : decode cX12_mine 89 = .ok (.getfield 84, 3) := by decide +kernel
theorem dX12_mine_92 : decode cX12_mine 92 = .ok (.aload_n 0, 1) := by decide +kernel
theorem dX12_mine_93 : decode cX12_mine 93 = .ok (.getfield 118, 3) := by decide +kernel
theorem dX12_mine_96 : decode cX12_mine 96 = .ok (.iconst 0, 1) := by decide +kernel
theorem dX12_mine_97 : decode cX12_mine 97 = .ok (.iastore, 1) := by decide +kernel
theorem dX12_mine_98 : decode cX12_mine 98 = .ok (.iconst 0, 1) := by decide +kernel
theorem dX12_mine_99 : decode cX12_mine 99 = .ok (.istore_n 1, 1) := by decide +kernel
theorem dX12_mine_100 : decode cX12_mine 100 = .ok (.iload_n 1, 1) := by decide +kernel
theorem dX12_mine_101 : decode cX12_mine 101 = .ok (.bipush 64, 2) := by decide +kernel
theorem dX12_mine_103 : decode cX12_mine 103 = .ok (.if_icmp .ge 24, 3) := by decide +kernel
theorem dX12_mine_106 : decode cX12_mine 106 = .ok (.aload_n 0, 1) := by decide +kernel
theorem dX12_mine_107 : decode cX12_mine 107 = .ok (.getfield 69, 3) := by decide +kernel
theorem dX12_mine_110 : decode cX12_mine 110 = .ok (.bipush 64, 2) := by decide +kernel
theorem dX12_mine_112 : decode cX12_mine 112 = .ok (.aload_n 0, 1) := by decide +kernel
theorem dX12_mine_113 : decode cX12_mine 113 = .ok (.getfield 118, 3) := by decide +kernel
theorem dX12_mine_116 : decode cX12_mine 116 = .ok (.imul, 1) := by decide +kernel
theorem dX12_mine_117 : decode cX12_mine 117 = .ok (.iload_n 1, 1) := by decide +kernel
theorem dX12_mine_118 : decode cX12_mine 118 = .ok (.iadd, 1) := by decide +kernel
theorem dX12_mine_119 : decode cX12_mine 119 = .ok (.iconst 5, 1) := by decide +kernel
theorem dX12_mine_120 : decode cX12_mine 120 = .ok (.iastore, 1) := by decide +kernel
theorem dX12_mine_121 : decode cX12_mine 121 = .ok (.iinc 1 1, 3) := by decide +kernel
theorem dX12_mine_124 : decode cX12_mine 124 = .ok (.goto (-24), 3) := by decide +kernel
theorem dX12_mine_127 : decode cX12_mine 127 = .ok (.iconst 3, 1) := by decide +kernel
theorem dX12_mine_128 : decode cX12_mine 128 = .ok (.aload_n 0, 1) := by decide +kernel
theorem dX12_mine_129 : decode cX12_mine 129 = .ok (.getfield 118, 3) := by decide +kernel
theorem dX12_mine_132 : decode cX12_mine 132 = .ok (.imul, 1) := by decide +kernel
theorem dX12_mine_133 : decode cX12_mine 133 = .ok (.istore_n 1, 1) := by decide +kernel
theorem dX12_mine_134 : decode cX12_mine 134 = .ok (.iload_n 1, 1) := by decide +kernel
theorem dX12_mine_135 : decode cX12_mine 135 = .ok (.iconst 3, 1) := by decide +kernel
theorem dX12_mine_136 : decode cX12_mine 136 = .ok (.aload_n 0, 1) := by decide +kernel
theorem dX12_mine_137 : decode cX12_mine 137 = .ok (.getfield 118, 3) := by decide +kernel
theorem dX12_mine_140 : decode cX12_mine 140 = .ok (.imul, 1) := by decide +kernel
theorem dX12_mine_141 : decode cX12_mine 141 = .ok (.iconst 3, 1) := by decide +kernel
theorem dX12_mine_142 : decode cX12_mine 142 = .ok (.iadd, 1) := by decide +kernel
theorem dX12_mine_143 : decode cX12_mine 143 = .ok (.if_icmp .ge 16, 3) := by decide +kernel
theorem dX12_mine_146 : decode cX12_mine 146 = .ok (.aload_n 0, 1) := by decide +kernel
theorem dX12_mine_147 : decode cX12_mine 147 = .ok (.getfield 96, 3) := by decide +kernel
theorem dX12_mine_150 : decode cX12_mine 150 = .ok (.iload_n 1, 1) := by decide +kernel
theorem dX12_mine_151 : decode cX12_mine 151 = .ok (.iconst (-1), 1) := by decide +kernel
theorem dX12_mine_152 : decode cX12_mine 152 = .ok (.iastore, 1) := by decide +kernel
theorem dX12_mine_153 : decode cX12_mine 153 = .ok (.iinc 1 1, 3) := by decide +kernel
theorem dX12_mine_156 : decode cX12_mine 156 = .ok (.goto (-22), 3) := by decide +kernel
theorem dX12_mine_159 : decode cX12_mine 159 = .ok (.aload_n 0, 1) := by decide +kernel
theorem dX12_mine_160 : decode cX12_mine 160 = .ok (.iconst 0, 1) := by decide +kernel
theorem dX12_mine_161 : decode cX12_mine 161 = .ok (.putfield 115, 3) := by decide +kernel
theorem dX12_mine_164 : decode cX12_mine 164 = .ok (.iconst 1, 1) := by decide +kernel
theorem dX12_mine_165 : decode cX12_mine 165 = .ok (.istore_n 1, 1) := by decide +kernel
theorem dX12_mine_166 : decode cX12_mine 166 = .ok (.aload_n 0, 1) := by decide +kernel
theorem dX12_mine_167 : decode cX12_mine 167 = .ok (.invokevirtual 272, 3) := by decide +kernel
theorem dX12_mine_170 : decode cX12_mine 170 = .ok (.aload_n 0, 1) := by decide +kernel
theorem dX12_mine_171 : decode cX12_mine 171 = .ok (.invokevirtual 418, 3) := by decide +kernel
theorem dX12_mine_174 : decode cX12_mine 174 = .ok (.aload_n 0, 1) := by decide +kernel
theorem dX12_mine_175 : decode cX12_mine 175 = .ok (.iload_n 1, 1) := by decide +kernel
theorem dX12_mine_176 : decode cX12_mine 176 = .ok (.invokevirtual 421, 3) := by decide +kernel
theorem dX12_mine_179 : decode cX12_mine 179 = .ok (.aload_n 0, 1) := by decide +kernel
theorem dX12_mine_180 : decode cX12_mine 180 = .ok (.getfield 36, 3) := by decide +kernel
theorem dX12_mine_183 : decode cX12_mine 183 = .ok (.ifCond .ne 25, 3) := by decide +kernel
theorem dX12_mine_186 : decode cX12_mine 186 = .ok (.aload_n 0, 1) := by decide +kernel
theorem dX12_mine_187 : decode cX12_mine 187 = .ok (.getfield 20, 3) := by decide +kernel
theorem dX12_mine_190 : decode cX12_mine 190 = .ok (.ifCond .eq 18, 3) := by decide +kernel
theorem dX12_mine_193 : decode cX12_mine 193 = .ok (.aload_n 0, 1) := by decide +kernel
theorem dX12_mine_194 : decode cX12_mine 194 = .ok (.invokevirtual 424, 3) := by decide +kernel
theorem dX12_mine_197 : decode cX12_mine 197 = .ok (.iinc 1 1, 3) := by decide +kernel
theorem dX12_mine_200 : decode cX12_mine 200 = .ok (.aload_n 0, 1) := by decide +kernel
theorem dX12_mine_201 : decode cX12_mine 201 = .ok (.iload_n 1, 1) := by decide +kernel
theorem dX12_mine_202 : decode cX12_mine 202 = .ok (.invokevirtual 421, 3) := by decide +kernel
theorem dX12_mine_205 : decode cX12_mine 205 = .ok (.goto (-26), 3) := by decide +kernel
theorem dX12_mine_208 : decode cX12_mine 208 = .ok (.aload_n 0, 1) := by decide +kernel
theorem dX12_mine_209 : decode cX12_mine 209 = .ok (.aload_n 0, 1) := by decide +kernel
theorem dX12_mine_210 : decode cX12_mine 210 = .ok (.getfield 36, 3) := by decide +kernel
theorem dX12_mine_213 : decode cX12_mine 213 = .ok (.putfield 42, 3) := by decide +kernel
theorem dX12_mine_216 : decode cX12_mine 216 = .ok (.aload_n 0, 1) := by decide +kernel
theorem dX12_mine_217 : decode cX12_mine 217 = .ok (.aload_n 0, 1) := by decide +kernel
theorem dX12_mine_218 : decode cX12_mine 218 = .ok (.getfield 39, 3) := by decide +kernel
theorem dX12_mine_221 : decode cX12_mine 221 = .ok (.putfield 45, 3) := by decide +kernel
theorem dX12_mine_224 : decode cX12_mine 224 = .ok (.aload_n 0, 1) := by decide +kernel
theorem dX12_mine_225 : decode cX12_mine 225 = .ok (.getfield 36, 3) := by decide +kernel
theorem dX12_mine_228 : decode cX12_mine 228 = .ok (.ifCond .le 9, 3) := by decide +kernel
theorem dX12_mine_231 : decode cX12_mine 231 = .ok (.aload_n 0, 1) := by decide +kernel
theorem dX12_mine_232 : decode cX12_mine 232 = .ok (.iconst 1, 1) := by decide +kernel
theorem dX12_mine_233 : decode cX12_mine 233 = .ok (.invokevirtual 247, 3) := by decide +kernel
theorem dX12_mine_236 : decode cX12_mine 236 = .ok (.ireturn, 1) := by decide +kernel
theorem dX12_mine_237 : decode cX12_mine 237 = .ok (.aload_n 0, 1) := by decide +kernel
theorem dX12_mine_238 : decode cX12_mine 238 = .ok (.aload_n 0, 1) := by decide +kernel
theorem dX12_mine_239 : decode cX12_mine 239 = .ok (.getfield 118, 3) := by decide +kernel
theorem dX12_mine_242 : decode cX12_mine 242 = .ok (.putfield 51, 3) := by decide +kernel
theorem dX12_mine_245 : decode cX12_mine 245 = .ok (.aload_n 0, 1) := by decide +kernel
theorem dX12_mine_246 : decode cX12_mine 246 = .ok (.iconst 1, 1) := by decide +kernel
theorem dX12_mine_247 : decode cX12_mine 247 = .ok (.putfield 156, 3) := by decide +kernel
theorem dX12_mine_250 : decode cX12_mine 250 = .ok (.aload_n 0, 1) := by decide +kernel
theorem dX12_mine_251 : decode cX12_mine 251 = .ok (.invokevirtual 427, 3) := by decide +kernel
theorem dX12_mine_254 : decode cX12_mine 254 = .ok (.iload_n 1, 1) := by decide +kernel
theorem dX12_mine_255 : decode cX12_mine 255 = .ok (.ireturn, 1) := by decide +kernel
theorem wB_1306 : Cond.code yX12_seaming cX12_seaming 1 none ∈ dgB := List.mem_filter.mpr ⟨tbl_7 _ (List.mem_of_getElem? (i := 190) rfl), rfl⟩
theorem wB_1307 : Cond.methodLink RX12 418 yX12_seaming ∈ dgB := List.mem_filter.mpr ⟨tbl_7 _ (List.mem_of_getElem? (i := 187) (by decide +kernel)), by decide +kernel⟩
theorem wB_1308 : Cond.instanceMethod yX12_seaming ∈ dgB := List.mem_filter.mpr ⟨tbl_7 _ (List.mem_of_getElem? (i := 189) (by decide +kernel)), by decide +kernel⟩
theorem wB_1309 : Cond.selects RX12 yX12_seaming yX12_seaming ∈ dgB := List.mem_filter.mpr ⟨List.mem_of_getElem? (i := 84) (by decide +kernel), by decide +kernel⟩
theorem wB_1310 : Cond.code yX12_finishes cX12_finishes 3 none ∈ dgB := List.mem_filter.mpr ⟨tbl_7 _ (List.mem_of_getElem? (i := 219) rfl), rfl⟩
theorem wB_1311 : Cond.methodLink RX12 421 yX12_finishes ∈ dgB := List.mem_filter.mpr ⟨tbl_7 _ (List.mem_of_getElem? (i := 216) (by decide +kernel)), by decide +kernel⟩
theorem wB_1312 : Cond.instanceMethod yX12_finishes ∈ dgB := List.mem_filter.mpr ⟨tbl_7 _ (List.mem_of_getElem? (i := 218) (by decide +kernel)), by decide +kernel⟩
theorem wB_1313 : Cond.selects RX12 yX12_finishes yX12_finishes ∈ dgB := List.mem_filter.mpr ⟨List.mem_of_getElem? (i := 90) (by decide +kernel), by decide +kernel⟩
theorem wB_1314 : Cond.code yX12_statement cX12_statement 1 none ∈ dgB := List.mem_filter.mpr ⟨tbl_7 _ (List.mem_of_getElem? (i := 231) rfl), rfl⟩
theorem wB_1315 : Cond.methodLink RX12 424 yX12_statement ∈ dgB := List.mem_filter.mpr ⟨tbl_7 _ (List.mem_of_getElem? (i := 228) (by decide +kernel)), by decide +kernel⟩
theorem wB_1316 : Cond.instanceMethod yX12_statement ∈ dgB := List.mem_filter.mpr ⟨tbl_7 _ (List.mem_of_getElem? (i := 230) (by decide +kernel)), by decide +kernel⟩
theorem wB_1317 : Cond.selects RX12 yX12_statement yX12_statement ∈ dgB := List.mem_filter.mpr ⟨List.mem_of_getElem? (i := 93) (by decide +kernel), by decide +kernel⟩
theorem wB_1318 : Cond.code yX12_begin cX12_begin 2 none ∈ dgB := List.mem_filter.mpr ⟨tbl_8 _ (List.mem_of_getElem? (i := 106) rfl), rfl⟩
theorem wB_1319 : Cond.methodLink RX12 427 yX12_begin ∈ dgB := List.mem_filter.mpr ⟨tbl_8 _ (List.mem_of_getElem? (i := 103) (by decide +kernel)), by decide +kernel⟩
theorem wB_1320 : Cond.instanceMethod yX12_begin ∈ dgB := List.mem_filter.mpr ⟨tbl_8 _ (List.mem_of_getElem? (i := 105) (by decide +kernel)), by decide +kernel⟩
theorem wB_1321 : Cond.selects RX12 yX12_begin yX12_begin ∈ dgB := List.mem_filter.mpr ⟨List.mem_of_getElem? (i := 114) (by decide +kernel), by decide +kernel⟩
set_option maxHeartbeats 8000000 in
set_option maxRecDepth 100000 in
theorem c_m_mine (l : Launch) (g : Nat → ClassId) (D : va_G) (o : Nat) (S : dg_S) (tb : Nat → Int32) (le : Int32) (f_le : S.1 0 1 = .int le) (b_le : 0 ≤ (le).toInt ∧ (le).toInt ≤ 1600) (htb : S.2.1 1 = tb) (ZB : ZBM S) (ZS : ZSM S) (ZW : ZWM S) (I : CM o S) (sz : Nat) : Met l yX12_mine (bw yX12_mine cX12_mine 2 (some .int)) ({ frames := 8, cells := 0, slots := 0, locals := 185 } : Room) (dk_Pc g D (dg_w g shM o rfM S) sz [.ref (o + 0)]) (va_Qi (fun (r : Int32) S' => CM o S' ∧ dg_sm shM [(0, 1), (0, 2), (0, 3), (0, 4), (0, 5), (0, 6), (0, 7), (0, 8), (0, 9), (0, 10), (0, 11), (0, 12), (0, 13), (0, 34), (0, 35), (0, 36), (0, 42), (0, 43), (0, 45), (0, 46), (0, 47), (0, 61), (0, 63), (0, 69)] [2, 3, 4, 5, 6, 7, 8, 9, 10, 11, 12, 13, 14, 15, 16, 17, 18, 19, 20, 21, 22, 23, 24, 25, 26, 27, 28, 29, 30, 31, 32, 33, 34, 35, 36, 37, 38] S S' ∧ ((-1) ≤ (r).toInt ∧ (r).toInt ≤ 80) ∧ (∃ y9 : Int32, S'.1 0 1 = .int y9 ∧ ((y9).toInt = 0)) ∧ (((r).toInt = -1 → y_mine (T_kd tb (le : Int32).toNatClampNeg) (T_vl tb (le : Int32).toNatClampNeg) = none) ∧ ((r).toInt ≠ -1 → ∃ σ9 : y_S, y_mine (T_kd tb (le : Int32).toNatClampNeg) (T_vl tb (le : Int32).toNatClampNeg) = some ((r : Int32).toNatClampNeg, σ9))) ∧ ZBM S' ∧ ZSM S' ∧ ZWM S' ∧ True) (dg_B g D shM o rfM) (dg_A o shM.length sz)) 0 0 (dg_A o shM.length sz) := by
  refine dg_met (cc := cX12_mine) (maxL := 2) (ret := (some .int)) (by decide) rfl (Nat.le_of_ble_eq_true rfl) ?_
  intro p e s m args below meth c A hAe harg hx hb hr hml hts hown hlocks hin hP K hS hA1 hA ST hsz ls hl
  rw [← hAe]
  have F : CallFix p m c cX12_mine 2 s args (bw yX12_mine cX12_mine 2 (some .int)) RX12 := ⟨hx, hb, hml, hown, hts⟩
  have hl : lv_has ls 2 [(0, .ref (o + 0))] := hl
  have M_0 : dg_sm shM [(0, 1), (0, 2), (0, 3), (0, 4), (0, 5), (0, 6), (0, 7), (0, 8), (0, 9), (0, 10), (0, 11), (0, 12), (0, 13), (0, 34), (0, 35), (0, 36), (0, 42), (0, 43), (0, 45), (0, 46), (0, 47), (0, 61), (0, 63), (0, 69)] [2, 3, 4, 5, 6, 7, 8, 9, 10, 11, 12, 13, 14, 15, 16, 17, 18, 19, 20, 21, 22, 23, 24, 25, 26, 27, 28, 29, 30, 31, 32, 33, 34, 35, 36, 37, 38] S S := dg_sm.rf
  obtain ⟨Q9, hQ9⟩ : ∃ Q : State → Prop, Q = MQ below (va_Qi (fun (r : Int32) S' => CM o S' ∧ dg_sm shM [(0, 1), (0, 2), (0, 3), (0, 4), (0, 5), (0, 6), (0, 7), (0, 8), (0, 9), (0, 10), (0, 11), (0, 12), (0, 13), (0, 34), (0, 35), (0, 36), (0, 42), (0, 43), (0, 45), (0, 46), (0, 47), (0, 61), (0, 63), (0, 69)] [2, 3, 4, 5, 6, 7, 8, 9, 10, 11, 12, 13, 14, 15, 16, 17, 18, 19, 20, 21, 22, 23, 24, 25, 26, 27, 28, 29, 30, 31, 32, 33, 34, 35, 36, 37, 38] S S' ∧ ((-1) ≤ (r).toInt ∧ (r).toInt ≤ 80) ∧ (∃ y9 : Int32, S'.1 0 1 = .int y9 ∧ ((y9).toInt = 0)) ∧ (((r).toInt = -1 → y_mine (T_kd tb (le : Int32).toNatClampNeg) (T_vl tb (le : Int32).toNatClampNeg) = none) ∧ ((r).toInt ≠ -1 → ∃ σ9 : y_S, y_mine (T_kd tb (le : Int32).toNatClampNeg) (T_vl tb (le : Int32).toNatClampNeg) = some ((r : Int32).toNatClampNeg, σ9))) ∧ ZBM S' ∧ ZSM S' ∧ ZWM S' ∧ True) (dg_B g D shM o rfM) A) args s 0 0 A := ⟨_, rfl⟩
  rw [← hQ9]
  obtain ⟨tn, htn⟩ : ∃ k : Nat, k = (le : Int32).toNatClampNeg := ⟨_, rfl⟩
  have hcle : (((le : Int32).toNatClampNeg : Nat) : Int) = (le).toInt := (by rw [dk_clN]; omega)
  refine lv_aload_n hx hb dX12_mine_0 rfl (lv_at hl 0 rfl) ?_
  refine lv_aload_n hx hb dX12_mine_1 rfl (lv_at hl 0 rfl) ?_
  refine dg_get (C := RX12) (T := TX12) (N := 77) hx hb hts (fun w h => bw_mem (wU_X12 w h)) hown K hP sM_0 rfl 1 (by decide) (hts _ (bw_mem wB_1072)) (fun _ h9 => h9) (v := .int le) f_le dX12_mine_2 ?_
  refine dg_put (ci := 12) (v := .int le) (ty := tyX12 2) (C := RX12) (T := TX12) (N := 77) hx hb hts (fun w h => bw_mem (wU_X12 w h)) tyX12 tyX12_ok nmX12 hown K hP hS hA1 sM_0 rfl 2 (by decide) (hts _ (bw_mem wB_289)) (fun _ h9 => h9) rfl (by decide +kernel) rfl rfl dX12_mine_5 (fun S_1 e_1 H locs hP hS => ?_)
  have I_1 := dg_I.uFi (lo := 0) (hi := 1600) I e_1 sM_0 (by decide +kernel) (show 0 ≤ (le).toInt ∧ (le).toInt ≤ 1600 from (by omega))
  have M_1 := dg_sm.uF M_0 e_1 sM_0 (by decide)
  have TZ_1 : TZM tb tn S_1 := ⟨(dg_uF_f e_1 1).trans htb, by omega, le, dg_uF_at e_1, htn.symm⟩
  refine lv_aload_n hx hb dX12_mine_8 rfl (lv_at hl 0 rfl) ?_
  refine lv_iconst (v := 0) hx hb dX12_mine_9 (by decide +kernel) ?_
  have hz_2 : (0 : Int32).toInt = 0 := by decide +kernel
  refine dg_put (ci := 12) (v := .int 0) (ty := tyX12 1) (C := RX12) (T := TX12) (N := 77) hx hb hts (fun w h => bw_mem (wU_X12 w h)) tyX12 tyX12_ok nmX12 hown K hP hS hA1 sM_0 rfl 1 (by decide) (hts _ (bw_mem wB_1072)) (fun _ h9 => h9) rfl (by decide +kernel) rfl rfl dX12_mine_10 (fun S_3 e_3 H locs hP hS => ?_)
  have I_3 := dg_I.uFi (lo := 0) (hi := 1600) I_1 e_3 sM_0 (by decide +kernel) (show 0 ≤ ((0 : Int32)).toInt ∧ ((0 : Int32)).toInt ≤ 1600 from (by decide +kernel))
  have M_3 := dg_sm.uF M_1 e_3 sM_0 (by decide)
  refine lv_aload_n hx hb dX12_mine_13 rfl (lv_at hl 0 rfl) ?_
  refine lv_iconst (v := 0) hx hb dX12_mine_14 (by decide +kernel) ?_
  have hz_4 : (0 : Int32).toInt = 0 := by decide +kernel
  refine dg_put (ci := 12) (v := .int 0) (ty := tyX12 5) (C := RX12) (T := TX12) (N := 77) hx hb hts (fun w h => bw_mem (wU_X12 w h)) tyX12 tyX12_ok nmX12 hown K hP hS hA1 sM_0 rfl 5 (by decide) (hts _ (bw_mem wB_288)) (fun _ h9 => h9) rfl (by decide +kernel) rfl rfl dX12_mine_15 (fun S_5 e_5 H locs hP hS => ?_)
  have I_5 := dg_I.uFi (lo := 0) (hi := 1600) I_3 e_5 sM_0 (by decide +kernel) (show 0 ≤ ((0 : Int32)).toInt ∧ ((0 : Int32)).toInt ≤ 1600 from (by decide +kernel))
  have M_5 := dg_sm.uF M_3 e_5 sM_0 (by decide)
  refine lv_aload_n hx hb dX12_mine_18 rfl (lv_at hl 0 rfl) ?_
  refine lv_iconst (v := 0) hx hb dX12_mine_19 (by decide +kernel) ?_
  have hz_6 : (0 : Int32).toInt = 0 := by decide +kernel
  refine dg_put (ci := 12) (v := .int 0) (ty := tyX12 8) (C := RX12) (T := TX12) (N := 77) hx hb hts (fun w h => bw_mem (wU_X12 w h)) tyX12 tyX12_ok nmX12 hown K hP hS hA1 sM_0 rfl 8 (by decide) (hts _ (bw_mem wB_303)) (fun _ h9 => h9) rfl (by decide +kernel) rfl rfl dX12_mine_20 (fun S_7 e_7 H locs hP hS => ?_)
  have I_7 := dg_I.uFi (lo := 0) (hi := 6) I_5 e_7 sM_0 (by decide +kernel) (show 0 ≤ ((0 : Int32)).toInt ∧ ((0 : Int32)).toInt ≤ 6 from (by decide +kernel))
  have M_7 := dg_sm.uF M_5 e_7 sM_0 (by decide)
  refine lv_aload_n hx hb dX12_mine_23 rfl (lv_at hl 0 rfl) ?_
  refine lv_iconst (v := (-1)) hx hb dX12_mine_24 (by decide +kernel) ?_
  have hz_8 : (-1 : Int32).toInt = (-1) := by decide +kernel
  refine dg_put (ci := 12) (v := .int (-1)) (ty := tyX12 9) (C := RX12) (T := TX12) (N := 77) hx hb hts (fun w h => bw_mem (wU_X12 w h)) tyX12 tyX12_ok nmX12 hown K hP hS hA1 sM_0 rfl 9 (by decide) (hts _ (bw_mem wB_304)) (fun _ h9 => h9) rfl (by decide +kernel) rfl rfl dX12_mine_25 (fun S_9 e_9 H locs hP hS => ?_)
  have I_9 := dg_I.uFi (lo := (-2147483648)) (hi := 2147483647) I_7 e_9 sM_0 (by decide +kernel) (show (-2147483648) ≤ ((-1 : Int32)).toInt ∧ ((-1 : Int32)).toInt ≤ 2147483647 from (by decide +kernel))
  have M_9 := dg_sm.uF M_7 e_9 sM_0 (by decide)
  refine lv_aload_n hx hb dX12_mine_28 rfl (lv_at hl 0 rfl) ?_
  refine lv_iconst (v := 1) hx hb dX12_mine_29 (by decide +kernel) ?_
  refine lv_aload_n hx hb dX12_mine_30 rfl (lv_at hl 0 rfl) ?_
  obtain ⟨x_10, f_x_10, b_x_10⟩ := dg_I.int (i := 0) (k := 13) (lo := 0) (hi := 1) I_9 sM_0 (by decide +kernel)
  refine dg_get (C := RX12) (T := TX12) (N := 77) hx hb hts (fun w h => bw_mem (wU_X12 w h)) hown K hP sM_0 rfl 13 (by decide) (hts _ (bw_mem wB_1085)) (fun _ h9 => h9) (v := .int x_10) f_x_10 dX12_mine_31 ?_
  refine lv_isub hx hb dX12_mine_34 ?_
  refine lv_topi (fun x_11 ex_11 => ?_)
  have jx_11 : (x_11).toInt = 1 - (x_10).toInt := by rw [ex_11]; exact dk_subT (by decide +kernel) rfl (by omega) (by omega)
  refine dg_put (ci := 12) (v := .int x_11) (ty := tyX12 35) (C := RX12) (T := TX12) (N := 77) hx hb hts (fun w h => bw_mem (wU_X12 w h)) tyX12 tyX12_ok nmX12 hown K hP hS hA1 sM_0 rfl 35 (by decide) (hts _ (bw_mem wB_353)) (fun _ h9 => h9) rfl (by decide +kernel) rfl rfl dX12_mine_35 (fun S_12 e_12 H locs hP hS => ?_)
  have I_12 := dg_I.uFi (lo := 0) (hi := 1) I_9 e_12 sM_0 (by decide +kernel) (show 0 ≤ (x_11).toInt ∧ (x_11).toInt ≤ 1 from (by omega))
  have M_12 := dg_sm.uF M_9 e_12 sM_0 (by decide)
  have ZK_12 : ZKM S_12 := ZKM.mk f_x_10 e_12 (by omega)
  have hzk : (x_11).toInt = 1 - (x_10).toInt := by omega
  refine lv_aload_n hx hb dX12_mine_38 rfl (lv_at hl 0 rfl) ?_
  refine dg_get (C := RX12) (T := TX12) (N := 77) hx hb hts (fun w h => bw_mem (wU_X12 w h)) hown K hP sM_0 rfl 16 (by decide) (hts _ (bw_mem wB_481)) (fun _ h9 => h9) (v := .ref (o + 4)) (show S_12.1 0 16 = .ref (o + 4) from dg_I.rel (d := 4) I_12 sM_0 (by decide +kernel)) dX12_mine_39 ?_
  refine lv_aload_n hx hb dX12_mine_42 rfl (lv_at hl 0 rfl) ?_
  refine dg_get (C := RX12) (T := TX12) (N := 77) hx hb hts (fun w h => bw_mem (wU_X12 w h)) hown K hP sM_0 rfl 35 (by decide) (hts _ (bw_mem wB_353)) (fun _ h9 => h9) (v := .int x_11) (dg_uF_at e_12) dX12_mine_43 ?_
  refine lv_iconst (v := 0) hx hb dX12_mine_46 (by decide +kernel) ?_
  have hin_13 : vp_in x_11 2 := (dk_inv (by omega) (by omega))
  have hz_15 : (0 : Int32).toInt = 0 := by decide +kernel
  refine dg_iast hx hb K hP hS hA1 sM_4 hin_13 dX12_mine_47 (fun S_14 e_14 H locs hP hS => ?_)
  have I_14 := dg_I.ufu (lo := 0) (hi := 9999) I_12 e_14 sM_4 (by decide +kernel) (show 0 ≤ ((0 : Int32)).toInt ∧ ((0 : Int32)).toInt ≤ 9999 from (by decide +kernel))
  have M_14 := dg_sm.uf M_12 e_14 sM_4 (by decide)
  have ZB_14 : ZBM S_14 := ZBM.up (r := 4) (ZBM.keep (ZBM.keep (ZBM.keep (ZBM.keep (ZBM.keep (ZBM.keep ZB (dg_sm.uF (WF := [(0, 2)]) (WA := []) dg_sm.rf e_1 sM_0 (by decide)) (by decide) (by decide) (by decide) (by decide) (by decide)) (dg_sm.uF (WF := [(0, 1)]) (WA := []) dg_sm.rf e_3 sM_0 (by decide)) (by decide) (by decide) (by decide) (by decide) (by decide)) (dg_sm.uF (WF := [(0, 5)]) (WA := []) dg_sm.rf e_5 sM_0 (by decide)) (by decide) (by decide) (by decide) (by decide) (by decide)) (dg_sm.uF (WF := [(0, 8)]) (WA := []) dg_sm.rf e_7 sM_0 (by decide)) (by decide) (by decide) (by decide) (by decide) (by decide)) (dg_sm.uF (WF := [(0, 9)]) (WA := []) dg_sm.rf e_9 sM_0 (by decide)) (by decide) (by decide) (by decide) (by decide) (by decide)) (dg_sm.uF (WF := [(0, 35)]) (WA := []) dg_sm.rf e_12 sM_0 (by decide)) (by decide) (by decide) (by decide) (by decide) (by decide)) (by decide) ((dg_uF_ne e_12 (fun z => absurd z.2 (by decide))).trans f_x_10) (by omega) e_14 (by omega)
  refine lv_aload_n hx hb dX12_mine_48 rfl (lv_at hl 0 rfl) ?_
  refine dg_get (C := RX12) (T := TX12) (N := 77) hx hb hts (fun w h => bw_mem (wU_X12 w h)) hown K hP sM_0 rfl 17 (by decide) (hts _ (bw_mem wB_480)) (fun _ h9 => h9) (v := .ref (o + 5)) (show S_14.1 0 17 = .ref (o + 5) from dg_I.rel (d := 5) I_14 sM_0 (by decide +kernel)) dX12_mine_49 ?_
  refine lv_aload_n hx hb dX12_mine_52 rfl (lv_at hl 0 rfl) ?_
  refine dg_get (C := RX12) (T := TX12) (N := 77) hx hb hts (fun w h => bw_mem (wU_X12 w h)) hown K hP sM_0 rfl 35 (by decide) (hts _ (bw_mem wB_353)) (fun _ h9 => h9) (v := .int x_11) ((dg_uf_F e_14 0 35).trans (dg_uF_at e_12)) dX12_mine_53 ?_
  refine lv_iconst (v := 3) hx hb dX12_mine_56 (by decide +kernel) ?_
  have hin_16 : vp_in x_11 2 := (dk_inv (by omega) (by omega))
  have hz_18 : (3 : Int32).toInt = 3 := by decide +kernel
  refine dg_iast hx hb K hP hS hA1 sM_5 hin_16 dX12_mine_57 (fun S_17 e_17 H locs hP hS => ?_)
  have I_17 := dg_I.ufu (lo := 0) (hi := 9999) I_14 e_17 sM_5 (by decide +kernel) (show 0 ≤ ((3 : Int32)).toInt ∧ ((3 : Int32)).toInt ≤ 9999 from (by decide +kernel))
  have M_17 := dg_sm.uf M_14 e_17 sM_5 (by decide)
  refine lv_aload_n hx hb dX12_mine_58 rfl (lv_at hl 0 rfl) ?_
  refine dg_get (C := RX12) (T := TX12) (N := 77) hx hb hts (fun w h => bw_mem (wU_X12 w h)) hown K hP sM_0 rfl 18 (by decide) (hts _ (bw_mem wB_475)) (fun _ h9 => h9) (v := .ref (o + 6)) (show S_17.1 0 18 = .ref (o + 6) from dg_I.rel (d := 6) I_17 sM_0 (by decide +kernel)) dX12_mine_59 ?_
  refine lv_aload_n hx hb dX12_mine_62 rfl (lv_at hl 0 rfl) ?_
  refine dg_get (C := RX12) (T := TX12) (N := 77) hx hb hts (fun w h => bw_mem (wU_X12 w h)) hown K hP sM_0 rfl 35 (by decide) (hts _ (bw_mem wB_353)) (fun _ h9 => h9) (v := .int x_11) (((dg_uf_F e_17 0 35).trans (dg_uf_F e_14 0 35)).trans (dg_uF_at e_12)) dX12_mine_63 ?_
  refine lv_iconst (v := 0) hx hb dX12_mine_66 (by decide +kernel) ?_
  have hin_19 : vp_in x_11 2 := (dk_inv (by omega) (by omega))
  have hz_21 : (0 : Int32).toInt = 0 := by decide +kernel
  refine dg_iast hx hb K hP hS hA1 sM_6 hin_19 dX12_mine_67 (fun S_20 e_20 H locs hP hS => ?_)
  have I_20 := dg_I.ufu (lo := 0) (hi := 9999) I_17 e_20 sM_6 (by decide +kernel) (show 0 ≤ ((0 : Int32)).toInt ∧ ((0 : Int32)).toInt ≤ 9999 from (by decide +kernel))
  have M_20 := dg_sm.uf M_17 e_20 sM_6 (by decide)
  refine lv_aload_n hx hb dX12_mine_68 rfl (lv_at hl 0 rfl) ?_
  refine dg_get (C := RX12) (T := TX12) (N := 77) hx hb hts (fun w h => bw_mem (wU_X12 w h)) hown K hP sM_0 rfl 20 (by decide) (hts _ (bw_mem wB_352)) (fun _ h9 => h9) (v := .ref (o + 8)) (show S_20.1 0 20 = .ref (o + 8) from dg_I.rel (d := 8) I_20 sM_0 (by decide +kernel)) dX12_mine_69 ?_
  refine lv_aload_n hx hb dX12_mine_72 rfl (lv_at hl 0 rfl) ?_
  refine dg_get (C := RX12) (T := TX12) (N := 77) hx hb hts (fun w h => bw_mem (wU_X12 w h)) hown K hP sM_0 rfl 35 (by decide) (hts _ (bw_mem wB_353)) (fun _ h9 => h9) (v := .int x_11) (((dg_uf_F e_20 0 35).trans ((dg_uf_F e_17 0 35).trans (dg_uf_F e_14 0 35))).trans (dg_uF_at e_12)) dX12_mine_73 ?_
  refine lv_iconst (v := 0) hx hb dX12_mine_76 (by decide +kernel) ?_
  have hin_22 : vp_in x_11 2 := (dk_inv (by omega) (by omega))
  have hz_24 : (0 : Int32).toInt = 0 := by decide +kernel
  refine dg_iast hx hb K hP hS hA1 sM_8 hin_22 dX12_mine_77 (fun S_23 e_23 H locs hP hS => ?_)
  have I_23 := dg_I.ufu (lo := 0) (hi := 6) I_20 e_23 sM_8 (by decide +kernel) (show 0 ≤ ((0 : Int32)).toInt ∧ ((0 : Int32)).toInt ≤ 6 from (by decide +kernel))
  have M_23 := dg_sm.uf M_20 e_23 sM_8 (by decide)
  refine lv_aload_n hx hb dX12_mine_78 rfl (lv_at hl 0 rfl) ?_
  refine dg_get (C := RX12) (T := TX12) (N := 77) hx hb hts (fun w h => bw_mem (wU_X12 w h)) hown K hP sM_0 rfl 21 (by decide) (hts _ (bw_mem wB_391)) (fun _ h9 => h9) (v := .ref (o + 9)) (show S_23.1 0 21 = .ref (o + 9) from dg_I.rel (d := 9) I_23 sM_0 (by decide +kernel)) dX12_mine_79 ?_
  refine lv_aload_n hx hb dX12_mine_82 rfl (lv_at hl 0 rfl) ?_
  refine dg_get (C := RX12) (T := TX12) (N := 77) hx hb hts (fun w h => bw_mem (wU_X12 w h)) hown K hP sM_0 rfl 35 (by decide) (hts _ (bw_mem wB_353)) (fun _ h9 => h9) (v := .int x_11) (((dg_uf_F e_23 0 35).trans ((dg_uf_F e_20 0 35).trans ((dg_uf_F e_17 0 35).trans (dg_uf_F e_14 0 35)))).trans (dg_uF_at e_12)) dX12_mine_83 ?_
  refine lv_iconst (v := 0) hx hb dX12_mine_86 (by decide +kernel) ?_
  have hin_25 : vp_in x_11 2 := (dk_inv (by omega) (by omega))
  have hz_27 : (0 : Int32).toInt = 0 := by decide +kernel
  refine dg_iast hx hb K hP hS hA1 sM_9 hin_25 dX12_mine_87 (fun S_26 e_26 H locs hP hS => ?_)
  have I_26 := dg_I.ufu (lo := 0) (hi := 16) I_23 e_26 sM_9 (by decide +kernel) (show 0 ≤ ((0 : Int32)).toInt ∧ ((0 : Int32)).toInt ≤ 16 from (by decide +kernel))
  have M_26 := dg_sm.uf M_23 e_26 sM_9 (by decide)
  refine lv_aload_n hx hb dX12_mine_88 rfl (lv_at hl 0 rfl) ?_
  refine dg_get (C := RX12) (T := TX12) (N := 77) hx hb hts (fun w h => bw_mem (wU_X12 w h)) hown K hP sM_0 rfl 24 (by decide) (hts _ (bw_mem wB_355)) (fun _ h9 => h9) (v := .ref (o + 12)) (show S_26.1 0 24 = .ref (o + 12) from dg_I.rel (d := 12) I_26 sM_0 (by decide +kernel)) dX12_mine_89 ?_
  refine lv_aload_n hx hb dX12_mine_92 rfl (lv_at hl 0 rfl) ?_
  refine dg_get (C := RX12) (T := TX12) (N := 77) hx hb hts (fun w h => bw_mem (wU_X12 w h)) hown K hP sM_0 rfl 35 (by decide) (hts _ (bw_mem wB_353)) (fun _ h9 => h9) (v := .int x_11) (((dg_uf_F e_26 0 35).trans ((dg_uf_F e_23 0 35).trans ((dg_uf_F e_20 0 35).trans ((dg_uf_F e_17 0 35).trans (dg_uf_F e_14 0 35))))).trans (dg_uF_at e_12)) dX12_mine_93 ?_
  refine lv_iconst (v := 0) hx hb dX12_mine_96 (by decide +kernel) ?_
  have hin_28 : vp_in x_11 2 := (dk_inv (by omega) (by omega))
  have hz_30 : (0 : Int32).toInt = 0 := by decide +kernel
  refine dg_iast hx hb K hP hS hA1 sM_12 hin_28 dX12_mine_97 (fun S_29 e_29 H locs hP hS => ?_)
  have I_29 := dg_I.ufu (lo := 0) (hi := 5) I_26 e_29 sM_12 (by decide +kernel) (show 0 ≤ ((0 : Int32)).toInt ∧ ((0 : Int32)).toInt ≤ 5 from (by decide +kernel))
  have M_29 := dg_sm.uf M_26 e_29 sM_12 (by decide)
  refine lv_iconst (v := 0) hx hb dX12_mine_98 (by decide +kernel) ?_
  refine lv_istore_n (lv' := [(1, .int 0), (0, .ref (o + 0))]) hx hb dX12_mine_99 rfl hl (by decide) rfl (fun ls hl => ?_)
  have J_217 : ∀ (x_53 : Int32), (64 ≤ (x_53).toInt ∧ (x_53).toInt ≤ 64) → ∀ S_216 : dg_S, CM o S_216 → dg_sm shM [(0, 1), (0, 2), (0, 3), (0, 4), (0, 5), (0, 6), (0, 7), (0, 8), (0, 9), (0, 10), (0, 11), (0, 12), (0, 13), (0, 34), (0, 35), (0, 36), (0, 42), (0, 43), (0, 45), (0, 46), (0, 47), (0, 61), (0, 63), (0, 69)] [2, 3, 4, 5, 6, 7, 8, 9, 10, 11, 12, 13, 14, 15, 16, 17, 18, 19, 20, 21, 22, 23, 24, 25, 26, 27, 28, 29, 30, 31, 32, 33, 34, 35, 36, 37, 38] S S_216 → S_216.1 0 2 = .int le → S_216.1 0 1 = .int 0 → S_216.1 0 5 = .int 0 → S_216.1 0 8 = .int 0 → S_216.1 0 9 = .int (-1) → S_216.1 0 13 = .int x_10 → S_216.1 0 35 = .int x_11 → S_216.2.1 4 (x_11 : Int32).toNatClampNeg = 0 → S_216.2.1 5 (x_11 : Int32).toNatClampNeg = 3 → S_216.2.1 6 (x_11 : Int32).toNatClampNeg = 0 → S_216.2.1 8 (x_11 : Int32).toNatClampNeg = 0 → S_216.2.1 9 (x_11 : Int32).toNatClampNeg = 0 → S_216.2.1 12 (x_11 : Int32).toNatClampNeg = 0 → ZBM S_216 → ZSM S_216 → ZWM S_216 → ZKM S_216 → TZM tb tn S_216 → ∀ (H : Heap) (locs : List Loc), va_P D vwCl (dg_w g shM o rfM S_216) H → va_S A s.heap H locs → ∀ ls : Array Slot, lv_has ls 2 [(1, .int x_53), (0, .ref (o + 0))] → W p l e ({ frames := 8, cells := 0, slots := 0, locals := 185 } : Room) s m args below meth c H locs 0 0 Q9 (F0 m 127 ls []) := by
    intro x_53 b_x_53 S_216 I_216 M_216 ff_216_2_0 ff_216_1_0 ff_216_5_0 ff_216_8_0 ff_216_9_0 ff_216_13_0 ff_216_35_0 frw_216_0 frw_216_1 frw_216_2 frw_216_3 frw_216_4 frw_216_5 ZB_216 ZS_216 ZW_216 ZK_216 TZ_216 H locs hP hS ls hl
    refine lv_iconst (v := 3) hx hb dX12_mine_127 (by decide +kernel) ?_
    refine lv_aload_n hx hb dX12_mine_128 rfl (lv_at hl 1 rfl) ?_
    refine dg_get (C := RX12) (T := TX12) (N := 77) hx hb hts (fun w h => bw_mem (wU_X12 w h)) hown K hP sM_0 rfl 35 (by decide) (hts _ (bw_mem wB_353)) (fun _ h9 => h9) (v := .int x_11) ff_216_35_0 dX12_mine_129 ?_
    refine lv_imul hx hb dX12_mine_132 ?_
    refine lv_topi (fun x_218 ex_218 => ?_)
    have jx_218 : (x_218).toInt = 3 * (x_11).toInt := by rw [ex_218]; exact dk_mulT (by decide +kernel) rfl (by omega) (by omega)
    refine lv_istore_n (lv' := [(1, .int x_218), (0, .ref (o + 0))]) hx hb dX12_mine_133 rfl hl (by decide) rfl (fun ls hl => ?_)
    have J_380 : ∀ (x_244 : Int32), (3 ≤ (x_244).toInt ∧ (x_244).toInt ≤ 6) → ∀ S_379 : dg_S, CM o S_379 → dg_sm shM [(0, 1), (0, 2), (0, 3), (0, 4), (0, 5), (0, 6), (0, 7), (0, 8), (0, 9), (0, 10), (0, 11), (0, 12), (0, 13), (0, 34), (0, 35), (0, 36), (0, 42), (0, 43), (0, 45), (0, 46), (0, 47), (0, 61), (0, 63), (0, 69)] [2, 3, 4, 5, 6, 7, 8, 9, 10, 11, 12, 13, 14, 15, 16, 17, 18, 19, 20, 21, 22, 23, 24, 25, 26, 27, 28, 29, 30, 31, 32, 33, 34, 35, 36, 37, 38] S S_379 → S_379.1 0 2 = .int le → S_379.1 0 1 = .int 0 → S_379.1 0 5 = .int 0 → S_379.1 0 8 = .int 0 → S_379.1 0 9 = .int (-1) → S_379.1 0 13 = .int x_10 → S_379.1 0 35 = .int x_11 → S_379.2.1 4 (x_11 : Int32).toNatClampNeg = 0 → S_379.2.1 5 (x_11 : Int32).toNatClampNeg = 3 → S_379.2.1 6 (x_11 : Int32).toNatClampNeg = 0 → S_379.2.1 8 (x_11 : Int32).toNatClampNeg = 0 → S_379.2.1 9 (x_11 : Int32).toNatClampNeg = 0 → S_379.2.1 12 (x_11 : Int32).toNatClampNeg = 0 → ZBM S_379 → ZSM S_379 → ZWM S_379 → ZKM S_379 → TZM tb tn S_379 → (NTM S_379 x_11 (3 * (x_11).toInt + 3)) → ∀ (H : Heap) (locs : List Loc), va_P D vwCl (dg_w g shM o rfM S_379) H → va_S A s.heap H locs → ∀ ls : Array Slot, lv_has ls 2 [(1, .int x_244), (0, .ref (o + 0))] → W p l e ({ frames := 8, cells := 0, slots := 0, locals := 185 } : Room) s m args below meth c H locs 0 0 Q9 (F0 m 159 ls []) := by
      intro x_244 b_x_244 S_379 I_379 M_379 ff_379_2_0 ff_379_1_0 ff_379_5_0 ff_379_8_0 ff_379_9_0 ff_379_13_0 ff_379_35_0 frw_379_0 frw_379_1 frw_379_2 frw_379_3 frw_379_4 frw_379_5 ZB_379 ZS_379 ZW_379 ZK_379 TZ_379 srel_379_0 H locs hP hS ls hl
      refine lv_aload_n hx hb dX12_mine_159 rfl (lv_at hl 1 rfl) ?_
      refine lv_iconst (v := 0) hx hb dX12_mine_160 (by decide +kernel) ?_
      have hz_381 : (0 : Int32).toInt = 0 := by decide +kernel
      refine dg_put (ci := 12) (v := .int 0) (ty := tyX12 34) (C := RX12) (T := TX12) (N := 77) hx hb hts (fun w h => bw_mem (wU_X12 w h)) tyX12 tyX12_ok nmX12 hown K hP hS hA1 sM_0 rfl 34 (by decide) (hts _ (bw_mem wB_402)) (fun _ h9 => h9) rfl (by decide +kernel) rfl rfl dX12_mine_161 (fun S_382 e_382 H locs hP hS => ?_)
      have I_382 := dg_I.uFi (lo := 0) (hi := 1600) I_379 e_382 sM_0 (by decide +kernel) (show 0 ≤ ((0 : Int32)).toInt ∧ ((0 : Int32)).toInt ≤ 1600 from (by decide +kernel))
      have M_382 := dg_sm.uF M_379 e_382 sM_0 (by decide)
      have ZV_382 : ZVM S_382 := NTM.zv srel_379_0 ff_379_35_0 (by omega) e_382
      have GI_382 := GSM.init ff_379_35_0 (by omega) frw_379_3 (by decide +kernel) frw_379_4 (by decide +kernel) frw_379_5 (by decide +kernel) (fun w h1 => srel_379_0 w h1 (by omega)) e_382
      obtain ⟨sg9, GS_382, hsg9⟩ := GI_382
      refine lv_iconst (v := 1) hx hb dX12_mine_164 (by decide +kernel) ?_
      refine lv_istore_n (lv' := [(1, .int 1), (0, .ref (o + 0))]) hx hb dX12_mine_165 rfl hl (by decide) rfl (fun ls hl => ?_)
      refine lv_aload_n hx hb dX12_mine_166 rfl (lv_at hl 1 rfl) ?_
      have hz_383 : (0 : Int32).toInt = 0 := by decide +kernel
      refine dg_callv hS hA1 hA (va_runV (As := []) (rest := []) F (c_m_ahead l g D o S_382 tb tn 0 ((dg_uF_ne e_382 (fun z => absurd z.2 (by decide))).trans ff_379_5_0) (by decide +kernel) le ((dg_uF_ne e_382 (fun z => absurd z.2 (by decide))).trans ff_379_2_0) (by omega) (by omega) (TZM.keep TZ_379 (dg_sm.uF (WF := [(0, 34)]) (WA := []) dg_sm.rf e_382 sM_0 (by decide)) (by decide) (by decide)) I_382 H.size) (cwV 0 hts (bw_V wB_318 wB_319 wB_320 wB_297 wB_317) rfl rfl rfl (by decide +kernel) ⟨Nat.le_of_ble_eq_true rfl, Nat.le_of_ble_eq_true rfl⟩) (dg_preV sM_0 rfl K ST hP hS hA1 hA) rfl rfl hl.1 rfl (lv_room (Nat.le_of_ble_eq_true rfl)) dX12_mine_167 ⟨Nat.le_of_ble_eq_true rfl, Nat.le_of_ble_eq_true rfl⟩) (fun S_384 hw_384 H locs hP hS => ?_)
      obtain ⟨I_384, m_384, w_384_0, w_384_1, -⟩ := hw_384
      have M_384 := dg_sm.tr M_382 m_384 (by decide) (by decide)
      have hz_385 : (0 : Int32).toInt = 0 := by decide +kernel
      obtain ⟨y_386, y_387, y_388, f_y_386, f_y_387, f_y_388, w_384_0⟩ := w_384_0
      have w_384_0 : ((0 : Int32)).toInt ≤ (y_387).toInt ∧ (y_387).toInt ≤ (y_388).toInt ∧ (y_388).toInt ≤ (le).toInt ∧ ((y_386).toInt ≠ 0 → (y_387).toInt + 1 ≤ (y_388).toInt) := w_384_0
      obtain ⟨w_384_0_0, w_384_0_1, w_384_0_2, w_384_0_3⟩ := w_384_0
      have b_y_386 : 0 ≤ (y_386).toInt ∧ (y_386).toInt ≤ 3 := dg_I.intb (lo := 0) (hi := 3) I_384 sM_0 (by decide +kernel) f_y_386
      have b_y_387 : 0 ≤ (y_387).toInt ∧ (y_387).toInt ≤ 1600 := dg_I.intb (lo := 0) (hi := 1600) I_384 sM_0 (by decide +kernel) f_y_387
      have b_y_388 : 0 ≤ (y_388).toInt ∧ (y_388).toInt ≤ 1600 := dg_I.intb (lo := 0) (hi := 1600) I_384 sM_0 (by decide +kernel) f_y_388
      replace w_384_1 : TNX tb tn (0 : Int32) S_384 := w_384_1
      obtain ⟨TK_384, nx_384⟩ := TZM.first (TZM.keep TZ_379 (dg_sm.uF (WF := [(0, 34)]) (WA := []) dg_sm.rf e_382 sM_0 (by decide)) (by decide) (by decide)) (by omega) w_384_1 m_384 (by decide) (by decide) f_y_387
      refine lv_aload_n hx hb dX12_mine_170 rfl (lv_at hl 1 rfl) ?_
      have hz_389 : (0 : Int32).toInt = 0 := by decide +kernel
      refine dg_callv hS hA1 hA (va_runV (As := []) (rest := []) F (c_m_seaming l g D o S_384 tb tn sg9 y_386 f_y_386 (by omega) y_387 f_y_387 (by omega) y_388 f_y_388 (by omega) le (((m_384.1 0 2 _ sM_0 (by decide)).trans (dg_uF_ne e_382 (fun z => absurd z.2 (by decide)))).trans ff_379_2_0) (by omega) 0 (((m_384.1 0 8 _ sM_0 (by decide)).trans (dg_uF_ne e_382 (fun z => absurd z.2 (by decide)))).trans ff_379_8_0) (by decide +kernel) x_11 (((m_384.1 0 35 _ sM_0 (by decide)).trans (dg_uF_ne e_382 (fun z => absurd z.2 (by decide)))).trans ff_379_35_0) (by omega) (by omega) TK_384 (GSM.keep GS_382 m_384 (by decide) (by decide) (by decide) (by decide) (by decide) (by decide) (by decide) (by decide) (by decide)) (ZBM.keep (ZBM.keep ZB_379 (dg_sm.uF (WF := [(0, 34)]) (WA := []) dg_sm.rf e_382 sM_0 (by decide)) (by decide) (by decide) (by decide) (by decide) (by decide)) m_384 (by decide) (by decide) (by decide) (by decide) (by decide)) (ZKM.keep (ZKM.keep ZK_379 (dg_sm.uF (WF := [(0, 34)]) (WA := []) dg_sm.rf e_382 sM_0 (by decide)) (by decide) (by decide)) m_384 (by decide) (by decide)) I_384 H.size) (cwV 0 hts (bw_V wB_1307 wB_1308 wB_1309 wB_297 wB_1306) rfl rfl rfl (by decide +kernel) ⟨Nat.le_of_ble_eq_true rfl, Nat.le_of_ble_eq_true rfl⟩) (dg_preV sM_0 rfl K ST hP hS hA1 hA) rfl rfl hl.1 rfl (lv_room (Nat.le_of_ble_eq_true rfl)) dX12_mine_171 ⟨Nat.le_of_ble_eq_true rfl, Nat.le_of_ble_eq_true rfl⟩) (fun S_390 hw_390 H locs hP hS => ?_)
      obtain ⟨I_390, m_390, w_390_0, w_390_1, w_390_2, w_390_3, w_390_4, -⟩ := hw_390
      have M_390 := dg_sm.tr M_384 m_390 (by decide) (by decide)
      have hz_391 : (0 : Int32).toInt = 0 := by decide +kernel
      obtain ⟨y_392, y_393, y_394, y_395, f_y_392, f_y_393, f_y_394, f_y_395, w_390_0⟩ := w_390_0
      have w_390_0 : ((y_393).toInt ≤ (y_394).toInt ∧ (y_394).toInt ≤ (le).toInt ∧ ((y_392).toInt ≠ 0 → (y_393).toInt + 1 ≤ (y_394).toInt)) ∧ (y_387).toInt ≤ (y_393).toInt ∧ (((0 : Int32)).toInt ≠ 0 → (y_395).toInt ≠ 0) ∧ ((y_395).toInt = 0 → (y_387).toInt + 1 ≤ (y_393).toInt) := w_390_0
      obtain ⟨⟨w_390_0_0, w_390_0_1, w_390_0_2⟩, w_390_0_3, w_390_0_4, w_390_0_5⟩ := w_390_0
      have b_y_392 : 0 ≤ (y_392).toInt ∧ (y_392).toInt ≤ 3 := dg_I.intb (lo := 0) (hi := 3) I_390 sM_0 (by decide +kernel) f_y_392
      have b_y_393 : 0 ≤ (y_393).toInt ∧ (y_393).toInt ≤ 1600 := dg_I.intb (lo := 0) (hi := 1600) I_390 sM_0 (by decide +kernel) f_y_393
      have b_y_394 : 0 ≤ (y_394).toInt ∧ (y_394).toInt ≤ 1600 := dg_I.intb (lo := 0) (hi := 1600) I_390 sM_0 (by decide +kernel) f_y_394
      have b_y_395 : 0 ≤ (y_395).toInt ∧ (y_395).toInt ≤ 6 := dg_I.intb (lo := 0) (hi := 6) I_390 sM_0 (by decide +kernel) f_y_395
      replace w_390_1 : ∀ k9 : Int32, S_390.1 0 8 = .int k9 → k9.toInt = 0 → SEM S_390 := w_390_1
      replace w_390_2 : SOK tb tn (0 : Int32) ((y_seam (T_kd tb tn) (T_vl tb tn) (t_ix tb tn (y_387 : Int32).toNatClampNeg)).map fun k9 => ((((T_vl tb tn ((t_ix tb tn (y_387 : Int32).toNatClampNeg) + 1)).toInt, (T_vl tb tn ((t_ix tb tn (y_387 : Int32).toNatClampNeg) + 3)).toInt), sg9.2), k9)) S_390 := w_390_2
      refine lv_aload_n hx hb dX12_mine_174 rfl (lv_at hl 1 rfl) ?_
      refine lv_iload_n hx hb dX12_mine_175 rfl (lv_at hl 0 rfl) ?_
      obtain ⟨x_396, f_x_396, b_x_396⟩ := dg_I.int (i := 0) (k := 6) (lo := 0) (hi := 9999) I_390 sM_0 (by decide +kernel)
      refine dg_callv hS hA1 hA (va_runV (As := [.int 1]) (rest := []) F (c_m_finishes l g D o S_390 1 tb tn y_392 f_y_392 (by omega) y_393 f_y_393 (by omega) y_394 f_y_394 (by omega) le (((m_390.1 0 2 _ sM_0 (by decide)).trans ((m_384.1 0 2 _ sM_0 (by decide)).trans (dg_uF_ne e_382 (fun z => absurd z.2 (by decide))))).trans ff_379_2_0) (by omega) y_395 f_y_395 (by omega) x_396 f_x_396 (by omega) (by omega) w_390_3 I_390 H.size) (cwV 1 hts (bw_V wB_1311 wB_1312 wB_1313 wB_297 wB_1310) rfl rfl rfl (by decide +kernel) ⟨Nat.le_of_ble_eq_true rfl, Nat.le_of_ble_eq_true rfl⟩) (dg_preV sM_0 rfl K ST hP hS hA1 hA) rfl rfl hl.1 rfl (lv_room (Nat.le_of_ble_eq_true rfl)) dX12_mine_176 ⟨Nat.le_of_ble_eq_true rfl, Nat.le_of_ble_eq_true rfl⟩) (fun S_397 hw_397 H locs hP hS => ?_)
      obtain ⟨I_397, m_397, w_397_0, w_397_1, -⟩ := hw_397
      have M_397 := dg_sm.tr M_390 m_397 (by decide) (by decide)
      have hz_398 : (1 : Int32).toInt = 1 := by decide +kernel
      obtain ⟨y_399, y_400, y_401, y_402, f_y_399, f_y_400, f_y_401, f_y_402, w_397_0⟩ := w_397_0
      have w_397_0 : (((y_400).toInt ≤ (y_401).toInt ∧ (y_401).toInt ≤ (le).toInt ∧ ((y_399).toInt ≠ 0 → (y_400).toInt + 1 ≤ (y_401).toInt)) ∧ (y_393).toInt ≤ (y_400).toInt ∧ ((y_395).toInt ≠ 0 → (y_402).toInt ≠ 0) ∧ ((y_402).toInt = 0 → (y_393).toInt + 1 ≤ (y_400).toInt)) ∧ m_hid ((y_395).toInt = 0 → ((y_402).toInt = 0 → g_tk (T_kd tb tn) (T_vl tb tn) 59 (t_ix tb tn (y_393 : Int32).toNatClampNeg) = some (t_ix tb tn (y_400 : Int32).toNatClampNeg) ∧ (((1 : Int32)).toInt = 80 → (T_kd tb tn (t_ix tb tn (y_400 : Int32).toNatClampNeg)).toInt = 0)) ∧ ((y_402).toInt ≠ 0 → g_tk (T_kd tb tn) (T_vl tb tn) 59 (t_ix tb tn (y_393 : Int32).toNatClampNeg) = none ∨ (((1 : Int32)).toInt = 80 ∧ ∃ k9 : Nat, g_tk (T_kd tb tn) (T_vl tb tn) 59 (t_ix tb tn (y_393 : Int32).toNatClampNeg) = some k9 ∧ (T_kd tb tn k9).toInt ≠ 0))) := w_397_0
      obtain ⟨⟨⟨w_397_0_0, w_397_0_1, w_397_0_2⟩, w_397_0_3, w_397_0_4, w_397_0_5⟩, w_397_0_6⟩ := w_397_0
      have b_y_399 : 0 ≤ (y_399).toInt ∧ (y_399).toInt ≤ 3 := dg_I.intb (lo := 0) (hi := 3) I_397 sM_0 (by decide +kernel) f_y_399
      have b_y_400 : 0 ≤ (y_400).toInt ∧ (y_400).toInt ≤ 1600 := dg_I.intb (lo := 0) (hi := 1600) I_397 sM_0 (by decide +kernel) f_y_400
      have b_y_401 : 0 ≤ (y_401).toInt ∧ (y_401).toInt ≤ 1600 := dg_I.intb (lo := 0) (hi := 1600) I_397 sM_0 (by decide +kernel) f_y_401
      have b_y_402 : 0 ≤ (y_402).toInt ∧ (y_402).toInt ≤ 6 := dg_I.intb (lo := 0) (hi := 6) I_397 sM_0 (by decide +kernel) f_y_402
      have J_515 : ∀ (x_494 : Int32) (x_495 : Int32) (x_496 : Int32) (x_497 : Int32) (x_498 : Int32) (x_499 : Int32), (1 ≤ (x_494).toInt ∧ (x_494).toInt ≤ 80) → (0 ≤ (x_495).toInt ∧ (x_495).toInt ≤ 3) → (0 ≤ (x_496).toInt ∧ (x_496).toInt ≤ 1600) → (0 ≤ (x_497).toInt ∧ (x_497).toInt ≤ 1600) → (0 ≤ (x_498).toInt ∧ (x_498).toInt ≤ 6) → (0 ≤ (x_499).toInt ∧ (x_499).toInt ≤ 1600) → ∀ S_514 : dg_S, CM o S_514 → dg_sm shM [(0, 1), (0, 2), (0, 3), (0, 4), (0, 5), (0, 6), (0, 7), (0, 8), (0, 9), (0, 10), (0, 11), (0, 12), (0, 13), (0, 34), (0, 35), (0, 36), (0, 42), (0, 43), (0, 45), (0, 46), (0, 47), (0, 61), (0, 63), (0, 69)] [2, 3, 4, 5, 6, 7, 8, 9, 10, 11, 12, 13, 14, 15, 16, 17, 18, 19, 20, 21, 22, 23, 24, 25, 26, 27, 28, 29, 30, 31, 32, 33, 34, 35, 36, 37, 38] S S_514 → S_514.1 0 2 = .int le → S_514.1 0 1 = .int 0 → S_514.1 0 13 = .int x_10 → S_514.1 0 35 = .int x_11 → S_514.1 0 3 = .int x_495 → S_514.1 0 4 = .int x_496 → S_514.1 0 5 = .int x_497 → S_514.1 0 8 = .int x_498 → S_514.1 0 34 = .int x_499 → ZBM S_514 → ZSM S_514 → ZWM S_514 → ZKM S_514 → ((x_498).toInt = 0 → ZCM S_514 ∧ ZVM S_514) → (m_hid (MIN tb tn (x_494 : Int32) x_498 x_496 S_514)) → (m_hid ((x_498).toInt = 0 → (T_kd tb tn (t_ix tb tn (x_496 : Int32).toNatClampNeg)).toInt = 0)) → ∀ (H : Heap) (locs : List Loc), va_P D vwCl (dg_w g shM o rfM S_514) H → va_S A s.heap H locs → ∀ ls : Array Slot, lv_has ls 2 [(1, .int x_494), (0, .ref (o + 0))] → W p l e ({ frames := 8, cells := 0, slots := 0, locals := 185 } : Room) s m args below meth c H locs 0 0 Q9 (F0 m 208 ls []) := by
        intro x_494 x_495 x_496 x_497 x_498 x_499 b_x_494 b_x_495 b_x_496 b_x_497 b_x_498 b_x_499 S_514 I_514 M_514 ff_514_2_0 ff_514_1_0 ff_514_13_0 ff_514_35_0 ff_514_3_0 ff_514_4_0 ff_514_5_0 ff_514_8_0 ff_514_34_0 ZB_514 ZS_514 ZW_514 ZK_514 srel_514_0 srel_514_1 srel_514_2 H locs hP hS ls hl
        have hMIN := srel_514_1.out
        have hkz7 := srel_514_2
        refine lv_aload_n hx hb dX12_mine_208 rfl (lv_at hl 1 rfl) ?_
        refine lv_aload_n hx hb dX12_mine_209 rfl (lv_at hl 1 rfl) ?_
        refine dg_get (C := RX12) (T := TX12) (N := 77) hx hb hts (fun w h => bw_mem (wU_X12 w h)) hown K hP sM_0 rfl 8 (by decide) (hts _ (bw_mem wB_303)) (fun _ h9 => h9) (v := .int x_498) ff_514_8_0 dX12_mine_210 ?_
        refine dg_put (ci := 12) (v := .int x_498) (ty := tyX12 10) (C := RX12) (T := TX12) (N := 77) hx hb hts (fun w h => bw_mem (wU_X12 w h)) tyX12 tyX12_ok nmX12 hown K hP hS hA1 sM_0 rfl 10 (by decide) (hts _ (bw_mem wB_1083)) (fun _ h9 => h9) rfl (by decide +kernel) rfl rfl dX12_mine_213 (fun S_516 e_516 H locs hP hS => ?_)
        have I_516 := dg_I.uFi (lo := (-2147483648)) (hi := 2147483647) I_514 e_516 sM_0 (by decide +kernel) (show (-2147483648) ≤ (x_498).toInt ∧ (x_498).toInt ≤ 2147483647 from (dk_full _))
        have M_516 := dg_sm.uF M_514 e_516 sM_0 (by decide)
        refine lv_aload_n hx hb dX12_mine_216 rfl (lv_at hl 1 rfl) ?_
        refine lv_aload_n hx hb dX12_mine_217 rfl (lv_at hl 1 rfl) ?_
        obtain ⟨x_517, f_x_517, b_x_517⟩ := dg_I.int (i := 0) (k := 9) (lo := (-2147483648)) (hi := 2147483647) I_516 sM_0 (by decide +kernel)
        refine dg_get (C := RX12) (T := TX12) (N := 77) hx hb hts (fun w h => bw_mem (wU_X12 w h)) hown K hP sM_0 rfl 9 (by decide) (hts _ (bw_mem wB_304)) (fun _ h9 => h9) (v := .int x_517) f_x_517 dX12_mine_218 ?_
        refine dg_put (ci := 12) (v := .int x_517) (ty := tyX12 11) (C := RX12) (T := TX12) (N := 77) hx hb hts (fun w h => bw_mem (wU_X12 w h)) tyX12 tyX12_ok nmX12 hown K hP hS hA1 sM_0 rfl 11 (by decide) (hts _ (bw_mem wB_1082)) (fun _ h9 => h9) rfl (by decide +kernel) rfl rfl dX12_mine_221 (fun S_518 e_518 H locs hP hS => ?_)
        have I_518 := dg_I.uFi (lo := (-2147483648)) (hi := 2147483647) I_516 e_518 sM_0 (by decide +kernel) (show (-2147483648) ≤ (x_517).toInt ∧ (x_517).toInt ≤ 2147483647 from (dk_full _))
        have M_518 := dg_sm.uF M_516 e_518 sM_0 (by decide)
        refine lv_aload_n hx hb dX12_mine_224 rfl (lv_at hl 1 rfl) ?_
        refine dg_get (C := RX12) (T := TX12) (N := 77) hx hb hts (fun w h => bw_mem (wU_X12 w h)) hown K hP sM_0 rfl 8 (by decide) (hts _ (bw_mem wB_303)) (fun _ h9 => h9) (v := .int x_498) (((dg_uF_ne e_518 (fun z => absurd z.2 (by decide))).trans (dg_uF_ne e_516 (fun z => absurd z.2 (by decide)))).trans ff_514_8_0) dX12_mine_225 ?_
        refine lv_if_le (tgt := 237) hx hb dX12_mine_228 (by decide) (fun c_519 => ?_) (fun c_519 => ?_)
        · have jc_519 := dk_lec (k := 0) (by decide +kernel) c_519
          have zcE := srel_514_0 (by omega)
          have hkz9 := hkz7.out (by omega)
          refine lv_aload_n hx hb dX12_mine_237 rfl (lv_at hl 1 rfl) ?_
          refine lv_aload_n hx hb dX12_mine_238 rfl (lv_at hl 1 rfl) ?_
          refine dg_get (C := RX12) (T := TX12) (N := 77) hx hb hts (fun w h => bw_mem (wU_X12 w h)) hown K hP sM_0 rfl 35 (by decide) (hts _ (bw_mem wB_353)) (fun _ h9 => h9) (v := .int x_11) (((dg_uF_ne e_518 (fun z => absurd z.2 (by decide))).trans (dg_uF_ne e_516 (fun z => absurd z.2 (by decide)))).trans ff_514_35_0) dX12_mine_239 ?_
          refine dg_put (ci := 12) (v := .int x_11) (ty := tyX12 13) (C := RX12) (T := TX12) (N := 77) hx hb hts (fun w h => bw_mem (wU_X12 w h)) tyX12 tyX12_ok nmX12 hown K hP hS hA1 sM_0 rfl 13 (by decide) (hts _ (bw_mem wB_1085)) (fun _ h9 => h9) rfl (by decide +kernel) rfl rfl dX12_mine_242 (fun S_520 e_520 H locs hP hS => ?_)
          have I_520 := dg_I.uFi (lo := 0) (hi := 1) I_518 e_520 sM_0 (by decide +kernel) (show 0 ≤ (x_11).toInt ∧ (x_11).toInt ≤ 1 from (by omega))
          have M_520 := dg_sm.uF M_518 e_520 sM_0 (by decide)
          have ZW_520 : ZWM S_520 := ZVM.use (ZVM.keep (ZVM.keep zcE.2 (dg_sm.uF (WF := [(0, 10)]) (WA := []) dg_sm.rf e_516 sM_0 (by decide)) (by decide) (by decide) (by decide) (by decide) (by decide)) (dg_sm.uF (WF := [(0, 11)]) (WA := []) dg_sm.rf e_518 sM_0 (by decide)) (by decide) (by decide) (by decide) (by decide) (by decide)) (((dg_uF_ne e_518 (fun z => absurd z.2 (by decide))).trans (dg_uF_ne e_516 (fun z => absurd z.2 (by decide)))).trans ff_514_35_0) (((dg_uF_ne e_518 (fun z => absurd z.2 (by decide))).trans (dg_uF_ne e_516 (fun z => absurd z.2 (by decide)))).trans ff_514_34_0) (by omega) e_520
          refine lv_aload_n hx hb dX12_mine_245 rfl (lv_at hl 1 rfl) ?_
          refine lv_iconst (v := 1) hx hb dX12_mine_246 (by decide +kernel) ?_
          have hz_521 : (1 : Int32).toInt = 1 := by decide +kernel
          refine dg_put (ci := 12) (v := .int 1) (ty := tyX12 47) (C := RX12) (T := TX12) (N := 77) hx hb hts (fun w h => bw_mem (wU_X12 w h)) tyX12 tyX12_ok nmX12 hown K hP hS hA1 sM_0 rfl 47 (by decide) (hts _ (bw_mem wB_1084)) (fun _ h9 => h9) rfl (by decide +kernel) (by decide +kernel) (by decide +kernel) dX12_mine_247 (fun S_522 e_522 H locs hP hS => ?_)
          have I_522 := dg_I.uFi (lo := 0) (hi := 1) I_520 e_522 sM_0 (by decide +kernel) (show 0 ≤ ((1 : Int32)).toInt ∧ ((1 : Int32)).toInt ≤ 1 from (by decide +kernel))
          have M_522 := dg_sm.uF M_520 e_522 sM_0 (by decide)
          have ZB_522 : ZBM S_522 := ZCM.use (ZCM.keep (ZCM.keep zcE.1 (dg_sm.uF (WF := [(0, 10)]) (WA := []) dg_sm.rf e_516 sM_0 (by decide)) (by decide) (by decide) (by decide) (by decide)) (dg_sm.uF (WF := [(0, 11)]) (WA := []) dg_sm.rf e_518 sM_0 (by decide)) (by decide) (by decide) (by decide) (by decide)) (((dg_uF_ne e_518 (fun z => absurd z.2 (by decide))).trans (dg_uF_ne e_516 (fun z => absurd z.2 (by decide)))).trans ff_514_35_0) e_520 e_522
          refine lv_aload_n hx hb dX12_mine_250 rfl (lv_at hl 1 rfl) ?_
          refine dg_callv hS hA1 hA (va_runV (As := []) (rest := []) F (c_m_begin l g D o S_522 ZB_522 (ZSM.keep (ZSM.keep (ZSM.keep (ZSM.keep ZS_514 (dg_sm.uF (WF := [(0, 10)]) (WA := []) dg_sm.rf e_516 sM_0 (by decide)) (by decide)) (dg_sm.uF (WF := [(0, 11)]) (WA := []) dg_sm.rf e_518 sM_0 (by decide)) (by decide)) (dg_sm.uF (WF := [(0, 13)]) (WA := []) dg_sm.rf e_520 sM_0 (by decide)) (by decide)) (dg_sm.uF (WF := [(0, 47)]) (WA := []) dg_sm.rf e_522 sM_0 (by decide)) (by decide)) I_522 H.size) (cwV 0 hts (bw_V wB_1319 wB_1320 wB_1321 wB_297 wB_1318) rfl rfl rfl (by decide +kernel) ⟨Nat.le_of_ble_eq_true rfl, Nat.le_of_ble_eq_true rfl⟩) (dg_preV sM_0 rfl K ST hP hS hA1 hA) rfl rfl hl.1 rfl (lv_room (Nat.le_of_ble_eq_true rfl)) dX12_mine_251 ⟨Nat.le_of_ble_eq_true rfl, Nat.le_of_ble_eq_true rfl⟩) (fun S_523 hw_523 H locs hP hS => ?_)
          obtain ⟨I_523, m_523, w_523_0, -⟩ := hw_523
          have M_523 := dg_sm.tr M_522 m_523 (by decide) (by decide)
          refine lv_iload_n hx hb dX12_mine_254 rfl (lv_at hl 0 rfl) ?_
          have hz_524 : (0 : Int32).toInt = 0 := by decide +kernel
          refine W.widen (k := 0) (n := 0) (Nat.le_of_ble_eq_true rfl) (Nat.le_of_ble_eq_true rfl) ?_
          rw [hQ9]
          exact dg_iret hx hb hr hlocks rfl hP hS ⟨I_523, M_523, (by omega), ⟨0, (((m_523.1 0 1 _ sM_0 (by decide)).trans ((dg_uF_ne e_522 (fun z => absurd z.2 (by decide))).trans ((dg_uF_ne e_520 (fun z => absurd z.2 (by decide))).trans ((dg_uF_ne e_518 (fun z => absurd z.2 (by decide))).trans (dg_uF_ne e_516 (fun z => absurd z.2 (by decide))))))).trans ff_514_1_0), (by omega)⟩, ⟨fun q9 => absurd q9 (by omega), fun _ => by rw [← htn]; obtain ⟨s9, -, hY9, hc9, -⟩ := hMIN.1 (by omega); exact ⟨s9, hY9.done (by have h9 := dk_clN x_494; omega) hkz9⟩⟩, (ZBM.keep ZB_522 m_523 (by decide) (by decide) (by decide) (by decide) (by decide)), w_523_0, (ZWM.keep (ZWM.keep ZW_520 (dg_sm.uF (WF := [(0, 47)]) (WA := []) dg_sm.rf e_522 sM_0 (by decide)) (by decide) (by decide) (by decide) (by decide)) m_523 (by decide) (by decide) (by decide) (by decide)), trivial⟩ dX12_mine_255
        · have jc_519 := dk_nlec (k := 0) (by decide +kernel) c_519
          refine lv_aload_n hx hb dX12_mine_231 rfl (lv_at hl 1 rfl) ?_
          refine lv_iconst (v := 1) hx hb dX12_mine_232 (by decide +kernel) ?_
          have hz_525 : (1 : Int32).toInt = 1 := by decide +kernel
          refine dg_calli hS hA1 hA (va_runV (As := [.int 1]) (rest := []) F (c_m_refuses l g D o S_518 1 (by decide +kernel) I_518 H.size) (cwV 1 hts (bw_V wB_1079 wB_1080 wB_1081 wB_297 wB_1078) rfl rfl rfl (by decide +kernel) ⟨Nat.le_of_ble_eq_true rfl, Nat.le_of_ble_eq_true rfl⟩) (dg_preV sM_0 rfl K ST hP hS hA1 hA) rfl rfl hl.1 rfl (lv_room (Nat.le_of_ble_eq_true rfl)) dX12_mine_233 ⟨Nat.le_of_ble_eq_true rfl, Nat.le_of_ble_eq_true rfl⟩) (fun x_526 S_527 hw_527 H locs hP hS => ?_)
          obtain ⟨I_527, m_527, w_527_0, -⟩ := hw_527
          have M_527 := dg_sm.tr M_518 m_527 (by decide) (by decide)
          have w_527_0 : (-1) ≤ (x_526).toInt ∧ (x_526).toInt ≤ (-1) := w_527_0
          have hz_528 : (0 : Int32).toInt = 0 := by decide +kernel
          refine W.widen (k := 0) (n := 0) (Nat.le_of_ble_eq_true rfl) (Nat.le_of_ble_eq_true rfl) ?_
          rw [hQ9]
          exact dg_iret hx hb hr hlocks rfl hP hS ⟨I_527, M_527, (by omega), ⟨0, (((m_527.1 0 1 _ sM_0 (by decide)).trans ((dg_uF_ne e_518 (fun z => absurd z.2 (by decide))).trans (dg_uF_ne e_516 (fun z => absurd z.2 (by decide))))).trans ff_514_1_0), (by omega)⟩, ⟨fun _ => by rw [← htn]; exact hMIN.2 (by omega), fun q9 => absurd (by first | omega | decide +kernel) q9⟩, (ZBM.keep (ZBM.keep (ZBM.keep ZB_514 (dg_sm.uF (WF := [(0, 10)]) (WA := []) dg_sm.rf e_516 sM_0 (by decide)) (by decide) (by decide) (by decide) (by decide) (by decide)) (dg_sm.uF (WF := [(0, 11)]) (WA := []) dg_sm.rf e_518 sM_0 (by decide)) (by decide) (by decide) (by decide) (by decide) (by decide)) m_527 (by decide) (by decide) (by decide) (by decide) (by decide)), (ZSM.keep (ZSM.keep (ZSM.keep ZS_514 (dg_sm.uF (WF := [(0, 10)]) (WA := []) dg_sm.rf e_516 sM_0 (by decide)) (by decide)) (dg_sm.uF (WF := [(0, 11)]) (WA := []) dg_sm.rf e_518 sM_0 (by decide)) (by decide)) m_527 (by decide)), (ZWM.keep (ZWM.keep (ZWM.keep ZW_514 (dg_sm.uF (WF := [(0, 10)]) (WA := []) dg_sm.rf e_516 sM_0 (by decide)) (by decide) (by decide) (by decide) (by decide)) (dg_sm.uF (WF := [(0, 11)]) (WA := []) dg_sm.rf e_518 sM_0 (by decide)) (by decide) (by decide) (by decide) (by decide)) m_527 (by decide) (by decide) (by decide) (by decide)), trivial⟩ dX12_mine_236
      have L_599 : ∀ (n : Nat) (x_592 : Int32) (x_593 : Int32) (x_594 : Int32) (x_595 : Int32) (x_596 : Int32) (x_597 : Int32), (1 ≤ (x_592).toInt ∧ (x_592).toInt ≤ 80) → (0 ≤ (x_593).toInt ∧ (x_593).toInt ≤ 3) → (0 ≤ (x_594).toInt ∧ (x_594).toInt ≤ 1600) → (0 ≤ (x_595).toInt ∧ (x_595).toInt ≤ 1600) → (0 ≤ (x_596).toInt ∧ (x_596).toInt ≤ 6) → (0 ≤ (x_597).toInt ∧ (x_597).toInt ≤ 1600) → ((7 - (x_596).toInt + 7 * (1600 - (x_594).toInt)).toNat < n) → ∀ S_598 : dg_S, CM o S_598 → dg_sm shM [(0, 1), (0, 2), (0, 3), (0, 4), (0, 5), (0, 6), (0, 7), (0, 8), (0, 9), (0, 10), (0, 11), (0, 12), (0, 13), (0, 34), (0, 35), (0, 36), (0, 42), (0, 43), (0, 45), (0, 46), (0, 47), (0, 61), (0, 63), (0, 69)] [2, 3, 4, 5, 6, 7, 8, 9, 10, 11, 12, 13, 14, 15, 16, 17, 18, 19, 20, 21, 22, 23, 24, 25, 26, 27, 28, 29, 30, 31, 32, 33, 34, 35, 36, 37, 38] S S_598 → S_598.1 0 2 = .int le → S_598.1 0 1 = .int 0 → S_598.1 0 13 = .int x_10 → S_598.1 0 35 = .int x_11 → S_598.1 0 3 = .int x_593 → S_598.1 0 4 = .int x_594 → S_598.1 0 5 = .int x_595 → S_598.1 0 8 = .int x_596 → S_598.1 0 34 = .int x_597 → ZBM S_598 → ZSM S_598 → ZWM S_598 → ZKM S_598 → ((x_594).toInt ≤ (x_595).toInt ∧ (x_595).toInt ≤ (le).toInt ∧ ((x_593).toInt ≠ 0 → (x_594).toInt + 1 ≤ (x_595).toInt)) → ((x_596).toInt = 0 → (x_597).toInt ≤ (x_594).toInt) → ((x_596).toInt = 0 → ZCM S_598 ∧ ZVM S_598) → (m_hid (MIN tb tn (x_592 : Int32) x_596 x_594 S_598)) → (TKM tb tn S_598) → ∀ (H : Heap) (locs : List Loc), va_P D vwCl (dg_w g shM o rfM S_598) H → va_S A s.heap H locs → ∀ ls : Array Slot, lv_has ls 2 [(1, .int x_592), (0, .ref (o + 0))] → W p l e ({ frames := 8, cells := 0, slots := 0, locals := 185 } : Room) s m args below meth c H locs 0 0 Q9 (F0 m 179 ls []) := by
        intro n
        induction n with
        | zero =>
          intro x_592 x_593 x_594 x_595 x_596 x_597 b_x_592 b_x_593 b_x_594 b_x_595 b_x_596 b_x_597 hmu S_598 I_598 M_598 ff_598_2_0 ff_598_1_0 ff_598_13_0 ff_598_35_0 ff_598_3_0 ff_598_4_0 ff_598_5_0 ff_598_8_0 ff_598_34_0 ZB_598 ZS_598 ZW_598 ZK_598 srel_598_0 srel_598_1 srel_598_2 srel_598_3 srel_598_4 H locs hP hS ls hl
          omega
        | succ n ih =>
          intro x_592 x_593 x_594 x_595 x_596 x_597 b_x_592 b_x_593 b_x_594 b_x_595 b_x_596 b_x_597 hmu S_598 I_598 M_598 ff_598_2_0 ff_598_1_0 ff_598_13_0 ff_598_35_0 ff_598_3_0 ff_598_4_0 ff_598_5_0 ff_598_8_0 ff_598_34_0 ZB_598 ZS_598 ZW_598 ZK_598 srel_598_0 srel_598_1 srel_598_2 srel_598_3 srel_598_4 H locs hP hS ls hl
          refine lv_aload_n hx hb dX12_mine_179 rfl (lv_at hl 1 rfl) ?_
          refine dg_get (C := RX12) (T := TX12) (N := 77) hx hb hts (fun w h => bw_mem (wU_X12 w h)) hown K hP sM_0 rfl 8 (by decide) (hts _ (bw_mem wB_303)) (fun _ h9 => h9) (v := .int x_596) ff_598_8_0 dX12_mine_180 ?_
          refine lv_if_ne (tgt := 208) hx hb dX12_mine_183 (by decide) (fun c_600 => ?_) (fun c_600 => ?_)
          · have jc_600 := dk_neqc (k := 0) (by decide +kernel) c_600
            have jbc_600 : 1 ≤ (x_596).toInt := by omega
            clear jc_600
            exact J_515 x_592 x_593 x_594 x_595 x_596 x_597 (by omega) (by omega) (by omega) (by omega) (by omega) (by omega) S_598 I_598 M_598 ff_598_2_0 ff_598_1_0 ff_598_13_0 ff_598_35_0 ff_598_3_0 ff_598_4_0 ff_598_5_0 ff_598_8_0 ff_598_34_0 ZB_598 ZS_598 ZW_598 ZK_598 srel_598_2 srel_598_3 (m_hid.mk (fun q9 => by exfalso; omega)) _ _ hP hS _ (lv_sub hl [0, 1] rfl)
          · have jc_600 := dk_eqc (k := 0) (by decide +kernel) c_600
            obtain ⟨sg9, hG598, hY598, hc1598, hc80598⟩ := (srel_598_3.out).1 (by omega)
            have hzk598 := TKM.zero srel_598_4 ff_598_3_0 ff_598_4_0
            refine lv_aload_n hx hb dX12_mine_186 rfl (lv_at hl 1 rfl) ?_
            refine dg_get (C := RX12) (T := TX12) (N := 77) hx hb hts (fun w h => bw_mem (wU_X12 w h)) hown K hP sM_0 rfl 3 (by decide) (hts _ (bw_mem wB_292)) (fun _ h9 => h9) (v := .int x_593) ff_598_3_0 dX12_mine_187 ?_
            refine lv_if_eq (tgt := 208) hx hb dX12_mine_190 (by decide) (fun c_601 => ?_) (fun c_601 => ?_)
            · have jc_601 := dk_eqc (k := 0) (by decide +kernel) c_601
              exact J_515 x_592 x_593 x_594 x_595 x_596 x_597 (by omega) (by omega) (by omega) (by omega) (by omega) (by omega) S_598 I_598 M_598 ff_598_2_0 ff_598_1_0 ff_598_13_0 ff_598_35_0 ff_598_3_0 ff_598_4_0 ff_598_5_0 ff_598_8_0 ff_598_34_0 ZB_598 ZS_598 ZW_598 ZK_598 srel_598_2 srel_598_3 (m_hid.mk (fun _ => hzk598.mp (by omega))) _ _ hP hS _ (lv_sub hl [0, 1] rfl)
            · have jc_601 := dk_neqc (k := 0) (by decide +kernel) c_601
              have jbc_601 : 1 ≤ (x_593).toInt := by omega
              clear jc_601
              have zcH := srel_598_2 (by omega)
              have hkz598 : (T_kd tb tn (t_ix tb tn (x_594 : Int32).toNatClampNeg)).toInt ≠ 0 := fun q9 => absurd (hzk598.mpr q9) (by omega)
              replace hc80598 : (x_592).toInt ≠ 80 := fun q9 => hkz598 (hc80598 q9)
              clear hzk598
              have hc80598 : (x_592).toInt ≤ 79 := by by_cases q9 : (x_592).toInt = 80; exact (hc80598 q9).elim; omega
              refine lv_aload_n hx hb dX12_mine_193 rfl (lv_at hl 1 rfl) ?_
              obtain ⟨x_602, f_x_602⟩ : ∃ x, S_598.2.1 8 (x_11 : Int32).toNatClampNeg = x := ⟨_, rfl⟩
              have hin_603 : vp_in (x_11 : Int32) 2 := (dk_inv (by omega) (by omega))
              have b_x_602 := dk_all_at (dg_I.row (lo := 0) (hi := 6) I_598 sM_8 (by decide +kernel)) hin_603 f_x_602.symm
              obtain ⟨x_604, f_x_604⟩ : ∃ x, S_598.2.1 9 (x_11 : Int32).toNatClampNeg = x := ⟨_, rfl⟩
              have hin_605 : vp_in (x_11 : Int32) 2 := (dk_inv (by omega) (by omega))
              have b_x_604 := dk_all_at (dg_I.row (lo := 0) (hi := 16) I_598 sM_9 (by decide +kernel)) hin_605 f_x_604.symm
              obtain ⟨x_606, f_x_606⟩ : ∃ x, S_598.2.1 12 (x_11 : Int32).toNatClampNeg = x := ⟨_, rfl⟩
              have hin_607 : vp_in (x_11 : Int32) 2 := (dk_inv (by omega) (by omega))
              have b_x_606 := dk_all_at (dg_I.row (lo := 0) (hi := 5) I_598 sM_12 (by decide +kernel)) hin_607 f_x_606.symm
              obtain ⟨x_608, f_x_608⟩ : ∃ x, S_598.2.1 2 (x_11 : Int32).toNatClampNeg = x := ⟨_, rfl⟩
              have hin_609 : vp_in (x_11 : Int32) 2 := (dk_inv (by omega) (by omega))
              have b_x_608 := dk_all_at (dg_I.row (lo := 0) (hi := 9999) I_598 sM_2 (by decide +kernel)) hin_609 f_x_608.symm
              have ex_608 := f_x_608.symm
              have zc_x_608 : 3 ≤ (x_608).toInt ∧ (x_608).toInt ≤ 7 := by rw [ex_608]; exact ⟨(zcH.1 _ ff_598_35_0).1, (zcH.1 _ ff_598_35_0).2.1⟩
              obtain ⟨x_610, f_x_610⟩ : ∃ x, S_598.2.1 3 (x_11 : Int32).toNatClampNeg = x := ⟨_, rfl⟩
              have hin_611 : vp_in (x_11 : Int32) 2 := (dk_inv (by omega) (by omega))
              have b_x_610 := dk_all_at (dg_I.row (lo := 0) (hi := 9999) I_598 sM_3 (by decide +kernel)) hin_611 f_x_610.symm
              have ex_610 := f_x_610.symm
              have zc_x_610 : 3 ≤ (x_610).toInt ∧ (x_610).toInt ≤ 7 := by rw [ex_610]; exact ⟨(zcH.1 _ ff_598_35_0).2.2.1, (zcH.1 _ ff_598_35_0).2.2.2.1⟩
              refine dg_callv hS hA1 hA (va_runV (As := []) (rest := []) F (c_m_statement l g D o S_598 tb tn sg9 x_593 ff_598_3_0 (by omega) x_594 ff_598_4_0 (by omega) x_595 ff_598_5_0 (by omega) le ff_598_2_0 (by omega) x_596 ff_598_8_0 (by omega) x_597 ff_598_34_0 (by omega) x_11 ff_598_35_0 (by omega) x_602 f_x_602 (by omega) x_604 f_x_604 (by omega) x_606 f_x_606 (by omega) x_608 f_x_608 (by omega) x_610 f_x_610 (by omega) (by omega) (by omega) srel_598_4 hG598 ZB_598 ZW_598 ZK_598 zcH.1 zcH.2 I_598 H.size) (cwV 0 hts (bw_V wB_1315 wB_1316 wB_1317 wB_297 wB_1314) rfl rfl rfl (by decide +kernel) ⟨Nat.le_of_ble_eq_true rfl, Nat.le_of_ble_eq_true rfl⟩) (dg_preV sM_0 rfl K ST hP hS hA1 hA) rfl rfl hl.1 rfl (lv_room (Nat.le_of_ble_eq_true rfl)) dX12_mine_194 ⟨Nat.le_of_ble_eq_true rfl, Nat.le_of_ble_eq_true rfl⟩) (fun S_612 hw_612 H locs hP hS => ?_)
              obtain ⟨I_612, m_612, w_612_0, w_612_1, w_612_2, w_612_3, w_612_4, w_612_5, -⟩ := hw_612
              have M_612 := dg_sm.tr M_598 m_612 (by decide) (by decide)
              obtain ⟨y_613, y_614, y_615, y_616, y_617, f_y_613, f_y_614, f_y_615, f_y_616, f_y_617, w_612_0⟩ := w_612_0
              have w_612_0 : ((y_614).toInt ≤ (y_615).toInt ∧ (y_615).toInt ≤ (le).toInt ∧ ((y_613).toInt ≠ 0 → (y_614).toInt + 1 ≤ (y_615).toInt)) ∧ (x_594).toInt ≤ (y_614).toInt ∧ ((x_596).toInt ≠ 0 → (y_616).toInt ≠ 0) ∧ ((y_616).toInt = 0 → (y_617).toInt ≤ (y_614).toInt) := w_612_0
              obtain ⟨⟨w_612_0_0, w_612_0_1, w_612_0_2⟩, w_612_0_3, w_612_0_4, w_612_0_5⟩ := w_612_0
              clear w_612_0_4
              have b_y_613 : 0 ≤ (y_613).toInt ∧ (y_613).toInt ≤ 3 := dg_I.intb (lo := 0) (hi := 3) I_612 sM_0 (by decide +kernel) f_y_613
              have b_y_614 : 0 ≤ (y_614).toInt ∧ (y_614).toInt ≤ 1600 := dg_I.intb (lo := 0) (hi := 1600) I_612 sM_0 (by decide +kernel) f_y_614
              have b_y_615 : 0 ≤ (y_615).toInt ∧ (y_615).toInt ≤ 1600 := dg_I.intb (lo := 0) (hi := 1600) I_612 sM_0 (by decide +kernel) f_y_615
              have b_y_616 : 0 ≤ (y_616).toInt ∧ (y_616).toInt ≤ 6 := dg_I.intb (lo := 0) (hi := 6) I_612 sM_0 (by decide +kernel) f_y_616
              have b_y_617 : 0 ≤ (y_617).toInt ∧ (y_617).toInt ≤ 1600 := dg_I.intb (lo := 0) (hi := 1600) I_612 sM_0 (by decide +kernel) f_y_617
              replace w_612_1 : ∀ k9 : Int32, S_612.1 0 8 = .int k9 → k9.toInt = 0 → ZCM S_612 ∧ ZVM S_612 := w_612_1
              replace w_612_2 : SOK tb tn x_596 (y_st (T_kd tb tn) (T_vl tb tn) sg9 (t_ix tb tn (x_594 : Int32).toNatClampNeg)) S_612 := w_612_2
              obtain ⟨x_618, ex_618⟩ : ∃ z, z = x_592 + 1 := ⟨_, rfl⟩
              have jx_618 : (x_618).toInt = (x_592).toInt + 1 := by rw [ex_618]; exact dk_addT rfl (by decide +kernel) (by omega) (by omega)
              refine lv_iinc (v := x_618) (lv' := [(1, .int x_618), (0, .ref (o + 0))]) hx hb dX12_mine_197 hl (k := 0) rfl (by rw [ex_618]; rfl) (by decide) rfl (fun ls hl => ?_)
              refine lv_aload_n hx hb dX12_mine_200 rfl (lv_at hl 1 rfl) ?_
              refine lv_iload_n hx hb dX12_mine_201 rfl (lv_at hl 0 rfl) ?_
              obtain ⟨x_619, f_x_619, b_x_619⟩ := dg_I.int (i := 0) (k := 6) (lo := 0) (hi := 9999) I_612 sM_0 (by decide +kernel)
              refine dg_callv hS hA1 hA (va_runV (As := [.int x_618]) (rest := []) F (c_m_finishes l g D o S_612 x_618 tb tn y_613 f_y_613 (by omega) y_614 f_y_614 (by omega) y_615 f_y_615 (by omega) le ((m_612.1 0 2 _ sM_0 (by decide)).trans ff_598_2_0) (by omega) y_616 f_y_616 (by omega) x_619 f_x_619 (by omega) (by omega) w_612_3 I_612 H.size) (cwV 1 hts (bw_V wB_1311 wB_1312 wB_1313 wB_297 wB_1310) rfl rfl rfl (by decide +kernel) ⟨Nat.le_of_ble_eq_true rfl, Nat.le_of_ble_eq_true rfl⟩) (dg_preV sM_0 rfl K ST hP hS hA1 hA) rfl rfl hl.1 rfl (lv_room (Nat.le_of_ble_eq_true rfl)) dX12_mine_202 ⟨Nat.le_of_ble_eq_true rfl, Nat.le_of_ble_eq_true rfl⟩) (fun S_620 hw_620 H locs hP hS => ?_)
              obtain ⟨I_620, m_620, w_620_0, w_620_1, -⟩ := hw_620
              have M_620 := dg_sm.tr M_612 m_620 (by decide) (by decide)
              obtain ⟨y_621, y_622, y_623, y_624, f_y_621, f_y_622, f_y_623, f_y_624, w_620_0⟩ := w_620_0
              have w_620_0 : (((y_622).toInt ≤ (y_623).toInt ∧ (y_623).toInt ≤ (le).toInt ∧ ((y_621).toInt ≠ 0 → (y_622).toInt + 1 ≤ (y_623).toInt)) ∧ (y_614).toInt ≤ (y_622).toInt ∧ ((y_616).toInt ≠ 0 → (y_624).toInt ≠ 0) ∧ ((y_624).toInt = 0 → (y_614).toInt + 1 ≤ (y_622).toInt)) ∧ m_hid ((y_616).toInt = 0 → ((y_624).toInt = 0 → g_tk (T_kd tb tn) (T_vl tb tn) 59 (t_ix tb tn (y_614 : Int32).toNatClampNeg) = some (t_ix tb tn (y_622 : Int32).toNatClampNeg) ∧ ((x_618).toInt = 80 → (T_kd tb tn (t_ix tb tn (y_622 : Int32).toNatClampNeg)).toInt = 0)) ∧ ((y_624).toInt ≠ 0 → g_tk (T_kd tb tn) (T_vl tb tn) 59 (t_ix tb tn (y_614 : Int32).toNatClampNeg) = none ∨ ((x_618).toInt = 80 ∧ ∃ k9 : Nat, g_tk (T_kd tb tn) (T_vl tb tn) 59 (t_ix tb tn (y_614 : Int32).toNatClampNeg) = some k9 ∧ (T_kd tb tn k9).toInt ≠ 0))) := w_620_0
              obtain ⟨⟨⟨w_620_0_0, w_620_0_1, w_620_0_2⟩, w_620_0_3, w_620_0_4, w_620_0_5⟩, w_620_0_6⟩ := w_620_0
              have b_y_621 : 0 ≤ (y_621).toInt ∧ (y_621).toInt ≤ 3 := dg_I.intb (lo := 0) (hi := 3) I_620 sM_0 (by decide +kernel) f_y_621
              have b_y_622 : 0 ≤ (y_622).toInt ∧ (y_622).toInt ≤ 1600 := dg_I.intb (lo := 0) (hi := 1600) I_620 sM_0 (by decide +kernel) f_y_622
              have b_y_623 : 0 ≤ (y_623).toInt ∧ (y_623).toInt ≤ 1600 := dg_I.intb (lo := 0) (hi := 1600) I_620 sM_0 (by decide +kernel) f_y_623
              have b_y_624 : 0 ≤ (y_624).toInt ∧ (y_624).toInt ≤ 6 := dg_I.intb (lo := 0) (hi := 6) I_620 sM_0 (by decide +kernel) f_y_624
              refine lv_goto (tgt := 179) hx hb dX12_mine_205 (by decide) ?_
              exact ih x_618 y_621 y_622 y_623 y_624 y_617 (by omega) (by omega) (by omega) (by omega) (by omega) (by omega) (by omega) S_620 I_620 M_620 (((m_620.1 0 2 _ sM_0 (by decide)).trans (m_612.1 0 2 _ sM_0 (by decide))).trans ff_598_2_0) (((m_620.1 0 1 _ sM_0 (by decide)).trans (m_612.1 0 1 _ sM_0 (by decide))).trans ff_598_1_0) (((m_620.1 0 13 _ sM_0 (by decide)).trans (m_612.1 0 13 _ sM_0 (by decide))).trans ff_598_13_0) (((m_620.1 0 35 _ sM_0 (by decide)).trans (m_612.1 0 35 _ sM_0 (by decide))).trans ff_598_35_0) f_y_621 f_y_622 f_y_623 f_y_624 ((m_620.1 0 34 _ sM_0 (by decide)).trans f_y_617) (ZBM.keep w_612_4 m_620 (by decide) (by decide) (by decide) (by decide) (by decide)) (ZSM.keep (ZSM.keep ZS_598 m_612 (by decide)) m_620 (by decide)) (ZWM.keep w_612_5 m_620 (by decide) (by decide) (by decide) (by decide)) (ZKM.keep (ZKM.keep ZK_598 m_612 (by decide) (by decide)) m_620 (by decide) (by decide)) (by omega) (by omega) (fun h8 => ⟨(ZCM.keep (w_612_1 _ f_y_616 (by omega)).1 m_620 (by decide) (by decide) (by decide) (by decide)), (ZVM.keep (w_612_1 _ f_y_616 (by omega)).2 m_620 (by decide) (by decide) (by decide) (by decide) (by decide))⟩) (m_hid.mk (MIN.stp hY598 (fun q9 => absurd q9.2 hkz598) (by have h9 := dk_clN x_592; omega) (y_one_n (by have h9 := dk_clN x_592; omega)) w_612_2 (by omega) f_y_616 f_y_614 (cnt := (x_618 : Int32)) (by have h8 := dk_clN (x_618 : Int32); have h9 := dk_clN x_592; omega) (fun q9 => w_620_0_6.out q9) (fun q9 => by omega) m_620 (by decide) (by decide) (by decide) (by decide) (by decide) (by decide) (by decide) (by decide) (by decide) )) w_620_1 _ _ hP hS _ (lv_sub hl [0, 1] rfl)
      have hz_625 : (1 : Int32).toInt = 1 := by decide +kernel
      have hz_626 : (0 : Int32).toInt = 0 := by decide +kernel
      have hz_627 : (1 : Int32).toInt = 1 := by decide +kernel
      have hz_628 : (0 : Int32).toInt = 0 := by decide +kernel
      have hz_629 : (0 : Int32).toInt = 0 := by decide +kernel
      have hz_630 : (1 : Int32).toInt = 1 := by decide +kernel
      exact L_599 ((7 - ((y_402 : Int32)).toInt + 7 * (1600 - ((y_400 : Int32)).toInt)).toNat + 1) 1 y_399 y_400 y_401 y_402 0 (by decide +kernel) (by omega) (by omega) (by omega) (by omega) (by decide +kernel) (by omega) S_397 I_397 M_397 (((m_397.1 0 2 _ sM_0 (by decide)).trans ((m_390.1 0 2 _ sM_0 (by decide)).trans ((m_384.1 0 2 _ sM_0 (by decide)).trans (dg_uF_ne e_382 (fun z => absurd z.2 (by decide)))))).trans ff_379_2_0) (((m_397.1 0 1 _ sM_0 (by decide)).trans ((m_390.1 0 1 _ sM_0 (by decide)).trans ((m_384.1 0 1 _ sM_0 (by decide)).trans (dg_uF_ne e_382 (fun z => absurd z.2 (by decide)))))).trans ff_379_1_0) (((m_397.1 0 13 _ sM_0 (by decide)).trans ((m_390.1 0 13 _ sM_0 (by decide)).trans ((m_384.1 0 13 _ sM_0 (by decide)).trans (dg_uF_ne e_382 (fun z => absurd z.2 (by decide)))))).trans ff_379_13_0) (((m_397.1 0 35 _ sM_0 (by decide)).trans ((m_390.1 0 35 _ sM_0 (by decide)).trans ((m_384.1 0 35 _ sM_0 (by decide)).trans (dg_uF_ne e_382 (fun z => absurd z.2 (by decide)))))).trans ff_379_35_0) f_y_399 f_y_400 f_y_401 f_y_402 (((m_397.1 0 34 _ sM_0 (by decide)).trans ((m_390.1 0 34 _ sM_0 (by decide)).trans (m_384.1 0 34 _ sM_0 (by decide)))).trans (dg_uF_at e_382)) (ZBM.keep w_390_4 m_397 (by decide) (by decide) (by decide) (by decide) (by decide)) (ZSM.keep (ZSM.keep (ZSM.keep (ZSM.keep ZS_379 (dg_sm.uF (WF := [(0, 34)]) (WA := []) dg_sm.rf e_382 sM_0 (by decide)) (by decide)) m_384 (by decide)) m_390 (by decide)) m_397 (by decide)) (ZWM.keep (ZWM.keep (ZWM.keep (ZWM.keep ZW_379 (dg_sm.uF (WF := [(0, 34)]) (WA := []) dg_sm.rf e_382 sM_0 (by decide)) (by decide) (by decide) (by decide) (by decide)) m_384 (by decide) (by decide) (by decide) (by decide)) m_390 (by decide) (by decide) (by decide) (by decide)) m_397 (by decide) (by decide) (by decide) (by decide)) (ZKM.keep (ZKM.keep (ZKM.keep (ZKM.keep ZK_379 (dg_sm.uF (WF := [(0, 34)]) (WA := []) dg_sm.rf e_382 sM_0 (by decide)) (by decide) (by decide)) m_384 (by decide) (by decide)) m_390 (by decide) (by decide)) m_397 (by decide) (by decide)) (by omega) (by omega) (fun h8 => ⟨(ZCM.keep (SEM.zc (w_390_1 _ f_y_395 (by omega)) (((m_390.1 0 35 _ sM_0 (by decide)).trans ((m_384.1 0 35 _ sM_0 (by decide)).trans (dg_uF_ne e_382 (fun z => absurd z.2 (by decide))))).trans ff_379_35_0) ((congrFun ((m_390.2 4 _ sM_4 (by decide)).1.trans ((m_384.2 4 _ sM_4 (by decide)).1.trans (dg_uF_f e_382 4))) _).trans frw_379_0) (by omega)) m_397 (by decide) (by decide) (by decide) (by decide)), (ZVM.keep (ZVM.keep (ZVM.keep ZV_382 m_384 (by decide) (by decide) (by decide) (by decide) (by decide)) m_390 (by decide) (by decide) (by decide) (by decide) (by decide)) m_397 (by decide) (by decide) (by decide) (by decide) (by decide))⟩) (m_hid.mk (MIN.stp y_at0 (fun q9 => absurd rfl q9.1) (by decide) (y_one_0t hsg9 (by omega)) w_390_2 (by omega) f_y_395 f_y_393 (cnt := (1 : Int32)) (by have h8 := dk_clN (1 : Int32); omega) (fun q9 => w_397_0_6.out q9) (fun q9 => by omega) m_397 (by decide) (by decide) (by decide) (by decide) (by decide) (by decide) (by decide) (by decide) (by decide) )) w_397_1 _ _ hP hS _ (lv_sub hl [0, 1] rfl)
    have L_649 : ∀ (n : Nat) (x_647 : Int32), (0 ≤ (x_647).toInt ∧ (x_647).toInt ≤ 6) → (3 * (x_11).toInt ≤ (x_647).toInt ∧ (x_647).toInt ≤ 3 * (x_11).toInt + 3) → ((7 - (x_647).toInt).toNat < n) → ∀ S_648 : dg_S, CM o S_648 → dg_sm shM [(0, 1), (0, 2), (0, 3), (0, 4), (0, 5), (0, 6), (0, 7), (0, 8), (0, 9), (0, 10), (0, 11), (0, 12), (0, 13), (0, 34), (0, 35), (0, 36), (0, 42), (0, 43), (0, 45), (0, 46), (0, 47), (0, 61), (0, 63), (0, 69)] [2, 3, 4, 5, 6, 7, 8, 9, 10, 11, 12, 13, 14, 15, 16, 17, 18, 19, 20, 21, 22, 23, 24, 25, 26, 27, 28, 29, 30, 31, 32, 33, 34, 35, 36, 37, 38] S S_648 → S_648.1 0 2 = .int le → S_648.1 0 1 = .int 0 → S_648.1 0 5 = .int 0 → S_648.1 0 8 = .int 0 → S_648.1 0 9 = .int (-1) → S_648.1 0 13 = .int x_10 → S_648.1 0 35 = .int x_11 → S_648.2.1 4 (x_11 : Int32).toNatClampNeg = 0 → S_648.2.1 5 (x_11 : Int32).toNatClampNeg = 3 → S_648.2.1 6 (x_11 : Int32).toNatClampNeg = 0 → S_648.2.1 8 (x_11 : Int32).toNatClampNeg = 0 → S_648.2.1 9 (x_11 : Int32).toNatClampNeg = 0 → S_648.2.1 12 (x_11 : Int32).toNatClampNeg = 0 → ZBM S_648 → ZSM S_648 → ZWM S_648 → ZKM S_648 → TZM tb tn S_648 → (NTM S_648 x_11 (x_647 : Int32).toInt) → ∀ (H : Heap) (locs : List Loc), va_P D vwCl (dg_w g shM o rfM S_648) H → va_S A s.heap H locs → ∀ ls : Array Slot, lv_has ls 2 [(1, .int x_647), (0, .ref (o + 0))] → W p l e ({ frames := 8, cells := 0, slots := 0, locals := 185 } : Room) s m args below meth c H locs 0 0 Q9 (F0 m 134 ls []) := by
      intro n
      induction n with
      | zero =>
        intro x_647 b_x_647 rel_0 hmu S_648 I_648 M_648 ff_648_2_0 ff_648_1_0 ff_648_5_0 ff_648_8_0 ff_648_9_0 ff_648_13_0 ff_648_35_0 frw_648_0 frw_648_1 frw_648_2 frw_648_3 frw_648_4 frw_648_5 ZB_648 ZS_648 ZW_648 ZK_648 TZ_648 srel_648_0 H locs hP hS ls hl
        omega
      | succ n ih =>
        intro x_647 b_x_647 rel_0 hmu S_648 I_648 M_648 ff_648_2_0 ff_648_1_0 ff_648_5_0 ff_648_8_0 ff_648_9_0 ff_648_13_0 ff_648_35_0 frw_648_0 frw_648_1 frw_648_2 frw_648_3 frw_648_4 frw_648_5 ZB_648 ZS_648 ZW_648 ZK_648 TZ_648 srel_648_0 H locs hP hS ls hl
        refine lv_iload_n hx hb dX12_mine_134 rfl (lv_at hl 0 rfl) ?_
        refine lv_iconst (v := 3) hx hb dX12_mine_135 (by decide +kernel) ?_
        refine lv_aload_n hx hb dX12_mine_136 rfl (lv_at hl 1 rfl) ?_
        refine dg_get (C := RX12) (T := TX12) (N := 77) hx hb hts (fun w h => bw_mem (wU_X12 w h)) hown K hP sM_0 rfl 35 (by decide) (hts _ (bw_mem wB_353)) (fun _ h9 => h9) (v := .int x_11) ff_648_35_0 dX12_mine_137 ?_
        refine lv_imul hx hb dX12_mine_140 ?_
        refine lv_topi (fun x_650 ex_650 => ?_)
        have jx_650 : (x_650).toInt = 3 * (x_11).toInt := by rw [ex_650]; exact dk_mulT (by decide +kernel) rfl (by omega) (by omega)
        refine lv_iconst (v := 3) hx hb dX12_mine_141 (by decide +kernel) ?_
        refine lv_iadd hx hb dX12_mine_142 ?_
        refine lv_topi (fun x_651 ex_651 => ?_)
        have jx_651 : (x_651).toInt = (x_650).toInt + 3 := by rw [ex_651]; exact dk_addT rfl (by decide +kernel) (by omega) (by omega)
        refine lv_icmp_ge (tgt := 159) hx hb dX12_mine_143 (by decide) (fun c_652 => ?_) (fun c_652 => ?_)
        · have jc_652 := dk_gec (k := (x_651).toInt) rfl c_652
          exact J_380 x_647 (by omega) S_648 I_648 M_648 ff_648_2_0 ff_648_1_0 ff_648_5_0 ff_648_8_0 ff_648_9_0 ff_648_13_0 ff_648_35_0 frw_648_0 frw_648_1 frw_648_2 frw_648_3 frw_648_4 frw_648_5 ZB_648 ZS_648 ZW_648 ZK_648 TZ_648 (by have h9 := srel_648_0; rw [show (x_647 : Int32).toInt = 3 * (x_11).toInt + 3 from by omega] at h9; exact h9) _ _ hP hS _ (lv_sub hl [0, 1] rfl)
        · have jc_652 := dk_ngec (k := (x_651).toInt) rfl c_652
          refine lv_aload_n hx hb dX12_mine_146 rfl (lv_at hl 1 rfl) ?_
          refine dg_get (C := RX12) (T := TX12) (N := 77) hx hb hts (fun w h => bw_mem (wU_X12 w h)) hown K hP sM_0 rfl 28 (by decide) (hts _ (bw_mem wB_449)) (fun _ h9 => h9) (v := .ref (o + 16)) (show S_648.1 0 28 = .ref (o + 16) from dg_I.rel (d := 16) I_648 sM_0 (by decide +kernel)) dX12_mine_147 ?_
          refine lv_iload_n hx hb dX12_mine_150 rfl (lv_at hl 0 rfl) ?_
          refine lv_iconst (v := (-1)) hx hb dX12_mine_151 (by decide +kernel) ?_
          have hin_653 : vp_in x_647 6 := (dk_inv (by omega) (by omega))
          have hz_655 : (-1 : Int32).toInt = (-1) := by decide +kernel
          refine dg_iast hx hb K hP hS hA1 sM_16 hin_653 dX12_mine_152 (fun S_654 e_654 H locs hP hS => ?_)
          have I_654 := dg_I.ufu (lo := (-1)) (hi := 1600) I_648 e_654 sM_16 (by decide +kernel) (show (-1) ≤ ((-1 : Int32)).toInt ∧ ((-1 : Int32)).toInt ≤ 1600 from (by decide +kernel))
          have M_654 := dg_sm.uf M_648 e_654 sM_16 (by decide)
          have ZW_654 : ZWM S_654 := ZWM.up1 (r := 16) ZW_648 (by decide) ff_648_13_0 (by omega) e_654 (by omega)
          obtain ⟨x_656, ex_656⟩ : ∃ z, z = x_647 + 1 := ⟨_, rfl⟩
          have jx_656 : (x_656).toInt = (x_647).toInt + 1 := by rw [ex_656]; exact dk_addT rfl (by decide +kernel) (by omega) (by omega)
          refine lv_iinc (v := x_656) (lv' := [(1, .int x_656), (0, .ref (o + 0))]) hx hb dX12_mine_153 hl (k := 0) rfl (by rw [ex_656]; rfl) (by decide) rfl (fun ls hl => ?_)
          refine lv_goto (tgt := 134) hx hb dX12_mine_156 (by decide) ?_
          exact ih x_656 (by omega) (by omega) (by omega) S_654 I_654 M_654 ((dg_uf_F e_654 0 2).trans ff_648_2_0) ((dg_uf_F e_654 0 1).trans ff_648_1_0) ((dg_uf_F e_654 0 5).trans ff_648_5_0) ((dg_uf_F e_654 0 8).trans ff_648_8_0) ((dg_uf_F e_654 0 9).trans ff_648_9_0) ((dg_uf_F e_654 0 13).trans ff_648_13_0) ((dg_uf_F e_654 0 35).trans ff_648_35_0) ((congrFun (dg_uf_ne e_654 (by decide)) _).trans frw_648_0) ((congrFun (dg_uf_ne e_654 (by decide)) _).trans frw_648_1) ((congrFun (dg_uf_ne e_654 (by decide)) _).trans frw_648_2) ((congrFun (dg_uf_ne e_654 (by decide)) _).trans frw_648_3) ((congrFun (dg_uf_ne e_654 (by decide)) _).trans frw_648_4) ((congrFun (dg_uf_ne e_654 (by decide)) _).trans frw_648_5) (ZBM.keep ZB_648 (dg_sm.uf (WF := []) (WA := [16]) dg_sm.rf e_654 sM_16 (by decide)) (by decide) (by decide) (by decide) (by decide) (by decide)) (ZSM.keep ZS_648 (dg_sm.uf (WF := []) (WA := [16]) dg_sm.rf e_654 sM_16 (by decide)) (by decide)) ZW_654 (ZKM.keep ZK_648 (dg_sm.uf (WF := []) (WA := [16]) dg_sm.rf e_654 sM_16 (by decide)) (by decide) (by decide)) (TZM.keep TZ_648 (dg_sm.uf (WF := []) (WA := [16]) dg_sm.rf e_654 sM_16 (by decide)) (by decide) (by decide)) (NTM.step srel_648_0 (by omega) (by omega) e_654 (by omega) (by omega)) _ _ hP hS _ (lv_sub hl [0, 1] rfl)
    exact L_649 ((7 - ((x_218 : Int32)).toInt).toNat + 1) x_218 (by omega) (by omega) (by omega) S_216 I_216 M_216 ff_216_2_0 ff_216_1_0 ff_216_5_0 ff_216_8_0 ff_216_9_0 ff_216_13_0 ff_216_35_0 frw_216_0 frw_216_1 frw_216_2 frw_216_3 frw_216_4 frw_216_5 ZB_216 ZS_216 ZW_216 ZK_216 TZ_216 (fun w h1 h2 => absurd h2 (by omega)) _ _ hP hS _ (lv_sub hl [0, 1] rfl)
  have L_672 : ∀ (n : Nat) (x_670 : Int32), (0 ≤ (x_670).toInt ∧ (x_670).toInt ≤ 64) → ((65 - (x_670).toInt).toNat < n) → ∀ S_671 : dg_S, CM o S_671 → dg_sm shM [(0, 1), (0, 2), (0, 3), (0, 4), (0, 5), (0, 6), (0, 7), (0, 8), (0, 9), (0, 10), (0, 11), (0, 12), (0, 13), (0, 34), (0, 35), (0, 36), (0, 42), (0, 43), (0, 45), (0, 46), (0, 47), (0, 61), (0, 63), (0, 69)] [2, 3, 4, 5, 6, 7, 8, 9, 10, 11, 12, 13, 14, 15, 16, 17, 18, 19, 20, 21, 22, 23, 24, 25, 26, 27, 28, 29, 30, 31, 32, 33, 34, 35, 36, 37, 38] S S_671 → S_671.1 0 2 = .int le → S_671.1 0 1 = .int 0 → S_671.1 0 5 = .int 0 → S_671.1 0 8 = .int 0 → S_671.1 0 9 = .int (-1) → S_671.1 0 13 = .int x_10 → S_671.1 0 35 = .int x_11 → S_671.2.1 4 (x_11 : Int32).toNatClampNeg = 0 → S_671.2.1 5 (x_11 : Int32).toNatClampNeg = 3 → S_671.2.1 6 (x_11 : Int32).toNatClampNeg = 0 → S_671.2.1 8 (x_11 : Int32).toNatClampNeg = 0 → S_671.2.1 9 (x_11 : Int32).toNatClampNeg = 0 → S_671.2.1 12 (x_11 : Int32).toNatClampNeg = 0 → ZBM S_671 → ZSM S_671 → ZWM S_671 → ZKM S_671 → TZM tb tn S_671 → ∀ (H : Heap) (locs : List Loc), va_P D vwCl (dg_w g shM o rfM S_671) H → va_S A s.heap H locs → ∀ ls : Array Slot, lv_has ls 2 [(1, .int x_670), (0, .ref (o + 0))] → W p l e ({ frames := 8, cells := 0, slots := 0, locals := 185 } : Room) s m args below meth c H locs 0 0 Q9 (F0 m 100 ls []) := by
    intro n
    induction n with
    | zero =>
      intro x_670 b_x_670 hmu S_671 I_671 M_671 ff_671_2_0 ff_671_1_0 ff_671_5_0 ff_671_8_0 ff_671_9_0 ff_671_13_0 ff_671_35_0 frw_671_0 frw_671_1 frw_671_2 frw_671_3 frw_671_4 frw_671_5 ZB_671 ZS_671 ZW_671 ZK_671 TZ_671 H locs hP hS ls hl
      omega
    | succ n ih =>
      intro x_670 b_x_670 hmu S_671 I_671 M_671 ff_671_2_0 ff_671_1_0 ff_671_5_0 ff_671_8_0 ff_671_9_0 ff_671_13_0 ff_671_35_0 frw_671_0 frw_671_1 frw_671_2 frw_671_3 frw_671_4 frw_671_5 ZB_671 ZS_671 ZW_671 ZK_671 TZ_671 H locs hP hS ls hl
      refine lv_iload_n hx hb dX12_mine_100 rfl (lv_at hl 0 rfl) ?_
      refine lv_bipush (v := 64) hx hb dX12_mine_101 (by decide +kernel) ?_
      refine lv_icmp_ge (tgt := 127) hx hb dX12_mine_103 (by decide) (fun c_673 => ?_) (fun c_673 => ?_)
      · have jc_673 := dk_gec (k := 64) (by decide +kernel) c_673
        exact J_217 x_670 (by omega) S_671 I_671 M_671 ff_671_2_0 ff_671_1_0 ff_671_5_0 ff_671_8_0 ff_671_9_0 ff_671_13_0 ff_671_35_0 frw_671_0 frw_671_1 frw_671_2 frw_671_3 frw_671_4 frw_671_5 ZB_671 ZS_671 ZW_671 ZK_671 TZ_671 _ _ hP hS _ (lv_sub hl [0, 1] rfl)
      · have jc_673 := dk_ngec (k := 64) (by decide +kernel) c_673
        refine lv_aload_n hx hb dX12_mine_106 rfl (lv_at hl 1 rfl) ?_
        refine dg_get (C := RX12) (T := TX12) (N := 77) hx hb hts (fun w h => bw_mem (wU_X12 w h)) hown K hP sM_0 rfl 19 (by decide) (hts _ (bw_mem wB_386)) (fun _ h9 => h9) (v := .ref (o + 7)) (show S_671.1 0 19 = .ref (o + 7) from dg_I.rel (d := 7) I_671 sM_0 (by decide +kernel)) dX12_mine_107 ?_
        refine lv_bipush (v := 64) hx hb dX12_mine_110 (by decide +kernel) ?_
        refine lv_aload_n hx hb dX12_mine_112 rfl (lv_at hl 1 rfl) ?_
        refine dg_get (C := RX12) (T := TX12) (N := 77) hx hb hts (fun w h => bw_mem (wU_X12 w h)) hown K hP sM_0 rfl 35 (by decide) (hts _ (bw_mem wB_353)) (fun _ h9 => h9) (v := .int x_11) ff_671_35_0 dX12_mine_113 ?_
        refine lv_imul hx hb dX12_mine_116 ?_
        refine lv_topi (fun x_674 ex_674 => ?_)
        have jx_674 : (x_674).toInt = 64 * (x_11).toInt := by rw [ex_674]; exact dk_mulT (by decide +kernel) rfl (by omega) (by omega)
        refine lv_iload_n hx hb dX12_mine_117 rfl (lv_at hl 0 rfl) ?_
        refine lv_iadd hx hb dX12_mine_118 ?_
        refine lv_topi (fun x_675 ex_675 => ?_)
        have jx_675 : (x_675).toInt = (x_674).toInt + (x_670).toInt := by rw [ex_675]; exact dk_addT rfl rfl (by omega) (by omega)
        refine lv_iconst (v := 5) hx hb dX12_mine_119 (by decide +kernel) ?_
        have hin_676 : vp_in x_675 128 := (dk_inv (by omega) (by omega))
        have hz_678 : (5 : Int32).toInt = 5 := by decide +kernel
        refine dg_iast hx hb K hP hS hA1 sM_7 hin_676 dX12_mine_120 (fun S_677 e_677 H locs hP hS => ?_)
        have I_677 := dg_I.ufu (lo := 0) (hi := 9) I_671 e_677 sM_7 (by decide +kernel) (show 0 ≤ ((5 : Int32)).toInt ∧ ((5 : Int32)).toInt ≤ 9 from (by decide +kernel))
        have M_677 := dg_sm.uf M_671 e_677 sM_7 (by decide)
        obtain ⟨x_679, ex_679⟩ : ∃ z, z = x_670 + 1 := ⟨_, rfl⟩
        have jx_679 : (x_679).toInt = (x_670).toInt + 1 := by rw [ex_679]; exact dk_addT rfl (by decide +kernel) (by omega) (by omega)
        refine lv_iinc (v := x_679) (lv' := [(1, .int x_679), (0, .ref (o + 0))]) hx hb dX12_mine_121 hl (k := 0) rfl (by rw [ex_679]; rfl) (by decide) rfl (fun ls hl => ?_)
        refine lv_goto (tgt := 100) hx hb dX12_mine_124 (by decide) ?_
        exact ih x_679 (by omega) (by omega) S_677 I_677 M_677 ((dg_uf_F e_677 0 2).trans ff_671_2_0) ((dg_uf_F e_677 0 1).trans ff_671_1_0) ((dg_uf_F e_677 0 5).trans ff_671_5_0) ((dg_uf_F e_677 0 8).trans ff_671_8_0) ((dg_uf_F e_677 0 9).trans ff_671_9_0) ((dg_uf_F e_677 0 13).trans ff_671_13_0) ((dg_uf_F e_677 0 35).trans ff_671_35_0) ((congrFun (dg_uf_ne e_677 (by decide)) _).trans frw_671_0) ((congrFun (dg_uf_ne e_677 (by decide)) _).trans frw_671_1) ((congrFun (dg_uf_ne e_677 (by decide)) _).trans frw_671_2) ((congrFun (dg_uf_ne e_677 (by decide)) _).trans frw_671_3) ((congrFun (dg_uf_ne e_677 (by decide)) _).trans frw_671_4) ((congrFun (dg_uf_ne e_677 (by decide)) _).trans frw_671_5) (ZBM.keep ZB_671 (dg_sm.uf (WF := []) (WA := [7]) dg_sm.rf e_677 sM_7 (by decide)) (by decide) (by decide) (by decide) (by decide) (by decide)) (ZSM.keep ZS_671 (dg_sm.uf (WF := []) (WA := [7]) dg_sm.rf e_677 sM_7 (by decide)) (by decide)) (ZWM.keep ZW_671 (dg_sm.uf (WF := []) (WA := [7]) dg_sm.rf e_677 sM_7 (by decide)) (by decide) (by decide) (by decide) (by decide)) (ZKM.keep ZK_671 (dg_sm.uf (WF := []) (WA := [7]) dg_sm.rf e_677 sM_7 (by decide)) (by decide) (by decide)) (TZM.keep TZ_671 (dg_sm.uf (WF := []) (WA := [7]) dg_sm.rf e_677 sM_7 (by decide)) (by decide) (by decide)) _ _ hP hS _ (lv_sub hl [0, 1] rfl)
  have hz_680 : (0 : Int32).toInt = 0 := by decide +kernel
  have hz_681 : (0 : Int32).toInt = 0 := by decide +kernel
  exact L_672 ((65 - ((0 : Int32)).toInt).toNat + 1) 0 (by decide +kernel) (by omega) S_29 I_29 M_29 (((dg_uf_F e_29 0 2).trans ((dg_uf_F e_26 0 2).trans ((dg_uf_F e_23 0 2).trans ((dg_uf_F e_20 0 2).trans ((dg_uf_F e_17 0 2).trans ((dg_uf_F e_14 0 2).trans ((dg_uF_ne e_12 (fun z => absurd z.2 (by decide))).trans ((dg_uF_ne e_9 (fun z => absurd z.2 (by decide))).trans ((dg_uF_ne e_7 (fun z => absurd z.2 (by decide))).trans ((dg_uF_ne e_5 (fun z => absurd z.2 (by decide))).trans (dg_uF_ne e_3 (fun z => absurd z.2 (by decide))))))))))))).trans (dg_uF_at e_1)) (((dg_uf_F e_29 0 1).trans ((dg_uf_F e_26 0 1).trans ((dg_uf_F e_23 0 1).trans ((dg_uf_F e_20 0 1).trans ((dg_uf_F e_17 0 1).trans ((dg_uf_F e_14 0 1).trans ((dg_uF_ne e_12 (fun z => absurd z.2 (by decide))).trans ((dg_uF_ne e_9 (fun z => absurd z.2 (by decide))).trans ((dg_uF_ne e_7 (fun z => absurd z.2 (by decide))).trans (dg_uF_ne e_5 (fun z => absurd z.2 (by decide)))))))))))).trans (dg_uF_at e_3)) (((dg_uf_F e_29 0 5).trans ((dg_uf_F e_26 0 5).trans ((dg_uf_F e_23 0 5).trans ((dg_uf_F e_20 0 5).trans ((dg_uf_F e_17 0 5).trans ((dg_uf_F e_14 0 5).trans ((dg_uF_ne e_12 (fun z => absurd z.2 (by decide))).trans ((dg_uF_ne e_9 (fun z => absurd z.2 (by decide))).trans (dg_uF_ne e_7 (fun z => absurd z.2 (by decide))))))))))).trans (dg_uF_at e_5)) (((dg_uf_F e_29 0 8).trans ((dg_uf_F e_26 0 8).trans ((dg_uf_F e_23 0 8).trans ((dg_uf_F e_20 0 8).trans ((dg_uf_F e_17 0 8).trans ((dg_uf_F e_14 0 8).trans ((dg_uF_ne e_12 (fun z => absurd z.2 (by decide))).trans (dg_uF_ne e_9 (fun z => absurd z.2 (by decide)))))))))).trans (dg_uF_at e_7)) (((dg_uf_F e_29 0 9).trans ((dg_uf_F e_26 0 9).trans ((dg_uf_F e_23 0 9).trans ((dg_uf_F e_20 0 9).trans ((dg_uf_F e_17 0 9).trans ((dg_uf_F e_14 0 9).trans (dg_uF_ne e_12 (fun z => absurd z.2 (by decide))))))))).trans (dg_uF_at e_9)) (((dg_uf_F e_29 0 13).trans ((dg_uf_F e_26 0 13).trans ((dg_uf_F e_23 0 13).trans ((dg_uf_F e_20 0 13).trans ((dg_uf_F e_17 0 13).trans ((dg_uf_F e_14 0 13).trans (dg_uF_ne e_12 (fun z => absurd z.2 (by decide))))))))).trans f_x_10) (((dg_uf_F e_29 0 35).trans ((dg_uf_F e_26 0 35).trans ((dg_uf_F e_23 0 35).trans ((dg_uf_F e_20 0 35).trans ((dg_uf_F e_17 0 35).trans (dg_uf_F e_14 0 35)))))).trans (dg_uF_at e_12)) ((congrFun ((dg_uf_ne e_29 (by decide)).trans ((dg_uf_ne e_26 (by decide)).trans ((dg_uf_ne e_23 (by decide)).trans ((dg_uf_ne e_20 (by decide)).trans (dg_uf_ne e_17 (by decide)))))) _).trans ((congrFun (dg_uf_at e_14) _).trans (dg_upd_at rfl))) ((congrFun ((dg_uf_ne e_29 (by decide)).trans ((dg_uf_ne e_26 (by decide)).trans ((dg_uf_ne e_23 (by decide)).trans (dg_uf_ne e_20 (by decide))))) _).trans ((congrFun (dg_uf_at e_17) _).trans (dg_upd_at rfl))) ((congrFun ((dg_uf_ne e_29 (by decide)).trans ((dg_uf_ne e_26 (by decide)).trans (dg_uf_ne e_23 (by decide)))) _).trans ((congrFun (dg_uf_at e_20) _).trans (dg_upd_at rfl))) ((congrFun ((dg_uf_ne e_29 (by decide)).trans (dg_uf_ne e_26 (by decide))) _).trans ((congrFun (dg_uf_at e_23) _).trans (dg_upd_at rfl))) ((congrFun (dg_uf_ne e_29 (by decide)) _).trans ((congrFun (dg_uf_at e_26) _).trans (dg_upd_at rfl))) ((congrFun (dg_uf_at e_29) _).trans (dg_upd_at rfl)) (ZBM.keep (ZBM.keep (ZBM.keep (ZBM.keep (ZBM.keep ZB_14 (dg_sm.uf (WF := []) (WA := [5]) dg_sm.rf e_17 sM_5 (by decide)) (by decide) (by decide) (by decide) (by decide) (by decide)) (dg_sm.uf (WF := []) (WA := [6]) dg_sm.rf e_20 sM_6 (by decide)) (by decide) (by decide) (by decide) (by decide) (by decide)) (dg_sm.uf (WF := []) (WA := [8]) dg_sm.rf e_23 sM_8 (by decide)) (by decide) (by decide) (by decide) (by decide) (by decide)) (dg_sm.uf (WF := []) (WA := [9]) dg_sm.rf e_26 sM_9 (by decide)) (by decide) (by decide) (by decide) (by decide) (by decide)) (dg_sm.uf (WF := []) (WA := [12]) dg_sm.rf e_29 sM_12 (by decide)) (by decide) (by decide) (by decide) (by decide) (by decide)) (ZSM.keep (ZSM.keep (ZSM.keep (ZSM.keep (ZSM.keep (ZSM.keep (ZSM.keep (ZSM.keep (ZSM.keep (ZSM.keep (ZSM.keep (ZSM.keep ZS (dg_sm.uF (WF := [(0, 2)]) (WA := []) dg_sm.rf e_1 sM_0 (by decide)) (by decide)) (dg_sm.uF (WF := [(0, 1)]) (WA := []) dg_sm.rf e_3 sM_0 (by decide)) (by decide)) (dg_sm.uF (WF := [(0, 5)]) (WA := []) dg_sm.rf e_5 sM_0 (by decide)) (by decide)) (dg_sm.uF (WF := [(0, 8)]) (WA := []) dg_sm.rf e_7 sM_0 (by decide)) (by decide)) (dg_sm.uF (WF := [(0, 9)]) (WA := []) dg_sm.rf e_9 sM_0 (by decide)) (by decide)) (dg_sm.uF (WF := [(0, 35)]) (WA := []) dg_sm.rf e_12 sM_0 (by decide)) (by decide)) (dg_sm.uf (WF := []) (WA := [4]) dg_sm.rf e_14 sM_4 (by decide)) (by decide)) (dg_sm.uf (WF := []) (WA := [5]) dg_sm.rf e_17 sM_5 (by decide)) (by decide)) (dg_sm.uf (WF := []) (WA := [6]) dg_sm.rf e_20 sM_6 (by decide)) (by decide)) (dg_sm.uf (WF := []) (WA := [8]) dg_sm.rf e_23 sM_8 (by decide)) (by decide)) (dg_sm.uf (WF := []) (WA := [9]) dg_sm.rf e_26 sM_9 (by decide)) (by decide)) (dg_sm.uf (WF := []) (WA := [12]) dg_sm.rf e_29 sM_12 (by decide)) (by decide)) (ZWM.keep (ZWM.keep (ZWM.keep (ZWM.keep (ZWM.keep (ZWM.keep (ZWM.keep (ZWM.keep (ZWM.keep (ZWM.keep (ZWM.keep (ZWM.keep ZW (dg_sm.uF (WF := [(0, 2)]) (WA := []) dg_sm.rf e_1 sM_0 (by decide)) (by decide) (by decide) (by decide) (by decide)) (dg_sm.uF (WF := [(0, 1)]) (WA := []) dg_sm.rf e_3 sM_0 (by decide)) (by decide) (by decide) (by decide) (by decide)) (dg_sm.uF (WF := [(0, 5)]) (WA := []) dg_sm.rf e_5 sM_0 (by decide)) (by decide) (by decide) (by decide) (by decide)) (dg_sm.uF (WF := [(0, 8)]) (WA := []) dg_sm.rf e_7 sM_0 (by decide)) (by decide) (by decide) (by decide) (by decide)) (dg_sm.uF (WF := [(0, 9)]) (WA := []) dg_sm.rf e_9 sM_0 (by decide)) (by decide) (by decide) (by decide) (by decide)) (dg_sm.uF (WF := [(0, 35)]) (WA := []) dg_sm.rf e_12 sM_0 (by decide)) (by decide) (by decide) (by decide) (by decide)) (dg_sm.uf (WF := []) (WA := [4]) dg_sm.rf e_14 sM_4 (by decide)) (by decide) (by decide) (by decide) (by decide)) (dg_sm.uf (WF := []) (WA := [5]) dg_sm.rf e_17 sM_5 (by decide)) (by decide) (by decide) (by decide) (by decide)) (dg_sm.uf (WF := []) (WA := [6]) dg_sm.rf e_20 sM_6 (by decide)) (by decide) (by decide) (by decide) (by decide)) (dg_sm.uf (WF := []) (WA := [8]) dg_sm.rf e_23 sM_8 (by decide)) (by decide) (by decide) (by decide) (by decide)) (dg_sm.uf (WF := []) (WA := [9]) dg_sm.rf e_26 sM_9 (by decide)) (by decide) (by decide) (by decide) (by decide)) (dg_sm.uf (WF := []) (WA := [12]) dg_sm.rf e_29 sM_12 (by decide)) (by decide) (by decide) (by decide) (by decide)) (ZKM.keep (ZKM.keep (ZKM.keep (ZKM.keep (ZKM.keep (ZKM.keep ZK_12 (dg_sm.uf (WF := []) (WA := [4]) dg_sm.rf e_14 sM_4 (by decide)) (by decide) (by decide)) (dg_sm.uf (WF := []) (WA := [5]) dg_sm.rf e_17 sM_5 (by decide)) (by decide) (by decide)) (dg_sm.uf (WF := []) (WA := [6]) dg_sm.rf e_20 sM_6 (by decide)) (by decide) (by decide)) (dg_sm.uf (WF := []) (WA := [8]) dg_sm.rf e_23 sM_8 (by decide)) (by decide) (by decide)) (dg_sm.uf (WF := []) (WA := [9]) dg_sm.rf e_26 sM_9 (by decide)) (by decide) (by decide)) (dg_sm.uf (WF := []) (WA := [12]) dg_sm.rf e_29 sM_12 (by decide)) (by decide) (by decide)) (TZM.keep (TZM.keep (TZM.keep (TZM.keep (TZM.keep (TZM.keep (TZM.keep (TZM.keep (TZM.keep (TZM.keep (TZM.keep TZ_1 (dg_sm.uF (WF := [(0, 1)]) (WA := []) dg_sm.rf e_3 sM_0 (by decide)) (by decide) (by decide)) (dg_sm.uF (WF := [(0, 5)]) (WA := []) dg_sm.rf e_5 sM_0 (by decide)) (by decide) (by decide)) (dg_sm.uF (WF := [(0, 8)]) (WA := []) dg_sm.rf e_7 sM_0 (by decide)) (by decide) (by decide)) (dg_sm.uF (WF := [(0, 9)]) (WA := []) dg_sm.rf e_9 sM_0 (by decide)) (by decide) (by decide)) (dg_sm.uF (WF := [(0, 35)]) (WA := []) dg_sm.rf e_12 sM_0 (by decide)) (by decide) (by decide)) (dg_sm.uf (WF := []) (WA := [4]) dg_sm.rf e_14 sM_4 (by decide)) (by decide) (by decide)) (dg_sm.uf (WF := []) (WA := [5]) dg_sm.rf e_17 sM_5 (by decide)) (by decide) (by decide)) (dg_sm.uf (WF := []) (WA := [6]) dg_sm.rf e_20 sM_6 (by decide)) (by decide) (by decide)) (dg_sm.uf (WF := []) (WA := [8]) dg_sm.rf e_23 sM_8 (by decide)) (by decide) (by decide)) (dg_sm.uf (WF := []) (WA := [9]) dg_sm.rf e_26 sM_9 (by decide)) (by decide) (by decide)) (dg_sm.uf (WF := []) (WA := [12]) dg_sm.rf e_29 sM_12 (by decide)) (by decide) (by decide)) _ _ hP hS _ (lv_sub hl [0, 1] rfl)
