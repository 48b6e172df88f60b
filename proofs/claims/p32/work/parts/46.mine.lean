/-! 46.mine.lean.txt -/
theorem dX12_mine_0 : decode cX12_mine 0 = .ok (.aload_n 0, 1) := by decide +kernel
theorem dX12_mine_1 : decode cX12_mine 1 = .ok (.aload_n 0, 1) := by decide +kernel
theorem dX12_mine_2 : decode cX12_mine 2 = .ok (.getfield 13, 3) := by decide +kernel
theorem dX12_mine_5 : decode cX12_mine 5 = .ok (.putfield 17, 3) := by decide +kernel
theorem dX12_mine_8 : decode cX12_mine 8 = .ok (.aload_n 0, 1) := by decide +kernel
theorem dX12_mine_9 : decode cX12_mine 9 = .ok (.iconst 0, 1) := by decide +kernel
theorem dX12_mine_10 : decode cX12_mine 10 = .ok (.putfield 13, 3) := by decide +kernel
theorem dX12_mine_13 : decode cX12_mine 13 = .ok (.aload_n 0, 1) := by decide +kernel
theorem dX12_mine_14 : decode cX12_mine 14 = .ok (.iconst 0, 1) := by decide +kernel
theorem dX12_mine_15 : decode cX12_mine 15 = .ok (.putfield 26, 3) := by decide +kernel
theorem dX12_mine_18 : decode cX12_mine 18 = .ok (.aload_n 0, 1) := by decide +kernel
theorem dX12_mine_19 : decode cX12_mine 19 = .ok (.iconst 0, 1) := by decide +kernel
theorem dX12_mine_20 : decode cX12_mine 20 = .ok (.putfield 36, 3) := by decide +kernel
theorem dX12_mine_23 : decode cX12_mine 23 = .ok (.aload_n 0, 1) := by decide +kernel
theorem dX12_mine_24 : decode cX12_mine 24 = .ok (.iconst (-1), 1) := by decide +kernel
theorem dX12_mine_25 : decode cX12_mine 25 = .ok (.putfield 39, 3) := by decide +kernel
theorem dX12_mine_28 : decode cX12_mine 28 = .ok (.aload_n 0, 1) := by decide +kernel
theorem dX12_mine_29 : decode cX12_mine 29 = .ok (.iconst 1, 1) := by decide +kernel
theorem dX12_mine_30 : decode cX12_mine 30 = .ok (.aload_n 0, 1) := by decide +kernel
theorem dX12_mine_31 : decode cX12_mine 31 = .ok (.getfield 51, 3) := by decide +kernel
theorem dX12_mine_34 : decode cX12_mine 34 = .ok (.isub, 1) := by decide +kernel
theorem dX12_mine_35 : decode cX12_mine 35 = .ok (.putfield 118, 3) := by decide +kernel
theorem dX12_mine_38 : decode cX12_mine 38 = .ok (.aload_n 0, 1) := by decide +kernel
theorem dX12_mine_39 : decode cX12_mine 39 = .ok (.getfield 60, 3) := by decide +kernel
theorem dX12_mine_42 : decode cX12_mine 42 = .ok (.aload_n 0, 1) := by decide +kernel
theorem dX12_mine_43 : decode cX12_mine 43 = .ok (.getfield 118, 3) := by decide +kernel
theorem dX12_mine_46 : decode cX12_mine 46 = .ok (.iconst 0, 1) := by decide +kernel
theorem dX12_mine_47 : decode cX12_mine 47 = .ok (.iastore, 1) := by decide +kernel
theorem dX12_mine_48 : decode cX12_mine 48 = .ok (.aload_n 0, 1) := by decide +kernel
theorem dX12_mine_49 : decode cX12_mine 49 = .ok (.getfield 63, 3) := by decide +kernel
theorem dX12_mine_52 : decode cX12_mine 52 = .ok (.aload_n 0, 1) := by decide +kernel
theorem dX12_mine_53 : decode cX12_mine 53 = .ok (.getfield 118, 3) := by decide +kernel
theorem dX12_mine_56 : decode cX12_mine 56 = .ok (.iconst 3, 1) := by decide +kernel
theorem dX12_mine_57 : decode cX12_mine 57 = .ok (.iastore, 1) := by decide +kernel
theorem dX12_mine_58 : decode cX12_mine 58 = .ok (.aload_n 0, 1) := by decide +kernel
theorem dX12_mine_59 : decode cX12_mine 59 = .ok (.getfield 66, 3) := by decide +kernel
theorem dX12_mine_62 : decode cX12_mine 62 = .ok (.aload_n 0, 1) := by decide +kernel
theorem dX12_mine_63 : decode cX12_mine 63 = .ok (.getfield 118, 3) := by decide +kernel
theorem dX12_mine_66 : decode cX12_mine 66 = .ok (.iconst 0, 1) := by decide +kernel
theorem dX12_mine_67 : decode cX12_mine 67 = .ok (.iastore, 1) := by decide +kernel
theorem dX12_mine_68 : decode cX12_mine 68 = .ok (.aload_n 0, 1) := by decide +kernel
theorem dX12_mine_69 : decode cX12_mine 69 = .ok (.getfield 72, 3) := by decide +kernel
theorem dX12_mine_72 : decode cX12_mine 72 = .ok (.aload_n 0, 1) := by decide +kernel
theorem dX12_mine_73 : decode cX12_mine 73 = .ok (.getfield 118, 3) := by decide +kernel
theorem dX12_mine_76 : decode cX12_mine 76 = .ok (.iconst 0, 1) := by decide +kernel
theorem dX12_mine_77 : decode cX12_mine 77 = .ok (.iastore, 1) := by decide +kernel
theorem dX12_mine_78 : decode cX12_mine 78 = .ok (.aload_n 0, 1) := by decide +kernel
theorem dX12_mine_79 : decode cX12_mine 79 = .ok (.getfield 75, 3) := by decide +kernel
theorem dX12_mine_82 : decode cX12_mine 82 = .ok (.aload_n 0, 1) := by decide +kernel
theorem dX12_mine_83 : decode cX12_mine 83 = .ok (.getfield 118, 3) := by decide +kernel
theorem dX12_mine_86 : decode cX12_mine 86 = .ok (.iconst 0, 1) := by decide +kernel
theorem dX12_mine_87 : decode cX12_mine 87 = .ok (.iastore, 1) := by decide +kernel
theorem dX12_mine_88 : decode cX12_mine 88 = .ok (.aload_n 0, 1) := by decide +kernel
theorem dX12_mine_89 : decode cX12_mine 89 = .ok (.getfield 84, 3) := by decide +kernel
theorem dX12_mine_92 : decode cX12_mine 92 = .ok (.aload_n 0, 1) := by decide +kernel
theorem dX12_mine_93 : decode cX12_mine 93 = .ok (.getfield 118, 3) := by decide +kernel
theorem dX12_mine_96 : decode cX12_mine 96 = .ok (.iconst 0, 1) := by decide +kernel
theorem dX12_mine_97 : decode cX12_mine 97 = .ok (.iastore, 1) := by decide +kernel
theorem dX12_mine_98 : decode cX12_mine 98 = .ok (.iconst 0, 1) := by decide +kernel
theorem dX12_mine_99 : decode cX12_mine 99 = .ok (.istore_n 1, 1) := by decide +kernel
theorem dX12_mine_100 : decode cX12_mine 100 = .ok (.iload_n 1, 1) := by decide +kernel
theorem dX12_mine_101 : decode cX12_mine 101 = .ok (.bipush 64, 2) := by decide +kernel
theorem dX12_mine_103 : decode cX12_mine 103 = .ok (.if_icmp .ge 24, 3) := by decide +kernel
theorem dX12_mine_106 : decode cX12_mine 106 = .ok (.aload_n 0, 1) := by decide +kernel
theorem dX12_mine_107 : decode cX12_mine 107 = .ok (.getfield 69, 3) := by decide +kernel
theorem dX12_mine_110 : decode cX12_mine 110 = .ok (.bipush 64, 2) := by decide +kernel
theorem dX12_mine_112 : decode cX12_mine 112 = .ok (.aload_n 0, 1) := by decide +kernel
theorem dX12_mine_113 : decode cX12_mine 113 = .ok (.getfield 118, 3) := by decide +kernel
theorem dX12_mine_116 : decode cX12_mine 116 = .ok (.imul, 1) := by decide +kernel
theorem dX12_mine_117 : decode cX12_mine 117 = .ok (.iload_n 1, 1) := by decide +kernel
theorem dX12_mine_118 : decode cX12_mine 118 = .ok (.iadd, 1) := by decide +kernel
theorem dX12_mine_119 : decode cX12_mine 119 = .ok (.iconst 5, 1) := by decide +kernel
theorem dX12_mine_120 : decode cX12_mine 120 = .ok (.iastore, 1) := by decide +kernel
theorem dX12_mine_121 : decode cX12_mine 121 = .ok (.iinc 1 1, 3) := by decide +kernel
theorem dX12_mine_124 : decode cX12_mine 124 = .ok (.goto (-24), 3) := by decide +kernel
theorem dX12_mine_127 : decode cX12_mine 127 = .ok (.iconst 3, 1) := by decide +kernel
theorem dX12_mine_128 : decode cX12_mine 128 = .ok (.aload_n 0, 1) := by decide +kernel
theorem dX12_mine_129 : decode cX12_mine 129 = .ok (.getfield 118, 3) := by decide +kernel
theorem dX12_mine_132 : decode cX12_mine 132 = .ok (.imul, 1) := by decide +kernel
theorem dX12_mine_133 : decode cX12_mine 133 = .ok (.istore_n 1, 1) := by decide +kernel
theorem dX12_mine_134 : decode cX12_mine 134 = .ok (.iload_n 1, 1) := by decide +kernel
theorem dX12_mine_135 : decode cX12_mine 135 = .ok (.iconst 3, 1) := by decide +kernel
theorem dX12_mine_136 : decode cX12_mine 136 = .ok (.aload_n 0, 1) := by decide +kernel
theorem dX12_mine_137 : decode cX12_mine 137 = .ok (.getfield 118, 3) := by decide +kernel
theorem dX12_mine_140 : decode cX12_mine 140 = .ok (.imul, 1) := by decide +kernel
theorem dX12_mine_141 : decode cX12_mine 141 = .ok (.iconst 3, 1) := by decide +kernel
theorem dX12_mine_142 : decode cX12_mine 142 = .ok (.iadd, 1) := by decide +kernel
theorem dX12_mine_143 : decode cX12_mine 143 = .ok (.if_icmp .ge 16, 3) := by decide +kernel
theorem dX12_mine_146 : decode cX12_mine 146 = .ok (.aload_n 0, 1) := by decide +kernel
theorem dX12_mine_147 : decode cX12_mine 147 = .ok (.getfield 96, 3) := by decide +kernel
theorem dX12_mine_150 : decode cX12_mine 150 = .ok (.iload_n 1, 1) := by decide +kernel
theorem dX12_mine_151 : decode cX12_mine 151 = .ok (.iconst (-1), 1) := by decide +kernel
theorem dX12_mine_152 : decode cX12_mine 152 = .ok (.iastore, 1) := by decide +kernel
theorem dX12_mine_153 : decode cX12_mine 153 = .ok (.iinc 1 1, 3) := by decide +kernel
theorem dX12_mine_156 : decode cX12_mine 156 = .ok (.goto (-22), 3) := by decide +kernel
theorem dX12_mine_159 : decode cX12_mine 159 = .ok (.aload_n 0, 1) := by decide +kernel
theorem dX12_mine_160 : decode cX12_mine 160 = .ok (.iconst 0, 1) := by decide +kernel
theorem dX12_mine_161 : decode cX12_mine 161 = .ok (.putfield 115, 3) := by decide +kernel
theorem dX12_mine_164 : decode cX12_mine 164 = .ok (.iconst 1, 1) := by decide +kernel
theorem dX12_mine_165 : decode cX12_mine 165 = .ok (.istore_n 1, 1) := by decide +kernel
theorem dX12_mine_166 : decode cX12_mine 166 = .ok (.aload_n 0, 1) := by decide +kernel
theorem dX12_mine_167 : decode cX12_mine 167 = .ok (.invokevirtual 272, 3) := by decide +kernel
theorem dX12_mine_170 : decode cX12_mine 170 = .ok (.aload_n 0, 1) := by decide +kernel
theorem dX12_mine_171 : decode cX12_mine 171 = .ok (.invokevirtual 418, 3) := by decide +kernel
theorem dX12_mine_174 : decode cX12_mine 174 = .ok (.aload_n 0, 1) := by decide +kernel
theorem dX12_mine_175 : decode cX12_mine 175 = .ok (.iload_n 1, 1) := by decide +kernel
theorem dX12_mine_176 : decode cX12_mine 176 = .ok (.invokevirtual 421, 3) := by decide +kernel
theorem dX12_mine_179 : decode cX12_mine 179 = .ok (.aload_n 0, 1) := by decide +kernel
theorem dX12_mine_180 : decode cX12_mine 180 = .ok (.getfield 36, 3) := by decide +kernel
theorem dX12_mine_183 : decode cX12_mine 183 = .ok (.ifCond .ne 25, 3) := by decide +kernel
theorem dX12_mine_186 : decode cX12_mine 186 = .ok (.aload_n 0, 1) := by decide +kernel
theorem dX12_mine_187 : decode cX12_mine 187 = .ok (.getfield 20, 3) := by decide +kernel
theorem dX12_mine_190 : decode cX12_mine 190 = .ok (.ifCond .eq 18, 3) := by decide +kernel
theorem dX12_mine_193 : decode cX12_mine 193 = .ok (.aload_n 0, 1) := by decide +kernel
theorem dX12_mine_194 : decode cX12_mine 194 = .ok (.invokevirtual 424, 3) := by decide +kernel
theorem dX12_mine_197 : decode cX12_mine 197 = .ok (.iinc 1 1, 3) := by decide +kernel
theorem dX12_mine_200 : decode cX12_mine 200 = .ok (.aload_n 0, 1) := by decide +kernel
theorem dX12_mine_201 : decode cX12_mine 201 = .ok (.iload_n 1, 1) := by decide +kernel
theorem dX12_mine_202 : decode cX12_mine 202 = .ok (.invokevirtual 421, 3) := by decide +kernel
theorem dX12_mine_205 : decode cX12_mine 205 = .ok (.goto (-26), 3) := by decide +kernel
theorem dX12_mine_208 : decode cX12_mine 208 = .ok (.aload_n 0, 1) := by decide +kernel
theorem dX12_mine_209 : decode cX12_mine 209 = .ok (.aload_n 0, 1) := by decide +kernel
theorem dX12_mine_210 : decode cX12_mine 210 = .ok (.getfield 36, 3) := by decide +kernel
theorem dX12_mine_213 : decode cX12_mine 213 = .ok (.putfield 42, 3) := by decide +kernel
theorem dX12_mine_216 : decode cX12_mine 216 = .ok (.aload_n 0, 1) := by decide +kernel
theorem dX12_mine_217 : decode cX12_mine 217 = .ok (.aload_n 0, 1) := by decide +kernel
theorem dX12_mine_218 : decode cX12_mine 218 = .ok (.getfield 39, 3) := by decide +kernel
theorem dX12_mine_221 : decode cX12_mine 221 = .ok (.putfield 45, 3) := by decide +kernel
theorem dX12_mine_224 : decode cX12_mine 224 = .ok (.aload_n 0, 1) := by decide +kernel
theorem dX12_mine_225 : decode cX12_mine 225 = .ok (.getfield 36, 3) := by decide +kernel
theorem dX12_mine_228 : decode cX12_mine 228 = .ok (.ifCond .le 9, 3) := by decide +kernel
theorem dX12_mine_231 : decode cX12_mine 231 = .ok (.aload_n 0, 1) := by decide +kernel
theorem dX12_mine_232 : decode cX12_mine 232 = .ok (.iconst 1, 1) := by decide +kernel
theorem dX12_mine_233 : decode cX12_mine 233 = .ok (.invokevirtual 247, 3) := by decide +kernel
theorem dX12_mine_236 : decode cX12_mine 236 = .ok (.ireturn, 1) := by decide +kernel
theorem dX12_mine_237 : decode cX12_mine 237 = .ok (.aload_n 0, 1) := by decide +kernel
theorem dX12_mine_238 : decode cX12_mine 238 = .ok (.aload_n 0, 1) := by decide +kernel
theorem dX12_mine_239 : decode cX12_mine 239 = .ok (.getfield 118, 3) := by decide +kernel
theorem dX12_mine_242 : decode cX12_mine 242 = .ok (.putfield 51, 3) := by decide +kernel
theorem dX12_mine_245 : decode cX12_mine 245 = .ok (.aload_n 0, 1) := by decide +kernel
theorem dX12_mine_246 : decode cX12_mine 246 = .ok (.iconst 1, 1) := by decide +kernel
theorem dX12_mine_247 : decode cX12_mine 247 = .ok (.putfield 156, 3) := by decide +kernel
theorem dX12_mine_250 : decode cX12_mine 250 = .ok (.aload_n 0, 1) := by decide +kernel
theorem dX12_mine_251 : decode cX12_mine 251 = .ok (.invokevirtual 427, 3) := by decide +kernel
theorem dX12_mine_254 : decode cX12_mine 254 = .ok (.iload_n 1, 1) := by decide +kernel
theorem dX12_mine_255 : decode cX12_mine 255 = .ok (.ireturn, 1) := by decide +kernel
theorem wB_1306 : Cond.code yX12_seaming cX12_seaming 1 none ∈ dgB := List.mem_filter.mpr ⟨tbl_7 _ (List.mem_of_getElem? (i := 190) rfl), rfl⟩
theorem wB_1307 : Cond.methodLink RX12 418 yX12_seaming ∈ dgB := List.mem_filter.mpr ⟨tbl_7 _ (List.mem_of_getElem? (i := 187) (by decide +kernel)), by decide +kernel⟩
theorem wB_1308 : Cond.instanceMethod yX12_seaming ∈ dgB := List.mem_filter.mpr ⟨tbl_7 _ (List.mem_of_getElem? (i := 189) (by decide +kernel)), by decide +kernel⟩
theorem wB_1309 : Cond.selects RX12 yX12_seaming yX12_seaming ∈ dgB := List.mem_filter.mpr ⟨List.mem_of_getElem? (i := 84) (by decide +kernel), by decide +kernel⟩
theorem wB_1310 : Cond.code yX12_finishes cX12_finishes 3 none ∈ dgB := List.mem_filter.mpr ⟨tbl_7 _ (List.mem_of_getElem? (i := 219) rfl), rfl⟩
theorem wB_1311 : Cond.methodLink RX12 421 yX12_finishes ∈ dgB := List.mem_filter.mpr ⟨tbl_7 _ (List.mem_of_getElem? (i := 216) (by decide +kernel)), by decide +kernel⟩
theorem wB_1312 : Cond.instanceMethod yX12_finishes ∈ dgB := List.mem_filter.mpr ⟨tbl_7 _ (List.mem_of_getElem? (i := 218) (by decide +kernel)), by decide +kernel⟩
theorem wB_1313 : Cond.selects RX12 yX12_finishes yX12_finishes ∈ dgB := List.mem_filter.mpr ⟨List.mem_of_getElem? (i := 90) (by decide +kernel), by decide +kernel⟩
theorem wB_1314 : Cond.code yX12_statement cX12_statement 1 none ∈ dgB := List.mem_filter.mpr ⟨tbl_7 _ (List.mem_of_getElem? (i := 231) rfl), rfl⟩
theorem wB_1315 : Cond.methodLink RX12 424 yX12_statement ∈ dgB := List.mem_filter.mpr ⟨tbl_7 _ (List.mem_of_getElem? (i := 228) (by decide +kernel)), by decide +kernel⟩
theorem wB_1316 : Cond.instanceMethod yX12_statement ∈ dgB := List.mem_filter.mpr ⟨tbl_7 _ (List.mem_of_getElem? (i := 230) (by decide +kernel)), by decide +kernel⟩
theorem wB_1317 : Cond.selects RX12 yX12_statement yX12_statement ∈ dgB := List.mem_filter.mpr ⟨List.mem_of_getElem? (i := 93) (by decide +kernel), by decide +kernel⟩
theorem wB_1318 : Cond.code yX12_begin cX12_begin 2 none ∈ dgB := List.mem_filter.mpr ⟨tbl_8 _ (List.mem_of_getElem? (i := 106) rfl), rfl⟩
theorem wB_1319 : Cond.methodLink RX12 427 yX12_begin ∈ dgB := List.mem_filter.mpr ⟨tbl_8 _ (List.mem_of_getElem? (i := 103) (by decide +kernel)), by decide +kernel⟩
theorem wB_1320 : Cond.instanceMethod yX12_begin ∈ dgB := List.mem_filter.mpr ⟨tbl_8 _ (List.mem_of_getElem? (i := 105) (by decide +kernel)), by decide +kernel⟩
theorem wB_1321 : Cond.selects RX12 yX12_begin yX12_begin ∈ dgB := List.mem_filter.mpr ⟨List.mem_of_getElem? (i := 114) (by decide +kernel), by decide +kernel⟩
set_option maxHeartbeats 8000000 in
set_option maxRecDepth 100000 in
theorem c_m_mine (l : Launch) (g : Nat → ClassId) (D : va_G) (o : Nat) (S : dg_S) (tb : Nat → Int32) (le : Int32) (f_le : S.1 0 1 = .int le) (b_le : 0 ≤ (le).toInt ∧ (le).toInt ≤ 1600) (htb : S.2.1 1 = tb) (ZB : ZBM S) (ZS : ZSM S) (ZW : ZWM S) (I : CM o S) (sz : Nat) : Met l yX12_mine (bw yX12_mine cX12_mine 2 (some .int)) ({ frames := 8, cells := 0, slots := 0, locals := 185 } : Room) (dk_Pc g D (dg_w g shM o rfM S) sz [.ref (o + 0)]) (va_Qi (fun (r : Int32) S' => CM o S' ∧ dg_sm shM [(0, 1), (0, 2), (0, 3), (0, 4), (0, 5), (0, 6), (0, 7), (0, 8), (0, 9), (0, 10), (0, 11), (0, 12), (0, 13), (0, 34), (0, 35), (0, 36), (0, 42), (0, 43), (0, 45), (0, 46), (0, 47), (0, 61), (0, 63), (0, 69)] [2, 3, 4, 5, 6, 7, 8, 9, 10, 11, 12, 13, 14, 15, 16, 17, 18, 19, 20, 21, 22, 23, 24, 25, 26, 27, 28, 29, 30, 31, 32, 33, 34, 35, 36, 37, 38] S S' ∧ ((-1) ≤ (r).toInt ∧ (r).toInt ≤ 80) ∧ (∃ y9 : Int32, S'.1 0 1 = .int y9 ∧ ((y9).toInt = 0)) ∧ (((r).toInt = -1 → y_mine (T_kd tb (le : Int32).toNatClampNeg) (T_vl tb (le : Int32).toNatClampNeg) = none) ∧ ((r).toInt ≠ -1 → ∃ σ9 : y_S, y_mine (T_kd tb (le : Int32).toNatClampNeg) (T_vl tb (le : Int32).toNatClampNeg) = some ((r : Int32).toNatClampNeg, σ9))) ∧ (((r).toInt = -1 → GBM S S') ∧ ((r).toInt ≠ -1 → GMN (y_mine (T_kd tb (le : Int32).toNatClampNeg) (T_vl tb (le : Int32).toNatClampNeg)) (r : Int32).toNatClampNeg S' ∧ (∃ b9 : Int32, S'.1 0 13 = .int b9 ∧ S'.1 0 35 = .int b9) ∧ S'.1 0 47 = .int 1)) ∧ ZBM S' ∧ ZSM S' ∧ ZWM S' ∧ True) (dg_B g D shM o rfM) (dg_A o shM.length sz)) 0 0 (dg_A o shM.length sz) := by
  refine dg_met (cc := cX12_mine) (maxL := 2) (ret := (some .int)) (by decide) rfl (Nat.le_of_ble_eq_true rfl) ?_
  intro p e s m args below meth c A hAe harg hx hb hr hml hts hown hlocks hin hP K hS hA1 hA ST hsz ls hl
  rw [← hAe]
  have F : CallFix p m c cX12_mine 2 s args (bw yX12_mine cX12_mine 2 (some .int)) RX12 := ⟨hx, hb, hml, hown, hts⟩
  have hl : lv_has ls 2 [(0, .ref (o + 0))] := hl
  have M_0 : dg_sm shM [(0, 1), (0, 2), (0, 3), (0, 4), (0, 5), (0, 6), (0, 7), (0, 8), (0, 9), (0, 10), (0, 11), (0, 12), (0, 13), (0, 34), (0, 35), (0, 36), (0, 42), (0, 43), (0, 45), (0, 46), (0, 47), (0, 61), (0, 63), (0, 69)] [2, 3, 4, 5, 6, 7, 8, 9, 10, 11, 12, 13, 14, 15, 16, 17, 18, 19, 20, 21, 22, 23, 24, 25, 26, 27, 28, 29, 30, 31, 32, 33, 34, 35, 36, 37, 38] S S := dg_sm.rf
  obtain ⟨Q9, hQ9⟩ : ∃ Q : State → Prop, Q = MQ below (va_Qi (fun (r : Int32) S' => CM o S' ∧ dg_sm shM [(0, 1), (0, 2), (0, 3), (0, 4), (0, 5), (0, 6), (0, 7), (0, 8), (0, 9), (0, 10), (0, 11), (0, 12), (0, 13), (0, 34), (0, 35), (0, 36), (0, 42), (0, 43), (0, 45), (0, 46), (0, 47), (0, 61), (0, 63), (0, 69)] [2, 3, 4, 5, 6, 7, 8, 9, 10, 11, 12, 13, 14, 15, 16, 17, 18, 19, 20, 21, 22, 23, 24, 25, 26, 27, 28, 29, 30, 31, 32, 33, 34, 35, 36, 37, 38] S S' ∧ ((-1) ≤ (r).toInt ∧ (r).toInt ≤ 80) ∧ (∃ y9 : Int32, S'.1 0 1 = .int y9 ∧ ((y9).toInt = 0)) ∧ (((r).toInt = -1 → y_mine (T_kd tb (le : Int32).toNatClampNeg) (T_vl tb (le : Int32).toNatClampNeg) = none) ∧ ((r).toInt ≠ -1 → ∃ σ9 : y_S, y_mine (T_kd tb (le : Int32).toNatClampNeg) (T_vl tb (le : Int32).toNatClampNeg) = some ((r : Int32).toNatClampNeg, σ9))) ∧ (((r).toInt = -1 → GBM S S') ∧ ((r).toInt ≠ -1 → GMN (y_mine (T_kd tb (le : Int32).toNatClampNeg) (T_vl tb (le : Int32).toNatClampNeg)) (r : Int32).toNatClampNeg S' ∧ (∃ b9 : Int32, S'.1 0 13 = .int b9 ∧ S'.1 0 35 = .int b9) ∧ S'.1 0 47 = .int 1)) ∧ ZBM S' ∧ ZSM S' ∧ ZWM S' ∧ True) (dg_B g D shM o rfM) A) args s 0 0 A := ⟨_, rfl⟩
  rw [← hQ9]
  obtain ⟨tn, htn⟩ : ∃ k : Nat, k = (le : Int32).toNatClampNeg := ⟨_, rfl⟩
  have hcle : (((le : Int32).toNatClampNeg : Nat) : Int) = (le).toInt := (by rw [dk_clN]; omega)
  obtain ⟨x_1, f_x_1, b_x_1⟩ := dg_I.int (i := 0) (k := 13) (lo := 0) (hi := 1) I sM_0 (by decide +kernel)
  obtain ⟨x_2, f_x_2, b_x_2⟩ := dg_I.int (i := 0) (k := 47) (lo := 0) (hi := 1) I sM_0 (by decide +kernel)
  refine lv_aload_n hx hb dX12_mine_0 rfl (lv_at hl 0 rfl) ?_
  refine lv_aload_n hx hb dX12_mine_1 rfl (lv_at hl 0 rfl) ?_
  refine dg_get (C := RX12) (T := TX12) (N := 77) hx hb hts (fun w h => bw_mem (wU_X12 w h)) hown K hP sM_0 rfl 1 (by decide) (hts _ (bw_mem wB_1072)) (fun _ h9 => h9) (v := .int le) f_le dX12_mine_2 ?_
  refine dg_put (ci := 12) (v := .int le) (ty := tyX12 2) (C := RX12) (T := TX12) (N := 77) hx hb hts (fun w h => bw_mem (wU_X12 w h)) tyX12 tyX12_ok nmX12 hown K hP hS hA1 sM_0 rfl 2 (by decide) (hts _ (bw_mem wB_289)) (fun _ h9 => h9) rfl (by decide +kernel) rfl rfl dX12_mine_5 (fun S_3 e_3 H locs hP hS => ?_)
  have I_3 := dg_I.uFi (lo := 0) (hi := 1600) I e_3 sM_0 (by decide +kernel) (show 0 ≤ (le).toInt ∧ (le).toInt ≤ 1600 from (by omega))
  have M_3 := dg_sm.uF M_0 e_3 sM_0 (by decide)
  have TZ_3 : TZM tb tn S_3 := ⟨(dg_uF_f e_3 1).trans htb, by omega, le, dg_uF_at e_3, htn.symm⟩
  refine lv_aload_n hx hb dX12_mine_8 rfl (lv_at hl 0 rfl) ?_
  refine lv_iconst (v := 0) hx hb dX12_mine_9 (by decide +kernel) ?_
  have hz_4 : (0 : Int32).toInt = 0 := by decide +kernel
  refine dg_put (ci := 12) (v := .int 0) (ty := tyX12 1) (C := RX12) (T := TX12) (N := 77) hx hb hts (fun w h => bw_mem (wU_X12 w h)) tyX12 tyX12_ok nmX12 hown K hP hS hA1 sM_0 rfl 1 (by decide) (hts _ (bw_mem wB_1072)) (fun _ h9 => h9) rfl (by decide +kernel) rfl rfl dX12_mine_10 (fun S_5 e_5 H locs hP hS => ?_)
  have I_5 := dg_I.uFi (lo := 0) (hi := 1600) I_3 e_5 sM_0 (by decide +kernel) (show 0 ≤ ((0 : Int32)).toInt ∧ ((0 : Int32)).toInt ≤ 1600 from (by decide +kernel))
  have M_5 := dg_sm.uF M_3 e_5 sM_0 (by decide)
  refine lv_aload_n hx hb dX12_mine_13 rfl (lv_at hl 0 rfl) ?_
  refine lv_iconst (v := 0) hx hb dX12_mine_14 (by decide +kernel) ?_
  have hz_6 : (0 : Int32).toInt = 0 := by decide +kernel
  refine dg_put (ci := 12) (v := .int 0) (ty := tyX12 5) (C := RX12) (T := TX12) (N := 77) hx hb hts (fun w h => bw_mem (wU_X12 w h)) tyX12 tyX12_ok nmX12 hown K hP hS hA1 sM_0 rfl 5 (by decide) (hts _ (bw_mem wB_288)) (fun _ h9 => h9) rfl (by decide +kernel) rfl rfl dX12_mine_15 (fun S_7 e_7 H locs hP hS => ?_)
  have I_7 := dg_I.uFi (lo := 0) (hi := 1600) I_5 e_7 sM_0 (by decide +kernel) (show 0 ≤ ((0 : Int32)).toInt ∧ ((0 : Int32)).toInt ≤ 1600 from (by decide +kernel))
  have M_7 := dg_sm.uF M_5 e_7 sM_0 (by decide)
  refine lv_aload_n hx hb dX12_mine_18 rfl (lv_at hl 0 rfl) ?_
  refine lv_iconst (v := 0) hx hb dX12_mine_19 (by decide +kernel) ?_
  have hz_8 : (0 : Int32).toInt = 0 := by decide +kernel
  refine dg_put (ci := 12) (v := .int 0) (ty := tyX12 8) (C := RX12) (T := TX12) (N := 77) hx hb hts (fun w h => bw_mem (wU_X12 w h)) tyX12 tyX12_ok nmX12 hown K hP hS hA1 sM_0 rfl 8 (by decide) (hts _ (bw_mem wB_303)) (fun _ h9 => h9) rfl (by decide +kernel) rfl rfl dX12_mine_20 (fun S_9 e_9 H locs hP hS => ?_)
  have I_9 := dg_I.uFi (lo := 0) (hi := 6) I_7 e_9 sM_0 (by decide +kernel) (show 0 ≤ ((0 : Int32)).toInt ∧ ((0 : Int32)).toInt ≤ 6 from (by decide +kernel))
  have M_9 := dg_sm.uF M_7 e_9 sM_0 (by decide)
  refine lv_aload_n hx hb dX12_mine_23 rfl (lv_at hl 0 rfl) ?_
  refine lv_iconst (v := (-1)) hx hb dX12_mine_24 (by decide +kernel) ?_
  have hz_10 : (-1 : Int32).toInt = (-1) := by decide +kernel
  refine dg_put (ci := 12) (v := .int (-1)) (ty := tyX12 9) (C := RX12) (T := TX12) (N := 77) hx hb hts (fun w h => bw_mem (wU_X12 w h)) tyX12 tyX12_ok nmX12 hown K hP hS hA1 sM_0 rfl 9 (by decide) (hts _ (bw_mem wB_304)) (fun _ h9 => h9) rfl (by decide +kernel) rfl rfl dX12_mine_25 (fun S_11 e_11 H locs hP hS => ?_)
  have I_11 := dg_I.uFi (lo := (-2147483648)) (hi := 2147483647) I_9 e_11 sM_0 (by decide +kernel) (show (-2147483648) ≤ ((-1 : Int32)).toInt ∧ ((-1 : Int32)).toInt ≤ 2147483647 from (by decide +kernel))
  have M_11 := dg_sm.uF M_9 e_11 sM_0 (by decide)
  refine lv_aload_n hx hb dX12_mine_28 rfl (lv_at hl 0 rfl) ?_
  refine lv_iconst (v := 1) hx hb dX12_mine_29 (by decide +kernel) ?_
  refine lv_aload_n hx hb dX12_mine_30 rfl (lv_at hl 0 rfl) ?_
  refine dg_get (C := RX12) (T := TX12) (N := 77) hx hb hts (fun w h => bw_mem (wU_X12 w h)) hown K hP sM_0 rfl 13 (by decide) (hts _ (bw_mem wB_1085)) (fun _ h9 => h9) (v := .int x_1) (((dg_uF_ne e_11 (fun z => absurd z.2 (by decide))).trans ((dg_uF_ne e_9 (fun z => absurd z.2 (by decide))).trans ((dg_uF_ne e_7 (fun z => absurd z.2 (by decide))).trans ((dg_uF_ne e_5 (fun z => absurd z.2 (by decide))).trans (dg_uF_ne e_3 (fun z => absurd z.2 (by decide))))))).trans f_x_1) dX12_mine_31 ?_
  refine lv_isub hx hb dX12_mine_34 ?_
  refine lv_topi (fun x_12 ex_12 => ?_)
  have jx_12 : (x_12).toInt = 1 - (x_1).toInt := by rw [ex_12]; exact dk_subT (by decide +kernel) rfl (by omega) (by omega)
  refine dg_put (ci := 12) (v := .int x_12) (ty := tyX12 35) (C := RX12) (T := TX12) (N := 77) hx hb hts (fun w h => bw_mem (wU_X12 w h)) tyX12 tyX12_ok nmX12 hown K hP hS hA1 sM_0 rfl 35 (by decide) (hts _ (bw_mem wB_353)) (fun _ h9 => h9) rfl (by decide +kernel) rfl rfl dX12_mine_35 (fun S_13 e_13 H locs hP hS => ?_)
  have I_13 := dg_I.uFi (lo := 0) (hi := 1) I_11 e_13 sM_0 (by decide +kernel) (show 0 ≤ (x_12).toInt ∧ (x_12).toInt ≤ 1 from (by omega))
  have M_13 := dg_sm.uF M_11 e_13 sM_0 (by decide)
  have ZK_13 : ZKM S_13 := ZKM.mk (((dg_uF_ne e_11 (fun z => absurd z.2 (by decide))).trans ((dg_uF_ne e_9 (fun z => absurd z.2 (by decide))).trans ((dg_uF_ne e_7 (fun z => absurd z.2 (by decide))).trans ((dg_uF_ne e_5 (fun z => absurd z.2 (by decide))).trans (dg_uF_ne e_3 (fun z => absurd z.2 (by decide))))))).trans f_x_1) e_13 (by omega)
  have hzk : (x_12).toInt = 1 - (x_1).toInt := by omega
  refine lv_aload_n hx hb dX12_mine_38 rfl (lv_at hl 0 rfl) ?_
  refine dg_get (C := RX12) (T := TX12) (N := 77) hx hb hts (fun w h => bw_mem (wU_X12 w h)) hown K hP sM_0 rfl 16 (by decide) (hts _ (bw_mem wB_481)) (fun _ h9 => h9) (v := .ref (o + 4)) (show S_13.1 0 16 = .ref (o + 4) from dg_I.rel (d := 4) I_13 sM_0 (by decide +kernel)) dX12_mine_39 ?_
  refine lv_aload_n hx hb dX12_mine_42 rfl (lv_at hl 0 rfl) ?_
  refine dg_get (C := RX12) (T := TX12) (N := 77) hx hb hts (fun w h => bw_mem (wU_X12 w h)) hown K hP sM_0 rfl 35 (by decide) (hts _ (bw_mem wB_353)) (fun _ h9 => h9) (v := .int x_12) (dg_uF_at e_13) dX12_mine_43 ?_
  refine lv_iconst (v := 0) hx hb dX12_mine_46 (by decide +kernel) ?_
  have hin_14 : vp_in x_12 2 := (dk_inv (by omega) (by omega))
  have hz_16 : (0 : Int32).toInt = 0 := by decide +kernel
  refine dg_iast hx hb K hP hS hA1 sM_4 hin_14 dX12_mine_47 (fun S_15 e_15 H locs hP hS => ?_)
  have I_15 := dg_I.ufu (lo := 0) (hi := 9999) I_13 e_15 sM_4 (by decide +kernel) (show 0 ≤ ((0 : Int32)).toInt ∧ ((0 : Int32)).toInt ≤ 9999 from (by decide +kernel))
  have M_15 := dg_sm.uf M_13 e_15 sM_4 (by decide)
  have ZB_15 : ZBM S_15 := ZBM.up (r := 4) (ZBM.keep (ZBM.keep (ZBM.keep (ZBM.keep (ZBM.keep (ZBM.keep ZB (dg_sm.uF (WF := [(0, 2)]) (WA := []) dg_sm.rf e_3 sM_0 (by decide)) (by decide) (by decide) (by decide) (by decide) (by decide)) (dg_sm.uF (WF := [(0, 1)]) (WA := []) dg_sm.rf e_5 sM_0 (by decide)) (by decide) (by decide) (by decide) (by decide) (by decide)) (dg_sm.uF (WF := [(0, 5)]) (WA := []) dg_sm.rf e_7 sM_0 (by decide)) (by decide) (by decide) (by decide) (by decide) (by decide)) (dg_sm.uF (WF := [(0, 8)]) (WA := []) dg_sm.rf e_9 sM_0 (by decide)) (by decide) (by decide) (by decide) (by decide) (by decide)) (dg_sm.uF (WF := [(0, 9)]) (WA := []) dg_sm.rf e_11 sM_0 (by decide)) (by decide) (by decide) (by decide) (by decide) (by decide)) (dg_sm.uF (WF := [(0, 35)]) (WA := []) dg_sm.rf e_13 sM_0 (by decide)) (by decide) (by decide) (by decide) (by decide) (by decide)) (by decide) (((dg_uF_ne e_13 (fun z => absurd z.2 (by decide))).trans ((dg_uF_ne e_11 (fun z => absurd z.2 (by decide))).trans ((dg_uF_ne e_9 (fun z => absurd z.2 (by decide))).trans ((dg_uF_ne e_7 (fun z => absurd z.2 (by decide))).trans ((dg_uF_ne e_5 (fun z => absurd z.2 (by decide))).trans (dg_uF_ne e_3 (fun z => absurd z.2 (by decide)))))))).trans f_x_1) (by omega) e_15 (by omega)
  have GB_15 := GBM.st (GBM.keep (GBM.keep (GBM.keep (GBM.keep (GBM.keep (GBM.keep (GBM.init f_x_1 (by omega)) (dg_sm.uF (WF := [(0, 2)]) (WA := []) dg_sm.rf e_3 sM_0 (by decide)) (by decide) (by decide) (by decide)) (dg_sm.uF (WF := [(0, 1)]) (WA := []) dg_sm.rf e_5 sM_0 (by decide)) (by decide) (by decide) (by decide)) (dg_sm.uF (WF := [(0, 5)]) (WA := []) dg_sm.rf e_7 sM_0 (by decide)) (by decide) (by decide) (by decide)) (dg_sm.uF (WF := [(0, 8)]) (WA := []) dg_sm.rf e_9 sM_0 (by decide)) (by decide) (by decide) (by decide)) (dg_sm.uF (WF := [(0, 9)]) (WA := []) dg_sm.rf e_11 sM_0 (by decide)) (by decide) (by decide) (by decide)) (dg_sm.uF (WF := [(0, 35)]) (WA := []) dg_sm.rf e_13 sM_0 (by decide)) (by decide) (by decide) (by decide)) ZK_13 (dg_uF_at e_13) 1 rfl (wi := 1) rfl e_15 (by omega) (by omega)
  refine lv_aload_n hx hb dX12_mine_48 rfl (lv_at hl 0 rfl) ?_
  refine dg_get (C := RX12) (T := TX12) (N := 77) hx hb hts (fun w h => bw_mem (wU_X12 w h)) hown K hP sM_0 rfl 17 (by decide) (hts _ (bw_mem wB_480)) (fun _ h9 => h9) (v := .ref (o + 5)) (show S_15.1 0 17 = .ref (o + 5) from dg_I.rel (d := 5) I_15 sM_0 (by decide +kernel)) dX12_mine_49 ?_
  refine lv_aload_n hx hb dX12_mine_52 rfl (lv_at hl 0 rfl) ?_
  refine dg_get (C := RX12) (T := TX12) (N := 77) hx hb hts (fun w h => bw_mem (wU_X12 w h)) hown K hP sM_0 rfl 35 (by decide) (hts _ (bw_mem wB_353)) (fun _ h9 => h9) (v := .int x_12) ((dg_uf_F e_15 0 35).trans (dg_uF_at e_13)) dX12_mine_53 ?_
  refine lv_iconst (v := 3) hx hb dX12_mine_56 (by decide +kernel) ?_
  have hin_17 : vp_in x_12 2 := (dk_inv (by omega) (by omega))
  have hz_19 : (3 : Int32).toInt = 3 := by decide +kernel
  refine dg_iast hx hb K hP hS hA1 sM_5 hin_17 dX12_mine_57 (fun S_18 e_18 H locs hP hS => ?_)
  have I_18 := dg_I.ufu (lo := 0) (hi := 9999) I_15 e_18 sM_5 (by decide +kernel) (show 0 ≤ ((3 : Int32)).toInt ∧ ((3 : Int32)).toInt ≤ 9999 from (by decide +kernel))
  have M_18 := dg_sm.uf M_15 e_18 sM_5 (by decide)
  have GB_18 := GBM.st GB_15 (ZKM.keep ZK_13 (dg_sm.uf (WF := []) (WA := [4]) dg_sm.rf e_15 sM_4 (by decide)) (by decide) (by decide)) ((dg_uf_F e_15 0 35).trans (dg_uF_at e_13)) 1 rfl (wi := 1) rfl e_18 (by omega) (by omega)
  refine lv_aload_n hx hb dX12_mine_58 rfl (lv_at hl 0 rfl) ?_
  refine dg_get (C := RX12) (T := TX12) (N := 77) hx hb hts (fun w h => bw_mem (wU_X12 w h)) hown K hP sM_0 rfl 18 (by decide) (hts _ (bw_mem wB_475)) (fun _ h9 => h9) (v := .ref (o + 6)) (show S_18.1 0 18 = .ref (o + 6) from dg_I.rel (d := 6) I_18 sM_0 (by decide +kernel)) dX12_mine_59 ?_
  refine lv_aload_n hx hb dX12_mine_62 rfl (lv_at hl 0 rfl) ?_
  refine dg_get (C := RX12) (T := TX12) (N := 77) hx hb hts (fun w h => bw_mem (wU_X12 w h)) hown K hP sM_0 rfl 35 (by decide) (hts _ (bw_mem wB_353)) (fun _ h9 => h9) (v := .int x_12) (((dg_uf_F e_18 0 35).trans (dg_uf_F e_15 0 35)).trans (dg_uF_at e_13)) dX12_mine_63 ?_
  refine lv_iconst (v := 0) hx hb dX12_mine_66 (by decide +kernel) ?_
  have hin_20 : vp_in x_12 2 := (dk_inv (by omega) (by omega))
  have hz_22 : (0 : Int32).toInt = 0 := by decide +kernel
  refine dg_iast hx hb K hP hS hA1 sM_6 hin_20 dX12_mine_67 (fun S_21 e_21 H locs hP hS => ?_)
  have I_21 := dg_I.ufu (lo := 0) (hi := 9999) I_18 e_21 sM_6 (by decide +kernel) (show 0 ≤ ((0 : Int32)).toInt ∧ ((0 : Int32)).toInt ≤ 9999 from (by decide +kernel))
  have M_21 := dg_sm.uf M_18 e_21 sM_6 (by decide)
  have GB_21 := GBM.st GB_18 (ZKM.keep (ZKM.keep ZK_13 (dg_sm.uf (WF := []) (WA := [4]) dg_sm.rf e_15 sM_4 (by decide)) (by decide) (by decide)) (dg_sm.uf (WF := []) (WA := [5]) dg_sm.rf e_18 sM_5 (by decide)) (by decide) (by decide)) (((dg_uf_F e_18 0 35).trans (dg_uf_F e_15 0 35)).trans (dg_uF_at e_13)) 1 rfl (wi := 1) rfl e_21 (by omega) (by omega)
  refine lv_aload_n hx hb dX12_mine_68 rfl (lv_at hl 0 rfl) ?_
  refine dg_get (C := RX12) (T := TX12) (N := 77) hx hb hts (fun w h => bw_mem (wU_X12 w h)) hown K hP sM_0 rfl 20 (by decide) (hts _ (bw_mem wB_352)) (fun _ h9 => h9) (v := .ref (o + 8)) (show S_21.1 0 20 = .ref (o + 8) from dg_I.rel (d := 8) I_21 sM_0 (by decide +kernel)) dX12_mine_69 ?_
  refine lv_aload_n hx hb dX12_mine_72 rfl (lv_at hl 0 rfl) ?_
  refine dg_get (C := RX12) (T := TX12) (N := 77) hx hb hts (fun w h => bw_mem (wU_X12 w h)) hown K hP sM_0 rfl 35 (by decide) (hts _ (bw_mem wB_353)) (fun _ h9 => h9) (v := .int x_12) (((dg_uf_F e_21 0 35).trans ((dg_uf_F e_18 0 35).trans (dg_uf_F e_15 0 35))).trans (dg_uF_at e_13)) dX12_mine_73 ?_
  refine lv_iconst (v := 0) hx hb dX12_mine_76 (by decide +kernel) ?_
  have hin_23 : vp_in x_12 2 := (dk_inv (by omega) (by omega))
  have hz_25 : (0 : Int32).toInt = 0 := by decide +kernel
  refine dg_iast hx hb K hP hS hA1 sM_8 hin_23 dX12_mine_77 (fun S_24 e_24 H locs hP hS => ?_)
  have I_24 := dg_I.ufu (lo := 0) (hi := 6) I_21 e_24 sM_8 (by decide +kernel) (show 0 ≤ ((0 : Int32)).toInt ∧ ((0 : Int32)).toInt ≤ 6 from (by decide +kernel))
  have M_24 := dg_sm.uf M_21 e_24 sM_8 (by decide)
  have GB_24 := GBM.st GB_21 (ZKM.keep (ZKM.keep (ZKM.keep ZK_13 (dg_sm.uf (WF := []) (WA := [4]) dg_sm.rf e_15 sM_4 (by decide)) (by decide) (by decide)) (dg_sm.uf (WF := []) (WA := [5]) dg_sm.rf e_18 sM_5 (by decide)) (by decide) (by decide)) (dg_sm.uf (WF := []) (WA := [6]) dg_sm.rf e_21 sM_6 (by decide)) (by decide) (by decide)) (((dg_uf_F e_21 0 35).trans ((dg_uf_F e_18 0 35).trans (dg_uf_F e_15 0 35))).trans (dg_uF_at e_13)) 1 rfl (wi := 1) rfl e_24 (by omega) (by omega)
  refine lv_aload_n hx hb dX12_mine_78 rfl (lv_at hl 0 rfl) ?_
  refine dg_get (C := RX12) (T := TX12) (N := 77) hx hb hts (fun w h => bw_mem (wU_X12 w h)) hown K hP sM_0 rfl 21 (by decide) (hts _ (bw_mem wB_391)) (fun _ h9 => h9) (v := .ref (o + 9)) (show S_24.1 0 21 = .ref (o + 9) from dg_I.rel (d := 9) I_24 sM_0 (by decide +kernel)) dX12_mine_79 ?_
  refine lv_aload_n hx hb dX12_mine_82 rfl (lv_at hl 0 rfl) ?_
  refine dg_get (C := RX12) (T := TX12) (N := 77) hx hb hts (fun w h => bw_mem (wU_X12 w h)) hown K hP sM_0 rfl 35 (by decide) (hts _ (bw_mem wB_353)) (fun _ h9 => h9) (v := .int x_12) (((dg_uf_F e_24 0 35).trans ((dg_uf_F e_21 0 35).trans ((dg_uf_F e_18 0 35).trans (dg_uf_F e_15 0 35)))).trans (dg_uF_at e_13)) dX12_mine_83 ?_
  refine lv_iconst (v := 0) hx hb dX12_mine_86 (by decide +kernel) ?_
  have hin_26 : vp_in x_12 2 := (dk_inv (by omega) (by omega))
  have hz_28 : (0 : Int32).toInt = 0 := by decide +kernel
  refine dg_iast hx hb K hP hS hA1 sM_9 hin_26 dX12_mine_87 (fun S_27 e_27 H locs hP hS => ?_)
  have I_27 := dg_I.ufu (lo := 0) (hi := 16) I_24 e_27 sM_9 (by decide +kernel) (show 0 ≤ ((0 : Int32)).toInt ∧ ((0 : Int32)).toInt ≤ 16 from (by decide +kernel))
  have M_27 := dg_sm.uf M_24 e_27 sM_9 (by decide)
  have GB_27 := GBM.st GB_24 (ZKM.keep (ZKM.keep (ZKM.keep (ZKM.keep ZK_13 (dg_sm.uf (WF := []) (WA := [4]) dg_sm.rf e_15 sM_4 (by decide)) (by decide) (by decide)) (dg_sm.uf (WF := []) (WA := [5]) dg_sm.rf e_18 sM_5 (by decide)) (by decide) (by decide)) (dg_sm.uf (WF := []) (WA := [6]) dg_sm.rf e_21 sM_6 (by decide)) (by decide) (by decide)) (dg_sm.uf (WF := []) (WA := [8]) dg_sm.rf e_24 sM_8 (by decide)) (by decide) (by decide)) (((dg_uf_F e_24 0 35).trans ((dg_uf_F e_21 0 35).trans ((dg_uf_F e_18 0 35).trans (dg_uf_F e_15 0 35)))).trans (dg_uF_at e_13)) 1 rfl (wi := 1) rfl e_27 (by omega) (by omega)
  refine lv_aload_n hx hb dX12_mine_88 rfl (lv_at hl 0 rfl) ?_
  refine dg_get (C := RX12) (T := TX12) (N := 77) hx hb hts (fun w h => bw_mem (wU_X12 w h)) hown K hP sM_0 rfl 24 (by decide) (hts _ (bw_mem wB_355)) (fun _ h9 => h9) (v := .ref (o + 12)) (show S_27.1 0 24 = .ref (o + 12) from dg_I.rel (d := 12) I_27 sM_0 (by decide +kernel)) dX12_mine_89 ?_
  refine lv_aload_n hx hb dX12_mine_92 rfl (lv_at hl 0 rfl) ?_
  refine dg_get (C := RX12) (T := TX12) (N := 77) hx hb hts (fun w h => bw_mem (wU_X12 w h)) hown K hP sM_0 rfl 35 (by decide) (hts _ (bw_mem wB_353)) (fun _ h9 => h9) (v := .int x_12) (((dg_uf_F e_27 0 35).trans ((dg_uf_F e_24 0 35).trans ((dg_uf_F e_21 0 35).trans ((dg_uf_F e_18 0 35).trans (dg_uf_F e_15 0 35))))).trans (dg_uF_at e_13)) dX12_mine_93 ?_
  refine lv_iconst (v := 0) hx hb dX12_mine_96 (by decide +kernel) ?_
  have hin_29 : vp_in x_12 2 := (dk_inv (by omega) (by omega))
  have hz_31 : (0 : Int32).toInt = 0 := by decide +kernel
  refine dg_iast hx hb K hP hS hA1 sM_12 hin_29 dX12_mine_97 (fun S_30 e_30 H locs hP hS => ?_)
  have I_30 := dg_I.ufu (lo := 0) (hi := 5) I_27 e_30 sM_12 (by decide +kernel) (show 0 ≤ ((0 : Int32)).toInt ∧ ((0 : Int32)).toInt ≤ 5 from (by decide +kernel))
  have M_30 := dg_sm.uf M_27 e_30 sM_12 (by decide)
  have GB_30 := GBM.st GB_27 (ZKM.keep (ZKM.keep (ZKM.keep (ZKM.keep (ZKM.keep ZK_13 (dg_sm.uf (WF := []) (WA := [4]) dg_sm.rf e_15 sM_4 (by decide)) (by decide) (by decide)) (dg_sm.uf (WF := []) (WA := [5]) dg_sm.rf e_18 sM_5 (by decide)) (by decide) (by decide)) (dg_sm.uf (WF := []) (WA := [6]) dg_sm.rf e_21 sM_6 (by decide)) (by decide) (by decide)) (dg_sm.uf (WF := []) (WA := [8]) dg_sm.rf e_24 sM_8 (by decide)) (by decide) (by decide)) (dg_sm.uf (WF := []) (WA := [9]) dg_sm.rf e_27 sM_9 (by decide)) (by decide) (by decide)) (((dg_uf_F e_27 0 35).trans ((dg_uf_F e_24 0 35).trans ((dg_uf_F e_21 0 35).trans ((dg_uf_F e_18 0 35).trans (dg_uf_F e_15 0 35))))).trans (dg_uF_at e_13)) 1 rfl (wi := 1) rfl e_30 (by omega) (by omega)
  refine lv_iconst (v := 0) hx hb dX12_mine_98 (by decide +kernel) ?_
  refine lv_istore_n (lv' := [(1, .int 0), (0, .ref (o + 0))]) hx hb dX12_mine_99 rfl hl (by decide) rfl (fun ls hl => ?_)
  have J_218 : ∀ (x_54 : Int32), (64 ≤ (x_54).toInt ∧ (x_54).toInt ≤ 64) → ∀ S_217 : dg_S, CM o S_217 → dg_sm shM [(0, 1), (0, 2), (0, 3), (0, 4), (0, 5), (0, 6), (0, 7), (0, 8), (0, 9), (0, 10), (0, 11), (0, 12), (0, 13), (0, 34), (0, 35), (0, 36), (0, 42), (0, 43), (0, 45), (0, 46), (0, 47), (0, 61), (0, 63), (0, 69)] [2, 3, 4, 5, 6, 7, 8, 9, 10, 11, 12, 13, 14, 15, 16, 17, 18, 19, 20, 21, 22, 23, 24, 25, 26, 27, 28, 29, 30, 31, 32, 33, 34, 35, 36, 37, 38] S S_217 → S_217.1 0 13 = .int x_1 → S_217.1 0 47 = .int x_2 → S_217.1 0 2 = .int le → S_217.1 0 1 = .int 0 → S_217.1 0 5 = .int 0 → S_217.1 0 8 = .int 0 → S_217.1 0 9 = .int (-1) → S_217.1 0 35 = .int x_12 → S_217.2.1 4 (x_12 : Int32).toNatClampNeg = 0 → S_217.2.1 5 (x_12 : Int32).toNatClampNeg = 3 → S_217.2.1 6 (x_12 : Int32).toNatClampNeg = 0 → S_217.2.1 8 (x_12 : Int32).toNatClampNeg = 0 → S_217.2.1 9 (x_12 : Int32).toNatClampNeg = 0 → S_217.2.1 12 (x_12 : Int32).toNatClampNeg = 0 → ZBM S_217 → ZSM S_217 → ZWM S_217 → ZKM S_217 → TZM tb tn S_217 → GBM S S_217 → ∀ (H : Heap) (locs : List Loc), va_P D vwCl (dg_w g shM o rfM S_217) H → va_S A s.heap H locs → ∀ ls : Array Slot, lv_has ls 2 [(1, .int x_54), (0, .ref (o + 0))] → W p l e ({ frames := 8, cells := 0, slots := 0, locals := 185 } : Room) s m args below meth c H locs 0 0 Q9 (F0 m 127 ls []) := by
    intro x_54 b_x_54 S_217 I_217 M_217 ff_217_13_0 ff_217_47_0 ff_217_2_0 ff_217_1_0 ff_217_5_0 ff_217_8_0 ff_217_9_0 ff_217_35_0 frw_217_0 frw_217_1 frw_217_2 frw_217_3 frw_217_4 frw_217_5 ZB_217 ZS_217 ZW_217 ZK_217 TZ_217 GB_217 H locs hP hS ls hl
    refine lv_iconst (v := 3) hx hb dX12_mine_127 (by decide +kernel) ?_
    refine lv_aload_n hx hb dX12_mine_128 rfl (lv_at hl 1 rfl) ?_
    refine dg_get (C := RX12) (T := TX12) (N := 77) hx hb hts (fun w h => bw_mem (wU_X12 w h)) hown K hP sM_0 rfl 35 (by decide) (hts _ (bw_mem wB_353)) (fun _ h9 => h9) (v := .int x_12) ff_217_35_0 dX12_mine_129 ?_
    refine lv_imul hx hb dX12_mine_132 ?_
    refine lv_topi (fun x_219 ex_219 => ?_)
    have jx_219 : (x_219).toInt = 3 * (x_12).toInt := by rw [ex_219]; exact dk_mulT (by decide +kernel) rfl (by omega) (by omega)
    refine lv_istore_n (lv' := [(1, .int x_219), (0, .ref (o + 0))]) hx hb dX12_mine_133 rfl hl (by decide) rfl (fun ls hl => ?_)
    have J_381 : ∀ (x_245 : Int32), (3 ≤ (x_245).toInt ∧ (x_245).toInt ≤ 6) → ∀ S_380 : dg_S, CM o S_380 → dg_sm shM [(0, 1), (0, 2), (0, 3), (0, 4), (0, 5), (0, 6), (0, 7), (0, 8), (0, 9), (0, 10), (0, 11), (0, 12), (0, 13), (0, 34), (0, 35), (0, 36), (0, 42), (0, 43), (0, 45), (0, 46), (0, 47), (0, 61), (0, 63), (0, 69)] [2, 3, 4, 5, 6, 7, 8, 9, 10, 11, 12, 13, 14, 15, 16, 17, 18, 19, 20, 21, 22, 23, 24, 25, 26, 27, 28, 29, 30, 31, 32, 33, 34, 35, 36, 37, 38] S S_380 → S_380.1 0 13 = .int x_1 → S_380.1 0 47 = .int x_2 → S_380.1 0 2 = .int le → S_380.1 0 1 = .int 0 → S_380.1 0 5 = .int 0 → S_380.1 0 8 = .int 0 → S_380.1 0 9 = .int (-1) → S_380.1 0 35 = .int x_12 → S_380.2.1 4 (x_12 : Int32).toNatClampNeg = 0 → S_380.2.1 5 (x_12 : Int32).toNatClampNeg = 3 → S_380.2.1 6 (x_12 : Int32).toNatClampNeg = 0 → S_380.2.1 8 (x_12 : Int32).toNatClampNeg = 0 → S_380.2.1 9 (x_12 : Int32).toNatClampNeg = 0 → S_380.2.1 12 (x_12 : Int32).toNatClampNeg = 0 → ZBM S_380 → ZSM S_380 → ZWM S_380 → ZKM S_380 → TZM tb tn S_380 → GBM S S_380 → (NTM S_380 x_12 (3 * (x_12).toInt + 3)) → ∀ (H : Heap) (locs : List Loc), va_P D vwCl (dg_w g shM o rfM S_380) H → va_S A s.heap H locs → ∀ ls : Array Slot, lv_has ls 2 [(1, .int x_245), (0, .ref (o + 0))] → W p l e ({ frames := 8, cells := 0, slots := 0, locals := 185 } : Room) s m args below meth c H locs 0 0 Q9 (F0 m 159 ls []) := by
      intro x_245 b_x_245 S_380 I_380 M_380 ff_380_13_0 ff_380_47_0 ff_380_2_0 ff_380_1_0 ff_380_5_0 ff_380_8_0 ff_380_9_0 ff_380_35_0 frw_380_0 frw_380_1 frw_380_2 frw_380_3 frw_380_4 frw_380_5 ZB_380 ZS_380 ZW_380 ZK_380 TZ_380 GB_380 srel_380_0 H locs hP hS ls hl
      refine lv_aload_n hx hb dX12_mine_159 rfl (lv_at hl 1 rfl) ?_
      refine lv_iconst (v := 0) hx hb dX12_mine_160 (by decide +kernel) ?_
      have hz_382 : (0 : Int32).toInt = 0 := by decide +kernel
      refine dg_put (ci := 12) (v := .int 0) (ty := tyX12 34) (C := RX12) (T := TX12) (N := 77) hx hb hts (fun w h => bw_mem (wU_X12 w h)) tyX12 tyX12_ok nmX12 hown K hP hS hA1 sM_0 rfl 34 (by decide) (hts _ (bw_mem wB_402)) (fun _ h9 => h9) rfl (by decide +kernel) rfl rfl dX12_mine_161 (fun S_383 e_383 H locs hP hS => ?_)
      have I_383 := dg_I.uFi (lo := 0) (hi := 1600) I_380 e_383 sM_0 (by decide +kernel) (show 0 ≤ ((0 : Int32)).toInt ∧ ((0 : Int32)).toInt ≤ 1600 from (by decide +kernel))
      have M_383 := dg_sm.uF M_380 e_383 sM_0 (by decide)
      have ZV_383 : ZVM S_383 := NTM.zv srel_380_0 ff_380_35_0 (by omega) e_383
      have GI_383 := GSM.init ff_380_35_0 (by omega) frw_380_3 (by decide +kernel) frw_380_4 (by decide +kernel) frw_380_5 (by decide +kernel) (fun w h1 => srel_380_0 w h1 (by omega)) e_383
      obtain ⟨sg9, GS_383, hsg9⟩ := GI_383
      refine lv_iconst (v := 1) hx hb dX12_mine_164 (by decide +kernel) ?_
      refine lv_istore_n (lv' := [(1, .int 1), (0, .ref (o + 0))]) hx hb dX12_mine_165 rfl hl (by decide) rfl (fun ls hl => ?_)
      refine lv_aload_n hx hb dX12_mine_166 rfl (lv_at hl 1 rfl) ?_
      have hz_384 : (0 : Int32).toInt = 0 := by decide +kernel
      refine dg_callv hS hA1 hA (va_runV (As := []) (rest := []) F (c_m_ahead l g D o S_383 tb tn 0 ((dg_uF_ne e_383 (fun z => absurd z.2 (by decide))).trans ff_380_5_0) (by decide +kernel) le ((dg_uF_ne e_383 (fun z => absurd z.2 (by decide))).trans ff_380_2_0) (by omega) (by omega) (TZM.keep TZ_380 (dg_sm.uF (WF := [(0, 34)]) (WA := []) dg_sm.rf e_383 sM_0 (by decide)) (by decide) (by decide)) I_383 H.size) (cwV 0 hts (bw_V wB_318 wB_319 wB_320 wB_297 wB_317) rfl rfl rfl (by decide +kernel) ⟨Nat.le_of_ble_eq_true rfl, Nat.le_of_ble_eq_true rfl⟩) (dg_preV sM_0 rfl K ST hP hS hA1 hA) rfl rfl hl.1 rfl (lv_room (Nat.le_of_ble_eq_true rfl)) dX12_mine_167 ⟨Nat.le_of_ble_eq_true rfl, Nat.le_of_ble_eq_true rfl⟩) (fun S_385 hw_385 H locs hP hS => ?_)
      obtain ⟨I_385, m_385, w_385_0, w_385_1, -⟩ := hw_385
      have M_385 := dg_sm.tr M_383 m_385 (by decide) (by decide)
      have hz_386 : (0 : Int32).toInt = 0 := by decide +kernel
      obtain ⟨y_387, y_388, y_389, f_y_387, f_y_388, f_y_389, w_385_0⟩ := w_385_0
      have w_385_0 : ((0 : Int32)).toInt ≤ (y_388).toInt ∧ (y_388).toInt ≤ (y_389).toInt ∧ (y_389).toInt ≤ (le).toInt ∧ ((y_387).toInt ≠ 0 → (y_388).toInt + 1 ≤ (y_389).toInt) := w_385_0
      obtain ⟨w_385_0_0, w_385_0_1, w_385_0_2, w_385_0_3⟩ := w_385_0
      have b_y_387 : 0 ≤ (y_387).toInt ∧ (y_387).toInt ≤ 3 := dg_I.intb (lo := 0) (hi := 3) I_385 sM_0 (by decide +kernel) f_y_387
      have b_y_388 : 0 ≤ (y_388).toInt ∧ (y_388).toInt ≤ 1600 := dg_I.intb (lo := 0) (hi := 1600) I_385 sM_0 (by decide +kernel) f_y_388
      have b_y_389 : 0 ≤ (y_389).toInt ∧ (y_389).toInt ≤ 1600 := dg_I.intb (lo := 0) (hi := 1600) I_385 sM_0 (by decide +kernel) f_y_389
      replace w_385_1 : TNX tb tn (0 : Int32) S_385 := w_385_1
      obtain ⟨TK_385, nx_385⟩ := TZM.first (TZM.keep TZ_380 (dg_sm.uF (WF := [(0, 34)]) (WA := []) dg_sm.rf e_383 sM_0 (by decide)) (by decide) (by decide)) (by omega) w_385_1 m_385 (by decide) (by decide) f_y_388
      refine lv_aload_n hx hb dX12_mine_170 rfl (lv_at hl 1 rfl) ?_
      have hz_390 : (0 : Int32).toInt = 0 := by decide +kernel
      refine dg_callv hS hA1 hA (va_runV (As := []) (rest := []) F (c_m_seaming l g D o S_385 tb tn sg9 S y_387 f_y_387 (by omega) y_388 f_y_388 (by omega) y_389 f_y_389 (by omega) le (((m_385.1 0 2 _ sM_0 (by decide)).trans (dg_uF_ne e_383 (fun z => absurd z.2 (by decide)))).trans ff_380_2_0) (by omega) 0 (((m_385.1 0 8 _ sM_0 (by decide)).trans (dg_uF_ne e_383 (fun z => absurd z.2 (by decide)))).trans ff_380_8_0) (by decide +kernel) x_12 (((m_385.1 0 35 _ sM_0 (by decide)).trans (dg_uF_ne e_383 (fun z => absurd z.2 (by decide)))).trans ff_380_35_0) (by omega) (by omega) TK_385 (GSM.keep GS_383 m_385 (by decide) (by decide) (by decide) (by decide) (by decide) (by decide) (by decide) (by decide) (by decide)) (ZBM.keep (ZBM.keep ZB_380 (dg_sm.uF (WF := [(0, 34)]) (WA := []) dg_sm.rf e_383 sM_0 (by decide)) (by decide) (by decide) (by decide) (by decide) (by decide)) m_385 (by decide) (by decide) (by decide) (by decide) (by decide)) (ZKM.keep (ZKM.keep ZK_380 (dg_sm.uF (WF := [(0, 34)]) (WA := []) dg_sm.rf e_383 sM_0 (by decide)) (by decide) (by decide)) m_385 (by decide) (by decide)) (GBM.keep (GBM.keep GB_380 (dg_sm.uF (WF := [(0, 34)]) (WA := []) dg_sm.rf e_383 sM_0 (by decide)) (by decide) (by decide) (by decide)) m_385 (by decide) (by decide) (by decide)) I_385 H.size) (cwV 0 hts (bw_V wB_1307 wB_1308 wB_1309 wB_297 wB_1306) rfl rfl rfl (by decide +kernel) ⟨Nat.le_of_ble_eq_true rfl, Nat.le_of_ble_eq_true rfl⟩) (dg_preV sM_0 rfl K ST hP hS hA1 hA) rfl rfl hl.1 rfl (lv_room (Nat.le_of_ble_eq_true rfl)) dX12_mine_171 ⟨Nat.le_of_ble_eq_true rfl, Nat.le_of_ble_eq_true rfl⟩) (fun S_391 hw_391 H locs hP hS => ?_)
      obtain ⟨I_391, m_391, w_391_0, w_391_1, w_391_2, w_391_3, w_391_4, w_391_5, -⟩ := hw_391
      have M_391 := dg_sm.tr M_385 m_391 (by decide) (by decide)
      have hz_392 : (0 : Int32).toInt = 0 := by decide +kernel
      obtain ⟨y_393, y_394, y_395, y_396, f_y_393, f_y_394, f_y_395, f_y_396, w_391_0⟩ := w_391_0
      have w_391_0 : ((y_394).toInt ≤ (y_395).toInt ∧ (y_395).toInt ≤ (le).toInt ∧ ((y_393).toInt ≠ 0 → (y_394).toInt + 1 ≤ (y_395).toInt)) ∧ (y_388).toInt ≤ (y_394).toInt ∧ (((0 : Int32)).toInt ≠ 0 → (y_396).toInt ≠ 0) ∧ ((y_396).toInt = 0 → (y_388).toInt + 1 ≤ (y_394).toInt) := w_391_0
      obtain ⟨⟨w_391_0_0, w_391_0_1, w_391_0_2⟩, w_391_0_3, w_391_0_4, w_391_0_5⟩ := w_391_0
      have b_y_393 : 0 ≤ (y_393).toInt ∧ (y_393).toInt ≤ 3 := dg_I.intb (lo := 0) (hi := 3) I_391 sM_0 (by decide +kernel) f_y_393
      have b_y_394 : 0 ≤ (y_394).toInt ∧ (y_394).toInt ≤ 1600 := dg_I.intb (lo := 0) (hi := 1600) I_391 sM_0 (by decide +kernel) f_y_394
      have b_y_395 : 0 ≤ (y_395).toInt ∧ (y_395).toInt ≤ 1600 := dg_I.intb (lo := 0) (hi := 1600) I_391 sM_0 (by decide +kernel) f_y_395
      have b_y_396 : 0 ≤ (y_396).toInt ∧ (y_396).toInt ≤ 6 := dg_I.intb (lo := 0) (hi := 6) I_391 sM_0 (by decide +kernel) f_y_396
      replace w_391_1 : ∀ k9 : Int32, S_391.1 0 8 = .int k9 → k9.toInt = 0 → SEM S_391 := w_391_1
      replace w_391_2 : SOK tb tn (0 : Int32) ((y_seam (T_kd tb tn) (T_vl tb tn) (t_ix tb tn (y_388 : Int32).toNatClampNeg)).map fun k9 => ((((T_vl tb tn ((t_ix tb tn (y_388 : Int32).toNatClampNeg) + 1)).toInt, (T_vl tb tn ((t_ix tb tn (y_388 : Int32).toNatClampNeg) + 3)).toInt), sg9.2), k9)) S_391 := w_391_2
      refine lv_aload_n hx hb dX12_mine_174 rfl (lv_at hl 1 rfl) ?_
      refine lv_iload_n hx hb dX12_mine_175 rfl (lv_at hl 0 rfl) ?_
      obtain ⟨x_397, f_x_397, b_x_397⟩ := dg_I.int (i := 0) (k := 6) (lo := 0) (hi := 9999) I_391 sM_0 (by decide +kernel)
      refine dg_callv hS hA1 hA (va_runV (As := [.int 1]) (rest := []) F (c_m_finishes l g D o S_391 1 tb tn y_393 f_y_393 (by omega) y_394 f_y_394 (by omega) y_395 f_y_395 (by omega) le (((m_391.1 0 2 _ sM_0 (by decide)).trans ((m_385.1 0 2 _ sM_0 (by decide)).trans (dg_uF_ne e_383 (fun z => absurd z.2 (by decide))))).trans ff_380_2_0) (by omega) y_396 f_y_396 (by omega) x_397 f_x_397 (by omega) (by omega) w_391_3 I_391 H.size) (cwV 1 hts (bw_V wB_1311 wB_1312 wB_1313 wB_297 wB_1310) rfl rfl rfl (by decide +kernel) ⟨Nat.le_of_ble_eq_true rfl, Nat.le_of_ble_eq_true rfl⟩) (dg_preV sM_0 rfl K ST hP hS hA1 hA) rfl rfl hl.1 rfl (lv_room (Nat.le_of_ble_eq_true rfl)) dX12_mine_176 ⟨Nat.le_of_ble_eq_true rfl, Nat.le_of_ble_eq_true rfl⟩) (fun S_398 hw_398 H locs hP hS => ?_)
      obtain ⟨I_398, m_398, w_398_0, w_398_1, -⟩ := hw_398
      have M_398 := dg_sm.tr M_391 m_398 (by decide) (by decide)
      have hz_399 : (1 : Int32).toInt = 1 := by decide +kernel
      obtain ⟨y_400, y_401, y_402, y_403, f_y_400, f_y_401, f_y_402, f_y_403, w_398_0⟩ := w_398_0
      have w_398_0 : (((y_401).toInt ≤ (y_402).toInt ∧ (y_402).toInt ≤ (le).toInt ∧ ((y_400).toInt ≠ 0 → (y_401).toInt + 1 ≤ (y_402).toInt)) ∧ (y_394).toInt ≤ (y_401).toInt ∧ ((y_396).toInt ≠ 0 → (y_403).toInt ≠ 0) ∧ ((y_403).toInt = 0 → (y_394).toInt + 1 ≤ (y_401).toInt)) ∧ m_hid ((y_396).toInt = 0 → ((y_403).toInt = 0 → g_tk (T_kd tb tn) (T_vl tb tn) 59 (t_ix tb tn (y_394 : Int32).toNatClampNeg) = some (t_ix tb tn (y_401 : Int32).toNatClampNeg) ∧ (((1 : Int32)).toInt = 80 → (T_kd tb tn (t_ix tb tn (y_401 : Int32).toNatClampNeg)).toInt = 0)) ∧ ((y_403).toInt ≠ 0 → g_tk (T_kd tb tn) (T_vl tb tn) 59 (t_ix tb tn (y_394 : Int32).toNatClampNeg) = none ∨ (((1 : Int32)).toInt = 80 ∧ ∃ k9 : Nat, g_tk (T_kd tb tn) (T_vl tb tn) 59 (t_ix tb tn (y_394 : Int32).toNatClampNeg) = some k9 ∧ (T_kd tb tn k9).toInt ≠ 0))) := w_398_0
      obtain ⟨⟨⟨w_398_0_0, w_398_0_1, w_398_0_2⟩, w_398_0_3, w_398_0_4, w_398_0_5⟩, w_398_0_6⟩ := w_398_0
      have b_y_400 : 0 ≤ (y_400).toInt ∧ (y_400).toInt ≤ 3 := dg_I.intb (lo := 0) (hi := 3) I_398 sM_0 (by decide +kernel) f_y_400
      have b_y_401 : 0 ≤ (y_401).toInt ∧ (y_401).toInt ≤ 1600 := dg_I.intb (lo := 0) (hi := 1600) I_398 sM_0 (by decide +kernel) f_y_401
      have b_y_402 : 0 ≤ (y_402).toInt ∧ (y_402).toInt ≤ 1600 := dg_I.intb (lo := 0) (hi := 1600) I_398 sM_0 (by decide +kernel) f_y_402
      have b_y_403 : 0 ≤ (y_403).toInt ∧ (y_403).toInt ≤ 6 := dg_I.intb (lo := 0) (hi := 6) I_398 sM_0 (by decide +kernel) f_y_403
      have J_516 : ∀ (x_495 : Int32) (x_496 : Int32) (x_497 : Int32) (x_498 : Int32) (x_499 : Int32) (x_500 : Int32), (1 ≤ (x_495).toInt ∧ (x_495).toInt ≤ 80) → (0 ≤ (x_496).toInt ∧ (x_496).toInt ≤ 3) → (0 ≤ (x_497).toInt ∧ (x_497).toInt ≤ 1600) → (0 ≤ (x_498).toInt ∧ (x_498).toInt ≤ 1600) → (0 ≤ (x_499).toInt ∧ (x_499).toInt ≤ 6) → (0 ≤ (x_500).toInt ∧ (x_500).toInt ≤ 1600) → ∀ S_515 : dg_S, CM o S_515 → dg_sm shM [(0, 1), (0, 2), (0, 3), (0, 4), (0, 5), (0, 6), (0, 7), (0, 8), (0, 9), (0, 10), (0, 11), (0, 12), (0, 13), (0, 34), (0, 35), (0, 36), (0, 42), (0, 43), (0, 45), (0, 46), (0, 47), (0, 61), (0, 63), (0, 69)] [2, 3, 4, 5, 6, 7, 8, 9, 10, 11, 12, 13, 14, 15, 16, 17, 18, 19, 20, 21, 22, 23, 24, 25, 26, 27, 28, 29, 30, 31, 32, 33, 34, 35, 36, 37, 38] S S_515 → S_515.1 0 13 = .int x_1 → S_515.1 0 47 = .int x_2 → S_515.1 0 2 = .int le → S_515.1 0 1 = .int 0 → S_515.1 0 35 = .int x_12 → S_515.1 0 3 = .int x_496 → S_515.1 0 4 = .int x_497 → S_515.1 0 5 = .int x_498 → S_515.1 0 8 = .int x_499 → S_515.1 0 34 = .int x_500 → ZBM S_515 → ZSM S_515 → ZWM S_515 → ZKM S_515 → GBM S S_515 → ((x_499).toInt = 0 → ZCM S_515 ∧ ZVM S_515) → (m_hid (MIN tb tn (x_495 : Int32) x_499 x_497 S_515)) → (m_hid ((x_499).toInt = 0 → (T_kd tb tn (t_ix tb tn (x_497 : Int32).toNatClampNeg)).toInt = 0)) → ∀ (H : Heap) (locs : List Loc), va_P D vwCl (dg_w g shM o rfM S_515) H → va_S A s.heap H locs → ∀ ls : Array Slot, lv_has ls 2 [(1, .int x_495), (0, .ref (o + 0))] → W p l e ({ frames := 8, cells := 0, slots := 0, locals := 185 } : Room) s m args below meth c H locs 0 0 Q9 (F0 m 208 ls []) := by
        intro x_495 x_496 x_497 x_498 x_499 x_500 b_x_495 b_x_496 b_x_497 b_x_498 b_x_499 b_x_500 S_515 I_515 M_515 ff_515_13_0 ff_515_47_0 ff_515_2_0 ff_515_1_0 ff_515_35_0 ff_515_3_0 ff_515_4_0 ff_515_5_0 ff_515_8_0 ff_515_34_0 ZB_515 ZS_515 ZW_515 ZK_515 GB_515 srel_515_0 srel_515_1 srel_515_2 H locs hP hS ls hl
        have hMIN := srel_515_1.out
        have hkz7 := srel_515_2
        refine lv_aload_n hx hb dX12_mine_208 rfl (lv_at hl 1 rfl) ?_
        refine lv_aload_n hx hb dX12_mine_209 rfl (lv_at hl 1 rfl) ?_
        refine dg_get (C := RX12) (T := TX12) (N := 77) hx hb hts (fun w h => bw_mem (wU_X12 w h)) hown K hP sM_0 rfl 8 (by decide) (hts _ (bw_mem wB_303)) (fun _ h9 => h9) (v := .int x_499) ff_515_8_0 dX12_mine_210 ?_
        refine dg_put (ci := 12) (v := .int x_499) (ty := tyX12 10) (C := RX12) (T := TX12) (N := 77) hx hb hts (fun w h => bw_mem (wU_X12 w h)) tyX12 tyX12_ok nmX12 hown K hP hS hA1 sM_0 rfl 10 (by decide) (hts _ (bw_mem wB_1083)) (fun _ h9 => h9) rfl (by decide +kernel) rfl rfl dX12_mine_213 (fun S_517 e_517 H locs hP hS => ?_)
        have I_517 := dg_I.uFi (lo := (-2147483648)) (hi := 2147483647) I_515 e_517 sM_0 (by decide +kernel) (show (-2147483648) ≤ (x_499).toInt ∧ (x_499).toInt ≤ 2147483647 from (dk_full _))
        have M_517 := dg_sm.uF M_515 e_517 sM_0 (by decide)
        refine lv_aload_n hx hb dX12_mine_216 rfl (lv_at hl 1 rfl) ?_
        refine lv_aload_n hx hb dX12_mine_217 rfl (lv_at hl 1 rfl) ?_
        obtain ⟨x_518, f_x_518, b_x_518⟩ := dg_I.int (i := 0) (k := 9) (lo := (-2147483648)) (hi := 2147483647) I_517 sM_0 (by decide +kernel)
        refine dg_get (C := RX12) (T := TX12) (N := 77) hx hb hts (fun w h => bw_mem (wU_X12 w h)) hown K hP sM_0 rfl 9 (by decide) (hts _ (bw_mem wB_304)) (fun _ h9 => h9) (v := .int x_518) f_x_518 dX12_mine_218 ?_
        refine dg_put (ci := 12) (v := .int x_518) (ty := tyX12 11) (C := RX12) (T := TX12) (N := 77) hx hb hts (fun w h => bw_mem (wU_X12 w h)) tyX12 tyX12_ok nmX12 hown K hP hS hA1 sM_0 rfl 11 (by decide) (hts _ (bw_mem wB_1082)) (fun _ h9 => h9) rfl (by decide +kernel) rfl rfl dX12_mine_221 (fun S_519 e_519 H locs hP hS => ?_)
        have I_519 := dg_I.uFi (lo := (-2147483648)) (hi := 2147483647) I_517 e_519 sM_0 (by decide +kernel) (show (-2147483648) ≤ (x_518).toInt ∧ (x_518).toInt ≤ 2147483647 from (dk_full _))
        have M_519 := dg_sm.uF M_517 e_519 sM_0 (by decide)
        refine lv_aload_n hx hb dX12_mine_224 rfl (lv_at hl 1 rfl) ?_
        refine dg_get (C := RX12) (T := TX12) (N := 77) hx hb hts (fun w h => bw_mem (wU_X12 w h)) hown K hP sM_0 rfl 8 (by decide) (hts _ (bw_mem wB_303)) (fun _ h9 => h9) (v := .int x_499) (((dg_uF_ne e_519 (fun z => absurd z.2 (by decide))).trans (dg_uF_ne e_517 (fun z => absurd z.2 (by decide)))).trans ff_515_8_0) dX12_mine_225 ?_
        refine lv_if_le (tgt := 237) hx hb dX12_mine_228 (by decide) (fun c_520 => ?_) (fun c_520 => ?_)
        · have jc_520 := dk_lec (k := 0) (by decide +kernel) c_520
          have zcE := srel_515_0 (by omega)
          have hkz9 := hkz7.out (by omega)
          have GN_515 : GMN (y_mine (T_kd tb tn) (T_vl tb tn)) (x_495 : Int32).toNatClampNeg S_515 := by obtain ⟨s9, g9, hY9, hc9, -⟩ := hMIN.1 (by omega); exact ⟨s9, hY9.done (by have h9 := dk_clN x_495; omega) hkz9, g9⟩
          refine lv_aload_n hx hb dX12_mine_237 rfl (lv_at hl 1 rfl) ?_
          refine lv_aload_n hx hb dX12_mine_238 rfl (lv_at hl 1 rfl) ?_
          refine dg_get (C := RX12) (T := TX12) (N := 77) hx hb hts (fun w h => bw_mem (wU_X12 w h)) hown K hP sM_0 rfl 35 (by decide) (hts _ (bw_mem wB_353)) (fun _ h9 => h9) (v := .int x_12) (((dg_uF_ne e_519 (fun z => absurd z.2 (by decide))).trans (dg_uF_ne e_517 (fun z => absurd z.2 (by decide)))).trans ff_515_35_0) dX12_mine_239 ?_
          refine dg_put (ci := 12) (v := .int x_12) (ty := tyX12 13) (C := RX12) (T := TX12) (N := 77) hx hb hts (fun w h => bw_mem (wU_X12 w h)) tyX12 tyX12_ok nmX12 hown K hP hS hA1 sM_0 rfl 13 (by decide) (hts _ (bw_mem wB_1085)) (fun _ h9 => h9) rfl (by decide +kernel) rfl rfl dX12_mine_242 (fun S_521 e_521 H locs hP hS => ?_)
          have I_521 := dg_I.uFi (lo := 0) (hi := 1) I_519 e_521 sM_0 (by decide +kernel) (show 0 ≤ (x_12).toInt ∧ (x_12).toInt ≤ 1 from (by omega))
          have M_521 := dg_sm.uF M_519 e_521 sM_0 (by decide)
          have ZW_521 : ZWM S_521 := ZVM.use (ZVM.keep (ZVM.keep zcE.2 (dg_sm.uF (WF := [(0, 10)]) (WA := []) dg_sm.rf e_517 sM_0 (by decide)) (by decide) (by decide) (by decide) (by decide) (by decide)) (dg_sm.uF (WF := [(0, 11)]) (WA := []) dg_sm.rf e_519 sM_0 (by decide)) (by decide) (by decide) (by decide) (by decide) (by decide)) (((dg_uF_ne e_519 (fun z => absurd z.2 (by decide))).trans (dg_uF_ne e_517 (fun z => absurd z.2 (by decide)))).trans ff_515_35_0) (((dg_uF_ne e_519 (fun z => absurd z.2 (by decide))).trans (dg_uF_ne e_517 (fun z => absurd z.2 (by decide)))).trans ff_515_34_0) (by omega) e_521
          refine lv_aload_n hx hb dX12_mine_245 rfl (lv_at hl 1 rfl) ?_
          refine lv_iconst (v := 1) hx hb dX12_mine_246 (by decide +kernel) ?_
          have hz_522 : (1 : Int32).toInt = 1 := by decide +kernel
          refine dg_put (ci := 12) (v := .int 1) (ty := tyX12 47) (C := RX12) (T := TX12) (N := 77) hx hb hts (fun w h => bw_mem (wU_X12 w h)) tyX12 tyX12_ok nmX12 hown K hP hS hA1 sM_0 rfl 47 (by decide) (hts _ (bw_mem wB_1084)) (fun _ h9 => h9) rfl (by decide +kernel) (by decide +kernel) (by decide +kernel) dX12_mine_247 (fun S_523 e_523 H locs hP hS => ?_)
          have I_523 := dg_I.uFi (lo := 0) (hi := 1) I_521 e_523 sM_0 (by decide +kernel) (show 0 ≤ ((1 : Int32)).toInt ∧ ((1 : Int32)).toInt ≤ 1 from (by decide +kernel))
          have M_523 := dg_sm.uF M_521 e_523 sM_0 (by decide)
          have ZB_523 : ZBM S_523 := ZCM.use (ZCM.keep (ZCM.keep zcE.1 (dg_sm.uF (WF := [(0, 10)]) (WA := []) dg_sm.rf e_517 sM_0 (by decide)) (by decide) (by decide) (by decide) (by decide)) (dg_sm.uF (WF := [(0, 11)]) (WA := []) dg_sm.rf e_519 sM_0 (by decide)) (by decide) (by decide) (by decide) (by decide)) (((dg_uF_ne e_519 (fun z => absurd z.2 (by decide))).trans (dg_uF_ne e_517 (fun z => absurd z.2 (by decide)))).trans ff_515_35_0) e_521 e_523
          refine lv_aload_n hx hb dX12_mine_250 rfl (lv_at hl 1 rfl) ?_
          refine dg_callv hS hA1 hA (va_runV (As := []) (rest := []) F (c_m_begin l g D o S_523 ZB_523 (ZSM.keep (ZSM.keep (ZSM.keep (ZSM.keep ZS_515 (dg_sm.uF (WF := [(0, 10)]) (WA := []) dg_sm.rf e_517 sM_0 (by decide)) (by decide)) (dg_sm.uF (WF := [(0, 11)]) (WA := []) dg_sm.rf e_519 sM_0 (by decide)) (by decide)) (dg_sm.uF (WF := [(0, 13)]) (WA := []) dg_sm.rf e_521 sM_0 (by decide)) (by decide)) (dg_sm.uF (WF := [(0, 47)]) (WA := []) dg_sm.rf e_523 sM_0 (by decide)) (by decide)) I_523 H.size) (cwV 0 hts (bw_V wB_1319 wB_1320 wB_1321 wB_297 wB_1318) rfl rfl rfl (by decide +kernel) ⟨Nat.le_of_ble_eq_true rfl, Nat.le_of_ble_eq_true rfl⟩) (dg_preV sM_0 rfl K ST hP hS hA1 hA) rfl rfl hl.1 rfl (lv_room (Nat.le_of_ble_eq_true rfl)) dX12_mine_251 ⟨Nat.le_of_ble_eq_true rfl, Nat.le_of_ble_eq_true rfl⟩) (fun S_524 hw_524 H locs hP hS => ?_)
          obtain ⟨I_524, m_524, w_524_0, -⟩ := hw_524
          have M_524 := dg_sm.tr M_523 m_524 (by decide) (by decide)
          refine lv_iload_n hx hb dX12_mine_254 rfl (lv_at hl 0 rfl) ?_
          have hz_525 : (0 : Int32).toInt = 0 := by decide +kernel
          refine W.widen (k := 0) (n := 0) (Nat.le_of_ble_eq_true rfl) (Nat.le_of_ble_eq_true rfl) ?_
          rw [hQ9]
          exact dg_iret hx hb hr hlocks rfl hP hS ⟨I_524, M_524, (by omega), ⟨0, (((m_524.1 0 1 _ sM_0 (by decide)).trans ((dg_uF_ne e_523 (fun z => absurd z.2 (by decide))).trans ((dg_uF_ne e_521 (fun z => absurd z.2 (by decide))).trans ((dg_uF_ne e_519 (fun z => absurd z.2 (by decide))).trans (dg_uF_ne e_517 (fun z => absurd z.2 (by decide))))))).trans ff_515_1_0), (by omega)⟩, ⟨fun q9 => absurd q9 (by omega), fun _ => by rw [← htn]; obtain ⟨s9, -, hY9, hc9, -⟩ := hMIN.1 (by omega); exact ⟨s9, hY9.done (by have h9 := dk_clN x_495; omega) hkz9⟩⟩, ⟨fun q9 => absurd q9 (by omega), fun _ => ⟨by rw [← htn]; exact (GMN.keep (GMN.keep (GMN.keep (GMN.keep (GMN.keep GN_515 (dg_sm.uF (WF := [(0, 10)]) (WA := []) dg_sm.rf e_517 sM_0 (by decide)) (by decide) (by decide)) (dg_sm.uF (WF := [(0, 11)]) (WA := []) dg_sm.rf e_519 sM_0 (by decide)) (by decide) (by decide)) (dg_sm.uF (WF := [(0, 13)]) (WA := []) dg_sm.rf e_521 sM_0 (by decide)) (by decide) (by decide)) (dg_sm.uF (WF := [(0, 47)]) (WA := []) dg_sm.rf e_523 sM_0 (by decide)) (by decide) (by decide)) m_524 (by decide) (by decide)), ⟨_, (((m_524.1 0 13 _ sM_0 (by decide)).trans (dg_uF_ne e_523 (fun z => absurd z.2 (by decide)))).trans (dg_uF_at e_521)), (((m_524.1 0 35 _ sM_0 (by decide)).trans ((dg_uF_ne e_523 (fun z => absurd z.2 (by decide))).trans ((dg_uF_ne e_521 (fun z => absurd z.2 (by decide))).trans ((dg_uF_ne e_519 (fun z => absurd z.2 (by decide))).trans (dg_uF_ne e_517 (fun z => absurd z.2 (by decide))))))).trans ff_515_35_0)⟩, ((m_524.1 0 47 _ sM_0 (by decide)).trans (dg_uF_at e_523))⟩⟩, (ZBM.keep ZB_523 m_524 (by decide) (by decide) (by decide) (by decide) (by decide)), w_524_0, (ZWM.keep (ZWM.keep ZW_521 (dg_sm.uF (WF := [(0, 47)]) (WA := []) dg_sm.rf e_523 sM_0 (by decide)) (by decide) (by decide) (by decide) (by decide)) m_524 (by decide) (by decide) (by decide) (by decide)), trivial⟩ dX12_mine_255
        · have jc_520 := dk_nlec (k := 0) (by decide +kernel) c_520
          refine lv_aload_n hx hb dX12_mine_231 rfl (lv_at hl 1 rfl) ?_
          refine lv_iconst (v := 1) hx hb dX12_mine_232 (by decide +kernel) ?_
          have hz_526 : (1 : Int32).toInt = 1 := by decide +kernel
          refine dg_calli hS hA1 hA (va_runV (As := [.int 1]) (rest := []) F (c_m_refuses l g D o S_519 1 (by decide +kernel) I_519 H.size) (cwV 1 hts (bw_V wB_1079 wB_1080 wB_1081 wB_297 wB_1078) rfl rfl rfl (by decide +kernel) ⟨Nat.le_of_ble_eq_true rfl, Nat.le_of_ble_eq_true rfl⟩) (dg_preV sM_0 rfl K ST hP hS hA1 hA) rfl rfl hl.1 rfl (lv_room (Nat.le_of_ble_eq_true rfl)) dX12_mine_233 ⟨Nat.le_of_ble_eq_true rfl, Nat.le_of_ble_eq_true rfl⟩) (fun x_527 S_528 hw_528 H locs hP hS => ?_)
          obtain ⟨I_528, m_528, w_528_0, -⟩ := hw_528
          have M_528 := dg_sm.tr M_519 m_528 (by decide) (by decide)
          have w_528_0 : (-1) ≤ (x_527).toInt ∧ (x_527).toInt ≤ (-1) := w_528_0
          have hz_529 : (0 : Int32).toInt = 0 := by decide +kernel
          refine W.widen (k := 0) (n := 0) (Nat.le_of_ble_eq_true rfl) (Nat.le_of_ble_eq_true rfl) ?_
          rw [hQ9]
          exact dg_iret hx hb hr hlocks rfl hP hS ⟨I_528, M_528, (by omega), ⟨0, (((m_528.1 0 1 _ sM_0 (by decide)).trans ((dg_uF_ne e_519 (fun z => absurd z.2 (by decide))).trans (dg_uF_ne e_517 (fun z => absurd z.2 (by decide))))).trans ff_515_1_0), (by omega)⟩, ⟨fun _ => by rw [← htn]; exact hMIN.2 (by omega), fun q9 => absurd (by first | omega | decide +kernel) q9⟩, ⟨fun _ => (GBM.keep (GBM.keep (GBM.keep GB_515 (dg_sm.uF (WF := [(0, 10)]) (WA := []) dg_sm.rf e_517 sM_0 (by decide)) (by decide) (by decide) (by decide)) (dg_sm.uF (WF := [(0, 11)]) (WA := []) dg_sm.rf e_519 sM_0 (by decide)) (by decide) (by decide) (by decide)) m_528 (by decide) (by decide) (by decide)), fun q9 => absurd (by first | omega | decide +kernel) q9⟩, (ZBM.keep (ZBM.keep (ZBM.keep ZB_515 (dg_sm.uF (WF := [(0, 10)]) (WA := []) dg_sm.rf e_517 sM_0 (by decide)) (by decide) (by decide) (by decide) (by decide) (by decide)) (dg_sm.uF (WF := [(0, 11)]) (WA := []) dg_sm.rf e_519 sM_0 (by decide)) (by decide) (by decide) (by decide) (by decide) (by decide)) m_528 (by decide) (by decide) (by decide) (by decide) (by decide)), (ZSM.keep (ZSM.keep (ZSM.keep ZS_515 (dg_sm.uF (WF := [(0, 10)]) (WA := []) dg_sm.rf e_517 sM_0 (by decide)) (by decide)) (dg_sm.uF (WF := [(0, 11)]) (WA := []) dg_sm.rf e_519 sM_0 (by decide)) (by decide)) m_528 (by decide)), (ZWM.keep (ZWM.keep (ZWM.keep ZW_515 (dg_sm.uF (WF := [(0, 10)]) (WA := []) dg_sm.rf e_517 sM_0 (by decide)) (by decide) (by decide) (by decide) (by decide)) (dg_sm.uF (WF := [(0, 11)]) (WA := []) dg_sm.rf e_519 sM_0 (by decide)) (by decide) (by decide) (by decide) (by decide)) m_528 (by decide) (by decide) (by decide) (by decide)), trivial⟩ dX12_mine_236
      have L_600 : ∀ (n : Nat) (x_593 : Int32) (x_594 : Int32) (x_595 : Int32) (x_596 : Int32) (x_597 : Int32) (x_598 : Int32), (1 ≤ (x_593).toInt ∧ (x_593).toInt ≤ 80) → (0 ≤ (x_594).toInt ∧ (x_594).toInt ≤ 3) → (0 ≤ (x_595).toInt ∧ (x_595).toInt ≤ 1600) → (0 ≤ (x_596).toInt ∧ (x_596).toInt ≤ 1600) → (0 ≤ (x_597).toInt ∧ (x_597).toInt ≤ 6) → (0 ≤ (x_598).toInt ∧ (x_598).toInt ≤ 1600) → ((7 - (x_597).toInt + 7 * (1600 - (x_595).toInt)).toNat < n) → ∀ S_599 : dg_S, CM o S_599 → dg_sm shM [(0, 1), (0, 2), (0, 3), (0, 4), (0, 5), (0, 6), (0, 7), (0, 8), (0, 9), (0, 10), (0, 11), (0, 12), (0, 13), (0, 34), (0, 35), (0, 36), (0, 42), (0, 43), (0, 45), (0, 46), (0, 47), (0, 61), (0, 63), (0, 69)] [2, 3, 4, 5, 6, 7, 8, 9, 10, 11, 12, 13, 14, 15, 16, 17, 18, 19, 20, 21, 22, 23, 24, 25, 26, 27, 28, 29, 30, 31, 32, 33, 34, 35, 36, 37, 38] S S_599 → S_599.1 0 13 = .int x_1 → S_599.1 0 47 = .int x_2 → S_599.1 0 2 = .int le → S_599.1 0 1 = .int 0 → S_599.1 0 35 = .int x_12 → S_599.1 0 3 = .int x_594 → S_599.1 0 4 = .int x_595 → S_599.1 0 5 = .int x_596 → S_599.1 0 8 = .int x_597 → S_599.1 0 34 = .int x_598 → ZBM S_599 → ZSM S_599 → ZWM S_599 → ZKM S_599 → GBM S S_599 → ((x_595).toInt ≤ (x_596).toInt ∧ (x_596).toInt ≤ (le).toInt ∧ ((x_594).toInt ≠ 0 → (x_595).toInt + 1 ≤ (x_596).toInt)) → ((x_597).toInt = 0 → (x_598).toInt ≤ (x_595).toInt) → ((x_597).toInt = 0 → ZCM S_599 ∧ ZVM S_599) → (m_hid (MIN tb tn (x_593 : Int32) x_597 x_595 S_599)) → (TKM tb tn S_599) → ∀ (H : Heap) (locs : List Loc), va_P D vwCl (dg_w g shM o rfM S_599) H → va_S A s.heap H locs → ∀ ls : Array Slot, lv_has ls 2 [(1, .int x_593), (0, .ref (o + 0))] → W p l e ({ frames := 8, cells := 0, slots := 0, locals := 185 } : Room) s m args below meth c H locs 0 0 Q9 (F0 m 179 ls []) := by
        intro n
        induction n with
        | zero =>
          intro x_593 x_594 x_595 x_596 x_597 x_598 b_x_593 b_x_594 b_x_595 b_x_596 b_x_597 b_x_598 hmu S_599 I_599 M_599 ff_599_13_0 ff_599_47_0 ff_599_2_0 ff_599_1_0 ff_599_35_0 ff_599_3_0 ff_599_4_0 ff_599_5_0 ff_599_8_0 ff_599_34_0 ZB_599 ZS_599 ZW_599 ZK_599 GB_599 srel_599_0 srel_599_1 srel_599_2 srel_599_3 srel_599_4 H locs hP hS ls hl
          omega
        | succ n ih =>
          intro x_593 x_594 x_595 x_596 x_597 x_598 b_x_593 b_x_594 b_x_595 b_x_596 b_x_597 b_x_598 hmu S_599 I_599 M_599 ff_599_13_0 ff_599_47_0 ff_599_2_0 ff_599_1_0 ff_599_35_0 ff_599_3_0 ff_599_4_0 ff_599_5_0 ff_599_8_0 ff_599_34_0 ZB_599 ZS_599 ZW_599 ZK_599 GB_599 srel_599_0 srel_599_1 srel_599_2 srel_599_3 srel_599_4 H locs hP hS ls hl
          refine lv_aload_n hx hb dX12_mine_179 rfl (lv_at hl 1 rfl) ?_
          refine dg_get (C := RX12) (T := TX12) (N := 77) hx hb hts (fun w h => bw_mem (wU_X12 w h)) hown K hP sM_0 rfl 8 (by decide) (hts _ (bw_mem wB_303)) (fun _ h9 => h9) (v := .int x_597) ff_599_8_0 dX12_mine_180 ?_
          refine lv_if_ne (tgt := 208) hx hb dX12_mine_183 (by decide) (fun c_601 => ?_) (fun c_601 => ?_)
          · have jc_601 := dk_neqc (k := 0) (by decide +kernel) c_601
            have jbc_601 : 1 ≤ (x_597).toInt := by omega
            clear jc_601
            exact J_516 x_593 x_594 x_595 x_596 x_597 x_598 (by omega) (by omega) (by omega) (by omega) (by omega) (by omega) S_599 I_599 M_599 ff_599_13_0 ff_599_47_0 ff_599_2_0 ff_599_1_0 ff_599_35_0 ff_599_3_0 ff_599_4_0 ff_599_5_0 ff_599_8_0 ff_599_34_0 ZB_599 ZS_599 ZW_599 ZK_599 GB_599 srel_599_2 srel_599_3 (m_hid.mk (fun q9 => by exfalso; omega)) _ _ hP hS _ (lv_sub hl [0, 1] rfl)
          · have jc_601 := dk_eqc (k := 0) (by decide +kernel) c_601
            obtain ⟨sg9, hG599, hY599, hc1599, hc80599⟩ := (srel_599_3.out).1 (by omega)
            have hzk599 := TKM.zero srel_599_4 ff_599_3_0 ff_599_4_0
            refine lv_aload_n hx hb dX12_mine_186 rfl (lv_at hl 1 rfl) ?_
            refine dg_get (C := RX12) (T := TX12) (N := 77) hx hb hts (fun w h => bw_mem (wU_X12 w h)) hown K hP sM_0 rfl 3 (by decide) (hts _ (bw_mem wB_292)) (fun _ h9 => h9) (v := .int x_594) ff_599_3_0 dX12_mine_187 ?_
            refine lv_if_eq (tgt := 208) hx hb dX12_mine_190 (by decide) (fun c_602 => ?_) (fun c_602 => ?_)
            · have jc_602 := dk_eqc (k := 0) (by decide +kernel) c_602
              exact J_516 x_593 x_594 x_595 x_596 x_597 x_598 (by omega) (by omega) (by omega) (by omega) (by omega) (by omega) S_599 I_599 M_599 ff_599_13_0 ff_599_47_0 ff_599_2_0 ff_599_1_0 ff_599_35_0 ff_599_3_0 ff_599_4_0 ff_599_5_0 ff_599_8_0 ff_599_34_0 ZB_599 ZS_599 ZW_599 ZK_599 GB_599 srel_599_2 srel_599_3 (m_hid.mk (fun _ => hzk599.mp (by omega))) _ _ hP hS _ (lv_sub hl [0, 1] rfl)
            · have jc_602 := dk_neqc (k := 0) (by decide +kernel) c_602
              have jbc_602 : 1 ≤ (x_594).toInt := by omega
              clear jc_602
              have zcH := srel_599_2 (by omega)
              have hkz599 : (T_kd tb tn (t_ix tb tn (x_595 : Int32).toNatClampNeg)).toInt ≠ 0 := fun q9 => absurd (hzk599.mpr q9) (by omega)
              replace hc80599 : (x_593).toInt ≠ 80 := fun q9 => hkz599 (hc80599 q9)
              clear hzk599
              have hc80599 : (x_593).toInt ≤ 79 := by by_cases q9 : (x_593).toInt = 80; exact (hc80599 q9).elim; omega
              refine lv_aload_n hx hb dX12_mine_193 rfl (lv_at hl 1 rfl) ?_
              obtain ⟨x_603, f_x_603⟩ : ∃ x, S_599.2.1 8 (x_12 : Int32).toNatClampNeg = x := ⟨_, rfl⟩
              have hin_604 : vp_in (x_12 : Int32) 2 := (dk_inv (by omega) (by omega))
              have b_x_603 := dk_all_at (dg_I.row (lo := 0) (hi := 6) I_599 sM_8 (by decide +kernel)) hin_604 f_x_603.symm
              obtain ⟨x_605, f_x_605⟩ : ∃ x, S_599.2.1 9 (x_12 : Int32).toNatClampNeg = x := ⟨_, rfl⟩
              have hin_606 : vp_in (x_12 : Int32) 2 := (dk_inv (by omega) (by omega))
              have b_x_605 := dk_all_at (dg_I.row (lo := 0) (hi := 16) I_599 sM_9 (by decide +kernel)) hin_606 f_x_605.symm
              obtain ⟨x_607, f_x_607⟩ : ∃ x, S_599.2.1 12 (x_12 : Int32).toNatClampNeg = x := ⟨_, rfl⟩
              have hin_608 : vp_in (x_12 : Int32) 2 := (dk_inv (by omega) (by omega))
              have b_x_607 := dk_all_at (dg_I.row (lo := 0) (hi := 5) I_599 sM_12 (by decide +kernel)) hin_608 f_x_607.symm
              obtain ⟨x_609, f_x_609⟩ : ∃ x, S_599.2.1 2 (x_12 : Int32).toNatClampNeg = x := ⟨_, rfl⟩
              have hin_610 : vp_in (x_12 : Int32) 2 := (dk_inv (by omega) (by omega))
              have b_x_609 := dk_all_at (dg_I.row (lo := 0) (hi := 9999) I_599 sM_2 (by decide +kernel)) hin_610 f_x_609.symm
              have ex_609 := f_x_609.symm
              have zc_x_609 : 3 ≤ (x_609).toInt ∧ (x_609).toInt ≤ 7 := by rw [ex_609]; exact ⟨(zcH.1 _ ff_599_35_0).1, (zcH.1 _ ff_599_35_0).2.1⟩
              obtain ⟨x_611, f_x_611⟩ : ∃ x, S_599.2.1 3 (x_12 : Int32).toNatClampNeg = x := ⟨_, rfl⟩
              have hin_612 : vp_in (x_12 : Int32) 2 := (dk_inv (by omega) (by omega))
              have b_x_611 := dk_all_at (dg_I.row (lo := 0) (hi := 9999) I_599 sM_3 (by decide +kernel)) hin_612 f_x_611.symm
              have ex_611 := f_x_611.symm
              have zc_x_611 : 3 ≤ (x_611).toInt ∧ (x_611).toInt ≤ 7 := by rw [ex_611]; exact ⟨(zcH.1 _ ff_599_35_0).2.2.1, (zcH.1 _ ff_599_35_0).2.2.2.1⟩
              refine dg_callv hS hA1 hA (va_runV (As := []) (rest := []) F (c_m_statement l g D o S_599 tb tn sg9 S x_594 ff_599_3_0 (by omega) x_595 ff_599_4_0 (by omega) x_596 ff_599_5_0 (by omega) le ff_599_2_0 (by omega) x_597 ff_599_8_0 (by omega) x_598 ff_599_34_0 (by omega) x_12 ff_599_35_0 (by omega) x_603 f_x_603 (by omega) x_605 f_x_605 (by omega) x_607 f_x_607 (by omega) x_609 f_x_609 (by omega) x_611 f_x_611 (by omega) (by omega) (by omega) srel_599_4 hG599 ZB_599 ZW_599 ZK_599 zcH.1 zcH.2 GB_599 I_599 H.size) (cwV 0 hts (bw_V wB_1315 wB_1316 wB_1317 wB_297 wB_1314) rfl rfl rfl (by decide +kernel) ⟨Nat.le_of_ble_eq_true rfl, Nat.le_of_ble_eq_true rfl⟩) (dg_preV sM_0 rfl K ST hP hS hA1 hA) rfl rfl hl.1 rfl (lv_room (Nat.le_of_ble_eq_true rfl)) dX12_mine_194 ⟨Nat.le_of_ble_eq_true rfl, Nat.le_of_ble_eq_true rfl⟩) (fun S_613 hw_613 H locs hP hS => ?_)
              obtain ⟨I_613, m_613, w_613_0, w_613_1, w_613_2, w_613_3, w_613_4, w_613_5, w_613_6, -⟩ := hw_613
              have M_613 := dg_sm.tr M_599 m_613 (by decide) (by decide)
              obtain ⟨y_614, y_615, y_616, y_617, y_618, f_y_614, f_y_615, f_y_616, f_y_617, f_y_618, w_613_0⟩ := w_613_0
              have w_613_0 : ((y_615).toInt ≤ (y_616).toInt ∧ (y_616).toInt ≤ (le).toInt ∧ ((y_614).toInt ≠ 0 → (y_615).toInt + 1 ≤ (y_616).toInt)) ∧ (x_595).toInt ≤ (y_615).toInt ∧ ((x_597).toInt ≠ 0 → (y_617).toInt ≠ 0) ∧ ((y_617).toInt = 0 → (y_618).toInt ≤ (y_615).toInt) := w_613_0
              obtain ⟨⟨w_613_0_0, w_613_0_1, w_613_0_2⟩, w_613_0_3, w_613_0_4, w_613_0_5⟩ := w_613_0
              clear w_613_0_4
              have b_y_614 : 0 ≤ (y_614).toInt ∧ (y_614).toInt ≤ 3 := dg_I.intb (lo := 0) (hi := 3) I_613 sM_0 (by decide +kernel) f_y_614
              have b_y_615 : 0 ≤ (y_615).toInt ∧ (y_615).toInt ≤ 1600 := dg_I.intb (lo := 0) (hi := 1600) I_613 sM_0 (by decide +kernel) f_y_615
              have b_y_616 : 0 ≤ (y_616).toInt ∧ (y_616).toInt ≤ 1600 := dg_I.intb (lo := 0) (hi := 1600) I_613 sM_0 (by decide +kernel) f_y_616
              have b_y_617 : 0 ≤ (y_617).toInt ∧ (y_617).toInt ≤ 6 := dg_I.intb (lo := 0) (hi := 6) I_613 sM_0 (by decide +kernel) f_y_617
              have b_y_618 : 0 ≤ (y_618).toInt ∧ (y_618).toInt ≤ 1600 := dg_I.intb (lo := 0) (hi := 1600) I_613 sM_0 (by decide +kernel) f_y_618
              replace w_613_1 : ∀ k9 : Int32, S_613.1 0 8 = .int k9 → k9.toInt = 0 → ZCM S_613 ∧ ZVM S_613 := w_613_1
              replace w_613_2 : SOK tb tn x_597 (y_st (T_kd tb tn) (T_vl tb tn) sg9 (t_ix tb tn (x_595 : Int32).toNatClampNeg)) S_613 := w_613_2
              obtain ⟨x_619, ex_619⟩ : ∃ z, z = x_593 + 1 := ⟨_, rfl⟩
              have jx_619 : (x_619).toInt = (x_593).toInt + 1 := by rw [ex_619]; exact dk_addT rfl (by decide +kernel) (by omega) (by omega)
              refine lv_iinc (v := x_619) (lv' := [(1, .int x_619), (0, .ref (o + 0))]) hx hb dX12_mine_197 hl (k := 0) rfl (by rw [ex_619]; rfl) (by decide) rfl (fun ls hl => ?_)
              refine lv_aload_n hx hb dX12_mine_200 rfl (lv_at hl 1 rfl) ?_
              refine lv_iload_n hx hb dX12_mine_201 rfl (lv_at hl 0 rfl) ?_
              obtain ⟨x_620, f_x_620, b_x_620⟩ := dg_I.int (i := 0) (k := 6) (lo := 0) (hi := 9999) I_613 sM_0 (by decide +kernel)
              refine dg_callv hS hA1 hA (va_runV (As := [.int x_619]) (rest := []) F (c_m_finishes l g D o S_613 x_619 tb tn y_614 f_y_614 (by omega) y_615 f_y_615 (by omega) y_616 f_y_616 (by omega) le ((m_613.1 0 2 _ sM_0 (by decide)).trans ff_599_2_0) (by omega) y_617 f_y_617 (by omega) x_620 f_x_620 (by omega) (by omega) w_613_3 I_613 H.size) (cwV 1 hts (bw_V wB_1311 wB_1312 wB_1313 wB_297 wB_1310) rfl rfl rfl (by decide +kernel) ⟨Nat.le_of_ble_eq_true rfl, Nat.le_of_ble_eq_true rfl⟩) (dg_preV sM_0 rfl K ST hP hS hA1 hA) rfl rfl hl.1 rfl (lv_room (Nat.le_of_ble_eq_true rfl)) dX12_mine_202 ⟨Nat.le_of_ble_eq_true rfl, Nat.le_of_ble_eq_true rfl⟩) (fun S_621 hw_621 H locs hP hS => ?_)
              obtain ⟨I_621, m_621, w_621_0, w_621_1, -⟩ := hw_621
              have M_621 := dg_sm.tr M_613 m_621 (by decide) (by decide)
              obtain ⟨y_622, y_623, y_624, y_625, f_y_622, f_y_623, f_y_624, f_y_625, w_621_0⟩ := w_621_0
              have w_621_0 : (((y_623).toInt ≤ (y_624).toInt ∧ (y_624).toInt ≤ (le).toInt ∧ ((y_622).toInt ≠ 0 → (y_623).toInt + 1 ≤ (y_624).toInt)) ∧ (y_615).toInt ≤ (y_623).toInt ∧ ((y_617).toInt ≠ 0 → (y_625).toInt ≠ 0) ∧ ((y_625).toInt = 0 → (y_615).toInt + 1 ≤ (y_623).toInt)) ∧ m_hid ((y_617).toInt = 0 → ((y_625).toInt = 0 → g_tk (T_kd tb tn) (T_vl tb tn) 59 (t_ix tb tn (y_615 : Int32).toNatClampNeg) = some (t_ix tb tn (y_623 : Int32).toNatClampNeg) ∧ ((x_619).toInt = 80 → (T_kd tb tn (t_ix tb tn (y_623 : Int32).toNatClampNeg)).toInt = 0)) ∧ ((y_625).toInt ≠ 0 → g_tk (T_kd tb tn) (T_vl tb tn) 59 (t_ix tb tn (y_615 : Int32).toNatClampNeg) = none ∨ ((x_619).toInt = 80 ∧ ∃ k9 : Nat, g_tk (T_kd tb tn) (T_vl tb tn) 59 (t_ix tb tn (y_615 : Int32).toNatClampNeg) = some k9 ∧ (T_kd tb tn k9).toInt ≠ 0))) := w_621_0
              obtain ⟨⟨⟨w_621_0_0, w_621_0_1, w_621_0_2⟩, w_621_0_3, w_621_0_4, w_621_0_5⟩, w_621_0_6⟩ := w_621_0
              have b_y_622 : 0 ≤ (y_622).toInt ∧ (y_622).toInt ≤ 3 := dg_I.intb (lo := 0) (hi := 3) I_621 sM_0 (by decide +kernel) f_y_622
              have b_y_623 : 0 ≤ (y_623).toInt ∧ (y_623).toInt ≤ 1600 := dg_I.intb (lo := 0) (hi := 1600) I_621 sM_0 (by decide +kernel) f_y_623
              have b_y_624 : 0 ≤ (y_624).toInt ∧ (y_624).toInt ≤ 1600 := dg_I.intb (lo := 0) (hi := 1600) I_621 sM_0 (by decide +kernel) f_y_624
              have b_y_625 : 0 ≤ (y_625).toInt ∧ (y_625).toInt ≤ 6 := dg_I.intb (lo := 0) (hi := 6) I_621 sM_0 (by decide +kernel) f_y_625
              refine lv_goto (tgt := 179) hx hb dX12_mine_205 (by decide) ?_
              exact ih x_619 y_622 y_623 y_624 y_625 y_618 (by omega) (by omega) (by omega) (by omega) (by omega) (by omega) (by omega) S_621 I_621 M_621 (((m_621.1 0 13 _ sM_0 (by decide)).trans (m_613.1 0 13 _ sM_0 (by decide))).trans ff_599_13_0) (((m_621.1 0 47 _ sM_0 (by decide)).trans (m_613.1 0 47 _ sM_0 (by decide))).trans ff_599_47_0) (((m_621.1 0 2 _ sM_0 (by decide)).trans (m_613.1 0 2 _ sM_0 (by decide))).trans ff_599_2_0) (((m_621.1 0 1 _ sM_0 (by decide)).trans (m_613.1 0 1 _ sM_0 (by decide))).trans ff_599_1_0) (((m_621.1 0 35 _ sM_0 (by decide)).trans (m_613.1 0 35 _ sM_0 (by decide))).trans ff_599_35_0) f_y_622 f_y_623 f_y_624 f_y_625 ((m_621.1 0 34 _ sM_0 (by decide)).trans f_y_618) (ZBM.keep w_613_4 m_621 (by decide) (by decide) (by decide) (by decide) (by decide)) (ZSM.keep (ZSM.keep ZS_599 m_613 (by decide)) m_621 (by decide)) (ZWM.keep w_613_5 m_621 (by decide) (by decide) (by decide) (by decide)) (ZKM.keep (ZKM.keep ZK_599 m_613 (by decide) (by decide)) m_621 (by decide) (by decide)) (GBM.keep w_613_6 m_621 (by decide) (by decide) (by decide)) (by omega) (by omega) (fun h8 => ⟨(ZCM.keep (w_613_1 _ f_y_617 (by omega)).1 m_621 (by decide) (by decide) (by decide) (by decide)), (ZVM.keep (w_613_1 _ f_y_617 (by omega)).2 m_621 (by decide) (by decide) (by decide) (by decide) (by decide))⟩) (m_hid.mk (MIN.stp hY599 (fun q9 => absurd q9.2 hkz599) (by have h9 := dk_clN x_593; omega) (y_one_n (by have h9 := dk_clN x_593; omega)) w_613_2 (by omega) f_y_617 f_y_615 (cnt := (x_619 : Int32)) (by have h8 := dk_clN (x_619 : Int32); have h9 := dk_clN x_593; omega) (fun q9 => w_621_0_6.out q9) (fun q9 => by omega) m_621 (by decide) (by decide) (by decide) (by decide) (by decide) (by decide) (by decide) (by decide) (by decide) )) w_621_1 _ _ hP hS _ (lv_sub hl [0, 1] rfl)
      have hz_626 : (1 : Int32).toInt = 1 := by decide +kernel
      have hz_627 : (0 : Int32).toInt = 0 := by decide +kernel
      have hz_628 : (1 : Int32).toInt = 1 := by decide +kernel
      have hz_629 : (0 : Int32).toInt = 0 := by decide +kernel
      have hz_630 : (0 : Int32).toInt = 0 := by decide +kernel
      have hz_631 : (1 : Int32).toInt = 1 := by decide +kernel
      exact L_600 ((7 - ((y_403 : Int32)).toInt + 7 * (1600 - ((y_401 : Int32)).toInt)).toNat + 1) 1 y_400 y_401 y_402 y_403 0 (by decide +kernel) (by omega) (by omega) (by omega) (by omega) (by decide +kernel) (by omega) S_398 I_398 M_398 (((m_398.1 0 13 _ sM_0 (by decide)).trans ((m_391.1 0 13 _ sM_0 (by decide)).trans ((m_385.1 0 13 _ sM_0 (by decide)).trans (dg_uF_ne e_383 (fun z => absurd z.2 (by decide)))))).trans ff_380_13_0) (((m_398.1 0 47 _ sM_0 (by decide)).trans ((m_391.1 0 47 _ sM_0 (by decide)).trans ((m_385.1 0 47 _ sM_0 (by decide)).trans (dg_uF_ne e_383 (fun z => absurd z.2 (by decide)))))).trans ff_380_47_0) (((m_398.1 0 2 _ sM_0 (by decide)).trans ((m_391.1 0 2 _ sM_0 (by decide)).trans ((m_385.1 0 2 _ sM_0 (by decide)).trans (dg_uF_ne e_383 (fun z => absurd z.2 (by decide)))))).trans ff_380_2_0) (((m_398.1 0 1 _ sM_0 (by decide)).trans ((m_391.1 0 1 _ sM_0 (by decide)).trans ((m_385.1 0 1 _ sM_0 (by decide)).trans (dg_uF_ne e_383 (fun z => absurd z.2 (by decide)))))).trans ff_380_1_0) (((m_398.1 0 35 _ sM_0 (by decide)).trans ((m_391.1 0 35 _ sM_0 (by decide)).trans ((m_385.1 0 35 _ sM_0 (by decide)).trans (dg_uF_ne e_383 (fun z => absurd z.2 (by decide)))))).trans ff_380_35_0) f_y_400 f_y_401 f_y_402 f_y_403 (((m_398.1 0 34 _ sM_0 (by decide)).trans ((m_391.1 0 34 _ sM_0 (by decide)).trans (m_385.1 0 34 _ sM_0 (by decide)))).trans (dg_uF_at e_383)) (ZBM.keep w_391_4 m_398 (by decide) (by decide) (by decide) (by decide) (by decide)) (ZSM.keep (ZSM.keep (ZSM.keep (ZSM.keep ZS_380 (dg_sm.uF (WF := [(0, 34)]) (WA := []) dg_sm.rf e_383 sM_0 (by decide)) (by decide)) m_385 (by decide)) m_391 (by decide)) m_398 (by decide)) (ZWM.keep (ZWM.keep (ZWM.keep (ZWM.keep ZW_380 (dg_sm.uF (WF := [(0, 34)]) (WA := []) dg_sm.rf e_383 sM_0 (by decide)) (by decide) (by decide) (by decide) (by decide)) m_385 (by decide) (by decide) (by decide) (by decide)) m_391 (by decide) (by decide) (by decide) (by decide)) m_398 (by decide) (by decide) (by decide) (by decide)) (ZKM.keep (ZKM.keep (ZKM.keep (ZKM.keep ZK_380 (dg_sm.uF (WF := [(0, 34)]) (WA := []) dg_sm.rf e_383 sM_0 (by decide)) (by decide) (by decide)) m_385 (by decide) (by decide)) m_391 (by decide) (by decide)) m_398 (by decide) (by decide)) (GBM.keep w_391_5 m_398 (by decide) (by decide) (by decide)) (by omega) (by omega) (fun h8 => ⟨(ZCM.keep (SEM.zc (w_391_1 _ f_y_396 (by omega)) (((m_391.1 0 35 _ sM_0 (by decide)).trans ((m_385.1 0 35 _ sM_0 (by decide)).trans (dg_uF_ne e_383 (fun z => absurd z.2 (by decide))))).trans ff_380_35_0) ((congrFun ((m_391.2 4 _ sM_4 (by decide)).1.trans ((m_385.2 4 _ sM_4 (by decide)).1.trans (dg_uF_f e_383 4))) _).trans frw_380_0) (by omega)) m_398 (by decide) (by decide) (by decide) (by decide)), (ZVM.keep (ZVM.keep (ZVM.keep ZV_383 m_385 (by decide) (by decide) (by decide) (by decide) (by decide)) m_391 (by decide) (by decide) (by decide) (by decide) (by decide)) m_398 (by decide) (by decide) (by decide) (by decide) (by decide))⟩) (m_hid.mk (MIN.stp y_at0 (fun q9 => absurd rfl q9.1) (by decide) (y_one_0t hsg9 (by omega)) w_391_2 (by omega) f_y_396 f_y_394 (cnt := (1 : Int32)) (by have h8 := dk_clN (1 : Int32); omega) (fun q9 => w_398_0_6.out q9) (fun q9 => by omega) m_398 (by decide) (by decide) (by decide) (by decide) (by decide) (by decide) (by decide) (by decide) (by decide) )) w_398_1 _ _ hP hS _ (lv_sub hl [0, 1] rfl)
    have L_650 : ∀ (n : Nat) (x_648 : Int32), (0 ≤ (x_648).toInt ∧ (x_648).toInt ≤ 6) → (3 * (x_12).toInt ≤ (x_648).toInt ∧ (x_648).toInt ≤ 3 * (x_12).toInt + 3) → ((7 - (x_648).toInt).toNat < n) → ∀ S_649 : dg_S, CM o S_649 → dg_sm shM [(0, 1), (0, 2), (0, 3), (0, 4), (0, 5), (0, 6), (0, 7), (0, 8), (0, 9), (0, 10), (0, 11), (0, 12), (0, 13), (0, 34), (0, 35), (0, 36), (0, 42), (0, 43), (0, 45), (0, 46), (0, 47), (0, 61), (0, 63), (0, 69)] [2, 3, 4, 5, 6, 7, 8, 9, 10, 11, 12, 13, 14, 15, 16, 17, 18, 19, 20, 21, 22, 23, 24, 25, 26, 27, 28, 29, 30, 31, 32, 33, 34, 35, 36, 37, 38] S S_649 → S_649.1 0 13 = .int x_1 → S_649.1 0 47 = .int x_2 → S_649.1 0 2 = .int le → S_649.1 0 1 = .int 0 → S_649.1 0 5 = .int 0 → S_649.1 0 8 = .int 0 → S_649.1 0 9 = .int (-1) → S_649.1 0 35 = .int x_12 → S_649.2.1 4 (x_12 : Int32).toNatClampNeg = 0 → S_649.2.1 5 (x_12 : Int32).toNatClampNeg = 3 → S_649.2.1 6 (x_12 : Int32).toNatClampNeg = 0 → S_649.2.1 8 (x_12 : Int32).toNatClampNeg = 0 → S_649.2.1 9 (x_12 : Int32).toNatClampNeg = 0 → S_649.2.1 12 (x_12 : Int32).toNatClampNeg = 0 → ZBM S_649 → ZSM S_649 → ZWM S_649 → ZKM S_649 → TZM tb tn S_649 → GBM S S_649 → (NTM S_649 x_12 (x_648 : Int32).toInt) → ∀ (H : Heap) (locs : List Loc), va_P D vwCl (dg_w g shM o rfM S_649) H → va_S A s.heap H locs → ∀ ls : Array Slot, lv_has ls 2 [(1, .int x_648), (0, .ref (o + 0))] → W p l e ({ frames := 8, cells := 0, slots := 0, locals := 185 } : Room) s m args below meth c H locs 0 0 Q9 (F0 m 134 ls []) := by
      intro n
      induction n with
      | zero =>
        intro x_648 b_x_648 rel_0 hmu S_649 I_649 M_649 ff_649_13_0 ff_649_47_0 ff_649_2_0 ff_649_1_0 ff_649_5_0 ff_649_8_0 ff_649_9_0 ff_649_35_0 frw_649_0 frw_649_1 frw_649_2 frw_649_3 frw_649_4 frw_649_5 ZB_649 ZS_649 ZW_649 ZK_649 TZ_649 GB_649 srel_649_0 H locs hP hS ls hl
        omega
      | succ n ih =>
        intro x_648 b_x_648 rel_0 hmu S_649 I_649 M_649 ff_649_13_0 ff_649_47_0 ff_649_2_0 ff_649_1_0 ff_649_5_0 ff_649_8_0 ff_649_9_0 ff_649_35_0 frw_649_0 frw_649_1 frw_649_2 frw_649_3 frw_649_4 frw_649_5 ZB_649 ZS_649 ZW_649 ZK_649 TZ_649 GB_649 srel_649_0 H locs hP hS ls hl
        refine lv_iload_n hx hb dX12_mine_134 rfl (lv_at hl 0 rfl) ?_
        refine lv_iconst (v := 3) hx hb dX12_mine_135 (by decide +kernel) ?_
        refine lv_aload_n hx hb dX12_mine_136 rfl (lv_at hl 1 rfl) ?_
        refine dg_get (C := RX12) (T := TX12) (N := 77) hx hb hts (fun w h => bw_mem (wU_X12 w h)) hown K hP sM_0 rfl 35 (by decide) (hts _ (bw_mem wB_353)) (fun _ h9 => h9) (v := .int x_12) ff_649_35_0 dX12_mine_137 ?_
        refine lv_imul hx hb dX12_mine_140 ?_
        refine lv_topi (fun x_651 ex_651 => ?_)
        have jx_651 : (x_651).toInt = 3 * (x_12).toInt := by rw [ex_651]; exact dk_mulT (by decide +kernel) rfl (by omega) (by omega)
        refine lv_iconst (v := 3) hx hb dX12_mine_141 (by decide +kernel) ?_
        refine lv_iadd hx hb dX12_mine_142 ?_
        refine lv_topi (fun x_652 ex_652 => ?_)
        have jx_652 : (x_652).toInt = (x_651).toInt + 3 := by rw [ex_652]; exact dk_addT rfl (by decide +kernel) (by omega) (by omega)
        refine lv_icmp_ge (tgt := 159) hx hb dX12_mine_143 (by decide) (fun c_653 => ?_) (fun c_653 => ?_)
        · have jc_653 := dk_gec (k := (x_652).toInt) rfl c_653
          exact J_381 x_648 (by omega) S_649 I_649 M_649 ff_649_13_0 ff_649_47_0 ff_649_2_0 ff_649_1_0 ff_649_5_0 ff_649_8_0 ff_649_9_0 ff_649_35_0 frw_649_0 frw_649_1 frw_649_2 frw_649_3 frw_649_4 frw_649_5 ZB_649 ZS_649 ZW_649 ZK_649 TZ_649 GB_649 (by have h9 := srel_649_0; rw [show (x_648 : Int32).toInt = 3 * (x_12).toInt + 3 from by omega] at h9; exact h9) _ _ hP hS _ (lv_sub hl [0, 1] rfl)
        · have jc_653 := dk_ngec (k := (x_652).toInt) rfl c_653
          refine lv_aload_n hx hb dX12_mine_146 rfl (lv_at hl 1 rfl) ?_
          refine dg_get (C := RX12) (T := TX12) (N := 77) hx hb hts (fun w h => bw_mem (wU_X12 w h)) hown K hP sM_0 rfl 28 (by decide) (hts _ (bw_mem wB_449)) (fun _ h9 => h9) (v := .ref (o + 16)) (show S_649.1 0 28 = .ref (o + 16) from dg_I.rel (d := 16) I_649 sM_0 (by decide +kernel)) dX12_mine_147 ?_
          refine lv_iload_n hx hb dX12_mine_150 rfl (lv_at hl 0 rfl) ?_
          refine lv_iconst (v := (-1)) hx hb dX12_mine_151 (by decide +kernel) ?_
          have hin_654 : vp_in x_648 6 := (dk_inv (by omega) (by omega))
          have hz_656 : (-1 : Int32).toInt = (-1) := by decide +kernel
          refine dg_iast hx hb K hP hS hA1 sM_16 hin_654 dX12_mine_152 (fun S_655 e_655 H locs hP hS => ?_)
          have I_655 := dg_I.ufu (lo := (-1)) (hi := 1600) I_649 e_655 sM_16 (by decide +kernel) (show (-1) ≤ ((-1 : Int32)).toInt ∧ ((-1 : Int32)).toInt ≤ 1600 from (by decide +kernel))
          have M_655 := dg_sm.uf M_649 e_655 sM_16 (by decide)
          have ZW_655 : ZWM S_655 := ZWM.up1 (r := 16) ZW_649 (by decide) ff_649_13_0 (by omega) e_655 (by omega)
          have GB_655 := GBM.st GB_649 ZK_649 ff_649_35_0 3 rfl (wi := 3) rfl e_655 (by omega) (by omega)
          obtain ⟨x_657, ex_657⟩ : ∃ z, z = x_648 + 1 := ⟨_, rfl⟩
          have jx_657 : (x_657).toInt = (x_648).toInt + 1 := by rw [ex_657]; exact dk_addT rfl (by decide +kernel) (by omega) (by omega)
          refine lv_iinc (v := x_657) (lv' := [(1, .int x_657), (0, .ref (o + 0))]) hx hb dX12_mine_153 hl (k := 0) rfl (by rw [ex_657]; rfl) (by decide) rfl (fun ls hl => ?_)
          refine lv_goto (tgt := 134) hx hb dX12_mine_156 (by decide) ?_
          exact ih x_657 (by omega) (by omega) (by omega) S_655 I_655 M_655 ((dg_uf_F e_655 0 13).trans ff_649_13_0) ((dg_uf_F e_655 0 47).trans ff_649_47_0) ((dg_uf_F e_655 0 2).trans ff_649_2_0) ((dg_uf_F e_655 0 1).trans ff_649_1_0) ((dg_uf_F e_655 0 5).trans ff_649_5_0) ((dg_uf_F e_655 0 8).trans ff_649_8_0) ((dg_uf_F e_655 0 9).trans ff_649_9_0) ((dg_uf_F e_655 0 35).trans ff_649_35_0) ((congrFun (dg_uf_ne e_655 (by decide)) _).trans frw_649_0) ((congrFun (dg_uf_ne e_655 (by decide)) _).trans frw_649_1) ((congrFun (dg_uf_ne e_655 (by decide)) _).trans frw_649_2) ((congrFun (dg_uf_ne e_655 (by decide)) _).trans frw_649_3) ((congrFun (dg_uf_ne e_655 (by decide)) _).trans frw_649_4) ((congrFun (dg_uf_ne e_655 (by decide)) _).trans frw_649_5) (ZBM.keep ZB_649 (dg_sm.uf (WF := []) (WA := [16]) dg_sm.rf e_655 sM_16 (by decide)) (by decide) (by decide) (by decide) (by decide) (by decide)) (ZSM.keep ZS_649 (dg_sm.uf (WF := []) (WA := [16]) dg_sm.rf e_655 sM_16 (by decide)) (by decide)) ZW_655 (ZKM.keep ZK_649 (dg_sm.uf (WF := []) (WA := [16]) dg_sm.rf e_655 sM_16 (by decide)) (by decide) (by decide)) (TZM.keep TZ_649 (dg_sm.uf (WF := []) (WA := [16]) dg_sm.rf e_655 sM_16 (by decide)) (by decide) (by decide)) GB_655 (NTM.step srel_649_0 (by omega) (by omega) e_655 (by omega) (by omega)) _ _ hP hS _ (lv_sub hl [0, 1] rfl)
    exact L_650 ((7 - ((x_219 : Int32)).toInt).toNat + 1) x_219 (by omega) (by omega) (by omega) S_217 I_217 M_217 ff_217_13_0 ff_217_47_0 ff_217_2_0 ff_217_1_0 ff_217_5_0 ff_217_8_0 ff_217_9_0 ff_217_35_0 frw_217_0 frw_217_1 frw_217_2 frw_217_3 frw_217_4 frw_217_5 ZB_217 ZS_217 ZW_217 ZK_217 TZ_217 GB_217 (fun w h1 h2 => absurd h2 (by omega)) _ _ hP hS _ (lv_sub hl [0, 1] rfl)
  have L_673 : ∀ (n : Nat) (x_671 : Int32), (0 ≤ (x_671).toInt ∧ (x_671).toInt ≤ 64) → ((65 - (x_671).toInt).toNat < n) → ∀ S_672 : dg_S, CM o S_672 → dg_sm shM [(0, 1), (0, 2), (0, 3), (0, 4), (0, 5), (0, 6), (0, 7), (0, 8), (0, 9), (0, 10), (0, 11), (0, 12), (0, 13), (0, 34), (0, 35), (0, 36), (0, 42), (0, 43), (0, 45), (0, 46), (0, 47), (0, 61), (0, 63), (0, 69)] [2, 3, 4, 5, 6, 7, 8, 9, 10, 11, 12, 13, 14, 15, 16, 17, 18, 19, 20, 21, 22, 23, 24, 25, 26, 27, 28, 29, 30, 31, 32, 33, 34, 35, 36, 37, 38] S S_672 → S_672.1 0 13 = .int x_1 → S_672.1 0 47 = .int x_2 → S_672.1 0 2 = .int le → S_672.1 0 1 = .int 0 → S_672.1 0 5 = .int 0 → S_672.1 0 8 = .int 0 → S_672.1 0 9 = .int (-1) → S_672.1 0 35 = .int x_12 → S_672.2.1 4 (x_12 : Int32).toNatClampNeg = 0 → S_672.2.1 5 (x_12 : Int32).toNatClampNeg = 3 → S_672.2.1 6 (x_12 : Int32).toNatClampNeg = 0 → S_672.2.1 8 (x_12 : Int32).toNatClampNeg = 0 → S_672.2.1 9 (x_12 : Int32).toNatClampNeg = 0 → S_672.2.1 12 (x_12 : Int32).toNatClampNeg = 0 → ZBM S_672 → ZSM S_672 → ZWM S_672 → ZKM S_672 → TZM tb tn S_672 → GBM S S_672 → ∀ (H : Heap) (locs : List Loc), va_P D vwCl (dg_w g shM o rfM S_672) H → va_S A s.heap H locs → ∀ ls : Array Slot, lv_has ls 2 [(1, .int x_671), (0, .ref (o + 0))] → W p l e ({ frames := 8, cells := 0, slots := 0, locals := 185 } : Room) s m args below meth c H locs 0 0 Q9 (F0 m 100 ls []) := by
    intro n
    induction n with
    | zero =>
      intro x_671 b_x_671 hmu S_672 I_672 M_672 ff_672_13_0 ff_672_47_0 ff_672_2_0 ff_672_1_0 ff_672_5_0 ff_672_8_0 ff_672_9_0 ff_672_35_0 frw_672_0 frw_672_1 frw_672_2 frw_672_3 frw_672_4 frw_672_5 ZB_672 ZS_672 ZW_672 ZK_672 TZ_672 GB_672 H locs hP hS ls hl
      omega
    | succ n ih =>
      intro x_671 b_x_671 hmu S_672 I_672 M_672 ff_672_13_0 ff_672_47_0 ff_672_2_0 ff_672_1_0 ff_672_5_0 ff_672_8_0 ff_672_9_0 ff_672_35_0 frw_672_0 frw_672_1 frw_672_2 frw_672_3 frw_672_4 frw_672_5 ZB_672 ZS_672 ZW_672 ZK_672 TZ_672 GB_672 H locs hP hS ls hl
      refine lv_iload_n hx hb dX12_mine_100 rfl (lv_at hl 0 rfl) ?_
      refine lv_bipush (v := 64) hx hb dX12_mine_101 (by decide +kernel) ?_
      refine lv_icmp_ge (tgt := 127) hx hb dX12_mine_103 (by decide) (fun c_674 => ?_) (fun c_674 => ?_)
      · have jc_674 := dk_gec (k := 64) (by decide +kernel) c_674
        exact J_218 x_671 (by omega) S_672 I_672 M_672 ff_672_13_0 ff_672_47_0 ff_672_2_0 ff_672_1_0 ff_672_5_0 ff_672_8_0 ff_672_9_0 ff_672_35_0 frw_672_0 frw_672_1 frw_672_2 frw_672_3 frw_672_4 frw_672_5 ZB_672 ZS_672 ZW_672 ZK_672 TZ_672 GB_672 _ _ hP hS _ (lv_sub hl [0, 1] rfl)
      · have jc_674 := dk_ngec (k := 64) (by decide +kernel) c_674
        refine lv_aload_n hx hb dX12_mine_106 rfl (lv_at hl 1 rfl) ?_
        refine dg_get (C := RX12) (T := TX12) (N := 77) hx hb hts (fun w h => bw_mem (wU_X12 w h)) hown K hP sM_0 rfl 19 (by decide) (hts _ (bw_mem wB_386)) (fun _ h9 => h9) (v := .ref (o + 7)) (show S_672.1 0 19 = .ref (o + 7) from dg_I.rel (d := 7) I_672 sM_0 (by decide +kernel)) dX12_mine_107 ?_
        refine lv_bipush (v := 64) hx hb dX12_mine_110 (by decide +kernel) ?_
        refine lv_aload_n hx hb dX12_mine_112 rfl (lv_at hl 1 rfl) ?_
        refine dg_get (C := RX12) (T := TX12) (N := 77) hx hb hts (fun w h => bw_mem (wU_X12 w h)) hown K hP sM_0 rfl 35 (by decide) (hts _ (bw_mem wB_353)) (fun _ h9 => h9) (v := .int x_12) ff_672_35_0 dX12_mine_113 ?_
        refine lv_imul hx hb dX12_mine_116 ?_
        refine lv_topi (fun x_675 ex_675 => ?_)
        have jx_675 : (x_675).toInt = 64 * (x_12).toInt := by rw [ex_675]; exact dk_mulT (by decide +kernel) rfl (by omega) (by omega)
        refine lv_iload_n hx hb dX12_mine_117 rfl (lv_at hl 0 rfl) ?_
        refine lv_iadd hx hb dX12_mine_118 ?_
        refine lv_topi (fun x_676 ex_676 => ?_)
        have jx_676 : (x_676).toInt = (x_675).toInt + (x_671).toInt := by rw [ex_676]; exact dk_addT rfl rfl (by omega) (by omega)
        refine lv_iconst (v := 5) hx hb dX12_mine_119 (by decide +kernel) ?_
        have hin_677 : vp_in x_676 128 := (dk_inv (by omega) (by omega))
        have hz_679 : (5 : Int32).toInt = 5 := by decide +kernel
        refine dg_iast hx hb K hP hS hA1 sM_7 hin_677 dX12_mine_120 (fun S_678 e_678 H locs hP hS => ?_)
        have I_678 := dg_I.ufu (lo := 0) (hi := 9) I_672 e_678 sM_7 (by decide +kernel) (show 0 ≤ ((5 : Int32)).toInt ∧ ((5 : Int32)).toInt ≤ 9 from (by decide +kernel))
        have M_678 := dg_sm.uf M_672 e_678 sM_7 (by decide)
        have GB_678 := GBM.st GB_672 ZK_672 ff_672_35_0 64 rfl (wi := 64) rfl e_678 (by omega) (by omega)
        obtain ⟨x_680, ex_680⟩ : ∃ z, z = x_671 + 1 := ⟨_, rfl⟩
        have jx_680 : (x_680).toInt = (x_671).toInt + 1 := by rw [ex_680]; exact dk_addT rfl (by decide +kernel) (by omega) (by omega)
        refine lv_iinc (v := x_680) (lv' := [(1, .int x_680), (0, .ref (o + 0))]) hx hb dX12_mine_121 hl (k := 0) rfl (by rw [ex_680]; rfl) (by decide) rfl (fun ls hl => ?_)
        refine lv_goto (tgt := 100) hx hb dX12_mine_124 (by decide) ?_
        exact ih x_680 (by omega) (by omega) S_678 I_678 M_678 ((dg_uf_F e_678 0 13).trans ff_672_13_0) ((dg_uf_F e_678 0 47).trans ff_672_47_0) ((dg_uf_F e_678 0 2).trans ff_672_2_0) ((dg_uf_F e_678 0 1).trans ff_672_1_0) ((dg_uf_F e_678 0 5).trans ff_672_5_0) ((dg_uf_F e_678 0 8).trans ff_672_8_0) ((dg_uf_F e_678 0 9).trans ff_672_9_0) ((dg_uf_F e_678 0 35).trans ff_672_35_0) ((congrFun (dg_uf_ne e_678 (by decide)) _).trans frw_672_0) ((congrFun (dg_uf_ne e_678 (by decide)) _).trans frw_672_1) ((congrFun (dg_uf_ne e_678 (by decide)) _).trans frw_672_2) ((congrFun (dg_uf_ne e_678 (by decide)) _).trans frw_672_3) ((congrFun (dg_uf_ne e_678 (by decide)) _).trans frw_672_4) ((congrFun (dg_uf_ne e_678 (by decide)) _).trans frw_672_5) (ZBM.keep ZB_672 (dg_sm.uf (WF := []) (WA := [7]) dg_sm.rf e_678 sM_7 (by decide)) (by decide) (by decide) (by decide) (by decide) (by decide)) (ZSM.keep ZS_672 (dg_sm.uf (WF := []) (WA := [7]) dg_sm.rf e_678 sM_7 (by decide)) (by decide)) (ZWM.keep ZW_672 (dg_sm.uf (WF := []) (WA := [7]) dg_sm.rf e_678 sM_7 (by decide)) (by decide) (by decide) (by decide) (by decide)) (ZKM.keep ZK_672 (dg_sm.uf (WF := []) (WA := [7]) dg_sm.rf e_678 sM_7 (by decide)) (by decide) (by decide)) (TZM.keep TZ_672 (dg_sm.uf (WF := []) (WA := [7]) dg_sm.rf e_678 sM_7 (by decide)) (by decide) (by decide)) GB_678 _ _ hP hS _ (lv_sub hl [0, 1] rfl)
  have hz_681 : (0 : Int32).toInt = 0 := by decide +kernel
  have hz_682 : (0 : Int32).toInt = 0 := by decide +kernel
  exact L_673 ((65 - ((0 : Int32)).toInt).toNat + 1) 0 (by decide +kernel) (by omega) S_30 I_30 M_30 (((dg_uf_F e_30 0 13).trans ((dg_uf_F e_27 0 13).trans ((dg_uf_F e_24 0 13).trans ((dg_uf_F e_21 0 13).trans ((dg_uf_F e_18 0 13).trans ((dg_uf_F e_15 0 13).trans ((dg_uF_ne e_13 (fun z => absurd z.2 (by decide))).trans ((dg_uF_ne e_11 (fun z => absurd z.2 (by decide))).trans ((dg_uF_ne e_9 (fun z => absurd z.2 (by decide))).trans ((dg_uF_ne e_7 (fun z => absurd z.2 (by decide))).trans ((dg_uF_ne e_5 (fun z => absurd z.2 (by decide))).trans (dg_uF_ne e_3 (fun z => absurd z.2 (by decide)))))))))))))).trans f_x_1) (((dg_uf_F e_30 0 47).trans ((dg_uf_F e_27 0 47).trans ((dg_uf_F e_24 0 47).trans ((dg_uf_F e_21 0 47).trans ((dg_uf_F e_18 0 47).trans ((dg_uf_F e_15 0 47).trans ((dg_uF_ne e_13 (fun z => absurd z.2 (by decide))).trans ((dg_uF_ne e_11 (fun z => absurd z.2 (by decide))).trans ((dg_uF_ne e_9 (fun z => absurd z.2 (by decide))).trans ((dg_uF_ne e_7 (fun z => absurd z.2 (by decide))).trans ((dg_uF_ne e_5 (fun z => absurd z.2 (by decide))).trans (dg_uF_ne e_3 (fun z => absurd z.2 (by decide)))))))))))))).trans f_x_2) (((dg_uf_F e_30 0 2).trans ((dg_uf_F e_27 0 2).trans ((dg_uf_F e_24 0 2).trans ((dg_uf_F e_21 0 2).trans ((dg_uf_F e_18 0 2).trans ((dg_uf_F e_15 0 2).trans ((dg_uF_ne e_13 (fun z => absurd z.2 (by decide))).trans ((dg_uF_ne e_11 (fun z => absurd z.2 (by decide))).trans ((dg_uF_ne e_9 (fun z => absurd z.2 (by decide))).trans ((dg_uF_ne e_7 (fun z => absurd z.2 (by decide))).trans (dg_uF_ne e_5 (fun z => absurd z.2 (by decide))))))))))))).trans (dg_uF_at e_3)) (((dg_uf_F e_30 0 1).trans ((dg_uf_F e_27 0 1).trans ((dg_uf_F e_24 0 1).trans ((dg_uf_F e_21 0 1).trans ((dg_uf_F e_18 0 1).trans ((dg_uf_F e_15 0 1).trans ((dg_uF_ne e_13 (fun z => absurd z.2 (by decide))).trans ((dg_uF_ne e_11 (fun z => absurd z.2 (by decide))).trans ((dg_uF_ne e_9 (fun z => absurd z.2 (by decide))).trans (dg_uF_ne e_7 (fun z => absurd z.2 (by decide)))))))))))).trans (dg_uF_at e_5)) (((dg_uf_F e_30 0 5).trans ((dg_uf_F e_27 0 5).trans ((dg_uf_F e_24 0 5).trans ((dg_uf_F e_21 0 5).trans ((dg_uf_F e_18 0 5).trans ((dg_uf_F e_15 0 5).trans ((dg_uF_ne e_13 (fun z => absurd z.2 (by decide))).trans ((dg_uF_ne e_11 (fun z => absurd z.2 (by decide))).trans (dg_uF_ne e_9 (fun z => absurd z.2 (by decide))))))))))).trans (dg_uF_at e_7)) (((dg_uf_F e_30 0 8).trans ((dg_uf_F e_27 0 8).trans ((dg_uf_F e_24 0 8).trans ((dg_uf_F e_21 0 8).trans ((dg_uf_F e_18 0 8).trans ((dg_uf_F e_15 0 8).trans ((dg_uF_ne e_13 (fun z => absurd z.2 (by decide))).trans (dg_uF_ne e_11 (fun z => absurd z.2 (by decide)))))))))).trans (dg_uF_at e_9)) (((dg_uf_F e_30 0 9).trans ((dg_uf_F e_27 0 9).trans ((dg_uf_F e_24 0 9).trans ((dg_uf_F e_21 0 9).trans ((dg_uf_F e_18 0 9).trans ((dg_uf_F e_15 0 9).trans (dg_uF_ne e_13 (fun z => absurd z.2 (by decide))))))))).trans (dg_uF_at e_11)) (((dg_uf_F e_30 0 35).trans ((dg_uf_F e_27 0 35).trans ((dg_uf_F e_24 0 35).trans ((dg_uf_F e_21 0 35).trans ((dg_uf_F e_18 0 35).trans (dg_uf_F e_15 0 35)))))).trans (dg_uF_at e_13)) ((congrFun ((dg_uf_ne e_30 (by decide)).trans ((dg_uf_ne e_27 (by decide)).trans ((dg_uf_ne e_24 (by decide)).trans ((dg_uf_ne e_21 (by decide)).trans (dg_uf_ne e_18 (by decide)))))) _).trans ((congrFun (dg_uf_at e_15) _).trans (dg_upd_at rfl))) ((congrFun ((dg_uf_ne e_30 (by decide)).trans ((dg_uf_ne e_27 (by decide)).trans ((dg_uf_ne e_24 (by decide)).trans (dg_uf_ne e_21 (by decide))))) _).trans ((congrFun (dg_uf_at e_18) _).trans (dg_upd_at rfl))) ((congrFun ((dg_uf_ne e_30 (by decide)).trans ((dg_uf_ne e_27 (by decide)).trans (dg_uf_ne e_24 (by decide)))) _).trans ((congrFun (dg_uf_at e_21) _).trans (dg_upd_at rfl))) ((congrFun ((dg_uf_ne e_30 (by decide)).trans (dg_uf_ne e_27 (by decide))) _).trans ((congrFun (dg_uf_at e_24) _).trans (dg_upd_at rfl))) ((congrFun (dg_uf_ne e_30 (by decide)) _).trans ((congrFun (dg_uf_at e_27) _).trans (dg_upd_at rfl))) ((congrFun (dg_uf_at e_30) _).trans (dg_upd_at rfl)) (ZBM.keep (ZBM.keep (ZBM.keep (ZBM.keep (ZBM.keep ZB_15 (dg_sm.uf (WF := []) (WA := [5]) dg_sm.rf e_18 sM_5 (by decide)) (by decide) (by decide) (by decide) (by decide) (by decide)) (dg_sm.uf (WF := []) (WA := [6]) dg_sm.rf e_21 sM_6 (by decide)) (by decide) (by decide) (by decide) (by decide) (by decide)) (dg_sm.uf (WF := []) (WA := [8]) dg_sm.rf e_24 sM_8 (by decide)) (by decide) (by decide) (by decide) (by decide) (by decide)) (dg_sm.uf (WF := []) (WA := [9]) dg_sm.rf e_27 sM_9 (by decide)) (by decide) (by decide) (by decide) (by decide) (by decide)) (dg_sm.uf (WF := []) (WA := [12]) dg_sm.rf e_30 sM_12 (by decide)) (by decide) (by decide) (by decide) (by decide) (by decide)) (ZSM.keep (ZSM.keep (ZSM.keep (ZSM.keep (ZSM.keep (ZSM.keep (ZSM.keep (ZSM.keep (ZSM.keep (ZSM.keep (ZSM.keep (ZSM.keep ZS (dg_sm.uF (WF := [(0, 2)]) (WA := []) dg_sm.rf e_3 sM_0 (by decide)) (by decide)) (dg_sm.uF (WF := [(0, 1)]) (WA := []) dg_sm.rf e_5 sM_0 (by decide)) (by decide)) (dg_sm.uF (WF := [(0, 5)]) (WA := []) dg_sm.rf e_7 sM_0 (by decide)) (by decide)) (dg_sm.uF (WF := [(0, 8)]) (WA := []) dg_sm.rf e_9 sM_0 (by decide)) (by decide)) (dg_sm.uF (WF := [(0, 9)]) (WA := []) dg_sm.rf e_11 sM_0 (by decide)) (by decide)) (dg_sm.uF (WF := [(0, 35)]) (WA := []) dg_sm.rf e_13 sM_0 (by decide)) (by decide)) (dg_sm.uf (WF := []) (WA := [4]) dg_sm.rf e_15 sM_4 (by decide)) (by decide)) (dg_sm.uf (WF := []) (WA := [5]) dg_sm.rf e_18 sM_5 (by decide)) (by decide)) (dg_sm.uf (WF := []) (WA := [6]) dg_sm.rf e_21 sM_6 (by decide)) (by decide)) (dg_sm.uf (WF := []) (WA := [8]) dg_sm.rf e_24 sM_8 (by decide)) (by decide)) (dg_sm.uf (WF := []) (WA := [9]) dg_sm.rf e_27 sM_9 (by decide)) (by decide)) (dg_sm.uf (WF := []) (WA := [12]) dg_sm.rf e_30 sM_12 (by decide)) (by decide)) (ZWM.keep (ZWM.keep (ZWM.keep (ZWM.keep (ZWM.keep (ZWM.keep (ZWM.keep (ZWM.keep (ZWM.keep (ZWM.keep (ZWM.keep (ZWM.keep ZW (dg_sm.uF (WF := [(0, 2)]) (WA := []) dg_sm.rf e_3 sM_0 (by decide)) (by decide) (by decide) (by decide) (by decide)) (dg_sm.uF (WF := [(0, 1)]) (WA := []) dg_sm.rf e_5 sM_0 (by decide)) (by decide) (by decide) (by decide) (by decide)) (dg_sm.uF (WF := [(0, 5)]) (WA := []) dg_sm.rf e_7 sM_0 (by decide)) (by decide) (by decide) (by decide) (by decide)) (dg_sm.uF (WF := [(0, 8)]) (WA := []) dg_sm.rf e_9 sM_0 (by decide)) (by decide) (by decide) (by decide) (by decide)) (dg_sm.uF (WF := [(0, 9)]) (WA := []) dg_sm.rf e_11 sM_0 (by decide)) (by decide) (by decide) (by decide) (by decide)) (dg_sm.uF (WF := [(0, 35)]) (WA := []) dg_sm.rf e_13 sM_0 (by decide)) (by decide) (by decide) (by decide) (by decide)) (dg_sm.uf (WF := []) (WA := [4]) dg_sm.rf e_15 sM_4 (by decide)) (by decide) (by decide) (by decide) (by decide)) (dg_sm.uf (WF := []) (WA := [5]) dg_sm.rf e_18 sM_5 (by decide)) (by decide) (by decide) (by decide) (by decide)) (dg_sm.uf (WF := []) (WA := [6]) dg_sm.rf e_21 sM_6 (by decide)) (by decide) (by decide) (by decide) (by decide)) (dg_sm.uf (WF := []) (WA := [8]) dg_sm.rf e_24 sM_8 (by decide)) (by decide) (by decide) (by decide) (by decide)) (dg_sm.uf (WF := []) (WA := [9]) dg_sm.rf e_27 sM_9 (by decide)) (by decide) (by decide) (by decide) (by decide)) (dg_sm.uf (WF := []) (WA := [12]) dg_sm.rf e_30 sM_12 (by decide)) (by decide) (by decide) (by decide) (by decide)) (ZKM.keep (ZKM.keep (ZKM.keep (ZKM.keep (ZKM.keep (ZKM.keep ZK_13 (dg_sm.uf (WF := []) (WA := [4]) dg_sm.rf e_15 sM_4 (by decide)) (by decide) (by decide)) (dg_sm.uf (WF := []) (WA := [5]) dg_sm.rf e_18 sM_5 (by decide)) (by decide) (by decide)) (dg_sm.uf (WF := []) (WA := [6]) dg_sm.rf e_21 sM_6 (by decide)) (by decide) (by decide)) (dg_sm.uf (WF := []) (WA := [8]) dg_sm.rf e_24 sM_8 (by decide)) (by decide) (by decide)) (dg_sm.uf (WF := []) (WA := [9]) dg_sm.rf e_27 sM_9 (by decide)) (by decide) (by decide)) (dg_sm.uf (WF := []) (WA := [12]) dg_sm.rf e_30 sM_12 (by decide)) (by decide) (by decide)) (TZM.keep (TZM.keep (TZM.keep (TZM.keep (TZM.keep (TZM.keep (TZM.keep (TZM.keep (TZM.keep (TZM.keep (TZM.keep TZ_3 (dg_sm.uF (WF := [(0, 1)]) (WA := []) dg_sm.rf e_5 sM_0 (by decide)) (by decide) (by decide)) (dg_sm.uF (WF := [(0, 5)]) (WA := []) dg_sm.rf e_7 sM_0 (by decide)) (by decide) (by decide)) (dg_sm.uF (WF := [(0, 8)]) (WA := []) dg_sm.rf e_9 sM_0 (by decide)) (by decide) (by decide)) (dg_sm.uF (WF := [(0, 9)]) (WA := []) dg_sm.rf e_11 sM_0 (by decide)) (by decide) (by decide)) (dg_sm.uF (WF := [(0, 35)]) (WA := []) dg_sm.rf e_13 sM_0 (by decide)) (by decide) (by decide)) (dg_sm.uf (WF := []) (WA := [4]) dg_sm.rf e_15 sM_4 (by decide)) (by decide) (by decide)) (dg_sm.uf (WF := []) (WA := [5]) dg_sm.rf e_18 sM_5 (by decide)) (by decide) (by decide)) (dg_sm.uf (WF := []) (WA := [6]) dg_sm.rf e_21 sM_6 (by decide)) (by decide) (by decide)) (dg_sm.uf (WF := []) (WA := [8]) dg_sm.rf e_24 sM_8 (by decide)) (by decide) (by decide)) (dg_sm.uf (WF := []) (WA := [9]) dg_sm.rf e_27 sM_9 (by decide)) (by decide) (by decide)) (dg_sm.uf (WF := []) (WA := [12]) dg_sm.rf e_30 sM_12 (by decide)) (by decide) (by decide)) GB_30 _ _ hP hS _ (lv_sub hl [0, 1] rfl)
