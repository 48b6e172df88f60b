/-! 46.mine.lean.txt -/
theorem dX12_mine_0 : decode cX12_mine 0 = .ok (.aload_n 0, 1) := by decide +kernel
theorem dX12_mine_1 : decode cX12_mine 1 = .ok (.aload_n 0, 1) := by decide +kernel
theorem dX12_mine_2 : decode cX12_mine 2 = .ok (.getfield 13, 3) := by decide +kernel
theorem dX12_mine_5 : decode cX12_mine 5 = .ok (.putfield 17, 3) := by decide +kernel
theorem dX12_mine_8 : decode cX12_mine 8 = .ok (.aload_n 0, 1) := by decide +kernel
theorem dX12_mine_9 : decode cX12_mine 9 = .ok (.iconst 0, 1) := by decide +kernel
theorem dX12_mine_10 : decode cX12_mine 10 = .ok (.putfield 13, 3) := by decide +kernel
theorem dX12_mine_13 : decode cX12_mine 13 = .ok (.aload_n 0, 1) := by decide +kernel
theorem dX12_mine_14 : decode cX12_mine 14 = .ok (.iconst 0, 1) := by decide +kernel
theorem dX12_mine_15 : decode cX12_mine 15 = .ok (.putfield 26, 3) := by decide +kernel
theorem dX12_mine_18 : decode cX12_mine 18 = .ok (.aload_n 0, 1) := by decide +kernel
theorem dX12_mine_19 : decode cX12_mine 19 = .ok (.iconst 0, 1) := by decide +kernel
theorem dX12_mine_20 : decode cX12_mine 20 = .ok (.putfield 36, 3) := by decide +kernel
theorem dX12_mine_23 : decode cX12_mine 23 = .ok (.aload_n 0, 1) := by decide +kernel
theorem dX12_mine_24 : decode cX12_mine 24 = .ok (.iconst (-1), 1) := by decide +kernel
theorem dX12_mine_25 : decode cX12_mine 25 = .ok (.putfield 39, 3) := by decide +kernel
theorem dX12_mine_28 : decode cX12_mine 28 = .ok (.aload_n 0, 1) := by decide +kernel
theorem dX12_mine_29 : decode cX12_mine 29 = .ok (.iconst 1, 1) := by decide +kernel
theorem dX12_mine_30 : decode cX12_mine 30 = .ok (.aload_n 0, 1) := by decide +kernel
theorem dX12_mine_31 : decode cX12_mine 31 = .ok (.getfield 51, 3) := by decide +kernel
theorem dX12_mine_34 : decode cX12_mine 34 = .ok (.isub, 1) := by decide +kernel
theorem dX12_mine_35 : decode cX12_mine 35 = .ok (.putfield 118, 3) := by decide +kernel
theorem dX12_mine_38 : decode cX12_mine 38 = .ok (.aload_n 0, 1) := by decide +kernel
theorem dX12_mine_39 : decode cX12_mine 39 = .ok (.getfield 60, 3) := by decide +kernel
theorem dX12_mine_42 : decode cX12_mine 42 = .ok (.aload_n 0, 1) := by decide +kernel
theorem dX12_mine_43 : decode cX12_mine 43 = .ok (.getfield 118, 3) := by decide +kernel
theorem dX12_mine_46 : decode cX12_mine 46 = .ok (.iconst 0, 1) := by decide +kernel
theorem dX12_mine_47 : decode cX12_mine 47 = .ok (.iastore, 1) := by decide +kernel
theorem dX12_mine_48 : decode cX12_mine 48 = .ok (.aload_n 0, 1) := by decide +kernel
theorem dX12_mine_49 : decode cX12_mine 49 = .ok (.getfield 63, 3) := by decide +kernel
theorem dX12_mine_52 : decode cX12_mine 52 = .ok (.aload_n 0, 1) := by decide +kernel
theorem dX12_mine_53 : decode cX12_mine 53 = .ok (.getfield 118, 3) := by decide +kernel
theorem dX12_mine_56 : decode cX12_mine 56 = .ok (.iconst 3, 1) := by decide +kernel
theorem dX12_mine_57 : decode cX12_mine 57 = .ok (.iastore, 1) := by decide +kernel
theorem dX12_mine_58 : decode cX12_mine 58 = .ok (.aload_n 0, 1) := by decide +kernel
theorem dX12_mine_59 : decode cX12_mine 59 = .ok (.getfield 66, 3) := by decide +kernel
theorem dX12_mine_62 : decode cX12_mine 62 = .ok (.aload_n 0, 1) := by decide +kernel
theorem dX12_mine_63 : decode cX12_mine 63 = .ok (.getfield 118, 3) := by decide +kernel
theorem dX12_mine_66 : decode cX12_mine 66 = .ok (.iconst 0, 1) := by decide +kernel
theorem dX12_mine_67 : decode cX12_mine 67 = .ok (.iastore, 1) := by decide +kernel
theorem dX12_mine_68 : decode cX12_mine 68 = .ok (.aload_n 0, 1) := by decide +kernel
theorem dX12_mine_69 : decode cX12_mine 69 = .ok (.getfield 72, 3) := by decide +kernel
theorem dX12_mine_72 : decode cX12_mine 72 = .ok (.aload_n 0, 1) := by decide +kernel
theorem dX12_mine_73 : decode cX12_mine 73 = .ok (.getfield 118, 3) := by decide +kernel
theorem dX12_mine_76 : decode cX12_mine 76 = .ok (.iconst 0, 1) := by decide +kernel
theorem dX12_mine_77 : decode cX12_mine 77 = .ok (.iastore, 1) := by decide +kernel
theorem dX12_mine_78 : decode cX12_mine 78 = .ok (.aload_n 0, 1) := by decide +kernel
theorem dX12_mine_79 : decode cX12_mine 79 = .ok (.getfield 75, 3) := by decide +kernel
theorem dX12_mine_82 : decode cX12_mine 82 = .ok (.aload_n 0, 1) := by decide +kernel
theorem dX12_mine_83 : decode cX12_mine 83 = .ok (.getfield 118, 3) := by decide +kernel
theorem dX12_mine_86 : decode cX12_mine 86 = .ok (.iconst 0, 1) := by decide +kernel
theorem dX12_mine_87 : decode cX12_mine 87 = .ok (.iastore, 1) := by decide +kernel
theorem dX12_mine_88 : decode cX12_mine 88 = .ok (.aload_n 0, 1) := by decide +kernel
theorem dX12_mine_89 : decode cX12_mine 89 = .ok (.getfield 84, 3) := by decide +kernel
theorem dX12_mine_92 : decode cX12_mine 92 = .ok (.aload_n 0, 1) := by decide +kernel
theorem dX12_mine_93 : decode cX12_mine 93 = .ok (.getfield 118, 3) := by decide +kernel
theorem dX12_mine_96 : decode cX12_mine 96 = .ok (.iconst 0, 1) := by decide +kernel
theorem dX12_mine_97 : decode cX12_mine 97 = .ok (.iastore, 1) := by decide +kernel
theorem dX12_mine_98 : decode cX12_mine 98 = .ok (.iconst 0, 1) := by decide +kernel
theorem dX12_mine_99 : decode cX12_mine 99 = .ok (.istore_n 1, 1) := by decide +kernel
theorem dX12_mine_100 : decode cX12_mine 100 = .ok (.iload_n 1, 1) := by decide +kernel
theorem dX12_mine_101 : decode cX12_mine 101 = .ok (.bipush 64, 2) := by decide +kernel
theorem dX12_mine_103 : decode cX12_mine 103 = .ok (.if_icmp .ge 24, 3) := by decide +kernel
theorem dX12_mine_106 : decode cX12_mine 106 = .ok (.aload_n 0, 1) := by decide +kernel
theorem dX12_mine_107 : decode cX12_mine 107 = .ok (.getfield 69, 3) := by decide +kernel
theorem dX12_mine_110 : decode cX12_mine 110 = .ok (.bipush 64, 2) := by decide +kernel
theorem dX12_mine_112 : decode cX12_mine 112 = .ok (.aload_n 0, 1) := by decide +kernel
theorem dX12_mine_113 : decode cX12_mine 113 = .ok (.getfield 118, 3) := by decide +kernel
theorem dX12_mine_116 : decode cX12_mine 116 = .ok (.imul, 1) := by decide +kernel
theorem dX12_mine_117 : decode cX12_mine 117 = .ok (.iload_n 1, 1) := by decide +kernel
theorem dX12_mine_118 : decode cX12_mine 118 = .ok (.iadd, 1) := by decide +kernel
theorem dX12_mine_119 : decode cX12_mine 119 = .ok (.iconst 5, 1) := by decide +kernel
theorem dX12_mine_120 : decode cX12_mine 120 = .ok (.iastore, 1) := by decide +kernel
theorem dX12_mine_121 : decode cX12_mine 121 = .ok (.iinc 1 1, 3) := by decide +kernel
theorem dX12_mine_124 : decode cX12_mine 124 = .ok (.goto (-24), 3) := by decide +kernel
theorem dX12_mine_127 : decode cX12_mine 127 = .ok (.iconst 3, 1) := by decide +kernel
theorem dX12_mine_128 : decode cX12_mine 128 = .ok (.aload_n 0, 1) := by decide +kernel
theorem dX12_mine_129 : decode cX12_mine 129 = .ok (.getfield 118, 3) := by decide +kernel
theorem dX12_mine_132 : decode cX12_mine 132 = .ok (.imul, 1) := by decide +kernel
theorem dX12_mine_133 : decode cX12_mine 133 = .ok (.istore_n 1, 1) := by decide +kernel
theorem dX12_mine_134 : decode cX12_mine 134 = .ok (.iload_n 1, 1) := by decide +kernel
theorem dX12_mine_135 : decode cX12_mine 135 = .ok (.iconst 3, 1) := by decide +kernel
theorem dX12_mine_136 : decode cX12_mine 136 = .ok (.aload_n 0, 1) := by decide +kernel
theorem dX12_mine_137 : decode cX12_mine 137 = .ok (.getfield 118, 3) := by decide +kernel
theorem dX12_mine_140 : decode cX12_mine 140 = .ok (.imul, 1) := by decide +kernel
theorem dX12_mine_141 : decode cX12_mine 141 = .ok (.iconst 3, 1) := by decide +kernel
theorem dX12_mine_142 : decode cX12_mine 142 = .ok (.iadd, 1) := by decide +kernel
theorem dX12_mine_143 : decode cX12_mine 143 = .ok (.if_icmp .ge 16, 3) := by decide +kernel
theorem dX12_mine_146 : decode cX12_mine 146 = .ok (.aload_n 0, 1) := by decide +kernel
theorem dX12_mine_147 : decode cX12_mine 147 = .ok (.getfield 96, 3) := by decide +kernel
theorem dX12_mine_150 : decode cX12_mine 150 = .ok (.iload_n 1, 1) := by decide +kernel
theorem dX12_mine_151 : decode cX12_mine 151 = .ok (.iconst (-1), 1) := by decide +kernel
theorem dX12_mine_152 : decode cX12_mine 152 = .ok (.iastore, 1) := by decide +kernel
theorem dX12_mine_153 : decode cX12_mine 153 = .ok (.iinc 1 1, 3) := by decide +kernel
theorem dX12_mine_156 : decode cX12_mine 156 = .ok (.goto (-22), 3) := by decide +kernel
theorem dX12_mine_159 : decode cX12_mine 159 = .ok (.aload_n 0, 1) := by decide +kernel
theorem dX12_mine_160 : decode cX12_mine 160 = .ok (.iconst 0, 1) := by decide +kernel
theorem dX12_mine_161 : decode cX12_mine 161 = .ok (.putfield 115, 3) := by decide +kernel
theorem dX12_mine_164 : decode cX12_mine 164 = .ok (.iconst 1, 1) := by decide +kernel
theorem dX12_mine_165 : decode cX12_mine 165 = .ok (.istore_n 1, 1) := by decide +kernel
theorem dX12_mine_166 : decode cX12_mine 166 = .ok (.aload_n 0, 1) := by decide +kernel
theorem dX12_mine_167 : decode cX12_mine 167 = .ok (.invokevirtual 272, 3) := by decide +kernel
theorem dX12_mine_170 : decode cX12_mine 170 = .ok (.aload_n 0, 1) := by decide +kernel
theorem dX12_mine_171 : decode cX12_mine 171 = .ok (.invokevirtual 418, 3) := by decide +kernel
theorem dX12_mine_174 : decode cX12_mine 174 = .ok (.aload_n 0, 1) := by decide +kernel
theorem dX12_mine_175 : decode cX12_mine 175 = .ok (.iload_n 1, 1) := by decide +kernel
theorem dX12_mine_176 : decode cX12_mine 176 = .ok (.invokevirtual 421, 3) := by decide +kernel
theorem dX12_mine_179 : decode cX12_mine 179 = .ok (.aload_n 0, 1) := by decide +kernel
theorem dX12_mine_180 : decode cX12_mine 180 = .ok (.getfield 36, 3) := by decide +kernel
theorem dX12_mine_183 : decode cX12_mine 183 = .ok (.ifCond .ne 25, 3) := by decide +kernel
theorem dX12_mine_186 : decode cX12_mine 186 = .ok (.aload_n 0, 1) := by decide +kernel
theorem dX12_mine_187 : decode cX12_mine 187 = .ok (.getfield 20, 3) := by decide +kernel
theorem dX12_mine_190 : decode cX12_mine 190 = .ok (.ifCond .eq 18, 3) := by decide +kernel
theorem dX12_mine_193 : decode cX12_mine 193 = .ok (.aload_n 0, 1) := by decide +kernel
theorem dX12_mine_194 : decode cX12_mine 194 = .ok (.invokevirtual 424, 3) := by decide +kernel
theorem dX12_mine_197 : decode cX12_mine 197 = .ok (.iinc 1 1, 3) := by decide +kernel
theorem dX12_mine_200 : decode cX12_mine 200 = .ok (.aload_n 0, 1) := by decide +kernel
theorem dX12_mine_201 : decode cX12_mine 201 = .ok (.iload_n 1, 1) := by decide +kernel
theorem dX12_mine_202 : decode cX12_mine 202 = .ok (.invokevirtual 421, 3) := by decide +kernel
theorem dX12_mine_205 : decode cX12_mine 205 = .ok (.goto (-26), 3) := by decide +kernel
theorem dX12_mine_208 : decode cX12_mine 208 = .ok (.aload_n 0, 1) := by decide +kernel
theorem dX12_mine_209 : decode cX12_mine 209 = .ok (.aload_n 0, 1) := by decide +kernel
theorem dX12_mine_210 : decode cX12_mine 210 = .ok (.getfield 36, 3) := by decide +kernel
theorem dX12_mine_213 : decode cX12_mine 213 = .ok (.putfield 42, 3) := by decide +kernel
theorem dX12_mine_216 : decode cX12_mine 216 = .ok (.aload_n 0, 1) := by decide +kernel
theorem dX12_mine_217 : decode cX12_mine 217 = .ok (.aload_n 0, 1) := by decide +kernel
theorem dX12_mine_218 : decode cX12_mine 218 = .ok (.getfield 39, 3) := by decide +kernel
theorem dX12_mine_221 : decode cX12_mine 221 = .ok (.putfield 45, 3) := by decide +kernel
theorem dX12_mine_224 : decode cX12_mine 224 = .ok (.aload_n 0, 1) := by decide +kernel
theorem dX12_mine_225 : decode cX12_mine 225 = .ok (.getfield 36, 3) := by decide +kernel
theorem dX12_mine_228 : decode cX12_mine 228 = .ok (.ifCond .le 9, 3) := by decide +kernel
theorem dX12_mine_231 : decode cX12_mine 231 = .ok (.aload_n 0, 1) := by decide +kernel
theorem dX12_mine_232 : decode cX12_mine 232 = .ok (.iconst 1, 1) := by decide +kernel
theorem dX12_mine_233 : decode cX12_mine 233 = .ok (.invokevirtual 247, 3) := by decide +kernel
theorem dX12_mine_236 : decode cX12_mine 236 = .ok (.ireturn, 1) := by decide +kernel
theorem dX12_mine_237 : decode cX12_mine 237 = .ok (.aload_n 0, 1) := by decide +kernel
theorem dX12_mine_238 : decode cX12_mine 238 = .ok (.aload_n 0, 1) := by decide +kernel
theorem dX12_mine_239 : decode cX12_mine 239 = .ok (.getfield 118, 3) := by decide +kernel
theorem dX12_mine_242 : decode cX12_mine 242 = .ok (.putfield 51, 3) := by decide +kernel
theorem dX12_mine_245 : decode cX12_mine 245 = .ok (.aload_n 0, 1) := by decide +kernel
theorem dX12_mine_246 : decode cX12_mine 246 = .ok (.iconst 1, 1) := by decide +kernel
theorem dX12_mine_247 : decode cX12_mine 247 = .ok (.putfield 156, 3) := by decide +kernel
theorem dX12_mine_250 : decode cX12_mine 250 = .ok (.aload_n 0, 1) := by decide +kernel
theorem dX12_mine_251 : decode cX12_mine 251 = .ok (.invokevirtual 427, 3) := by decide +kernel
theorem dX12_mine_254 : decode cX12_mine 254 = .ok (.iload_n 1, 1) := by decide +kernel
theorem dX12_mine_255 : decode cX12_mine 255 = .ok (.ireturn, 1) := by decide +kernel
theorem wB_1306 : Cond.code yX12_seaming cX12_seaming 1 none ∈ dgB := List.mem_filter.mpr ⟨tbl_7 _ (List.mem_of_getElem? (i := 190) rfl), rfl⟩
theorem wB_1307 : Cond.methodLink RX12 418 yX12_seaming ∈ dgB := List.mem_filter.mpr ⟨tbl_7 _ (List.mem_of_getElem? (i := 187) (by decide +kernel)), by decide +kernel⟩
theorem wB_1308 : Cond.instanceMethod yX12_seaming ∈ dgB := List.mem_filter.mpr ⟨tbl_7 _ (List.mem_of_getElem? (i := 189) (by decide +kernel)), by decide +kernel⟩
theorem wB_1309 : Cond.selects RX12 yX12_seaming yX12_seaming ∈ dgB := List.mem_filter.mpr ⟨List.mem_of_getElem? (i := 84) (by decide +kernel), by decide +kernel⟩
theorem wB_1310 : Cond.code yX12_finishes cX12_finishes 3 none ∈ dgB := List.mem_filter.mpr ⟨tbl_7 _ (List.mem_of_getElem? (i := 219) rfl), rfl⟩
theorem wB_1311 : Cond.methodLink RX12 421 yX12_finishes ∈ dgB := List.mem_filter.mpr ⟨tbl_7 _ (List.mem_of_getElem? (i := 216) (by decide +kernel)), by decide +kernel⟩
theorem wB_1312 : Cond.instanceMethod yX12_finishes ∈ dgB := List.mem_filter.mpr ⟨tbl_7 _ (List.mem_of_getElem? (i := 218) (by decide +kernel)), by decide +kernel⟩
theorem wB_1313 : Cond.selects RX12 yX12_finishes yX12_finishes ∈ dgB := List.mem_filter.mpr ⟨List.mem_of_getElem? (i := 90) (by decide +kernel), by decide +kernel⟩
theorem wB_1314 : Cond.code yX12_statement cX12_statement 1 none ∈ dgB := List.mem_filter.mpr ⟨tbl_7 _ (List.mem_of_getElem? (i := 231) rfl), rfl⟩
theorem wB_1315 : Cond.methodLink RX12 424 yX12_statement ∈ dgB := List.mem_filter.mpr ⟨tbl_7 _ (List.mem_of_getElem? (i := 228) (by decide +kernel)), by decide +kernel⟩
theorem wB_1316 : Cond.instanceMethod yX12_statement ∈ dgB := List.mem_filter.mpr ⟨tbl_7 _ (List.mem_of_getElem? (i := 230) (by decide +kernel)), by decide +kernel⟩
theorem wB_1317 : Cond.selects RX12 yX12_statement yX12_statement ∈ dgB := List.mem_filter.mpr ⟨List.mem_of_getElem? (i := 93) (by decide +kernel), by decide +kernel⟩
theorem wB_1318 : Cond.code yX12_begin cX12_begin 2 none ∈ dgB := List.mem_filter.mpr ⟨tbl_8 _ (List.mem_of_getElem? (i := 106) rfl), rfl⟩
theorem wB_1319 : Cond.methodLink RX12 427 yX12_begin ∈ dgB := List.mem_filter.mpr ⟨tbl_8 _ (List.mem_of_getElem? (i := 103) (by decide +kernel)), by decide +kernel⟩
theorem wB_1320 : Cond.instanceMethod yX12_begin ∈ dgB := List.mem_filter.mpr ⟨tbl_8 _ (List.mem_of_getElem? (i := 105) (by decide +kernel)), by decide +kernel⟩
theorem wB_1321 : Cond.selects RX12 yX12_begin yX12_begin ∈ dgB := List.mem_filter.mpr ⟨List.mem_of_getElem? (i := 114) (by decide +kernel), by decide +kernel⟩
set_option maxHeartbeats 8000000 in
set_option maxRecDepth 100000 in
theorem c_m_mine (l : Launch) (g : Nat → ClassId) (D : va_G) (o : Nat) (S : dg_S) (ZB : ZBM S) (ZS : ZSM S) (ZW : ZWM S) (I : CM o S) (sz : Nat) : Met l yX12_mine (bw yX12_mine cX12_mine 2 (some .int)) ({ frames := 8, cells := 0, slots := 0, locals := 185 } : Room) (dk_Pc g D (dg_w g shM o rfM S) sz [.ref (o + 0)]) (va_Qi (fun (r : Int32) S' => CM o S' ∧ dg_sm shM [(0, 1), (0, 2), (0, 3), (0, 4), (0, 5), (0, 6), (0, 7), (0, 8), (0, 9), (0, 10), (0, 11), (0, 12), (0, 13), (0, 34), (0, 35), (0, 36), (0, 42), (0, 43), (0, 45), (0, 46), (0, 47), (0, 61), (0, 63), (0, 69)] [2, 3, 4, 5, 6, 7, 8, 9, 10, 11, 12, 13, 14, 15, 16, 17, 18, 19, 20, 21, 22, 23, 24, 25, 26, 27, 28, 29, 30, 31, 32, 33, 34, 35, 36, 37, 38] S S' ∧ (∃ y9 : Int32, S'.1 0 1 = .int y9 ∧ ((y9).toInt = 0)) ∧ ZBM S' ∧ ZSM S' ∧ ZWM S' ∧ True) (dg_B g D shM o rfM) (dg_A o shM.length sz)) 0 0 (dg_A o shM.length sz) := by
  refine dg_met (cc := cX12_mine) (maxL := 2) (ret := (some .int)) (by decide) rfl (Nat.le_of_ble_eq_true rfl) ?_
  intro p e s m args below meth c A hAe harg hx hb hr hml hts hown hlocks hin hP K hS hA1 hA ST hsz ls hl
  rw [← hAe]
  have F : CallFix p m c cX12_mine 2 s args (bw yX12_mine cX12_mine 2 (some .int)) RX12 := ⟨hx, hb, hml, hown, hts⟩
  have hl : lv_has ls 2 [(0, .ref (o + 0))] := hl
  have M_0 : dg_sm shM [(0, 1), (0, 2), (0, 3), (0, 4), (0, 5), (0, 6), (0, 7), (0, 8), (0, 9), (0, 10), (0, 11), (0, 12), (0, 13), (0, 34), (0, 35), (0, 36), (0, 42), (0, 43), (0, 45), (0, 46), (0, 47), (0, 61), (0, 63), (0, 69)] [2, 3, 4, 5, 6, 7, 8, 9, 10, 11, 12, 13, 14, 15, 16, 17, 18, 19, 20, 21, 22, 23, 24, 25, 26, 27, 28, 29, 30, 31, 32, 33, 34, 35, 36, 37, 38] S S := dg_sm.rf
  obtain ⟨Q9, hQ9⟩ : ∃ Q : State → Prop, Q = MQ below (va_Qi (fun (r : Int32) S' => CM o S' ∧ dg_sm shM [(0, 1), (0, 2), (0, 3), (0, 4), (0, 5), (0, 6), (0, 7), (0, 8), (0, 9), (0, 10), (0, 11), (0, 12), (0, 13), (0, 34), (0, 35), (0, 36), (0, 42), (0, 43), (0, 45), (0, 46), (0, 47), (0, 61), (0, 63), (0, 69)] [2, 3, 4, 5, 6, 7, 8, 9, 10, 11, 12, 13, 14, 15, 16, 17, 18, 19, 20, 21, 22, 23, 24, 25, 26, 27, 28, 29, 30, 31, 32, 33, 34, 35, 36, 37, 38] S S' ∧ (∃ y9 : Int32, S'.1 0 1 = .int y9 ∧ ((y9).toInt = 0)) ∧ ZBM S' ∧ ZSM S' ∧ ZWM S' ∧ True) (dg_B g D shM o rfM) A) args s 0 0 A := ⟨_, rfl⟩
  rw [← hQ9]
  refine lv_aload_n hx hb dX12_mine_0 rfl (lv_at hl 0 rfl) ?_
  refine lv_aload_n hx hb dX12_mine_1 rfl (lv_at hl 0 rfl) ?_
  obtain ⟨x_1, f_x_1, b_x_1⟩ := dg_I.int (i := 0) (k := 1) (lo := 0) (hi := 1600) I sM_0 (by decide +kernel)
  refine dg_get (C := RX12) (T := TX12) (N := 77) hx hb hts (fun w h => bw_mem (wU_X12 w h)) hown K hP sM_0 rfl 1 (by decide) (hts _ (bw_mem wB_875)) (fun _ h9 => h9) (v := .int x_1) f_x_1 dX12_mine_2 ?_
  refine dg_put (ci := 12) (v := .int x_1) (ty := tyX12 2) (C := RX12) (T := TX12) (N := 77) hx hb hts (fun w h => bw_mem (wU_X12 w h)) tyX12 tyX12_ok nmX12 hown K hP hS hA1 sM_0 rfl 2 (by decide) (hts _ (bw_mem wB_1144)) (fun _ h9 => h9) rfl (by decide +kernel) rfl rfl dX12_mine_5 (fun S_2 e_2 H locs hP hS => ?_)
  have I_2 := dg_I.uFi (lo := 0) (hi := 1600) I e_2 sM_0 (by decide +kernel) (show 0 ≤ (x_1).toInt ∧ (x_1).toInt ≤ 1600 from (by omega))
  have M_2 := dg_sm.uF M_0 e_2 sM_0 (by decide)
  refine lv_aload_n hx hb dX12_mine_8 rfl (lv_at hl 0 rfl) ?_
  refine lv_iconst (v := 0) hx hb dX12_mine_9 (by decide +kernel) ?_
  have hz_3 : (0 : Int32).toInt = 0 := by decide +kernel
  refine dg_put (ci := 12) (v := .int 0) (ty := tyX12 1) (C := RX12) (T := TX12) (N := 77) hx hb hts (fun w h => bw_mem (wU_X12 w h)) tyX12 tyX12_ok nmX12 hown K hP hS hA1 sM_0 rfl 1 (by decide) (hts _ (bw_mem wB_875)) (fun _ h9 => h9) rfl (by decide +kernel) rfl rfl dX12_mine_10 (fun S_4 e_4 H locs hP hS => ?_)
  have I_4 := dg_I.uFi (lo := 0) (hi := 1600) I_2 e_4 sM_0 (by decide +kernel) (show 0 ≤ ((0 : Int32)).toInt ∧ ((0 : Int32)).toInt ≤ 1600 from (by decide +kernel))
  have M_4 := dg_sm.uF M_2 e_4 sM_0 (by decide)
  refine lv_aload_n hx hb dX12_mine_13 rfl (lv_at hl 0 rfl) ?_
  refine lv_iconst (v := 0) hx hb dX12_mine_14 (by decide +kernel) ?_
  have hz_5 : (0 : Int32).toInt = 0 := by decide +kernel
  refine dg_put (ci := 12) (v := .int 0) (ty := tyX12 5) (C := RX12) (T := TX12) (N := 77) hx hb hts (fun w h => bw_mem (wU_X12 w h)) tyX12 tyX12_ok nmX12 hown K hP hS hA1 sM_0 rfl 5 (by decide) (hts _ (bw_mem wB_1143)) (fun _ h9 => h9) rfl (by decide +kernel) rfl rfl dX12_mine_15 (fun S_6 e_6 H locs hP hS => ?_)
  have I_6 := dg_I.uFi (lo := 0) (hi := 1600) I_4 e_6 sM_0 (by decide +kernel) (show 0 ≤ ((0 : Int32)).toInt ∧ ((0 : Int32)).toInt ≤ 1600 from (by decide +kernel))
  have M_6 := dg_sm.uF M_4 e_6 sM_0 (by decide)
  refine lv_aload_n hx hb dX12_mine_18 rfl (lv_at hl 0 rfl) ?_
  refine lv_iconst (v := 0) hx hb dX12_mine_19 (by decide +kernel) ?_
  have hz_7 : (0 : Int32).toInt = 0 := by decide +kernel
  refine dg_put (ci := 12) (v := .int 0) (ty := tyX12 8) (C := RX12) (T := TX12) (N := 77) hx hb hts (fun w h => bw_mem (wU_X12 w h)) tyX12 tyX12_ok nmX12 hown K hP hS hA1 sM_0 rfl 8 (by decide) (hts _ (bw_mem wB_1133)) (fun _ h9 => h9) rfl (by decide +kernel) rfl rfl dX12_mine_20 (fun S_8 e_8 H locs hP hS => ?_)
  have I_8 := dg_I.uFi (lo := 0) (hi := 6) I_6 e_8 sM_0 (by decide +kernel) (show 0 ≤ ((0 : Int32)).toInt ∧ ((0 : Int32)).toInt ≤ 6 from (by decide +kernel))
  have M_8 := dg_sm.uF M_6 e_8 sM_0 (by decide)
  refine lv_aload_n hx hb dX12_mine_23 rfl (lv_at hl 0 rfl) ?_
  refine lv_iconst (v := (-1)) hx hb dX12_mine_24 (by decide +kernel) ?_
  have hz_9 : (-1 : Int32).toInt = (-1) := by decide +kernel
  refine dg_put (ci := 12) (v := .int (-1)) (ty := tyX12 9) (C := RX12) (T := TX12) (N := 77) hx hb hts (fun w h => bw_mem (wU_X12 w h)) tyX12 tyX12_ok nmX12 hown K hP hS hA1 sM_0 rfl 9 (by decide) (hts _ (bw_mem wB_1134)) (fun _ h9 => h9) rfl (by decide +kernel) rfl rfl dX12_mine_25 (fun S_10 e_10 H locs hP hS => ?_)
  have I_10 := dg_I.uFi (lo := (-2147483648)) (hi := 2147483647) I_8 e_10 sM_0 (by decide +kernel) (show (-2147483648) ≤ ((-1 : Int32)).toInt ∧ ((-1 : Int32)).toInt ≤ 2147483647 from (by decide +kernel))
  have M_10 := dg_sm.uF M_8 e_10 sM_0 (by decide)
  refine lv_aload_n hx hb dX12_mine_28 rfl (lv_at hl 0 rfl) ?_
  refine lv_iconst (v := 1) hx hb dX12_mine_29 (by decide +kernel) ?_
  refine lv_aload_n hx hb dX12_mine_30 rfl (lv_at hl 0 rfl) ?_
  obtain ⟨x_11, f_x_11, b_x_11⟩ := dg_I.int (i := 0) (k := 13) (lo := 0) (hi := 1) I_10 sM_0 (by decide +kernel)
  refine dg_get (C := RX12) (T := TX12) (N := 77) hx hb hts (fun w h => bw_mem (wU_X12 w h)) hown K hP sM_0 rfl 13 (by decide) (hts _ (bw_mem wB_893)) (fun _ h9 => h9) (v := .int x_11) f_x_11 dX12_mine_31 ?_
  refine lv_isub hx hb dX12_mine_34 ?_
  refine lv_topi (fun x_12 ex_12 => ?_)
  have jx_12 : (x_12).toInt = 1 - (x_11).toInt := by rw [ex_12]; exact dk_subT (by decide +kernel) rfl (by omega) (by omega)
  refine dg_put (ci := 12) (v := .int x_12) (ty := tyX12 35) (C := RX12) (T := TX12) (N := 77) hx hb hts (fun w h => bw_mem (wU_X12 w h)) tyX12 tyX12_ok nmX12 hown K hP hS hA1 sM_0 rfl 35 (by decide) (hts _ (bw_mem wB_1195)) (fun _ h9 => h9) rfl (by decide +kernel) rfl rfl dX12_mine_35 (fun S_13 e_13 H locs hP hS => ?_)
  have I_13 := dg_I.uFi (lo := 0) (hi := 1) I_10 e_13 sM_0 (by decide +kernel) (show 0 ≤ (x_12).toInt ∧ (x_12).toInt ≤ 1 from (by omega))
  have M_13 := dg_sm.uF M_10 e_13 sM_0 (by decide)
  have ZK_13 : ZKM S_13 := ZKM.mk f_x_11 e_13 (by omega)
  have hzk : (x_12).toInt = 1 - (x_11).toInt := by omega
  refine lv_aload_n hx hb dX12_mine_38 rfl (lv_at hl 0 rfl) ?_
  refine dg_get (C := RX12) (T := TX12) (N := 77) hx hb hts (fun w h => bw_mem (wU_X12 w h)) hown K hP sM_0 rfl 16 (by decide) (hts _ (bw_mem wB_941)) (fun _ h9 => h9) (v := .ref (o + 4)) (show S_13.1 0 16 = .ref (o + 4) from dg_I.rel (d := 4) I_13 sM_0 (by decide +kernel)) dX12_mine_39 ?_
  refine lv_aload_n hx hb dX12_mine_42 rfl (lv_at hl 0 rfl) ?_
  refine dg_get (C := RX12) (T := TX12) (N := 77) hx hb hts (fun w h => bw_mem (wU_X12 w h)) hown K hP sM_0 rfl 35 (by decide) (hts _ (bw_mem wB_1195)) (fun _ h9 => h9) (v := .int x_12) (dg_uF_at e_13) dX12_mine_43 ?_
  refine lv_iconst (v := 0) hx hb dX12_mine_46 (by decide +kernel) ?_
  have hin_14 : vp_in x_12 2 := (dk_inv (by omega) (by omega))
  have hz_16 : (0 : Int32).toInt = 0 := by decide +kernel
  refine dg_iast hx hb K hP hS hA1 sM_4 hin_14 dX12_mine_47 (fun S_15 e_15 H locs hP hS => ?_)
  have I_15 := dg_I.ufu (lo := 0) (hi := 9999) I_13 e_15 sM_4 (by decide +kernel) (show 0 ≤ ((0 : Int32)).toInt ∧ ((0 : Int32)).toInt ≤ 9999 from (by decide +kernel))
  have M_15 := dg_sm.uf M_13 e_15 sM_4 (by decide)
  have ZB_15 : ZBM S_15 := ZBM.up (r := 4) (ZBM.keep (ZBM.keep (ZBM.keep (ZBM.keep (ZBM.keep (ZBM.keep ZB (dg_sm.uF (WF := [(0, 2)]) (WA := []) dg_sm.rf e_2 sM_0 (by decide)) (by decide) (by decide) (by decide) (by decide) (by decide)) (dg_sm.uF (WF := [(0, 1)]) (WA := []) dg_sm.rf e_4 sM_0 (by decide)) (by decide) (by decide) (by decide) (by decide) (by decide)) (dg_sm.uF (WF := [(0, 5)]) (WA := []) dg_sm.rf e_6 sM_0 (by decide)) (by decide) (by decide) (by decide) (by decide) (by decide)) (dg_sm.uF (WF := [(0, 8)]) (WA := []) dg_sm.rf e_8 sM_0 (by decide)) (by decide) (by decide) (by decide) (by decide) (by decide)) (dg_sm.uF (WF := [(0, 9)]) (WA := []) dg_sm.rf e_10 sM_0 (by decide)) (by decide) (by decide) (by decide) (by decide) (by decide)) (dg_sm.uF (WF := [(0, 35)]) (WA := []) dg_sm.rf e_13 sM_0 (by decide)) (by decide) (by decide) (by decide) (by decide) (by decide)) (by decide) ((dg_uF_ne e_13 (fun z => absurd z.2 (by decide))).trans f_x_11) (by omega) e_15 (by omega)
  refine lv_aload_n hx hb dX12_mine_48 rfl (lv_at hl 0 rfl) ?_
  refine dg_get (C := RX12) (T := TX12) (N := 77) hx hb hts (fun w h => bw_mem (wU_X12 w h)) hown K hP sM_0 rfl 17 (by decide) (hts _ (bw_mem wB_1012)) (fun _ h9 => h9) (v := .ref (o + 5)) (show S_15.1 0 17 = .ref (o + 5) from dg_I.rel (d := 5) I_15 sM_0 (by decide +kernel)) dX12_mine_49 ?_
  refine lv_aload_n hx hb dX12_mine_52 rfl (lv_at hl 0 rfl) ?_
  refine dg_get (C := RX12) (T := TX12) (N := 77) hx hb hts (fun w h => bw_mem (wU_X12 w h)) hown K hP sM_0 rfl 35 (by decide) (hts _ (bw_mem wB_1195)) (fun _ h9 => h9) (v := .int x_12) ((dg_uf_F e_15 0 35).trans (dg_uF_at e_13)) dX12_mine_53 ?_
  refine lv_iconst (v := 3) hx hb dX12_mine_56 (by decide +kernel) ?_
  have hin_17 : vp_in x_12 2 := (dk_inv (by omega) (by omega))
  have hz_19 : (3 : Int32).toInt = 3 := by decide +kernel
  refine dg_iast hx hb K hP hS hA1 sM_5 hin_17 dX12_mine_57 (fun S_18 e_18 H locs hP hS => ?_)
  have I_18 := dg_I.ufu (lo := 0) (hi := 9999) I_15 e_18 sM_5 (by decide +kernel) (show 0 ≤ ((3 : Int32)).toInt ∧ ((3 : Int32)).toInt ≤ 9999 from (by decide +kernel))
  have M_18 := dg_sm.uf M_15 e_18 sM_5 (by decide)
  refine lv_aload_n hx hb dX12_mine_58 rfl (lv_at hl 0 rfl) ?_
  refine dg_get (C := RX12) (T := TX12) (N := 77) hx hb hts (fun w h => bw_mem (wU_X12 w h)) hown K hP sM_0 rfl 18 (by decide) (hts _ (bw_mem wB_1093)) (fun _ h9 => h9) (v := .ref (o + 6)) (show S_18.1 0 18 = .ref (o + 6) from dg_I.rel (d := 6) I_18 sM_0 (by decide +kernel)) dX12_mine_59 ?_
  refine lv_aload_n hx hb dX12_mine_62 rfl (lv_at hl 0 rfl) ?_
  refine dg_get (C := RX12) (T := TX12) (N := 77) hx hb hts (fun w h => bw_mem (wU_X12 w h)) hown K hP sM_0 rfl 35 (by decide) (hts _ (bw_mem wB_1195)) (fun _ h9 => h9) (v := .int x_12) (((dg_uf_F e_18 0 35).trans (dg_uf_F e_15 0 35)).trans (dg_uF_at e_13)) dX12_mine_63 ?_
  refine lv_iconst (v := 0) hx hb dX12_mine_66 (by decide +kernel) ?_
  have hin_20 : vp_in x_12 2 := (dk_inv (by omega) (by omega))
  have hz_22 : (0 : Int32).toInt = 0 := by decide +kernel
  refine dg_iast hx hb K hP hS hA1 sM_6 hin_20 dX12_mine_67 (fun S_21 e_21 H locs hP hS => ?_)
  have I_21 := dg_I.ufu (lo := 0) (hi := 9999) I_18 e_21 sM_6 (by decide +kernel) (show 0 ≤ ((0 : Int32)).toInt ∧ ((0 : Int32)).toInt ≤ 9999 from (by decide +kernel))
  have M_21 := dg_sm.uf M_18 e_21 sM_6 (by decide)
  refine lv_aload_n hx hb dX12_mine_68 rfl (lv_at hl 0 rfl) ?_
  refine dg_get (C := RX12) (T := TX12) (N := 77) hx hb hts (fun w h => bw_mem (wU_X12 w h)) hown K hP sM_0 rfl 20 (by decide) (hts _ (bw_mem wB_901)) (fun _ h9 => h9) (v := .ref (o + 8)) (show S_21.1 0 20 = .ref (o + 8) from dg_I.rel (d := 8) I_21 sM_0 (by decide +kernel)) dX12_mine_69 ?_
  refine lv_aload_n hx hb dX12_mine_72 rfl (lv_at hl 0 rfl) ?_
  refine dg_get (C := RX12) (T := TX12) (N := 77) hx hb hts (fun w h => bw_mem (wU_X12 w h)) hown K hP sM_0 rfl 35 (by decide) (hts _ (bw_mem wB_1195)) (fun _ h9 => h9) (v := .int x_12) (((dg_uf_F e_21 0 35).trans ((dg_uf_F e_18 0 35).trans (dg_uf_F e_15 0 35))).trans (dg_uF_at e_13)) dX12_mine_73 ?_
  refine lv_iconst (v := 0) hx hb dX12_mine_76 (by decide +kernel) ?_
  have hin_23 : vp_in x_12 2 := (dk_inv (by omega) (by omega))
  have hz_25 : (0 : Int32).toInt = 0 := by decide +kernel
  refine dg_iast hx hb K hP hS hA1 sM_8 hin_23 dX12_mine_77 (fun S_24 e_24 H locs hP hS => ?_)
  have I_24 := dg_I.ufu (lo := 0) (hi := 6) I_21 e_24 sM_8 (by decide +kernel) (show 0 ≤ ((0 : Int32)).toInt ∧ ((0 : Int32)).toInt ≤ 6 from (by decide +kernel))
  have M_24 := dg_sm.uf M_21 e_24 sM_8 (by decide)
  refine lv_aload_n hx hb dX12_mine_78 rfl (lv_at hl 0 rfl) ?_
  refine dg_get (C := RX12) (T := TX12) (N := 77) hx hb hts (fun w h => bw_mem (wU_X12 w h)) hown K hP sM_0 rfl 21 (by decide) (hts _ (bw_mem wB_976)) (fun _ h9 => h9) (v := .ref (o + 9)) (show S_24.1 0 21 = .ref (o + 9) from dg_I.rel (d := 9) I_24 sM_0 (by decide +kernel)) dX12_mine_79 ?_
  refine lv_aload_n hx hb dX12_mine_82 rfl (lv_at hl 0 rfl) ?_
  refine dg_get (C := RX12) (T := TX12) (N := 77) hx hb hts (fun w h => bw_mem (wU_X12 w h)) hown K hP sM_0 rfl 35 (by decide) (hts _ (bw_mem wB_1195)) (fun _ h9 => h9) (v := .int x_12) (((dg_uf_F e_24 0 35).trans ((dg_uf_F e_21 0 35).trans ((dg_uf_F e_18 0 35).trans (dg_uf_F e_15 0 35)))).trans (dg_uF_at e_13)) dX12_mine_83 ?_
  refine lv_iconst (v := 0) hx hb dX12_mine_86 (by decide +kernel) ?_
  have hin_26 : vp_in x_12 2 := (dk_inv (by omega) (by omega))
  have hz_28 : (0 : Int32).toInt = 0 := by decide +kernel
  refine dg_iast hx hb K hP hS hA1 sM_9 hin_26 dX12_mine_87 (fun S_27 e_27 H locs hP hS => ?_)
  have I_27 := dg_I.ufu (lo := 0) (hi := 16) I_24 e_27 sM_9 (by decide +kernel) (show 0 ≤ ((0 : Int32)).toInt ∧ ((0 : Int32)).toInt ≤ 16 from (by decide +kernel))
  have M_27 := dg_sm.uf M_24 e_27 sM_9 (by decide)
  refine lv_aload_n hx hb dX12_mine_88 rfl (lv_at hl 0 rfl) ?_
  refine dg_get (C := RX12) (T := TX12) (N := 77) hx hb hts (fun w h => bw_mem (wU_X12 w h)) hown K hP sM_0 rfl 24 (by decide) (hts _ (bw_mem wB_902)) (fun _ h9 => h9) (v := .ref (o + 12)) (show S_27.1 0 24 = .ref (o + 12) from dg_I.rel (d := 12) I_27 sM_0 (by decide +kernel)) dX12_mine_89 ?_
  refine lv_aload_n hx hb dX12_mine_92 rfl (lv_at hl 0 rfl) ?_
  refine dg_get (C := RX12) (T := TX12) (N := 77) hx hb hts (fun w h => bw_mem (wU_X12 w h)) hown K hP sM_0 rfl 35 (by decide) (hts _ (bw_mem wB_1195)) (fun _ h9 => h9) (v := .int x_12) (((dg_uf_F e_27 0 35).trans ((dg_uf_F e_24 0 35).trans ((dg_uf_F e_21 0 35).trans ((dg_uf_F e_18 0 35).trans (dg_uf_F e_15 0 35))))).trans (dg_uF_at e_13)) dX12_mine_93 ?_
  refine lv_iconst (v := 0) hx hb dX12_mine_96 (by decide +kernel) ?_
  have hin_29 : vp_in x_12 2 := (dk_inv (by omega) (by omega))
  have hz_31 : (0 : Int32).toInt = 0 := by decide +kernel
  refine dg_iast hx hb K hP hS hA1 sM_12 hin_29 dX12_mine_97 (fun S_30 e_30 H locs hP hS => ?_)
  have I_30 := dg_I.ufu (lo := 0) (hi := 5) I_27 e_30 sM_12 (by decide +kernel) (show 0 ≤ ((0 : Int32)).toInt ∧ ((0 : Int32)).toInt ≤ 5 from (by decide +kernel))
  have M_30 := dg_sm.uf M_27 e_30 sM_12 (by decide)
  refine lv_iconst (v := 0) hx hb dX12_mine_98 (by decide +kernel) ?_
  refine lv_istore_n (lv' := [(1, .int 0), (0, .ref (o + 0))]) hx hb dX12_mine_99 rfl hl (by decide) rfl (fun ls hl => ?_)
  have J_254 : ∀ (x_54 : Int32), (64 ≤ (x_54).toInt ∧ (x_54).toInt ≤ 64) → ∀ S_253 : dg_S, CM o S_253 → dg_sm shM [(0, 1), (0, 2), (0, 3), (0, 4), (0, 5), (0, 6), (0, 7), (0, 8), (0, 9), (0, 10), (0, 11), (0, 12), (0, 13), (0, 34), (0, 35), (0, 36), (0, 42), (0, 43), (0, 45), (0, 46), (0, 47), (0, 61), (0, 63), (0, 69)] [2, 3, 4, 5, 6, 7, 8, 9, 10, 11, 12, 13, 14, 15, 16, 17, 18, 19, 20, 21, 22, 23, 24, 25, 26, 27, 28, 29, 30, 31, 32, 33, 34, 35, 36, 37, 38] S S_253 → S_253.1 0 2 = .int x_1 → S_253.1 0 1 = .int 0 → S_253.1 0 5 = .int 0 → S_253.1 0 8 = .int 0 → S_253.1 0 9 = .int (-1) → S_253.1 0 13 = .int x_11 → S_253.1 0 35 = .int x_12 → S_253.2.1 4 (x_12 : Int32).toNatClampNeg = 0 → S_253.2.1 5 (x_12 : Int32).toNatClampNeg = 3 → S_253.2.1 6 (x_12 : Int32).toNatClampNeg = 0 → S_253.2.1 8 (x_12 : Int32).toNatClampNeg = 0 → S_253.2.1 9 (x_12 : Int32).toNatClampNeg = 0 → S_253.2.1 12 (x_12 : Int32).toNatClampNeg = 0 → ZBM S_253 → ZSM S_253 → ZWM S_253 → ZKM S_253 → ∀ (H : Heap) (locs : List Loc), va_P D vwCl (dg_w g shM o rfM S_253) H → va_S A s.heap H locs → ∀ ls : Array Slot, lv_has ls 2 [(1, .int x_54), (0, .ref (o + 0))] → W p l e ({ frames := 8, cells := 0, slots := 0, locals := 185 } : Room) s m args below meth c H locs 0 0 Q9 (F0 m 127 ls []) := by
    intro x_54 b_x_54 S_253 I_253 M_253 ff_253_2_0 ff_253_1_0 ff_253_5_0 ff_253_8_0 ff_253_9_0 ff_253_13_0 ff_253_35_0 frw_253_0 frw_253_1 frw_253_2 frw_253_3 frw_253_4 frw_253_5 ZB_253 ZS_253 ZW_253 ZK_253 H locs hP hS ls hl
    refine lv_iconst (v := 3) hx hb dX12_mine_127 (by decide +kernel) ?_
    refine lv_aload_n hx hb dX12_mine_128 rfl (lv_at hl 1 rfl) ?_
    refine dg_get (C := RX12) (T := TX12) (N := 77) hx hb hts (fun w h => bw_mem (wU_X12 w h)) hown K hP sM_0 rfl 35 (by decide) (hts _ (bw_mem wB_1195)) (fun _ h9 => h9) (v := .int x_12) ff_253_35_0 dX12_mine_129 ?_
    refine lv_imul hx hb dX12_mine_132 ?_
    refine lv_topi (fun x_255 ex_255 => ?_)
    have jx_255 : (x_255).toInt = 3 * (x_12).toInt := by rw [ex_255]; exact dk_mulT (by decide +kernel) rfl (by omega) (by omega)
    refine lv_istore_n (lv' := [(1, .int x_255), (0, .ref (o + 0))]) hx hb dX12_mine_133 rfl hl (by decide) rfl (fun ls hl => ?_)
    have J_453 : ∀ (x_281 : Int32), (3 ≤ (x_281).toInt ∧ (x_281).toInt ≤ 6) → ∀ S_452 : dg_S, CM o S_452 → dg_sm shM [(0, 1), (0, 2), (0, 3), (0, 4), (0, 5), (0, 6), (0, 7), (0, 8), (0, 9), (0, 10), (0, 11), (0, 12), (0, 13), (0, 34), (0, 35), (0, 36), (0, 42), (0, 43), (0, 45), (0, 46), (0, 47), (0, 61), (0, 63), (0, 69)] [2, 3, 4, 5, 6, 7, 8, 9, 10, 11, 12, 13, 14, 15, 16, 17, 18, 19, 20, 21, 22, 23, 24, 25, 26, 27, 28, 29, 30, 31, 32, 33, 34, 35, 36, 37, 38] S S_452 → S_452.1 0 2 = .int x_1 → S_452.1 0 1 = .int 0 → S_452.1 0 5 = .int 0 → S_452.1 0 8 = .int 0 → S_452.1 0 9 = .int (-1) → S_452.1 0 13 = .int x_11 → S_452.1 0 35 = .int x_12 → S_452.2.1 4 (x_12 : Int32).toNatClampNeg = 0 → S_452.2.1 5 (x_12 : Int32).toNatClampNeg = 3 → S_452.2.1 6 (x_12 : Int32).toNatClampNeg = 0 → S_452.2.1 8 (x_12 : Int32).toNatClampNeg = 0 → S_452.2.1 9 (x_12 : Int32).toNatClampNeg = 0 → S_452.2.1 12 (x_12 : Int32).toNatClampNeg = 0 → ZBM S_452 → ZSM S_452 → ZWM S_452 → ZKM S_452 → (NTM S_452 x_12 (3 * (x_12).toInt + 3)) → ∀ (H : Heap) (locs : List Loc), va_P D vwCl (dg_w g shM o rfM S_452) H → va_S A s.heap H locs → ∀ ls : Array Slot, lv_has ls 2 [(1, .int x_281), (0, .ref (o + 0))] → W p l e ({ frames := 8, cells := 0, slots := 0, locals := 185 } : Room) s m args below meth c H locs 0 0 Q9 (F0 m 159 ls []) := by
      intro x_281 b_x_281 S_452 I_452 M_452 ff_452_2_0 ff_452_1_0 ff_452_5_0 ff_452_8_0 ff_452_9_0 ff_452_13_0 ff_452_35_0 frw_452_0 frw_452_1 frw_452_2 frw_452_3 frw_452_4 frw_452_5 ZB_452 ZS_452 ZW_452 ZK_452 srel_452_0 H locs hP hS ls hl
      refine lv_aload_n hx hb dX12_mine_159 rfl (lv_at hl 1 rfl) ?_
      refine lv_iconst (v := 0) hx hb dX12_mine_160 (by decide +kernel) ?_
      have hz_454 : (0 : Int32).toInt = 0 := by decide +kernel
      refine dg_put (ci := 12) (v := .int 0) (ty := tyX12 34) (C := RX12) (T := TX12) (N := 77) hx hb hts (fun w h => bw_mem (wU_X12 w h)) tyX12 tyX12_ok nmX12 hown K hP hS hA1 sM_0 rfl 34 (by decide) (hts _ (bw_mem wB_1200)) (fun _ h9 => h9) rfl (by decide +kernel) rfl rfl dX12_mine_161 (fun S_455 e_455 H locs hP hS => ?_)
      have I_455 := dg_I.uFi (lo := 0) (hi := 1600) I_452 e_455 sM_0 (by decide +kernel) (show 0 ≤ ((0 : Int32)).toInt ∧ ((0 : Int32)).toInt ≤ 1600 from (by decide +kernel))
      have M_455 := dg_sm.uF M_452 e_455 sM_0 (by decide)
      have ZV_455 : ZVM S_455 := NTM.zv srel_452_0 ff_452_35_0 (by omega) e_455
      refine lv_iconst (v := 1) hx hb dX12_mine_164 (by decide +kernel) ?_
      refine lv_istore_n (lv' := [(1, .int 1), (0, .ref (o + 0))]) hx hb dX12_mine_165 rfl hl (by decide) rfl (fun ls hl => ?_)
      refine lv_aload_n hx hb dX12_mine_166 rfl (lv_at hl 1 rfl) ?_
      have hz_456 : (0 : Int32).toInt = 0 := by decide +kernel
      refine dg_callv hS hA1 hA (va_runV (As := []) (rest := []) F (c_m_ahead l g D o S_455 0 ((dg_uF_ne e_455 (fun z => absurd z.2 (by decide))).trans ff_452_5_0) (by decide +kernel) x_1 ((dg_uF_ne e_455 (fun z => absurd z.2 (by decide))).trans ff_452_2_0) (by omega) (by omega) I_455 H.size) (cwV 0 hts (bw_V wB_1161 wB_1162 wB_1163 wB_881 wB_1160) rfl rfl rfl (by decide +kernel) ⟨Nat.le_of_ble_eq_true rfl, Nat.le_of_ble_eq_true rfl⟩) (dg_preV sM_0 rfl K ST hP hS hA1 hA) rfl rfl hl.1 rfl (lv_room (Nat.le_of_ble_eq_true rfl)) dX12_mine_167 ⟨Nat.le_of_ble_eq_true rfl, Nat.le_of_ble_eq_true rfl⟩) (fun S_457 hw_457 H locs hP hS => ?_)
      obtain ⟨I_457, m_457, w_457_0, -⟩ := hw_457
      have M_457 := dg_sm.tr M_455 m_457 (by decide) (by decide)
      have hz_458 : (0 : Int32).toInt = 0 := by decide +kernel
      obtain ⟨y_459, y_460, y_461, f_y_459, f_y_460, f_y_461, w_457_0⟩ := w_457_0
      have w_457_0 : ((0 : Int32)).toInt ≤ (y_460).toInt ∧ (y_460).toInt ≤ (y_461).toInt ∧ (y_461).toInt ≤ (x_1).toInt ∧ ((y_459).toInt ≠ 0 → (y_460).toInt + 1 ≤ (y_461).toInt) := w_457_0
      obtain ⟨w_457_0_0, w_457_0_1, w_457_0_2, w_457_0_3⟩ := w_457_0
      have b_y_459 : 0 ≤ (y_459).toInt ∧ (y_459).toInt ≤ 3 := dg_I.intb (lo := 0) (hi := 3) I_457 sM_0 (by decide +kernel) f_y_459
      have b_y_460 : 0 ≤ (y_460).toInt ∧ (y_460).toInt ≤ 1600 := dg_I.intb (lo := 0) (hi := 1600) I_457 sM_0 (by decide +kernel) f_y_460
      have b_y_461 : 0 ≤ (y_461).toInt ∧ (y_461).toInt ≤ 1600 := dg_I.intb (lo := 0) (hi := 1600) I_457 sM_0 (by decide +kernel) f_y_461
      refine lv_aload_n hx hb dX12_mine_170 rfl (lv_at hl 1 rfl) ?_
      have hz_462 : (0 : Int32).toInt = 0 := by decide +kernel
      refine dg_callv hS hA1 hA (va_runV (As := []) (rest := []) F (c_m_seaming l g D o S_457 y_459 f_y_459 (by omega) y_460 f_y_460 (by omega) y_461 f_y_461 (by omega) x_1 (((m_457.1 0 2 _ sM_0 (by decide)).trans (dg_uF_ne e_455 (fun z => absurd z.2 (by decide)))).trans ff_452_2_0) (by omega) 0 (((m_457.1 0 8 _ sM_0 (by decide)).trans (dg_uF_ne e_455 (fun z => absurd z.2 (by decide)))).trans ff_452_8_0) (by decide +kernel) (by omega) (ZBM.keep (ZBM.keep ZB_452 (dg_sm.uF (WF := [(0, 34)]) (WA := []) dg_sm.rf e_455 sM_0 (by decide)) (by decide) (by decide) (by decide) (by decide) (by decide)) m_457 (by decide) (by decide) (by decide) (by decide) (by decide)) (ZKM.keep (ZKM.keep ZK_452 (dg_sm.uF (WF := [(0, 34)]) (WA := []) dg_sm.rf e_455 sM_0 (by decide)) (by decide) (by decide)) m_457 (by decide) (by decide)) I_457 H.size) (cwV 0 hts (bw_V wB_1307 wB_1308 wB_1309 wB_881 wB_1306) rfl rfl rfl (by decide +kernel) ⟨Nat.le_of_ble_eq_true rfl, Nat.le_of_ble_eq_true rfl⟩) (dg_preV sM_0 rfl K ST hP hS hA1 hA) rfl rfl hl.1 rfl (lv_room (Nat.le_of_ble_eq_true rfl)) dX12_mine_171 ⟨Nat.le_of_ble_eq_true rfl, Nat.le_of_ble_eq_true rfl⟩) (fun S_463 hw_463 H locs hP hS => ?_)
      obtain ⟨I_463, m_463, w_463_0, w_463_1, w_463_2, -⟩ := hw_463
      have M_463 := dg_sm.tr M_457 m_463 (by decide) (by decide)
      have hz_464 : (0 : Int32).toInt = 0 := by decide +kernel
      obtain ⟨y_465, y_466, y_467, y_468, f_y_465, f_y_466, f_y_467, f_y_468, w_463_0⟩ := w_463_0
      have w_463_0 : ((y_466).toInt ≤ (y_467).toInt ∧ (y_467).toInt ≤ (x_1).toInt ∧ ((y_465).toInt ≠ 0 → (y_466).toInt + 1 ≤ (y_467).toInt)) ∧ (y_460).toInt ≤ (y_466).toInt ∧ (((0 : Int32)).toInt ≠ 0 → (y_468).toInt ≠ 0) ∧ ((y_468).toInt = 0 → (y_460).toInt + 1 ≤ (y_466).toInt) := w_463_0
      obtain ⟨⟨w_463_0_0, w_463_0_1, w_463_0_2⟩, w_463_0_3, w_463_0_4, w_463_0_5⟩ := w_463_0
      have b_y_465 : 0 ≤ (y_465).toInt ∧ (y_465).toInt ≤ 3 := dg_I.intb (lo := 0) (hi := 3) I_463 sM_0 (by decide +kernel) f_y_465
      have b_y_466 : 0 ≤ (y_466).toInt ∧ (y_466).toInt ≤ 1600 := dg_I.intb (lo := 0) (hi := 1600) I_463 sM_0 (by decide +kernel) f_y_466
      have b_y_467 : 0 ≤ (y_467).toInt ∧ (y_467).toInt ≤ 1600 := dg_I.intb (lo := 0) (hi := 1600) I_463 sM_0 (by decide +kernel) f_y_467
      have b_y_468 : 0 ≤ (y_468).toInt ∧ (y_468).toInt ≤ 6 := dg_I.intb (lo := 0) (hi := 6) I_463 sM_0 (by decide +kernel) f_y_468
      have w_463_1 : ∀ k9 : Int32, S_463.1 0 8 = .int k9 → k9.toInt = 0 → SEM S_463 := w_463_1
      refine lv_aload_n hx hb dX12_mine_174 rfl (lv_at hl 1 rfl) ?_
      refine lv_iload_n hx hb dX12_mine_175 rfl (lv_at hl 0 rfl) ?_
      obtain ⟨x_469, f_x_469, b_x_469⟩ := dg_I.int (i := 0) (k := 6) (lo := 0) (hi := 9999) I_463 sM_0 (by decide +kernel)
      refine dg_callv hS hA1 hA (va_runV (As := [.int 1]) (rest := []) F (c_m_finishes l g D o S_463 1 y_465 f_y_465 (by omega) y_466 f_y_466 (by omega) y_467 f_y_467 (by omega) x_1 (((m_463.1 0 2 _ sM_0 (by decide)).trans ((m_457.1 0 2 _ sM_0 (by decide)).trans (dg_uF_ne e_455 (fun z => absurd z.2 (by decide))))).trans ff_452_2_0) (by omega) y_468 f_y_468 (by omega) x_469 f_x_469 (by omega) (by omega) I_463 H.size) (cwV 1 hts (bw_V wB_1311 wB_1312 wB_1313 wB_881 wB_1310) rfl rfl rfl (by decide +kernel) ⟨Nat.le_of_ble_eq_true rfl, Nat.le_of_ble_eq_true rfl⟩) (dg_preV sM_0 rfl K ST hP hS hA1 hA) rfl rfl hl.1 rfl (lv_room (Nat.le_of_ble_eq_true rfl)) dX12_mine_176 ⟨Nat.le_of_ble_eq_true rfl, Nat.le_of_ble_eq_true rfl⟩) (fun S_470 hw_470 H locs hP hS => ?_)
      obtain ⟨I_470, m_470, w_470_0, -⟩ := hw_470
      have M_470 := dg_sm.tr M_463 m_470 (by decide) (by decide)
      have hz_471 : (1 : Int32).toInt = 1 := by decide +kernel
      obtain ⟨y_472, y_473, y_474, y_475, f_y_472, f_y_473, f_y_474, f_y_475, w_470_0⟩ := w_470_0
      have w_470_0 : ((y_473).toInt ≤ (y_474).toInt ∧ (y_474).toInt ≤ (x_1).toInt ∧ ((y_472).toInt ≠ 0 → (y_473).toInt + 1 ≤ (y_474).toInt)) ∧ (y_466).toInt ≤ (y_473).toInt ∧ ((y_468).toInt ≠ 0 → (y_475).toInt ≠ 0) ∧ ((y_475).toInt = 0 → (y_466).toInt + 1 ≤ (y_473).toInt) := w_470_0
      obtain ⟨⟨w_470_0_0, w_470_0_1, w_470_0_2⟩, w_470_0_3, w_470_0_4, w_470_0_5⟩ := w_470_0
      have b_y_472 : 0 ≤ (y_472).toInt ∧ (y_472).toInt ≤ 3 := dg_I.intb (lo := 0) (hi := 3) I_470 sM_0 (by decide +kernel) f_y_472
      have b_y_473 : 0 ≤ (y_473).toInt ∧ (y_473).toInt ≤ 1600 := dg_I.intb (lo := 0) (hi := 1600) I_470 sM_0 (by decide +kernel) f_y_473
      have b_y_474 : 0 ≤ (y_474).toInt ∧ (y_474).toInt ≤ 1600 := dg_I.intb (lo := 0) (hi := 1600) I_470 sM_0 (by decide +kernel) f_y_474
      have b_y_475 : 0 ≤ (y_475).toInt ∧ (y_475).toInt ≤ 6 := dg_I.intb (lo := 0) (hi := 6) I_470 sM_0 (by decide +kernel) f_y_475
      have J_624 : ∀ (x_603 : Int32) (x_604 : Int32) (x_605 : Int32) (x_606 : Int32) (x_607 : Int32) (x_608 : Int32), (0 ≤ (x_604).toInt ∧ (x_604).toInt ≤ 3) → (0 ≤ (x_605).toInt ∧ (x_605).toInt ≤ 1600) → (0 ≤ (x_606).toInt ∧ (x_606).toInt ≤ 1600) → (0 ≤ (x_607).toInt ∧ (x_607).toInt ≤ 6) → (0 ≤ (x_608).toInt ∧ (x_608).toInt ≤ 1600) → ∀ S_623 : dg_S, CM o S_623 → dg_sm shM [(0, 1), (0, 2), (0, 3), (0, 4), (0, 5), (0, 6), (0, 7), (0, 8), (0, 9), (0, 10), (0, 11), (0, 12), (0, 13), (0, 34), (0, 35), (0, 36), (0, 42), (0, 43), (0, 45), (0, 46), (0, 47), (0, 61), (0, 63), (0, 69)] [2, 3, 4, 5, 6, 7, 8, 9, 10, 11, 12, 13, 14, 15, 16, 17, 18, 19, 20, 21, 22, 23, 24, 25, 26, 27, 28, 29, 30, 31, 32, 33, 34, 35, 36, 37, 38] S S_623 → S_623.1 0 2 = .int x_1 → S_623.1 0 1 = .int 0 → S_623.1 0 13 = .int x_11 → S_623.1 0 35 = .int x_12 → S_623.1 0 3 = .int x_604 → S_623.1 0 4 = .int x_605 → S_623.1 0 5 = .int x_606 → S_623.1 0 8 = .int x_607 → S_623.1 0 34 = .int x_608 → ZBM S_623 → ZSM S_623 → ZWM S_623 → ZKM S_623 → ((x_607).toInt = 0 → ZCM S_623 ∧ ZVM S_623) → ∀ (H : Heap) (locs : List Loc), va_P D vwCl (dg_w g shM o rfM S_623) H → va_S A s.heap H locs → ∀ ls : Array Slot, lv_has ls 2 [(1, .int x_603), (0, .ref (o + 0))] → W p l e ({ frames := 8, cells := 0, slots := 0, locals := 185 } : Room) s m args below meth c H locs 0 0 Q9 (F0 m 208 ls []) := by
        intro x_603 x_604 x_605 x_606 x_607 x_608 b_x_604 b_x_605 b_x_606 b_x_607 b_x_608 S_623 I_623 M_623 ff_623_2_0 ff_623_1_0 ff_623_13_0 ff_623_35_0 ff_623_3_0 ff_623_4_0 ff_623_5_0 ff_623_8_0 ff_623_34_0 ZB_623 ZS_623 ZW_623 ZK_623 srel_623_0 H locs hP hS ls hl
        refine lv_aload_n hx hb dX12_mine_208 rfl (lv_at hl 1 rfl) ?_
        refine lv_aload_n hx hb dX12_mine_209 rfl (lv_at hl 1 rfl) ?_
        refine dg_get (C := RX12) (T := TX12) (N := 77) hx hb hts (fun w h => bw_mem (wU_X12 w h)) hown K hP sM_0 rfl 8 (by decide) (hts _ (bw_mem wB_1133)) (fun _ h9 => h9) (v := .int x_607) ff_623_8_0 dX12_mine_210 ?_
        refine dg_put (ci := 12) (v := .int x_607) (ty := tyX12 10) (C := RX12) (T := TX12) (N := 77) hx hb hts (fun w h => bw_mem (wU_X12 w h)) tyX12 tyX12_ok nmX12 hown K hP hS hA1 sM_0 rfl 10 (by decide) (hts _ (bw_mem wB_887)) (fun _ h9 => h9) rfl (by decide +kernel) rfl rfl dX12_mine_213 (fun S_625 e_625 H locs hP hS => ?_)
        have I_625 := dg_I.uFi (lo := (-2147483648)) (hi := 2147483647) I_623 e_625 sM_0 (by decide +kernel) (show (-2147483648) ≤ (x_607).toInt ∧ (x_607).toInt ≤ 2147483647 from (dk_full _))
        have M_625 := dg_sm.uF M_623 e_625 sM_0 (by decide)
        refine lv_aload_n hx hb dX12_mine_216 rfl (lv_at hl 1 rfl) ?_
        refine lv_aload_n hx hb dX12_mine_217 rfl (lv_at hl 1 rfl) ?_
        obtain ⟨x_626, f_x_626, b_x_626⟩ := dg_I.int (i := 0) (k := 9) (lo := (-2147483648)) (hi := 2147483647) I_625 sM_0 (by decide +kernel)
        refine dg_get (C := RX12) (T := TX12) (N := 77) hx hb hts (fun w h => bw_mem (wU_X12 w h)) hown K hP sM_0 rfl 9 (by decide) (hts _ (bw_mem wB_1134)) (fun _ h9 => h9) (v := .int x_626) f_x_626 dX12_mine_218 ?_
        refine dg_put (ci := 12) (v := .int x_626) (ty := tyX12 11) (C := RX12) (T := TX12) (N := 77) hx hb hts (fun w h => bw_mem (wU_X12 w h)) tyX12 tyX12_ok nmX12 hown K hP hS hA1 sM_0 rfl 11 (by decide) (hts _ (bw_mem wB_886)) (fun _ h9 => h9) rfl (by decide +kernel) rfl rfl dX12_mine_221 (fun S_627 e_627 H locs hP hS => ?_)
        have I_627 := dg_I.uFi (lo := (-2147483648)) (hi := 2147483647) I_625 e_627 sM_0 (by decide +kernel) (show (-2147483648) ≤ (x_626).toInt ∧ (x_626).toInt ≤ 2147483647 from (dk_full _))
        have M_627 := dg_sm.uF M_625 e_627 sM_0 (by decide)
        refine lv_aload_n hx hb dX12_mine_224 rfl (lv_at hl 1 rfl) ?_
        refine dg_get (C := RX12) (T := TX12) (N := 77) hx hb hts (fun w h => bw_mem (wU_X12 w h)) hown K hP sM_0 rfl 8 (by decide) (hts _ (bw_mem wB_1133)) (fun _ h9 => h9) (v := .int x_607) (((dg_uF_ne e_627 (fun z => absurd z.2 (by decide))).trans (dg_uF_ne e_625 (fun z => absurd z.2 (by decide)))).trans ff_623_8_0) dX12_mine_225 ?_
        refine lv_if_le (tgt := 237) hx hb dX12_mine_228 (by decide) (fun c_628 => ?_) (fun c_628 => ?_)
        · have jc_628 := dk_lec (k := 0) (by decide +kernel) c_628
          have zcE := srel_623_0 (by omega)
          refine lv_aload_n hx hb dX12_mine_237 rfl (lv_at hl 1 rfl) ?_
          refine lv_aload_n hx hb dX12_mine_238 rfl (lv_at hl 1 rfl) ?_
          refine dg_get (C := RX12) (T := TX12) (N := 77) hx hb hts (fun w h => bw_mem (wU_X12 w h)) hown K hP sM_0 rfl 35 (by decide) (hts _ (bw_mem wB_1195)) (fun _ h9 => h9) (v := .int x_12) (((dg_uF_ne e_627 (fun z => absurd z.2 (by decide))).trans (dg_uF_ne e_625 (fun z => absurd z.2 (by decide)))).trans ff_623_35_0) dX12_mine_239 ?_
          refine dg_put (ci := 12) (v := .int x_12) (ty := tyX12 13) (C := RX12) (T := TX12) (N := 77) hx hb hts (fun w h => bw_mem (wU_X12 w h)) tyX12 tyX12_ok nmX12 hown K hP hS hA1 sM_0 rfl 13 (by decide) (hts _ (bw_mem wB_893)) (fun _ h9 => h9) rfl (by decide +kernel) rfl rfl dX12_mine_242 (fun S_629 e_629 H locs hP hS => ?_)
          have I_629 := dg_I.uFi (lo := 0) (hi := 1) I_627 e_629 sM_0 (by decide +kernel) (show 0 ≤ (x_12).toInt ∧ (x_12).toInt ≤ 1 from (by omega))
          have M_629 := dg_sm.uF M_627 e_629 sM_0 (by decide)
          have ZW_629 : ZWM S_629 := ZVM.use (ZVM.keep (ZVM.keep zcE.2 (dg_sm.uF (WF := [(0, 10)]) (WA := []) dg_sm.rf e_625 sM_0 (by decide)) (by decide) (by decide) (by decide) (by decide) (by decide)) (dg_sm.uF (WF := [(0, 11)]) (WA := []) dg_sm.rf e_627 sM_0 (by decide)) (by decide) (by decide) (by decide) (by decide) (by decide)) (((dg_uF_ne e_627 (fun z => absurd z.2 (by decide))).trans (dg_uF_ne e_625 (fun z => absurd z.2 (by decide)))).trans ff_623_35_0) (((dg_uF_ne e_627 (fun z => absurd z.2 (by decide))).trans (dg_uF_ne e_625 (fun z => absurd z.2 (by decide)))).trans ff_623_34_0) (by omega) e_629
          refine lv_aload_n hx hb dX12_mine_245 rfl (lv_at hl 1 rfl) ?_
          refine lv_iconst (v := 1) hx hb dX12_mine_246 (by decide +kernel) ?_
          have hz_630 : (1 : Int32).toInt = 1 := by decide +kernel
          refine dg_put (ci := 12) (v := .int 1) (ty := tyX12 47) (C := RX12) (T := TX12) (N := 77) hx hb hts (fun w h => bw_mem (wU_X12 w h)) tyX12 tyX12_ok nmX12 hown K hP hS hA1 sM_0 rfl 47 (by decide) (hts _ (bw_mem wB_891)) (fun _ h9 => h9) rfl (by decide +kernel) (by decide +kernel) (by decide +kernel) dX12_mine_247 (fun S_631 e_631 H locs hP hS => ?_)
          have I_631 := dg_I.uFi (lo := 0) (hi := 1) I_629 e_631 sM_0 (by decide +kernel) (show 0 ≤ ((1 : Int32)).toInt ∧ ((1 : Int32)).toInt ≤ 1 from (by decide +kernel))
          have M_631 := dg_sm.uF M_629 e_631 sM_0 (by decide)
          have ZB_631 : ZBM S_631 := ZCM.use (ZCM.keep (ZCM.keep zcE.1 (dg_sm.uF (WF := [(0, 10)]) (WA := []) dg_sm.rf e_625 sM_0 (by decide)) (by decide) (by decide) (by decide) (by decide)) (dg_sm.uF (WF := [(0, 11)]) (WA := []) dg_sm.rf e_627 sM_0 (by decide)) (by decide) (by decide) (by decide) (by decide)) (((dg_uF_ne e_627 (fun z => absurd z.2 (by decide))).trans (dg_uF_ne e_625 (fun z => absurd z.2 (by decide)))).trans ff_623_35_0) e_629 e_631
          refine lv_aload_n hx hb dX12_mine_250 rfl (lv_at hl 1 rfl) ?_
          refine dg_callv hS hA1 hA (va_runV (As := []) (rest := []) F (c_m_begin l g D o S_631 ZB_631 (ZSM.keep (ZSM.keep (ZSM.keep (ZSM.keep ZS_623 (dg_sm.uF (WF := [(0, 10)]) (WA := []) dg_sm.rf e_625 sM_0 (by decide)) (by decide)) (dg_sm.uF (WF := [(0, 11)]) (WA := []) dg_sm.rf e_627 sM_0 (by decide)) (by decide)) (dg_sm.uF (WF := [(0, 13)]) (WA := []) dg_sm.rf e_629 sM_0 (by decide)) (by decide)) (dg_sm.uF (WF := [(0, 47)]) (WA := []) dg_sm.rf e_631 sM_0 (by decide)) (by decide)) I_631 H.size) (cwV 0 hts (bw_V wB_1319 wB_1320 wB_1321 wB_881 wB_1318) rfl rfl rfl (by decide +kernel) ⟨Nat.le_of_ble_eq_true rfl, Nat.le_of_ble_eq_true rfl⟩) (dg_preV sM_0 rfl K ST hP hS hA1 hA) rfl rfl hl.1 rfl (lv_room (Nat.le_of_ble_eq_true rfl)) dX12_mine_251 ⟨Nat.le_of_ble_eq_true rfl, Nat.le_of_ble_eq_true rfl⟩) (fun S_632 hw_632 H locs hP hS => ?_)
          obtain ⟨I_632, m_632, w_632_0, -⟩ := hw_632
          have M_632 := dg_sm.tr M_631 m_632 (by decide) (by decide)
          refine lv_iload_n hx hb dX12_mine_254 rfl (lv_at hl 0 rfl) ?_
          have hz_633 : (0 : Int32).toInt = 0 := by decide +kernel
          refine W.widen (k := 0) (n := 0) (Nat.le_of_ble_eq_true rfl) (Nat.le_of_ble_eq_true rfl) ?_
          rw [hQ9]
          exact dg_iret hx hb hr hlocks rfl hP hS ⟨I_632, M_632, ⟨0, (((m_632.1 0 1 _ sM_0 (by decide)).trans ((dg_uF_ne e_631 (fun z => absurd z.2 (by decide))).trans ((dg_uF_ne e_629 (fun z => absurd z.2 (by decide))).trans ((dg_uF_ne e_627 (fun z => absurd z.2 (by decide))).trans (dg_uF_ne e_625 (fun z => absurd z.2 (by decide))))))).trans ff_623_1_0), (by omega)⟩, (ZBM.keep ZB_631 m_632 (by decide) (by decide) (by decide) (by decide) (by decide)), w_632_0, (ZWM.keep (ZWM.keep ZW_629 (dg_sm.uF (WF := [(0, 47)]) (WA := []) dg_sm.rf e_631 sM_0 (by decide)) (by decide) (by decide) (by decide) (by decide)) m_632 (by decide) (by decide) (by decide) (by decide)), trivial⟩ dX12_mine_255
        · have jc_628 := dk_nlec (k := 0) (by decide +kernel) c_628
          refine lv_aload_n hx hb dX12_mine_231 rfl (lv_at hl 1 rfl) ?_
          refine lv_iconst (v := 1) hx hb dX12_mine_232 (by decide +kernel) ?_
          have hz_634 : (1 : Int32).toInt = 1 := by decide +kernel
          refine dg_calli hS hA1 hA (va_runV (As := [.int 1]) (rest := []) F (c_m_refuses l g D o S_627 1 (by decide +kernel) I_627 H.size) (cwV 1 hts (bw_V wB_883 wB_884 wB_885 wB_881 wB_882) rfl rfl rfl (by decide +kernel) ⟨Nat.le_of_ble_eq_true rfl, Nat.le_of_ble_eq_true rfl⟩) (dg_preV sM_0 rfl K ST hP hS hA1 hA) rfl rfl hl.1 rfl (lv_room (Nat.le_of_ble_eq_true rfl)) dX12_mine_233 ⟨Nat.le_of_ble_eq_true rfl, Nat.le_of_ble_eq_true rfl⟩) (fun x_635 S_636 hw_636 H locs hP hS => ?_)
          obtain ⟨I_636, m_636, w_636_0, -⟩ := hw_636
          have M_636 := dg_sm.tr M_627 m_636 (by decide) (by decide)
          have w_636_0 : (-1) ≤ (x_635).toInt ∧ (x_635).toInt ≤ (-1) := w_636_0
          have hz_637 : (0 : Int32).toInt = 0 := by decide +kernel
          refine W.widen (k := 0) (n := 0) (Nat.le_of_ble_eq_true rfl) (Nat.le_of_ble_eq_true rfl) ?_
          rw [hQ9]
          exact dg_iret hx hb hr hlocks rfl hP hS ⟨I_636, M_636, ⟨0, (((m_636.1 0 1 _ sM_0 (by decide)).trans ((dg_uF_ne e_627 (fun z => absurd z.2 (by decide))).trans (dg_uF_ne e_625 (fun z => absurd z.2 (by decide))))).trans ff_623_1_0), (by omega)⟩, (ZBM.keep (ZBM.keep (ZBM.keep ZB_623 (dg_sm.uF (WF := [(0, 10)]) (WA := []) dg_sm.rf e_625 sM_0 (by decide)) (by decide) (by decide) (by decide) (by decide) (by decide)) (dg_sm.uF (WF := [(0, 11)]) (WA := []) dg_sm.rf e_627 sM_0 (by decide)) (by decide) (by decide) (by decide) (by decide) (by decide)) m_636 (by decide) (by decide) (by decide) (by decide) (by decide)), (ZSM.keep (ZSM.keep (ZSM.keep ZS_623 (dg_sm.uF (WF := [(0, 10)]) (WA := []) dg_sm.rf e_625 sM_0 (by decide)) (by decide)) (dg_sm.uF (WF := [(0, 11)]) (WA := []) dg_sm.rf e_627 sM_0 (by decide)) (by decide)) m_636 (by decide)), (ZWM.keep (ZWM.keep (ZWM.keep ZW_623 (dg_sm.uF (WF := [(0, 10)]) (WA := []) dg_sm.rf e_625 sM_0 (by decide)) (by decide) (by decide) (by decide) (by decide)) (dg_sm.uF (WF := [(0, 11)]) (WA := []) dg_sm.rf e_627 sM_0 (by decide)) (by decide) (by decide) (by decide) (by decide)) m_636 (by decide) (by decide) (by decide) (by decide)), trivial⟩ dX12_mine_236
      have L_752 : ∀ (n : Nat) (x_745 : Int32) (x_746 : Int32) (x_747 : Int32) (x_748 : Int32) (x_749 : Int32) (x_750 : Int32), (0 ≤ (x_746).toInt ∧ (x_746).toInt ≤ 3) → (0 ≤ (x_747).toInt ∧ (x_747).toInt ≤ 1600) → (0 ≤ (x_748).toInt ∧ (x_748).toInt ≤ 1600) → (0 ≤ (x_749).toInt ∧ (x_749).toInt ≤ 6) → (0 ≤ (x_750).toInt ∧ (x_750).toInt ≤ 1600) → ((7 - (x_749).toInt + 7 * (1600 - (x_747).toInt)).toNat < n) → ∀ S_751 : dg_S, CM o S_751 → dg_sm shM [(0, 1), (0, 2), (0, 3), (0, 4), (0, 5), (0, 6), (0, 7), (0, 8), (0, 9), (0, 10), (0, 11), (0, 12), (0, 13), (0, 34), (0, 35), (0, 36), (0, 42), (0, 43), (0, 45), (0, 46), (0, 47), (0, 61), (0, 63), (0, 69)] [2, 3, 4, 5, 6, 7, 8, 9, 10, 11, 12, 13, 14, 15, 16, 17, 18, 19, 20, 21, 22, 23, 24, 25, 26, 27, 28, 29, 30, 31, 32, 33, 34, 35, 36, 37, 38] S S_751 → S_751.1 0 2 = .int x_1 → S_751.1 0 1 = .int 0 → S_751.1 0 13 = .int x_11 → S_751.1 0 35 = .int x_12 → S_751.1 0 3 = .int x_746 → S_751.1 0 4 = .int x_747 → S_751.1 0 5 = .int x_748 → S_751.1 0 8 = .int x_749 → S_751.1 0 34 = .int x_750 → ZBM S_751 → ZSM S_751 → ZWM S_751 → ZKM S_751 → ((x_747).toInt ≤ (x_748).toInt ∧ (x_748).toInt ≤ (x_1).toInt ∧ ((x_746).toInt ≠ 0 → (x_747).toInt + 1 ≤ (x_748).toInt)) → ((x_749).toInt = 0 → (x_750).toInt ≤ (x_747).toInt) → ((x_749).toInt = 0 → ZCM S_751 ∧ ZVM S_751) → ∀ (H : Heap) (locs : List Loc), va_P D vwCl (dg_w g shM o rfM S_751) H → va_S A s.heap H locs → ∀ ls : Array Slot, lv_has ls 2 [(1, .int x_745), (0, .ref (o + 0))] → W p l e ({ frames := 8, cells := 0, slots := 0, locals := 185 } : Room) s m args below meth c H locs 0 0 Q9 (F0 m 179 ls []) := by
        intro n
        induction n with
        | zero =>
          intro x_745 x_746 x_747 x_748 x_749 x_750 b_x_746 b_x_747 b_x_748 b_x_749 b_x_750 hmu S_751 I_751 M_751 ff_751_2_0 ff_751_1_0 ff_751_13_0 ff_751_35_0 ff_751_3_0 ff_751_4_0 ff_751_5_0 ff_751_8_0 ff_751_34_0 ZB_751 ZS_751 ZW_751 ZK_751 srel_751_0 srel_751_1 srel_751_2 H locs hP hS ls hl
          omega
        | succ n ih =>
          intro x_745 x_746 x_747 x_748 x_749 x_750 b_x_746 b_x_747 b_x_748 b_x_749 b_x_750 hmu S_751 I_751 M_751 ff_751_2_0 ff_751_1_0 ff_751_13_0 ff_751_35_0 ff_751_3_0 ff_751_4_0 ff_751_5_0 ff_751_8_0 ff_751_34_0 ZB_751 ZS_751 ZW_751 ZK_751 srel_751_0 srel_751_1 srel_751_2 H locs hP hS ls hl
          refine lv_aload_n hx hb dX12_mine_179 rfl (lv_at hl 1 rfl) ?_
          refine dg_get (C := RX12) (T := TX12) (N := 77) hx hb hts (fun w h => bw_mem (wU_X12 w h)) hown K hP sM_0 rfl 8 (by decide) (hts _ (bw_mem wB_1133)) (fun _ h9 => h9) (v := .int x_749) ff_751_8_0 dX12_mine_180 ?_
          refine lv_if_ne (tgt := 208) hx hb dX12_mine_183 (by decide) (fun c_753 => ?_) (fun c_753 => ?_)
          · have jc_753 := dk_neqc (k := 0) (by decide +kernel) c_753
            have jbc_753 : 1 ≤ (x_749).toInt := by omega
            clear jc_753
            exact J_624 x_745 x_746 x_747 x_748 x_749 x_750 (by omega) (by omega) (by omega) (by omega) (by omega) S_751 I_751 M_751 ff_751_2_0 ff_751_1_0 ff_751_13_0 ff_751_35_0 ff_751_3_0 ff_751_4_0 ff_751_5_0 ff_751_8_0 ff_751_34_0 ZB_751 ZS_751 ZW_751 ZK_751 srel_751_2 _ _ hP hS _ (lv_sub hl [0, 1] rfl)
          · have jc_753 := dk_eqc (k := 0) (by decide +kernel) c_753
            refine lv_aload_n hx hb dX12_mine_186 rfl (lv_at hl 1 rfl) ?_
            refine dg_get (C := RX12) (T := TX12) (N := 77) hx hb hts (fun w h => bw_mem (wU_X12 w h)) hown K hP sM_0 rfl 3 (by decide) (hts _ (bw_mem wB_1140)) (fun _ h9 => h9) (v := .int x_746) ff_751_3_0 dX12_mine_187 ?_
            refine lv_if_eq (tgt := 208) hx hb dX12_mine_190 (by decide) (fun c_754 => ?_) (fun c_754 => ?_)
            · have jc_754 := dk_eqc (k := 0) (by decide +kernel) c_754
              exact J_624 x_745 x_746 x_747 x_748 x_749 x_750 (by omega) (by omega) (by omega) (by omega) (by omega) S_751 I_751 M_751 ff_751_2_0 ff_751_1_0 ff_751_13_0 ff_751_35_0 ff_751_3_0 ff_751_4_0 ff_751_5_0 ff_751_8_0 ff_751_34_0 ZB_751 ZS_751 ZW_751 ZK_751 srel_751_2 _ _ hP hS _ (lv_sub hl [0, 1] rfl)
            · have jc_754 := dk_neqc (k := 0) (by decide +kernel) c_754
              have jbc_754 : 1 ≤ (x_746).toInt := by omega
              clear jc_754
              have zcH := srel_751_2 (by omega)
              refine lv_aload_n hx hb dX12_mine_193 rfl (lv_at hl 1 rfl) ?_
              refine dg_callv hS hA1 hA (va_runV (As := []) (rest := []) F (c_m_statement l g D o S_751 x_746 ff_751_3_0 (by omega) x_747 ff_751_4_0 (by omega) x_748 ff_751_5_0 (by omega) x_1 ff_751_2_0 (by omega) x_749 ff_751_8_0 (by omega) x_750 ff_751_34_0 (by omega) (by omega) (by omega) ZB_751 ZW_751 ZK_751 zcH.1 zcH.2 I_751 H.size) (cwV 0 hts (bw_V wB_1315 wB_1316 wB_1317 wB_881 wB_1314) rfl rfl rfl (by decide +kernel) ⟨Nat.le_of_ble_eq_true rfl, Nat.le_of_ble_eq_true rfl⟩) (dg_preV sM_0 rfl K ST hP hS hA1 hA) rfl rfl hl.1 rfl (lv_room (Nat.le_of_ble_eq_true rfl)) dX12_mine_194 ⟨Nat.le_of_ble_eq_true rfl, Nat.le_of_ble_eq_true rfl⟩) (fun S_755 hw_755 H locs hP hS => ?_)
              obtain ⟨I_755, m_755, w_755_0, w_755_1, w_755_2, w_755_3, -⟩ := hw_755
              have M_755 := dg_sm.tr M_751 m_755 (by decide) (by decide)
              obtain ⟨y_756, y_757, y_758, y_759, y_760, f_y_756, f_y_757, f_y_758, f_y_759, f_y_760, w_755_0⟩ := w_755_0
              have w_755_0 : ((y_757).toInt ≤ (y_758).toInt ∧ (y_758).toInt ≤ (x_1).toInt ∧ ((y_756).toInt ≠ 0 → (y_757).toInt + 1 ≤ (y_758).toInt)) ∧ (x_747).toInt ≤ (y_757).toInt ∧ ((x_749).toInt ≠ 0 → (y_759).toInt ≠ 0) ∧ ((y_759).toInt = 0 → (y_760).toInt ≤ (y_757).toInt) := w_755_0
              obtain ⟨⟨w_755_0_0, w_755_0_1, w_755_0_2⟩, w_755_0_3, w_755_0_4, w_755_0_5⟩ := w_755_0
              clear w_755_0_4
              have b_y_756 : 0 ≤ (y_756).toInt ∧ (y_756).toInt ≤ 3 := dg_I.intb (lo := 0) (hi := 3) I_755 sM_0 (by decide +kernel) f_y_756
              have b_y_757 : 0 ≤ (y_757).toInt ∧ (y_757).toInt ≤ 1600 := dg_I.intb (lo := 0) (hi := 1600) I_755 sM_0 (by decide +kernel) f_y_757
              have b_y_758 : 0 ≤ (y_758).toInt ∧ (y_758).toInt ≤ 1600 := dg_I.intb (lo := 0) (hi := 1600) I_755 sM_0 (by decide +kernel) f_y_758
              have b_y_759 : 0 ≤ (y_759).toInt ∧ (y_759).toInt ≤ 6 := dg_I.intb (lo := 0) (hi := 6) I_755 sM_0 (by decide +kernel) f_y_759
              have b_y_760 : 0 ≤ (y_760).toInt ∧ (y_760).toInt ≤ 1600 := dg_I.intb (lo := 0) (hi := 1600) I_755 sM_0 (by decide +kernel) f_y_760
              have w_755_1 : ∀ k9 : Int32, S_755.1 0 8 = .int k9 → k9.toInt = 0 → ZCM S_755 ∧ ZVM S_755 := w_755_1
              obtain ⟨x_761, ex_761⟩ : ∃ z, z = x_745 + 1 := ⟨_, rfl⟩
              refine lv_iinc (v := x_761) (lv' := [(1, .int x_761), (0, .ref (o + 0))]) hx hb dX12_mine_197 hl (k := 0) rfl (by rw [ex_761]; rfl) (by decide) rfl (fun ls hl => ?_)
              refine lv_aload_n hx hb dX12_mine_200 rfl (lv_at hl 1 rfl) ?_
              refine lv_iload_n hx hb dX12_mine_201 rfl (lv_at hl 0 rfl) ?_
              obtain ⟨x_762, f_x_762, b_x_762⟩ := dg_I.int (i := 0) (k := 6) (lo := 0) (hi := 9999) I_755 sM_0 (by decide +kernel)
              refine dg_callv hS hA1 hA (va_runV (As := [.int x_761]) (rest := []) F (c_m_finishes l g D o S_755 x_761 y_756 f_y_756 (by omega) y_757 f_y_757 (by omega) y_758 f_y_758 (by omega) x_1 ((m_755.1 0 2 _ sM_0 (by decide)).trans ff_751_2_0) (by omega) y_759 f_y_759 (by omega) x_762 f_x_762 (by omega) (by omega) I_755 H.size) (cwV 1 hts (bw_V wB_1311 wB_1312 wB_1313 wB_881 wB_1310) rfl rfl rfl (by decide +kernel) ⟨Nat.le_of_ble_eq_true rfl, Nat.le_of_ble_eq_true rfl⟩) (dg_preV sM_0 rfl K ST hP hS hA1 hA) rfl rfl hl.1 rfl (lv_room (Nat.le_of_ble_eq_true rfl)) dX12_mine_202 ⟨Nat.le_of_ble_eq_true rfl, Nat.le_of_ble_eq_true rfl⟩) (fun S_763 hw_763 H locs hP hS => ?_)
              obtain ⟨I_763, m_763, w_763_0, -⟩ := hw_763
              have M_763 := dg_sm.tr M_755 m_763 (by decide) (by decide)
              obtain ⟨y_764, y_765, y_766, y_767, f_y_764, f_y_765, f_y_766, f_y_767, w_763_0⟩ := w_763_0
              have w_763_0 : ((y_765).toInt ≤ (y_766).toInt ∧ (y_766).toInt ≤ (x_1).toInt ∧ ((y_764).toInt ≠ 0 → (y_765).toInt + 1 ≤ (y_766).toInt)) ∧ (y_757).toInt ≤ (y_765).toInt ∧ ((y_759).toInt ≠ 0 → (y_767).toInt ≠ 0) ∧ ((y_767).toInt = 0 → (y_757).toInt + 1 ≤ (y_765).toInt) := w_763_0
              obtain ⟨⟨w_763_0_0, w_763_0_1, w_763_0_2⟩, w_763_0_3, w_763_0_4, w_763_0_5⟩ := w_763_0
              have b_y_764 : 0 ≤ (y_764).toInt ∧ (y_764).toInt ≤ 3 := dg_I.intb (lo := 0) (hi := 3) I_763 sM_0 (by decide +kernel) f_y_764
              have b_y_765 : 0 ≤ (y_765).toInt ∧ (y_765).toInt ≤ 1600 := dg_I.intb (lo := 0) (hi := 1600) I_763 sM_0 (by decide +kernel) f_y_765
              have b_y_766 : 0 ≤ (y_766).toInt ∧ (y_766).toInt ≤ 1600 := dg_I.intb (lo := 0) (hi := 1600) I_763 sM_0 (by decide +kernel) f_y_766
              have b_y_767 : 0 ≤ (y_767).toInt ∧ (y_767).toInt ≤ 6 := dg_I.intb (lo := 0) (hi := 6) I_763 sM_0 (by decide +kernel) f_y_767
              refine lv_goto (tgt := 179) hx hb dX12_mine_205 (by decide) ?_
              exact ih x_761 y_764 y_765 y_766 y_767 y_760 (by omega) (by omega) (by omega) (by omega) (by omega) (by omega) S_763 I_763 M_763 (((m_763.1 0 2 _ sM_0 (by decide)).trans (m_755.1 0 2 _ sM_0 (by decide))).trans ff_751_2_0) (((m_763.1 0 1 _ sM_0 (by decide)).trans (m_755.1 0 1 _ sM_0 (by decide))).trans ff_751_1_0) (((m_763.1 0 13 _ sM_0 (by decide)).trans (m_755.1 0 13 _ sM_0 (by decide))).trans ff_751_13_0) (((m_763.1 0 35 _ sM_0 (by decide)).trans (m_755.1 0 35 _ sM_0 (by decide))).trans ff_751_35_0) f_y_764 f_y_765 f_y_766 f_y_767 ((m_763.1 0 34 _ sM_0 (by decide)).trans f_y_760) (ZBM.keep w_755_2 m_763 (by decide) (by decide) (by decide) (by decide) (by decide)) (ZSM.keep (ZSM.keep ZS_751 m_755 (by decide)) m_763 (by decide)) (ZWM.keep w_755_3 m_763 (by decide) (by decide) (by decide) (by decide)) (ZKM.keep (ZKM.keep ZK_751 m_755 (by decide) (by decide)) m_763 (by decide) (by decide)) (by omega) (by omega) (fun h8 => ⟨(ZCM.keep (w_755_1 _ f_y_759 (by omega)).1 m_763 (by decide) (by decide) (by decide) (by decide)), (ZVM.keep (w_755_1 _ f_y_759 (by omega)).2 m_763 (by decide) (by decide) (by decide) (by decide) (by decide))⟩) _ _ hP hS _ (lv_sub hl [0, 1] rfl)
      have hz_768 : (0 : Int32).toInt = 0 := by decide +kernel
      have hz_769 : (1 : Int32).toInt = 1 := by decide +kernel
      have hz_770 : (0 : Int32).toInt = 0 := by decide +kernel
      have hz_771 : (0 : Int32).toInt = 0 := by decide +kernel
      exact L_752 ((7 - ((y_475 : Int32)).toInt + 7 * (1600 - ((y_473 : Int32)).toInt)).toNat + 1) 1 y_472 y_473 y_474 y_475 0 (by omega) (by omega) (by omega) (by omega) (by decide +kernel) (by omega) S_470 I_470 M_470 (((m_470.1 0 2 _ sM_0 (by decide)).trans ((m_463.1 0 2 _ sM_0 (by decide)).trans ((m_457.1 0 2 _ sM_0 (by decide)).trans (dg_uF_ne e_455 (fun z => absurd z.2 (by decide)))))).trans ff_452_2_0) (((m_470.1 0 1 _ sM_0 (by decide)).trans ((m_463.1 0 1 _ sM_0 (by decide)).trans ((m_457.1 0 1 _ sM_0 (by decide)).trans (dg_uF_ne e_455 (fun z => absurd z.2 (by decide)))))).trans ff_452_1_0) (((m_470.1 0 13 _ sM_0 (by decide)).trans ((m_463.1 0 13 _ sM_0 (by decide)).trans ((m_457.1 0 13 _ sM_0 (by decide)).trans (dg_uF_ne e_455 (fun z => absurd z.2 (by decide)))))).trans ff_452_13_0) (((m_470.1 0 35 _ sM_0 (by decide)).trans ((m_463.1 0 35 _ sM_0 (by decide)).trans ((m_457.1 0 35 _ sM_0 (by decide)).trans (dg_uF_ne e_455 (fun z => absurd z.2 (by decide)))))).trans ff_452_35_0) f_y_472 f_y_473 f_y_474 f_y_475 (((m_470.1 0 34 _ sM_0 (by decide)).trans ((m_463.1 0 34 _ sM_0 (by decide)).trans (m_457.1 0 34 _ sM_0 (by decide)))).trans (dg_uF_at e_455)) (ZBM.keep w_463_2 m_470 (by decide) (by decide) (by decide) (by decide) (by decide)) (ZSM.keep (ZSM.keep (ZSM.keep (ZSM.keep ZS_452 (dg_sm.uF (WF := [(0, 34)]) (WA := []) dg_sm.rf e_455 sM_0 (by decide)) (by decide)) m_457 (by decide)) m_463 (by decide)) m_470 (by decide)) (ZWM.keep (ZWM.keep (ZWM.keep (ZWM.keep ZW_452 (dg_sm.uF (WF := [(0, 34)]) (WA := []) dg_sm.rf e_455 sM_0 (by decide)) (by decide) (by decide) (by decide) (by decide)) m_457 (by decide) (by decide) (by decide) (by decide)) m_463 (by decide) (by decide) (by decide) (by decide)) m_470 (by decide) (by decide) (by decide) (by decide)) (ZKM.keep (ZKM.keep (ZKM.keep (ZKM.keep ZK_452 (dg_sm.uF (WF := [(0, 34)]) (WA := []) dg_sm.rf e_455 sM_0 (by decide)) (by decide) (by decide)) m_457 (by decide) (by decide)) m_463 (by decide) (by decide)) m_470 (by decide) (by decide)) (by omega) (by omega) (fun h8 => ⟨(ZCM.keep (SEM.zc (w_463_1 _ f_y_468 (by omega)) (((m_463.1 0 35 _ sM_0 (by decide)).trans ((m_457.1 0 35 _ sM_0 (by decide)).trans (dg_uF_ne e_455 (fun z => absurd z.2 (by decide))))).trans ff_452_35_0) ((congrFun ((m_463.2 4 _ sM_4 (by decide)).1.trans ((m_457.2 4 _ sM_4 (by decide)).1.trans (dg_uF_f e_455 4))) _).trans frw_452_0) (by omega)) m_470 (by decide) (by decide) (by decide) (by decide)), (ZVM.keep (ZVM.keep (ZVM.keep ZV_455 m_457 (by decide) (by decide) (by decide) (by decide) (by decide)) m_463 (by decide) (by decide) (by decide) (by decide) (by decide)) m_470 (by decide) (by decide) (by decide) (by decide) (by decide))⟩) _ _ hP hS _ (lv_sub hl [0, 1] rfl)
    have L_790 : ∀ (n : Nat) (x_788 : Int32), (0 ≤ (x_788).toInt ∧ (x_788).toInt ≤ 6) → (3 * (x_12).toInt ≤ (x_788).toInt ∧ (x_788).toInt ≤ 3 * (x_12).toInt + 3) → ((7 - (x_788).toInt).toNat < n) → ∀ S_789 : dg_S, CM o S_789 → dg_sm shM [(0, 1), (0, 2), (0, 3), (0, 4), (0, 5), (0, 6), (0, 7), (0, 8), (0, 9), (0, 10), (0, 11), (0, 12), (0, 13), (0, 34), (0, 35), (0, 36), (0, 42), (0, 43), (0, 45), (0, 46), (0, 47), (0, 61), (0, 63), (0, 69)] [2, 3, 4, 5, 6, 7, 8, 9, 10, 11, 12, 13, 14, 15, 16, 17, 18, 19, 20, 21, 22, 23, 24, 25, 26, 27, 28, 29, 30, 31, 32, 33, 34, 35, 36, 37, 38] S S_789 → S_789.1 0 2 = .int x_1 → S_789.1 0 1 = .int 0 → S_789.1 0 5 = .int 0 → S_789.1 0 8 = .int 0 → S_789.1 0 9 = .int (-1) → S_789.1 0 13 = .int x_11 → S_789.1 0 35 = .int x_12 → S_789.2.1 4 (x_12 : Int32).toNatClampNeg = 0 → S_789.2.1 5 (x_12 : Int32).toNatClampNeg = 3 → S_789.2.1 6 (x_12 : Int32).toNatClampNeg = 0 → S_789.2.1 8 (x_12 : Int32).toNatClampNeg = 0 → S_789.2.1 9 (x_12 : Int32).toNatClampNeg = 0 → S_789.2.1 12 (x_12 : Int32).toNatClampNeg = 0 → ZBM S_789 → ZSM S_789 → ZWM S_789 → ZKM S_789 → (NTM S_789 x_12 (x_788 : Int32).toInt) → ∀ (H : Heap) (locs : List Loc), va_P D vwCl (dg_w g shM o rfM S_789) H → va_S A s.heap H locs → ∀ ls : Array Slot, lv_has ls 2 [(1, .int x_788), (0, .ref (o + 0))] → W p l e ({ frames := 8, cells := 0, slots := 0, locals := 185 } : Room) s m args below meth c H locs 0 0 Q9 (F0 m 134 ls []) := by
      intro n
      induction n with
      | zero =>
        intro x_788 b_x_788 rel_0 hmu S_789 I_789 M_789 ff_789_2_0 ff_789_1_0 ff_789_5_0 ff_789_8_0 ff_789_9_0 ff_789_13_0 ff_789_35_0 frw_789_0 frw_789_1 frw_789_2 frw_789_3 frw_789_4 frw_789_5 ZB_789 ZS_789 ZW_789 ZK_789 srel_789_0 H locs hP hS ls hl
        omega
      | succ n ih =>
        intro x_788 b_x_788 rel_0 hmu S_789 I_789 M_789 ff_789_2_0 ff_789_1_0 ff_789_5_0 ff_789_8_0 ff_789_9_0 ff_789_13_0 ff_789_35_0 frw_789_0 frw_789_1 frw_789_2 frw_789_3 frw_789_4 frw_789_5 ZB_789 ZS_789 ZW_789 ZK_789 srel_789_0 H locs hP hS ls hl
        refine lv_iload_n hx hb dX12_mine_134 rfl (lv_at hl 0 rfl) ?_
        refine lv_iconst (v := 3) hx hb dX12_mine_135 (by decide +kernel) ?_
        refine lv_aload_n hx hb dX12_mine_136 rfl (lv_at hl 1 rfl) ?_
        refine dg_get (C := RX12) (T := TX12) (N := 77) hx hb hts (fun w h => bw_mem (wU_X12 w h)) hown K hP sM_0 rfl 35 (by decide) (hts _ (bw_mem wB_1195)) (fun _ h9 => h9) (v := .int x_12) ff_789_35_0 dX12_mine_137 ?_
        refine lv_imul hx hb dX12_mine_140 ?_
        refine lv_topi (fun x_791 ex_791 => ?_)
        have jx_791 : (x_791).toInt = 3 * (x_12).toInt := by rw [ex_791]; exact dk_mulT (by decide +kernel) rfl (by omega) (by omega)
        refine lv_iconst (v := 3) hx hb dX12_mine_141 (by decide +kernel) ?_
        refine lv_iadd hx hb dX12_mine_142 ?_
        refine lv_topi (fun x_792 ex_792 => ?_)
        have jx_792 : (x_792).toInt = (x_791).toInt + 3 := by rw [ex_792]; exact dk_addT rfl (by decide +kernel) (by omega) (by omega)
        refine lv_icmp_ge (tgt := 159) hx hb dX12_mine_143 (by decide) (fun c_793 => ?_) (fun c_793 => ?_)
        · have jc_793 := dk_gec (k := (x_792).toInt) rfl c_793
          exact J_453 x_788 (by omega) S_789 I_789 M_789 ff_789_2_0 ff_789_1_0 ff_789_5_0 ff_789_8_0 ff_789_9_0 ff_789_13_0 ff_789_35_0 frw_789_0 frw_789_1 frw_789_2 frw_789_3 frw_789_4 frw_789_5 ZB_789 ZS_789 ZW_789 ZK_789 (by have h9 := srel_789_0; rw [show (x_788 : Int32).toInt = 3 * (x_12).toInt + 3 from by omega] at h9; exact h9) _ _ hP hS _ (lv_sub hl [0, 1] rfl)
        · have jc_793 := dk_ngec (k := (x_792).toInt) rfl c_793
          refine lv_aload_n hx hb dX12_mine_146 rfl (lv_at hl 1 rfl) ?_
          refine dg_get (C := RX12) (T := TX12) (N := 77) hx hb hts (fun w h => bw_mem (wU_X12 w h)) hown K hP sM_0 rfl 28 (by decide) (hts _ (bw_mem wB_899)) (fun _ h9 => h9) (v := .ref (o + 16)) (show S_789.1 0 28 = .ref (o + 16) from dg_I.rel (d := 16) I_789 sM_0 (by decide +kernel)) dX12_mine_147 ?_
          refine lv_iload_n hx hb dX12_mine_150 rfl (lv_at hl 0 rfl) ?_
          refine lv_iconst (v := (-1)) hx hb dX12_mine_151 (by decide +kernel) ?_
          have hin_794 : vp_in x_788 6 := (dk_inv (by omega) (by omega))
          have hz_796 : (-1 : Int32).toInt = (-1) := by decide +kernel
          refine dg_iast hx hb K hP hS hA1 sM_16 hin_794 dX12_mine_152 (fun S_795 e_795 H locs hP hS => ?_)
          have I_795 := dg_I.ufu (lo := (-1)) (hi := 1600) I_789 e_795 sM_16 (by decide +kernel) (show (-1) ≤ ((-1 : Int32)).toInt ∧ ((-1 : Int32)).toInt ≤ 1600 from (by decide +kernel))
          have M_795 := dg_sm.uf M_789 e_795 sM_16 (by decide)
          have ZW_795 : ZWM S_795 := ZWM.up1 (r := 16) ZW_789 (by decide) ff_789_13_0 (by omega) e_795 (by omega)
          obtain ⟨x_797, ex_797⟩ : ∃ z, z = x_788 + 1 := ⟨_, rfl⟩
          have jx_797 : (x_797).toInt = (x_788).toInt + 1 := by rw [ex_797]; exact dk_addT rfl (by decide +kernel) (by omega) (by omega)
          refine lv_iinc (v := x_797) (lv' := [(1, .int x_797), (0, .ref (o + 0))]) hx hb dX12_mine_153 hl (k := 0) rfl (by rw [ex_797]; rfl) (by decide) rfl (fun ls hl => ?_)
          refine lv_goto (tgt := 134) hx hb dX12_mine_156 (by decide) ?_
          exact ih x_797 (by omega) (by omega) (by omega) S_795 I_795 M_795 ((dg_uf_F e_795 0 2).trans ff_789_2_0) ((dg_uf_F e_795 0 1).trans ff_789_1_0) ((dg_uf_F e_795 0 5).trans ff_789_5_0) ((dg_uf_F e_795 0 8).trans ff_789_8_0) ((dg_uf_F e_795 0 9).trans ff_789_9_0) ((dg_uf_F e_795 0 13).trans ff_789_13_0) ((dg_uf_F e_795 0 35).trans ff_789_35_0) ((congrFun (dg_uf_ne e_795 (by decide)) _).trans frw_789_0) ((congrFun (dg_uf_ne e_795 (by decide)) _).trans frw_789_1) ((congrFun (dg_uf_ne e_795 (by decide)) _).trans frw_789_2) ((congrFun (dg_uf_ne e_795 (by decide)) _).trans frw_789_3) ((congrFun (dg_uf_ne e_795 (by decide)) _).trans frw_789_4) ((congrFun (dg_uf_ne e_795 (by decide)) _).trans frw_789_5) (ZBM.keep ZB_789 (dg_sm.uf (WF := []) (WA := [16]) dg_sm.rf e_795 sM_16 (by decide)) (by decide) (by decide) (by decide) (by decide) (by decide)) (ZSM.keep ZS_789 (dg_sm.uf (WF := []) (WA := [16]) dg_sm.rf e_795 sM_16 (by decide)) (by decide)) ZW_795 (ZKM.keep ZK_789 (dg_sm.uf (WF := []) (WA := [16]) dg_sm.rf e_795 sM_16 (by decide)) (by decide) (by decide)) (NTM.step srel_789_0 (by omega) (by omega) e_795 (by omega) (by omega)) _ _ hP hS _ (lv_sub hl [0, 1] rfl)
    exact L_790 ((7 - ((x_255 : Int32)).toInt).toNat + 1) x_255 (by omega) (by omega) (by omega) S_253 I_253 M_253 ff_253_2_0 ff_253_1_0 ff_253_5_0 ff_253_8_0 ff_253_9_0 ff_253_13_0 ff_253_35_0 frw_253_0 frw_253_1 frw_253_2 frw_253_3 frw_253_4 frw_253_5 ZB_253 ZS_253 ZW_253 ZK_253 (fun w h1 h2 => absurd h2 (by omega)) _ _ hP hS _ (lv_sub hl [0, 1] rfl)
  have L_813 : ∀ (n : Nat) (x_811 : Int32), (0 ≤ (x_811).toInt ∧ (x_811).toInt ≤ 64) → ((65 - (x_811).toInt).toNat < n) → ∀ S_812 : dg_S, CM o S_812 → dg_sm shM [(0, 1), (0, 2), (0, 3), (0, 4), (0, 5), (0, 6), (0, 7), (0, 8), (0, 9), (0, 10), (0, 11), (0, 12), (0, 13), (0, 34), (0, 35), (0, 36), (0, 42), (0, 43), (0, 45), (0, 46), (0, 47), (0, 61), (0, 63), (0, 69)] [2, 3, 4, 5, 6, 7, 8, 9, 10, 11, 12, 13, 14, 15, 16, 17, 18, 19, 20, 21, 22, 23, 24, 25, 26, 27, 28, 29, 30, 31, 32, 33, 34, 35, 36, 37, 38] S S_812 → S_812.1 0 2 = .int x_1 → S_812.1 0 1 = .int 0 → S_812.1 0 5 = .int 0 → S_812.1 0 8 = .int 0 → S_812.1 0 9 = .int (-1) → S_812.1 0 13 = .int x_11 → S_812.1 0 35 = .int x_12 → S_812.2.1 4 (x_12 : Int32).toNatClampNeg = 0 → S_812.2.1 5 (x_12 : Int32).toNatClampNeg = 3 → S_812.2.1 6 (x_12 : Int32).toNatClampNeg = 0 → S_812.2.1 8 (x_12 : Int32).toNatClampNeg = 0 → S_812.2.1 9 (x_12 : Int32).toNatClampNeg = 0 → S_812.2.1 12 (x_12 : Int32).toNatClampNeg = 0 → ZBM S_812 → ZSM S_812 → ZWM S_812 → ZKM S_812 → ∀ (H : Heap) (locs : List Loc), va_P D vwCl (dg_w g shM o rfM S_812) H → va_S A s.heap H locs → ∀ ls : Array Slot, lv_has ls 2 [(1, .int x_811), (0, .ref (o + 0))] → W p l e ({ frames := 8, cells := 0, slots := 0, locals := 185 } : Room) s m args below meth c H locs 0 0 Q9 (F0 m 100 ls []) := by
    intro n
    induction n with
    | zero =>
      intro x_811 b_x_811 hmu S_812 I_812 M_812 ff_812_2_0 ff_812_1_0 ff_812_5_0 ff_812_8_0 ff_812_9_0 ff_812_13_0 ff_812_35_0 frw_812_0 frw_812_1 frw_812_2 frw_812_3 frw_812_4 frw_812_5 ZB_812 ZS_812 ZW_812 ZK_812 H locs hP hS ls hl
      omega
    | succ n ih =>
      intro x_811 b_x_811 hmu S_812 I_812 M_812 ff_812_2_0 ff_812_1_0 ff_812_5_0 ff_812_8_0 ff_812_9_0 ff_812_13_0 ff_812_35_0 frw_812_0 frw_812_1 frw_812_2 frw_812_3 frw_812_4 frw_812_5 ZB_812 ZS_812 ZW_812 ZK_812 H locs hP hS ls hl
      refine lv_iload_n hx hb dX12_mine_100 rfl (lv_at hl 0 rfl) ?_
      refine lv_bipush (v := 64) hx hb dX12_mine_101 (by decide +kernel) ?_
      refine lv_icmp_ge (tgt := 127) hx hb dX12_mine_103 (by decide) (fun c_814 => ?_) (fun c_814 => ?_)
      · have jc_814 := dk_gec (k := 64) (by decide +kernel) c_814
        exact J_254 x_811 (by omega) S_812 I_812 M_812 ff_812_2_0 ff_812_1_0 ff_812_5_0 ff_812_8_0 ff_812_9_0 ff_812_13_0 ff_812_35_0 frw_812_0 frw_812_1 frw_812_2 frw_812_3 frw_812_4 frw_812_5 ZB_812 ZS_812 ZW_812 ZK_812 _ _ hP hS _ (lv_sub hl [0, 1] rfl)
      · have jc_814 := dk_ngec (k := 64) (by decide +kernel) c_814
        refine lv_aload_n hx hb dX12_mine_106 rfl (lv_at hl 1 rfl) ?_
        refine dg_get (C := RX12) (T := TX12) (N := 77) hx hb hts (fun w h => bw_mem (wU_X12 w h)) hown K hP sM_0 rfl 19 (by decide) (hts _ (bw_mem wB_1009)) (fun _ h9 => h9) (v := .ref (o + 7)) (show S_812.1 0 19 = .ref (o + 7) from dg_I.rel (d := 7) I_812 sM_0 (by decide +kernel)) dX12_mine_107 ?_
        refine lv_bipush (v := 64) hx hb dX12_mine_110 (by decide +kernel) ?_
        refine lv_aload_n hx hb dX12_mine_112 rfl (lv_at hl 1 rfl) ?_
        refine dg_get (C := RX12) (T := TX12) (N := 77) hx hb hts (fun w h => bw_mem (wU_X12 w h)) hown K hP sM_0 rfl 35 (by decide) (hts _ (bw_mem wB_1195)) (fun _ h9 => h9) (v := .int x_12) ff_812_35_0 dX12_mine_113 ?_
        refine lv_imul hx hb dX12_mine_116 ?_
        refine lv_topi (fun x_815 ex_815 => ?_)
        have jx_815 : (x_815).toInt = 64 * (x_12).toInt := by rw [ex_815]; exact dk_mulT (by decide +kernel) rfl (by omega) (by omega)
        refine lv_iload_n hx hb dX12_mine_117 rfl (lv_at hl 0 rfl) ?_
        refine lv_iadd hx hb dX12_mine_118 ?_
        refine lv_topi (fun x_816 ex_816 => ?_)
        have jx_816 : (x_816).toInt = (x_815).toInt + (x_811).toInt := by rw [ex_816]; exact dk_addT rfl rfl (by omega) (by omega)
        refine lv_iconst (v := 5) hx hb dX12_mine_119 (by decide +kernel) ?_
        have hin_817 : vp_in x_816 128 := (dk_inv (by omega) (by omega))
        have hz_819 : (5 : Int32).toInt = 5 := by decide +kernel
        refine dg_iast hx hb K hP hS hA1 sM_7 hin_817 dX12_mine_120 (fun S_818 e_818 H locs hP hS => ?_)
        have I_818 := dg_I.ufu (lo := 0) (hi := 9) I_812 e_818 sM_7 (by decide +kernel) (show 0 ≤ ((5 : Int32)).toInt ∧ ((5 : Int32)).toInt ≤ 9 from (by decide +kernel))
        have M_818 := dg_sm.uf M_812 e_818 sM_7 (by decide)
        obtain ⟨x_820, ex_820⟩ : ∃ z, z = x_811 + 1 := ⟨_, rfl⟩
        have jx_820 : (x_820).toInt = (x_811).toInt + 1 := by rw [ex_820]; exact dk_addT rfl (by decide +kernel) (by omega) (by omega)
        refine lv_iinc (v := x_820) (lv' := [(1, .int x_820), (0, .ref (o + 0))]) hx hb dX12_mine_121 hl (k := 0) rfl (by rw [ex_820]; rfl) (by decide) rfl (fun ls hl => ?_)
        refine lv_goto (tgt := 100) hx hb dX12_mine_124 (by decide) ?_
        exact ih x_820 (by omega) (by omega) S_818 I_818 M_818 ((dg_uf_F e_818 0 2).trans ff_812_2_0) ((dg_uf_F e_818 0 1).trans ff_812_1_0) ((dg_uf_F e_818 0 5).trans ff_812_5_0) ((dg_uf_F e_818 0 8).trans ff_812_8_0) ((dg_uf_F e_818 0 9).trans ff_812_9_0) ((dg_uf_F e_818 0 13).trans ff_812_13_0) ((dg_uf_F e_818 0 35).trans ff_812_35_0) ((congrFun (dg_uf_ne e_818 (by decide)) _).trans frw_812_0) ((congrFun (dg_uf_ne e_818 (by decide)) _).trans frw_812_1) ((congrFun (dg_uf_ne e_818 (by decide)) _).trans frw_812_2) ((congrFun (dg_uf_ne e_818 (by decide)) _).trans frw_812_3) ((congrFun (dg_uf_ne e_818 (by decide)) _).trans frw_812_4) ((congrFun (dg_uf_ne e_818 (by decide)) _).trans frw_812_5) (ZBM.keep ZB_812 (dg_sm.uf (WF := []) (WA := [7]) dg_sm.rf e_818 sM_7 (by decide)) (by decide) (by decide) (by decide) (by decide) (by decide)) (ZSM.keep ZS_812 (dg_sm.uf (WF := []) (WA := [7]) dg_sm.rf e_818 sM_7 (by decide)) (by decide)) (ZWM.keep ZW_812 (dg_sm.uf (WF := []) (WA := [7]) dg_sm.rf e_818 sM_7 (by decide)) (by decide) (by decide) (by decide) (by decide)) (ZKM.keep ZK_812 (dg_sm.uf (WF := []) (WA := [7]) dg_sm.rf e_818 sM_7 (by decide)) (by decide) (by decide)) _ _ hP hS _ (lv_sub hl [0, 1] rfl)
  have hz_821 : (0 : Int32).toInt = 0 := by decide +kernel
  have hz_822 : (0 : Int32).toInt = 0 := by decide +kernel
  exact L_813 ((65 - ((0 : Int32)).toInt).toNat + 1) 0 (by decide +kernel) (by omega) S_30 I_30 M_30 (((dg_uf_F e_30 0 2).trans ((dg_uf_F e_27 0 2).trans ((dg_uf_F e_24 0 2).trans ((dg_uf_F e_21 0 2).trans ((dg_uf_F e_18 0 2).trans ((dg_uf_F e_15 0 2).trans ((dg_uF_ne e_13 (fun z => absurd z.2 (by decide))).trans ((dg_uF_ne e_10 (fun z => absurd z.2 (by decide))).trans ((dg_uF_ne e_8 (fun z => absurd z.2 (by decide))).trans ((dg_uF_ne e_6 (fun z => absurd z.2 (by decide))).trans (dg_uF_ne e_4 (fun z => absurd z.2 (by decide))))))))))))).trans (dg_uF_at e_2)) (((dg_uf_F e_30 0 1).trans ((dg_uf_F e_27 0 1).trans ((dg_uf_F e_24 0 1).trans ((dg_uf_F e_21 0 1).trans ((dg_uf_F e_18 0 1).trans ((dg_uf_F e_15 0 1).trans ((dg_uF_ne e_13 (fun z => absurd z.2 (by decide))).trans ((dg_uF_ne e_10 (fun z => absurd z.2 (by decide))).trans ((dg_uF_ne e_8 (fun z => absurd z.2 (by decide))).trans (dg_uF_ne e_6 (fun z => absurd z.2 (by decide)))))))))))).trans (dg_uF_at e_4)) (((dg_uf_F e_30 0 5).trans ((dg_uf_F e_27 0 5).trans ((dg_uf_F e_24 0 5).trans ((dg_uf_F e_21 0 5).trans ((dg_uf_F e_18 0 5).trans ((dg_uf_F e_15 0 5).trans ((dg_uF_ne e_13 (fun z => absurd z.2 (by decide))).trans ((dg_uF_ne e_10 (fun z => absurd z.2 (by decide))).trans (dg_uF_ne e_8 (fun z => absurd z.2 (by decide))))))))))).trans (dg_uF_at e_6)) (((dg_uf_F e_30 0 8).trans ((dg_uf_F e_27 0 8).trans ((dg_uf_F e_24 0 8).trans ((dg_uf_F e_21 0 8).trans ((dg_uf_F e_18 0 8).trans ((dg_uf_F e_15 0 8).trans ((dg_uF_ne e_13 (fun z => absurd z.2 (by decide))).trans (dg_uF_ne e_10 (fun z => absurd z.2 (by decide)))))))))).trans (dg_uF_at e_8)) (((dg_uf_F e_30 0 9).trans ((dg_uf_F e_27 0 9).trans ((dg_uf_F e_24 0 9).trans ((dg_uf_F e_21 0 9).trans ((dg_uf_F e_18 0 9).trans ((dg_uf_F e_15 0 9).trans (dg_uF_ne e_13 (fun z => absurd z.2 (by decide))))))))).trans (dg_uF_at e_10)) (((dg_uf_F e_30 0 13).trans ((dg_uf_F e_27 0 13).trans ((dg_uf_F e_24 0 13).trans ((dg_uf_F e_21 0 13).trans ((dg_uf_F e_18 0 13).trans ((dg_uf_F e_15 0 13).trans (dg_uF_ne e_13 (fun z => absurd z.2 (by decide))))))))).trans f_x_11) (((dg_uf_F e_30 0 35).trans ((dg_uf_F e_27 0 35).trans ((dg_uf_F e_24 0 35).trans ((dg_uf_F e_21 0 35).trans ((dg_uf_F e_18 0 35).trans (dg_uf_F e_15 0 35)))))).trans (dg_uF_at e_13)) ((congrFun ((dg_uf_ne e_30 (by decide)).trans ((dg_uf_ne e_27 (by decide)).trans ((dg_uf_ne e_24 (by decide)).trans ((dg_uf_ne e_21 (by decide)).trans (dg_uf_ne e_18 (by decide)))))) _).trans ((congrFun (dg_uf_at e_15) _).trans (dg_upd_at rfl))) ((congrFun ((dg_uf_ne e_30 (by decide)).trans ((dg_uf_ne e_27 (by decide)).trans ((dg_uf_ne e_24 (by decide)).trans (dg_uf_ne e_21 (by decide))))) _).trans ((congrFun (dg_uf_at e_18) _).trans (dg_upd_at rfl))) ((congrFun ((dg_uf_ne e_30 (by decide)).trans ((dg_uf_ne e_27 (by decide)).trans (dg_uf_ne e_24 (by decide)))) _).trans ((congrFun (dg_uf_at e_21) _).trans (dg_upd_at rfl))) ((congrFun ((dg_uf_ne e_30 (by decide)).trans (dg_uf_ne e_27 (by decide))) _).trans ((congrFun (dg_uf_at e_24) _).trans (dg_upd_at rfl))) ((congrFun (dg_uf_ne e_30 (by decide)) _).trans ((congrFun (dg_uf_at e_27) _).trans (dg_upd_at rfl))) ((congrFun (dg_uf_at e_30) _).trans (dg_upd_at rfl)) (ZBM.keep (ZBM.keep (ZBM.keep (ZBM.keep (ZBM.keep ZB_15 (dg_sm.uf (WF := []) (WA := [5]) dg_sm.rf e_18 sM_5 (by decide)) (by decide) (by decide) (by decide) (by decide) (by decide)) (dg_sm.uf (WF := []) (WA := [6]) dg_sm.rf e_21 sM_6 (by decide)) (by decide) (by decide) (by decide) (by decide) (by decide)) (dg_sm.uf (WF := []) (WA := [8]) dg_sm.rf e_24 sM_8 (by decide)) (by decide) (by decide) (by decide) (by decide) (by decide)) (dg_sm.uf (WF := []) (WA := [9]) dg_sm.rf e_27 sM_9 (by decide)) (by decide) (by decide) (by decide) (by decide) (by decide)) (dg_sm.uf (WF := []) (WA := [12]) dg_sm.rf e_30 sM_12 (by decide)) (by decide) (by decide) (by decide) (by decide) (by decide)) (ZSM.keep (ZSM.keep (ZSM.keep (ZSM.keep (ZSM.keep (ZSM.keep (ZSM.keep (ZSM.keep (ZSM.keep (ZSM.keep (ZSM.keep (ZSM.keep ZS (dg_sm.uF (WF := [(0, 2)]) (WA := []) dg_sm.rf e_2 sM_0 (by decide)) (by decide)) (dg_sm.uF (WF := [(0, 1)]) (WA := []) dg_sm.rf e_4 sM_0 (by decide)) (by decide)) (dg_sm.uF (WF := [(0, 5)]) (WA := []) dg_sm.rf e_6 sM_0 (by decide)) (by decide)) (dg_sm.uF (WF := [(0, 8)]) (WA := []) dg_sm.rf e_8 sM_0 (by decide)) (by decide)) (dg_sm.uF (WF := [(0, 9)]) (WA := []) dg_sm.rf e_10 sM_0 (by decide)) (by decide)) (dg_sm.uF (WF := [(0, 35)]) (WA := []) dg_sm.rf e_13 sM_0 (by decide)) (by decide)) (dg_sm.uf (WF := []) (WA := [4]) dg_sm.rf e_15 sM_4 (by decide)) (by decide)) (dg_sm.uf (WF := []) (WA := [5]) dg_sm.rf e_18 sM_5 (by decide)) (by decide)) (dg_sm.uf (WF := []) (WA := [6]) dg_sm.rf e_21 sM_6 (by decide)) (by decide)) (dg_sm.uf (WF := []) (WA := [8]) dg_sm.rf e_24 sM_8 (by decide)) (by decide)) (dg_sm.uf (WF := []) (WA := [9]) dg_sm.rf e_27 sM_9 (by decide)) (by decide)) (dg_sm.uf (WF := []) (WA := [12]) dg_sm.rf e_30 sM_12 (by decide)) (by decide)) (ZWM.keep (ZWM.keep (ZWM.keep (ZWM.keep (ZWM.keep (ZWM.keep (ZWM.keep (ZWM.keep (ZWM.keep (ZWM.keep (ZWM.keep (ZWM.keep ZW (dg_sm.uF (WF := [(0, 2)]) (WA := []) dg_sm.rf e_2 sM_0 (by decide)) (by decide) (by decide) (by decide) (by decide)) (dg_sm.uF (WF := [(0, 1)]) (WA := []) dg_sm.rf e_4 sM_0 (by decide)) (by decide) (by decide) (by decide) (by decide)) (dg_sm.uF (WF := [(0, 5)]) (WA := []) dg_sm.rf e_6 sM_0 (by decide)) (by decide) (by decide) (by decide) (by decide)) (dg_sm.uF (WF := [(0, 8)]) (WA := []) dg_sm.rf e_8 sM_0 (by decide)) (by decide) (by decide) (by decide) (by decide)) (dg_sm.uF (WF := [(0, 9)]) (WA := []) dg_sm.rf e_10 sM_0 (by decide)) (by decide) (by decide) (by decide) (by decide)) (dg_sm.uF (WF := [(0, 35)]) (WA := []) dg_sm.rf e_13 sM_0 (by decide)) (by decide) (by decide) (by decide) (by decide)) (dg_sm.uf (WF := []) (WA := [4]) dg_sm.rf e_15 sM_4 (by decide)) (by decide) (by decide) (by decide) (by decide)) (dg_sm.uf (WF := []) (WA := [5]) dg_sm.rf e_18 sM_5 (by decide)) (by decide) (by decide) (by decide) (by decide)) (dg_sm.uf (WF := []) (WA := [6]) dg_sm.rf e_21 sM_6 (by decide)) (by decide) (by decide) (by decide) (by decide)) (dg_sm.uf (WF := []) (WA := [8]) dg_sm.rf e_24 sM_8 (by decide)) (by decide) (by decide) (by decide) (by decide)) (dg_sm.uf (WF := []) (WA := [9]) dg_sm.rf e_27 sM_9 (by decide)) (by decide) (by decide) (by decide) (by decide)) (dg_sm.uf (WF := []) (WA := [12]) dg_sm.rf e_30 sM_12 (by decide)) (by decide) (by decide) (by decide) (by decide)) (ZKM.keep (ZKM.keep (ZKM.keep (ZKM.keep (ZKM.keep (ZKM.keep ZK_13 (dg_sm.uf (WF := []) (WA := [4]) dg_sm.rf e_15 sM_4 (by decide)) (by decide) (by decide)) (dg_sm.uf (WF := []) (WA := [5]) dg_sm.rf e_18 sM_5 (by decide)) (by decide) (by decide)) (dg_sm.uf (WF := []) (WA := [6]) dg_sm.rf e_21 sM_6 (by decide)) (by decide) (by decide)) (dg_sm.uf (WF := []) (WA := [8]) dg_sm.rf e_24 sM_8 (by decide)) (by decide) (by decide)) (dg_sm.uf (WF := []) (WA := [9]) dg_sm.rf e_27 sM_9 (by decide)) (by decide) (by decide)) (dg_sm.uf (WF := []) (WA := [12]) dg_sm.rf e_30 sM_12 (by decide)) (by decide) (by decide)) _ _ hP hS _ (lv_sub hl [0, 1] rfl)
