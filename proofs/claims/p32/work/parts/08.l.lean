/-! 26.read3.lean.txt -/
theorem dX6_readStatement_0 : decode cX6_readStatement 0 = .ok (.iload_n 1, 1) := by decide +kernel
theorem dX6_readStatement_1 : decode cX6_readStatement 1 = .ok (.bipush 80, 2) := by decide +kernel
theorem dX6_readStatement_3 : decode cX6_readStatement 3 = .ok (.if_icmp .ne 10, 3) := by decide +kernel
theorem dX6_readStatement_6 : decode cX6_readStatement 6 = .ok (.aload_n 0, 1) := by decide +kernel
theorem dX6_readStatement_7 : decode cX6_readStatement 7 = .ok (.bipush 6, 2) := by decide +kernel
theorem dX6_readStatement_9 : decode cX6_readStatement 9 = .ok (.invokevirtual 55, 3) := by decide +kernel
theorem dX6_readStatement_12 : decode cX6_readStatement 12 = .ok (.ireturn, 1) := by decide +kernel
theorem dX6_readStatement_13 : decode cX6_readStatement 13 = .ok (.aload_n 0, 1) := by decide +kernel
theorem dX6_readStatement_14 : decode cX6_readStatement 14 = .ok (.getfield 18, 3) := by decide +kernel
theorem dX6_readStatement_17 : decode cX6_readStatement 17 = .ok (.getfield 44, 3) := by decide +kernel
theorem dX6_readStatement_20 : decode cX6_readStatement 20 = .ok (.aload_n 0, 1) := by decide +kernel
theorem dX6_readStatement_21 : decode cX6_readStatement 21 = .ok (.getfield 34, 3) := by decide +kernel
theorem dX6_readStatement_24 : decode cX6_readStatement 24 = .ok (.iaload, 1) := by decide +kernel
theorem dX6_readStatement_25 : decode cX6_readStatement 25 = .ok (.iconst 1, 1) := by decide +kernel
theorem dX6_readStatement_26 : decode cX6_readStatement 26 = .ok (.if_icmp .ne 20, 3) := by decide +kernel
theorem dX6_readStatement_29 : decode cX6_readStatement 29 = .ok (.aload_n 0, 1) := by decide +kernel
theorem dX6_readStatement_30 : decode cX6_readStatement 30 = .ok (.iconst 0, 1) := by decide +kernel
theorem dX6_readStatement_31 : decode cX6_readStatement 31 = .ok (.invokevirtual 58, 3) := by decide +kernel
theorem dX6_readStatement_34 : decode cX6_readStatement 34 = .ok (.iload_n 1, 1) := by decide +kernel
theorem dX6_readStatement_35 : decode cX6_readStatement 35 = .ok (.ifCond .ne 7, 3) := by decide +kernel
theorem dX6_readStatement_38 : decode cX6_readStatement 38 = .ok (.iconst 1, 1) := by decide +kernel
theorem dX6_readStatement_39 : decode cX6_readStatement 39 = .ok (.goto 4, 3) := by decide +kernel
theorem dX6_readStatement_42 : decode cX6_readStatement 42 = .ok (.iconst 0, 1) := by decide +kernel
theorem dX6_readStatement_43 : decode cX6_readStatement 43 = .ok (.if_icmp .eq 9, 3) := by decide +kernel
theorem dX6_readStatement_46 : decode cX6_readStatement 46 = .ok (.aload_n 0, 1) := by decide +kernel
theorem dX6_readStatement_47 : decode cX6_readStatement 47 = .ok (.iconst 1, 1) := by decide +kernel
theorem dX6_readStatement_48 : decode cX6_readStatement 48 = .ok (.invokevirtual 55, 3) := by decide +kernel
theorem dX6_readStatement_51 : decode cX6_readStatement 51 = .ok (.ireturn, 1) := by decide +kernel
theorem dX6_readStatement_52 : decode cX6_readStatement 52 = .ok (.aload_n 0, 1) := by decide +kernel
theorem dX6_readStatement_53 : decode cX6_readStatement 53 = .ok (.getfield 18, 3) := by decide +kernel
theorem dX6_readStatement_56 : decode cX6_readStatement 56 = .ok (.getfield 61, 3) := by decide +kernel
theorem dX6_readStatement_59 : decode cX6_readStatement 59 = .ok (.aload_n 0, 1) := by decide +kernel
theorem dX6_readStatement_60 : decode cX6_readStatement 60 = .ok (.getfield 34, 3) := by decide +kernel
theorem dX6_readStatement_63 : decode cX6_readStatement 63 = .ok (.iaload, 1) := by decide +kernel
theorem dX6_readStatement_64 : decode cX6_readStatement 64 = .ok (.tableswitch 134 0 14 #[76, 134, 81, 86, 91, 96, 101, 106, 134, 111, 134, 134, 116, 122, 128], 76) := by decide +kernel
theorem dX6_readStatement_140 : decode cX6_readStatement 140 = .ok (.aload_n 0, 1) := by decide +kernel
theorem dX6_readStatement_141 : decode cX6_readStatement 141 = .ok (.invokevirtual 64, 3) := by decide +kernel
theorem dX6_readStatement_144 : decode cX6_readStatement 144 = .ok (.ireturn, 1) := by decide +kernel
theorem dX6_readStatement_145 : decode cX6_readStatement 145 = .ok (.aload_n 0, 1) := by decide +kernel
theorem dX6_readStatement_146 : decode cX6_readStatement 146 = .ok (.invokevirtual 68, 3) := by decide +kernel
theorem dX6_readStatement_149 : decode cX6_readStatement 149 = .ok (.ireturn, 1) := by decide +kernel
theorem dX6_readStatement_150 : decode cX6_readStatement 150 = .ok (.aload_n 0, 1) := by decide +kernel
theorem dX6_readStatement_151 : decode cX6_readStatement 151 = .ok (.invokevirtual 71, 3) := by decide +kernel
theorem dX6_readStatement_154 : decode cX6_readStatement 154 = .ok (.ireturn, 1) := by decide +kernel
theorem dX6_readStatement_155 : decode cX6_readStatement 155 = .ok (.aload_n 0, 1) := by decide +kernel
theorem dX6_readStatement_156 : decode cX6_readStatement 156 = .ok (.invokevirtual 74, 3) := by decide +kernel
theorem dX6_readStatement_159 : decode cX6_readStatement 159 = .ok (.ireturn, 1) := by decide +kernel
theorem dX6_readStatement_160 : decode cX6_readStatement 160 = .ok (.aload_n 0, 1) := by decide +kernel
theorem dX6_readStatement_161 : decode cX6_readStatement 161 = .ok (.invokevirtual 77, 3) := by decide +kernel
theorem dX6_readStatement_164 : decode cX6_readStatement 164 = .ok (.ireturn, 1) := by decide +kernel
theorem dX6_readStatement_165 : decode cX6_readStatement 165 = .ok (.aload_n 0, 1) := by decide +kernel
theorem dX6_readStatement_166 : decode cX6_readStatement 166 = .ok (.invokevirtual 80, 3) := by decide +kernel
theorem dX6_readStatement_169 : decode cX6_readStatement 169 = .ok (.ireturn, 1) := by decide +kernel
theorem dX6_readStatement_170 : decode cX6_readStatement 170 = .ok (.aload_n 0, 1) := by decide +kernel
theorem dX6_readStatement_171 : decode cX6_readStatement 171 = .ok (.invokevirtual 83, 3) := by decide +kernel
theorem dX6_readStatement_174 : decode cX6_readStatement 174 = .ok (.ireturn, 1) := by decide +kernel
theorem dX6_readStatement_175 : decode cX6_readStatement 175 = .ok (.aload_n 0, 1) := by decide +kernel
theorem dX6_readStatement_176 : decode cX6_readStatement 176 = .ok (.invokevirtual 86, 3) := by decide +kernel
theorem dX6_readStatement_179 : decode cX6_readStatement 179 = .ok (.ireturn, 1) := by decide +kernel
theorem dX6_readStatement_180 : decode cX6_readStatement 180 = .ok (.aload_n 0, 1) := by decide +kernel
theorem dX6_readStatement_181 : decode cX6_readStatement 181 = .ok (.iconst 0, 1) := by decide +kernel
theorem dX6_readStatement_182 : decode cX6_readStatement 182 = .ok (.invokevirtual 89, 3) := by decide +kernel
theorem dX6_readStatement_185 : decode cX6_readStatement 185 = .ok (.ireturn, 1) := by decide +kernel
theorem dX6_readStatement_186 : decode cX6_readStatement 186 = .ok (.aload_n 0, 1) := by decide +kernel
theorem dX6_readStatement_187 : decode cX6_readStatement 187 = .ok (.iconst 1, 1) := by decide +kernel
theorem dX6_readStatement_188 : decode cX6_readStatement 188 = .ok (.invokevirtual 89, 3) := by decide +kernel
theorem dX6_readStatement_191 : decode cX6_readStatement 191 = .ok (.ireturn, 1) := by decide +kernel
theorem dX6_readStatement_192 : decode cX6_readStatement 192 = .ok (.aload_n 0, 1) := by decide +kernel
theorem dX6_readStatement_193 : decode cX6_readStatement 193 = .ok (.iconst 2, 1) := by decide +kernel
theorem dX6_readStatement_194 : decode cX6_readStatement 194 = .ok (.invokevirtual 89, 3) := by decide +kernel
theorem dX6_readStatement_197 : decode cX6_readStatement 197 = .ok (.ireturn, 1) := by decide +kernel
theorem dX6_readStatement_198 : decode cX6_readStatement 198 = .ok (.aload_n 0, 1) := by decide +kernel
theorem dX6_readStatement_199 : decode cX6_readStatement 199 = .ok (.iconst 1, 1) := by decide +kernel
theorem dX6_readStatement_200 : decode cX6_readStatement 200 = .ok (.invokevirtual 55, 3) := by decide +kernel
theorem dX6_readStatement_203 : decode cX6_readStatement 203 = .ok (.ireturn, 1) := by decide +kernel
theorem dX6_readRule_0 : decode cX6_readRule 0 = .ok (.aload_n 0, 1) := by decide +kernel
theorem dX6_readRule_1 : decode cX6_readRule 1 = .ok (.getfield 22, 3) := by decide +kernel
theorem dX6_readRule_4 : decode cX6_readRule 4 = .ok (.iload_n 1, 1) := by decide +kernel
theorem dX6_readRule_5 : decode cX6_readRule 5 = .ok (.invokevirtual 167, 3) := by decide +kernel
theorem dX6_readRule_8 : decode cX6_readRule 8 = .ok (.ifCond .eq 10, 3) := by decide +kernel
theorem dX6_readRule_11 : decode cX6_readRule 11 = .ok (.aload_n 0, 1) := by decide +kernel
theorem dX6_readRule_12 : decode cX6_readRule 12 = .ok (.bipush 6, 2) := by decide +kernel
theorem dX6_readRule_14 : decode cX6_readRule 14 = .ok (.invokevirtual 55, 3) := by decide +kernel
theorem dX6_readRule_17 : decode cX6_readRule 17 = .ok (.ireturn, 1) := by decide +kernel
theorem dX6_readRule_18 : decode cX6_readRule 18 = .ok (.aload_n 0, 1) := by decide +kernel
theorem dX6_readRule_19 : decode cX6_readRule 19 = .ok (.invokevirtual 92, 3) := by decide +kernel
theorem dX6_readRule_22 : decode cX6_readRule 22 = .ok (.aload_n 0, 1) := by decide +kernel
theorem dX6_readRule_23 : decode cX6_readRule 23 = .ok (.iload_n 1, 1) := by decide +kernel
theorem dX6_readRule_24 : decode cX6_readRule 24 = .ok (.putfield 170, 3) := by decide +kernel
theorem dX6_readRule_27 : decode cX6_readRule 27 = .ok (.aload_n 0, 1) := by decide +kernel
theorem dX6_readRule_28 : decode cX6_readRule 28 = .ok (.getfield 22, 3) := by decide +kernel
theorem dX6_readRule_31 : decode cX6_readRule 31 = .ok (.getfield 173, 3) := by decide +kernel
theorem dX6_readRule_34 : decode cX6_readRule 34 = .ok (.aload_n 0, 1) := by decide +kernel
theorem dX6_readRule_35 : decode cX6_readRule 35 = .ok (.getfield 170, 3) := by decide +kernel
theorem dX6_readRule_38 : decode cX6_readRule 38 = .ok (.aload_n 0, 1) := by decide +kernel
theorem dX6_readRule_39 : decode cX6_readRule 39 = .ok (.getfield 37, 3) := by decide +kernel
theorem dX6_readRule_42 : decode cX6_readRule 42 = .ok (.iastore, 1) := by decide +kernel
theorem dX6_readRule_43 : decode cX6_readRule 43 = .ok (.aload_n 0, 1) := by decide +kernel
theorem dX6_readRule_44 : decode cX6_readRule 44 = .ok (.getfield 170, 3) := by decide +kernel
theorem dX6_readRule_47 : decode cX6_readRule 47 = .ok (.iconst 1, 1) := by decide +kernel
theorem dX6_readRule_48 : decode cX6_readRule 48 = .ok (.if_icmp .ne 11, 3) := by decide +kernel
theorem dX6_readRule_51 : decode cX6_readRule 51 = .ok (.aload_n 0, 1) := by decide +kernel
theorem dX6_readRule_52 : decode cX6_readRule 52 = .ok (.iconst 0, 1) := by decide +kernel
theorem dX6_readRule_53 : decode cX6_readRule 53 = .ok (.invokevirtual 176, 3) := by decide +kernel
theorem dX6_readRule_56 : decode cX6_readRule 56 = .ok (.goto 8, 3) := by decide +kernel
theorem dX6_readRule_59 : decode cX6_readRule 59 = .ok (.aload_n 0, 1) := by decide +kernel
theorem dX6_readRule_60 : decode cX6_readRule 60 = .ok (.iconst 0, 1) := by decide +kernel
theorem dX6_readRule_61 : decode cX6_readRule 61 = .ok (.invokevirtual 179, 3) := by decide +kernel
theorem dX6_readRule_64 : decode cX6_readRule 64 = .ok (.istore_n 2, 1) := by decide +kernel
theorem dX6_readRule_65 : decode cX6_readRule 65 = .ok (.aload_n 0, 1) := by decide +kernel
theorem dX6_readRule_66 : decode cX6_readRule 66 = .ok (.getfield 22, 3) := by decide +kernel
theorem dX6_readRule_69 : decode cX6_readRule 69 = .ok (.getfield 182, 3) := by decide +kernel
theorem dX6_readRule_72 : decode cX6_readRule 72 = .ok (.aload_n 0, 1) := by decide +kernel
theorem dX6_readRule_73 : decode cX6_readRule 73 = .ok (.getfield 170, 3) := by decide +kernel
theorem dX6_readRule_76 : decode cX6_readRule 76 = .ok (.aload_n 0, 1) := by decide +kernel
theorem dX6_readRule_77 : decode cX6_readRule 77 = .ok (.getfield 37, 3) := by decide +kernel
theorem dX6_readRule_80 : decode cX6_readRule 80 = .ok (.iastore, 1) := by decide +kernel
theorem dX6_readRule_81 : decode cX6_readRule 81 = .ok (.iload_n 2, 1) := by decide +kernel
theorem dX6_readRule_82 : decode cX6_readRule 82 = .ok (.ireturn, 1) := by decide +kernel
theorem wB_215 : Cond.code yX2_hasRule cX2_hasRule 2 (some .boolean) ∈ dgB := List.mem_filter.mpr ⟨tbl_4 _ (List.mem_of_getElem? (i := 42) rfl), rfl⟩
theorem wB_216 : Cond.methodLink RX6 167 yX2_hasRule ∈ dgB := List.mem_filter.mpr ⟨tbl_4 _ (List.mem_of_getElem? (i := 39) (by decide +kernel)), by decide +kernel⟩
theorem wB_217 : Cond.instanceMethod yX2_hasRule ∈ dgB := List.mem_filter.mpr ⟨tbl_4 _ (List.mem_of_getElem? (i := 40) (by decide +kernel)), by decide +kernel⟩
theorem wB_218 : Cond.selects RX2 yX2_hasRule yX2_hasRule ∈ dgB := List.mem_filter.mpr ⟨tbl_4 _ (List.mem_of_getElem? (i := 41) (by decide +kernel)), by decide +kernel⟩
theorem wB_219 : Cond.fieldLink RX6 173 "DarkMine$Ground" "ruleFrom" "[I" ∈ dgB := List.mem_filter.mpr ⟨tbl_2 _ (List.mem_of_getElem? (i := 5) (by decide +kernel)), by decide +kernel⟩
theorem wB_220 : Cond.fieldLink RX6 182 "DarkMine$Ground" "ruleEnd" "[I" ∈ dgB := List.mem_filter.mpr ⟨tbl_2 _ (List.mem_of_getElem? (i := 8) (by decide +kernel)), by decide +kernel⟩
theorem wB_221 : Cond.code yX6_readSeam cX6_readSeam 2 (some .boolean) ∈ dgB := List.mem_filter.mpr ⟨tbl_3 _ (List.mem_of_getElem? (i := 209) rfl), rfl⟩
theorem wB_222 : Cond.methodLink RX6 64 yX6_readSeam ∈ dgB := List.mem_filter.mpr ⟨tbl_3 _ (List.mem_of_getElem? (i := 206) (by decide +kernel)), by decide +kernel⟩
theorem wB_223 : Cond.instanceMethod yX6_readSeam ∈ dgB := List.mem_filter.mpr ⟨tbl_3 _ (List.mem_of_getElem? (i := 208) (by decide +kernel)), by decide +kernel⟩
theorem wB_224 : Cond.selects RX6 yX6_readSeam yX6_readSeam ∈ dgB := List.mem_filter.mpr ⟨List.mem_of_getElem? (i := 9) (by decide +kernel), by decide +kernel⟩
theorem wB_225 : Cond.code yX6_readShaft cX6_readShaft 1 (some .boolean) ∈ dgB := List.mem_filter.mpr ⟨tbl_3 _ (List.mem_of_getElem? (i := 229) rfl), rfl⟩
theorem wB_226 : Cond.methodLink RX6 68 yX6_readShaft ∈ dgB := List.mem_filter.mpr ⟨tbl_3 _ (List.mem_of_getElem? (i := 226) (by decide +kernel)), by decide +kernel⟩
theorem wB_227 : Cond.instanceMethod yX6_readShaft ∈ dgB := List.mem_filter.mpr ⟨tbl_3 _ (List.mem_of_getElem? (i := 228) (by decide +kernel)), by decide +kernel⟩
theorem wB_228 : Cond.selects RX6 yX6_readShaft yX6_readShaft ∈ dgB := List.mem_filter.mpr ⟨List.mem_of_getElem? (i := 13) (by decide +kernel), by decide +kernel⟩
theorem wB_229 : Cond.code yX6_readReach cX6_readReach 1 (some .boolean) ∈ dgB := List.mem_filter.mpr ⟨tbl_3 _ (List.mem_of_getElem? (i := 233) rfl), rfl⟩
theorem wB_230 : Cond.methodLink RX6 71 yX6_readReach ∈ dgB := List.mem_filter.mpr ⟨tbl_3 _ (List.mem_of_getElem? (i := 230) (by decide +kernel)), by decide +kernel⟩
theorem wB_231 : Cond.instanceMethod yX6_readReach ∈ dgB := List.mem_filter.mpr ⟨tbl_3 _ (List.mem_of_getElem? (i := 232) (by decide +kernel)), by decide +kernel⟩
theorem wB_232 : Cond.selects RX6 yX6_readReach yX6_readReach ∈ dgB := List.mem_filter.mpr ⟨List.mem_of_getElem? (i := 14) (by decide +kernel), by decide +kernel⟩
theorem wB_233 : Cond.code yX6_readQuake cX6_readQuake 1 (some .boolean) ∈ dgB := List.mem_filter.mpr ⟨tbl_3 _ (List.mem_of_getElem? (i := 237) rfl), rfl⟩
theorem wB_234 : Cond.methodLink RX6 74 yX6_readQuake ∈ dgB := List.mem_filter.mpr ⟨tbl_3 _ (List.mem_of_getElem? (i := 234) (by decide +kernel)), by decide +kernel⟩
theorem wB_235 : Cond.instanceMethod yX6_readQuake ∈ dgB := List.mem_filter.mpr ⟨tbl_3 _ (List.mem_of_getElem? (i := 236) (by decide +kernel)), by decide +kernel⟩
theorem wB_236 : Cond.selects RX6 yX6_readQuake yX6_readQuake ∈ dgB := List.mem_filter.mpr ⟨List.mem_of_getElem? (i := 15) (by decide +kernel), by decide +kernel⟩
theorem wB_237 : Cond.code yX6_readGrade cX6_readGrade 2 (some .boolean) ∈ dgB := List.mem_filter.mpr ⟨tbl_4 _ (List.mem_of_getElem? (i := 1) rfl), rfl⟩
theorem wB_238 : Cond.methodLink RX6 77 yX6_readGrade ∈ dgB := List.mem_filter.mpr ⟨tbl_3 _ (List.mem_of_getElem? (i := 238) (by decide +kernel)), by decide +kernel⟩
theorem wB_239 : Cond.instanceMethod yX6_readGrade ∈ dgB := List.mem_filter.mpr ⟨tbl_4 _ (List.mem_of_getElem? (i := 0) (by decide +kernel)), by decide +kernel⟩
theorem wB_240 : Cond.selects RX6 yX6_readGrade yX6_readGrade ∈ dgB := List.mem_filter.mpr ⟨List.mem_of_getElem? (i := 16) (by decide +kernel), by decide +kernel⟩
theorem wB_241 : Cond.code yX6_readMiner cX6_readMiner 1 (some .boolean) ∈ dgB := List.mem_filter.mpr ⟨tbl_4 _ (List.mem_of_getElem? (i := 9) rfl), rfl⟩
theorem wB_242 : Cond.methodLink RX6 80 yX6_readMiner ∈ dgB := List.mem_filter.mpr ⟨tbl_4 _ (List.mem_of_getElem? (i := 6) (by decide +kernel)), by decide +kernel⟩
theorem wB_243 : Cond.instanceMethod yX6_readMiner ∈ dgB := List.mem_filter.mpr ⟨tbl_4 _ (List.mem_of_getElem? (i := 8) (by decide +kernel)), by decide +kernel⟩
theorem wB_244 : Cond.selects RX6 yX6_readMiner yX6_readMiner ∈ dgB := List.mem_filter.mpr ⟨List.mem_of_getElem? (i := 18) (by decide +kernel), by decide +kernel⟩
theorem wB_245 : Cond.code yX6_readDig cX6_readDig 3 (some .boolean) ∈ dgB := List.mem_filter.mpr ⟨tbl_4 _ (List.mem_of_getElem? (i := 25) rfl), rfl⟩
theorem wB_246 : Cond.methodLink RX6 83 yX6_readDig ∈ dgB := List.mem_filter.mpr ⟨tbl_4 _ (List.mem_of_getElem? (i := 22) (by decide +kernel)), by decide +kernel⟩
theorem wB_247 : Cond.instanceMethod yX6_readDig ∈ dgB := List.mem_filter.mpr ⟨tbl_4 _ (List.mem_of_getElem? (i := 24) (by decide +kernel)), by decide +kernel⟩
theorem wB_248 : Cond.selects RX6 yX6_readDig yX6_readDig ∈ dgB := List.mem_filter.mpr ⟨List.mem_of_getElem? (i := 20) (by decide +kernel), by decide +kernel⟩
theorem wB_249 : Cond.code yX6_readOrder cX6_readOrder 2 (some .boolean) ∈ dgB := List.mem_filter.mpr ⟨tbl_4 _ (List.mem_of_getElem? (i := 34) rfl), rfl⟩
theorem wB_250 : Cond.methodLink RX6 86 yX6_readOrder ∈ dgB := List.mem_filter.mpr ⟨tbl_4 _ (List.mem_of_getElem? (i := 31) (by decide +kernel)), by decide +kernel⟩
theorem wB_251 : Cond.instanceMethod yX6_readOrder ∈ dgB := List.mem_filter.mpr ⟨tbl_4 _ (List.mem_of_getElem? (i := 33) (by decide +kernel)), by decide +kernel⟩
theorem wB_252 : Cond.selects RX6 yX6_readOrder yX6_readOrder ∈ dgB := List.mem_filter.mpr ⟨List.mem_of_getElem? (i := 22) (by decide +kernel), by decide +kernel⟩
theorem wB_253 : Cond.code yX6_readRule cX6_readRule 3 (some .boolean) ∈ dgB := List.mem_filter.mpr ⟨tbl_4 _ (List.mem_of_getElem? (i := 38) rfl), rfl⟩
theorem wB_254 : Cond.methodLink RX6 89 yX6_readRule ∈ dgB := List.mem_filter.mpr ⟨tbl_4 _ (List.mem_of_getElem? (i := 35) (by decide +kernel)), by decide +kernel⟩
theorem wB_255 : Cond.instanceMethod yX6_readRule ∈ dgB := List.mem_filter.mpr ⟨tbl_4 _ (List.mem_of_getElem? (i := 37) (by decide +kernel)), by decide +kernel⟩
theorem wB_256 : Cond.selects RX6 yX6_readRule yX6_readRule ∈ dgB := List.mem_filter.mpr ⟨List.mem_of_getElem? (i := 23) (by decide +kernel), by decide +kernel⟩
set_option maxHeartbeats 8000000 in
set_option maxRecDepth 100000 in
theorem c_rd_readRule (l : Launch) (g : Nat → ClassId) (D : va_G) (o : Nat) (S : dg_S) (a1 : Int32) (b_a1 : 0 ≤ (a1).toInt ∧ (a1).toInt ≤ 2) (en : Int32) (kd : Nat → Int32) (vl : Nat → Int32) (fr : Nat → Int32) (fe : Nat → Int32) (S0 : dg_S) (d0 : Nat) (gd : Nat) (hk_gd : rX gd) (f_gd : S.1 209 3 = .ref (o + gd)) (n0 : Int32) (f_n0 : S.1 209 4 = .int n0) (b_n0 : 0 ≤ (n0).toInt ∧ (n0).toInt ≤ 1600) (sc : Int32) (f_sc : S.1 209 7 = .int sc) (b_sc : 0 ≤ (sc).toInt ∧ (sc).toInt ≤ 1600) (ke : Int32) (f_ke : S.2.1 211 (en : Int32).toNatClampNeg = ke) (b_ke : 0 ≤ (ke).toInt ∧ (ke).toInt ≤ 0) (hne : (n0).toInt ≤ (en).toInt ∧ (en).toInt ≤ 1600 ∧ 0 ≤ (en).toInt) (hkd : ∀ k9 : Nat, k9 ≤ (en : Int32).toNatClampNeg → S.2.1 211 k9 = kd k9) (hvl : ∀ k9 : Nat, k9 ≤ (en : Int32).toNatClampNeg → S.2.1 213 k9 = vl k9) (hsc : (sc).toInt ≤ (n0).toInt) (hkn : (kd (n0 : Int32).toNatClampNeg).toInt ≠ 0) (hfr : S.2.1 (gd + 10) = fr) (hfe : S.2.1 (gd + 11) = fe) (hd0 : d0 ≠ gd) (GO : GOX S0 d0 S) (I : CX o S) (sz : Nat) : Met l yX6_readRule (bw yX6_readRule cX6_readRule 3 (some .boolean)) ({ frames := 68, cells := 0, slots := 0, locals := 1561 } : Room) (dk_Pc g D (dg_w g shX o rfX S) sz [.ref (o + 209), .int a1]) (va_Qi (fun (r : Int32) S' => CX o S' ∧ dg_sm shX [(31, 0), (31, 1), (31, 4), (31, 6), (31, 7)] [28, 29, 30] S S' ∧ (0 ≤ (r).toInt ∧ (r).toInt ≤ 1) ∧ ((r).toInt = 1 → ∃ c8 c9 : Int32, c8.toInt < c9.toInt ∧ S'.2.1 (gd + 10) = upd fr (a1 : Int32).toNatClampNeg c8 ∧ S'.2.1 (gd + 11) = upd fe (a1 : Int32).toNatClampNeg c9) ∧ (∃ y9_4 y9_7 : Int32, S'.1 209 4 = .int y9_4 ∧ S'.1 209 7 = .int y9_7 ∧ (((y9_4).toInt ≤ (en).toInt ∧ ((r).toInt = 1 → ((sc).toInt + 1 ≤ (y9_7).toInt ∧ (y9_7).toInt - (sc).toInt ≤ (y9_4).toInt - (n0).toInt))) ∧ g_ans r (if (fr (a1 : Int32).toNatClampNeg).toInt < (fe (a1 : Int32).toNatClampNeg).toInt then none else y_rule kd vl (a1).toInt ((n0 : Int32).toNatClampNeg + 1)) (y9_4 : Int32).toNatClampNeg)) ∧ GOX S0 d0 S' ∧ True) (dg_B g D shX o rfX) (dg_A o shX.length sz)) 0 0 (dg_A o shX.length sz) := by
  refine dg_met (cc := cX6_readRule) (maxL := 3) (ret := (some .boolean)) (by decide) rfl (Nat.le_of_ble_eq_true rfl) ?_
  intro p e s m args below meth c A hAe harg hx hb hr hml hts hown hlocks hin hP K hS hA1 hA ST hsz ls hl
  rw [← hAe]
  have F : CallFix p m c cX6_readRule 3 s args (bw yX6_readRule cX6_readRule 3 (some .boolean)) RX6 := ⟨hx, hb, hml, hown, hts⟩
  have hl : lv_has ls 3 [(0, .ref (o + 209)), (1, .int a1)] := hl
  have M_0 : dg_sm shX [(31, 0), (31, 1), (31, 4), (31, 6), (31, 7)] [28, 29, 30] S S := dg_sm.rf
  refine lv_aload_n hx hb dX6_readRule_0 rfl (lv_at hl 0 rfl) ?_
  refine dg_get (C := RX6) (T := TX6) (N := 8) hx hb hts (fun w h => bw_mem (wU_X6 w h)) hown K hP sX_209 rfl 3 (by decide) (hts _ (bw_mem wB_38)) (fun _ h9 => h9) (v := .ref (o + gd)) f_gd dX6_readRule_1 ?_
  refine lv_iload_n hx hb dX6_readRule_4 rfl (lv_at hl 1 rfl) ?_
  refine dg_calli hS hA1 hA (va_runV (As := [.int a1]) (rest := []) F (c_g_hasRule l g D o S gd hk_gd a1 (by omega) fr fe hfr hfe I s.heap.size) (cwV 1 hts (bw_V wB_216 wB_217 wB_218 wB_7 wB_215) rfl rfl rfl (by decide +kernel) ⟨Nat.le_of_ble_eq_true rfl, Nat.le_of_ble_eq_true rfl⟩) (dg_preV (rX_0 gd hk_gd) rfl K ST hP hS hA1 hA) rfl rfl hl.1 rfl (lv_room (Nat.le_of_ble_eq_true rfl)) dX6_readRule_5 ⟨Nat.le_of_ble_eq_true rfl, Nat.le_of_ble_eq_true rfl⟩) (fun x_1 S_2 hw_2 H locs hP hS => ?_)
  rw [hw_2.1] at hP
  obtain ⟨hq_2, w_2_0, w_2_1, -⟩ := hw_2
  have w_2_0 : 0 ≤ (x_1).toInt ∧ (x_1).toInt ≤ 1 := w_2_0
  have w_2_1 : (x_1).toInt = 1 ↔ (fr (a1 : Int32).toNatClampNeg).toInt < (fe (a1 : Int32).toNatClampNeg).toInt := w_2_1
  refine lv_if_eq (tgt := 18) hx hb dX6_readRule_8 (by decide) (fun c_3 => ?_) (fun c_3 => ?_)
  · have jc_3 := dk_eqc (k := 0) (by decide +kernel) c_3
    have qw_2_1 : ¬ (fr (a1 : Int32).toNatClampNeg).toInt < (fe (a1 : Int32).toNatClampNeg).toInt := fun h9 => absurd (w_2_1.mpr h9) (by omega)
    refine lv_aload_n hx hb dX6_readRule_18 rfl (lv_at hl 0 rfl) ?_
    refine dg_callv hS hA1 hA (va_runV (As := []) (rest := []) F (c_rd_pass l g D o S en kd vl n0 f_n0 (by omega) ke f_ke (by omega) (by omega) hkd hvl I H.size) (cwV 0 hts (bw_V wB_26 wB_27 wB_28 wB_24 wB_25) rfl rfl rfl (by decide +kernel) ⟨Nat.le_of_ble_eq_true rfl, Nat.le_of_ble_eq_true rfl⟩) (dg_preV sX_209 rfl K ST hP hS hA1 hA) rfl rfl hl.1 rfl (lv_room (Nat.le_of_ble_eq_true rfl)) dX6_readRule_19 ⟨Nat.le_of_ble_eq_true rfl, Nat.le_of_ble_eq_true rfl⟩) (fun S_4 hw_4 H locs hP hS => ?_)
    obtain ⟨I_4, m_4, w_4_0, -⟩ := hw_4
    have M_4 := dg_sm.tr M_0 m_4 (by decide) (by decide)
    obtain ⟨y_5, f_y_5, w_4_0⟩ := w_4_0
    have w_4_0 : (y_5).toInt ≤ (en).toInt ∧ ((kd (n0 : Int32).toNatClampNeg).toInt ≠ 0 → (y_5 : Int32).toNatClampNeg = (n0 : Int32).toNatClampNeg + 1) := w_4_0
    have b_y_5 : 0 ≤ (y_5).toInt ∧ (y_5).toInt ≤ 1600 := dg_I.intb (lo := 0) (hi := 1600) I_4 sX_209 (by decide +kernel) f_y_5
    have nq_y_5 : (y_5 : Int32).toNatClampNeg = (n0 : Int32).toNatClampNeg + 1 := by have h9 := w_4_0.2 hkn; omega
    have ni_y_5 : (y_5).toInt = (n0).toInt + 1 := by have h8 := dk_clN y_5; have h9 := dk_clN n0; omega
    refine lv_aload_n hx hb dX6_readRule_22 rfl (lv_at hl 0 rfl) ?_
    refine lv_iload_n hx hb dX6_readRule_23 rfl (lv_at hl 1 rfl) ?_
    refine dg_put (ci := 6) (v := .int a1) (ty := tyX6 6) (C := RX6) (T := TX6) (N := 8) hx hb hts (fun w h => bw_mem (wU_X6 w h)) tyX6 tyX6_ok nmX6 hown K hP hS hA1 sX_209 rfl 6 (by decide) (hts _ (bw_mem wB_40)) (fun _ h9 => h9) rfl (by decide +kernel) rfl rfl dX6_readRule_24 (fun S_6 e_6 H locs hP hS => ?_)
    have I_6 := dg_I.uFi (lo := 0) (hi := 2) I_4 e_6 sX_209 (by decide +kernel) (show 0 ≤ (a1).toInt ∧ (a1).toInt ≤ 2 from (by omega))
    have M_6 := dg_sm.uF M_4 e_6 sX_209 (by decide)
    refine lv_aload_n hx hb dX6_readRule_27 rfl (lv_at hl 0 rfl) ?_
    refine dg_get (C := RX6) (T := TX6) (N := 8) hx hb hts (fun w h => bw_mem (wU_X6 w h)) hown K hP sX_209 rfl 3 (by decide) (hts _ (bw_mem wB_38)) (fun _ h9 => h9) (v := .ref (o + gd)) (((dg_uF_ne e_6 (fun z => absurd z.2 (by decide))).trans (m_4.1 209 3 _ sX_209 (by decide))).trans f_gd) dX6_readRule_28 ?_
    refine dg_get (C := RX2) (T := TX2) (N := 19) hx hb hts (fun w h => bw_mem (wU_X2 w h)) hown K hP (rX_0 gd hk_gd) rfl 17 (by decide) (hts _ (bw_mem wB_219)) (fun _ h9 => h9) (v := .ref (o + (gd + 10))) (show S_6.1 gd 17 = .ref (o + (gd + 10)) from dg_I.rel (d := 10) I_6 (rX_0 gd hk_gd) (by decide +kernel)) dX6_readRule_31 ?_
    refine lv_aload_n hx hb dX6_readRule_34 rfl (lv_at hl 0 rfl) ?_
    refine dg_get (C := RX6) (T := TX6) (N := 8) hx hb hts (fun w h => bw_mem (wU_X6 w h)) hown K hP sX_209 rfl 6 (by decide) (hts _ (bw_mem wB_40)) (fun _ h9 => h9) (v := .int a1) (dg_uF_at e_6) dX6_readRule_35 ?_
    refine lv_aload_n hx hb dX6_readRule_38 rfl (lv_at hl 0 rfl) ?_
    refine dg_get (C := RX6) (T := TX6) (N := 8) hx hb hts (fun w h => bw_mem (wU_X6 w h)) hown K hP sX_209 rfl 7 (by decide) (hts _ (bw_mem wB_37)) (fun _ h9 => h9) (v := .int sc) (((dg_uF_ne e_6 (fun z => absurd z.2 (by decide))).trans (m_4.1 209 7 _ sX_209 (by decide))).trans f_sc) dX6_readRule_39 ?_
    have hin_7 : vp_in a1 3 := (dk_inv (by omega) (by omega))
    refine dg_iast hx hb K hP hS hA1 (rX_10 gd hk_gd) hin_7 dX6_readRule_42 (fun S_8 e_8 H locs hP hS => ?_)
    have I_8 := dg_I.ufu (lo := 0) (hi := 1600) I_6 e_8 (rX_10 gd hk_gd) (by decide +kernel) (show 0 ≤ (sc).toInt ∧ (sc).toInt ≤ 1600 from (by omega))
    have M_8 := dg_sm.uf M_6 e_8 (rX_10 gd hk_gd) (by decide)
    have GO_8 := GOX.uf (GOX.keep (GOX.keep GO m_4 (by decide) (by decide)) (dg_sm.uF (WF := [(31, 6)]) (WA := []) dg_sm.rf e_6 sX_209 (by decide)) (by decide) (by decide)) hk_gd hd0 (i := 10) (by decide) e_8
    refine lv_aload_n hx hb dX6_readRule_43 rfl (lv_at hl 0 rfl) ?_
    refine dg_get (C := RX6) (T := TX6) (N := 8) hx hb hts (fun w h => bw_mem (wU_X6 w h)) hown K hP sX_209 rfl 6 (by decide) (hts _ (bw_mem wB_40)) (fun _ h9 => h9) (v := .int a1) ((dg_uf_F e_8 209 6).trans (dg_uF_at e_6)) dX6_readRule_44 ?_
    refine lv_iconst (v := 1) hx hb dX6_readRule_47 (by decide +kernel) ?_
    refine lv_icmp_ne (tgt := 59) hx hb dX6_readRule_48 (by decide) (fun c_9 => ?_) (fun c_9 => ?_)
    · have jc_9 := dk_neqc (k := 1) (by decide +kernel) c_9
      refine lv_aload_n hx hb dX6_readRule_59 rfl (lv_at hl 0 rfl) ?_
      refine lv_iconst (v := 0) hx hb dX6_readRule_60 (by decide +kernel) ?_
      refine dg_calli hS hA1 hA (va_runV (As := [.int 0]) (rest := []) F (c_rd_readSum_0 l g D o S_8 en kd vl y_5 (((dg_uf_F e_8 209 4).trans (dg_uF_ne e_6 (fun z => absurd z.2 (by decide)))).trans f_y_5) (by omega) a1 ((dg_uf_F e_8 209 6).trans (dg_uF_at e_6)) (by omega) sc (((dg_uf_F e_8 209 7).trans ((dg_uF_ne e_6 (fun z => absurd z.2 (by decide))).trans (m_4.1 209 7 _ sX_209 (by decide)))).trans f_sc) (by omega) ke ((congrFun ((dg_uf_ne e_8 (fun z => by have h9 := sX_211; rw [z, (rX_10 gd hk_gd)] at h9; cases h9)).trans ((dg_uF_f e_6 211).trans (m_4.2 211 _ sX_211 (by decide)).1)) _).trans f_ke) (by omega) (by omega) (fun k9 h9 => (congrFun ((dg_uf_ne e_8 (fun z => by have h9 := sX_211; rw [z, (rX_10 gd hk_gd)] at h9; cases h9)).trans ((dg_uF_f e_6 211).trans (m_4.2 211 _ sX_211 (by decide)).1)) k9).trans (hkd k9 h9)) (fun k9 h9 => (congrFun ((dg_uf_ne e_8 (fun z => by have h9 := sX_213; rw [z, (rX_10 gd hk_gd)] at h9; cases h9)).trans ((dg_uF_f e_6 213).trans (m_4.2 213 _ sX_213 (by decide)).1)) k9).trans (hvl k9 h9)) (by omega) I_8 H.size) (cwV 1 hts (bw_V wB_128 wB_129 wB_130 wB_24 wB_127) rfl rfl rfl (by decide +kernel) ⟨Nat.le_of_ble_eq_true rfl, Nat.le_of_ble_eq_true rfl⟩) (dg_preV sX_209 rfl K ST hP hS hA1 hA) rfl rfl hl.1 rfl (lv_room (Nat.le_of_ble_eq_true rfl)) dX6_readRule_61 ⟨Nat.le_of_ble_eq_true rfl, Nat.le_of_ble_eq_true rfl⟩) (fun x_10 S_11 hw_11 H locs hP hS => ?_)
      obtain ⟨I_11, m_11, w_11_0, w_11_1, -⟩ := hw_11
      have M_11 := dg_sm.tr M_8 m_11 (by decide) (by decide)
      have w_11_0 : 0 ≤ (x_10).toInt ∧ (x_10).toInt ≤ 1 := w_11_0
      obtain ⟨y_12, y_13, f_y_12, f_y_13, w_11_1⟩ := w_11_1
      have w_11_1 : ((y_12).toInt ≤ (en).toInt ∧ ((x_10).toInt = 1 → ((sc).toInt + 1 ≤ (y_13).toInt ∧ (y_13).toInt - (sc).toInt ≤ (y_12).toInt - (y_5).toInt))) ∧ g_ans x_10 ((x_lv kd vl (a1).toInt 8).1 (y_5 : Int32).toNatClampNeg) (y_12 : Int32).toNatClampNeg := w_11_1
      have b_y_12 : 0 ≤ (y_12).toInt ∧ (y_12).toInt ≤ 1600 := dg_I.intb (lo := 0) (hi := 1600) I_11 sX_209 (by decide +kernel) f_y_12
      have b_y_13 : 0 ≤ (y_13).toInt ∧ (y_13).toInt ≤ 1600 := dg_I.intb (lo := 0) (hi := 1600) I_11 sX_209 (by decide +kernel) f_y_13
      refine lv_istore_n (lv' := [(2, .int x_10), (0, .ref (o + 209)), (1, .int a1)]) hx hb dX6_readRule_64 rfl hl (by decide) rfl (fun ls hl => ?_)
      refine lv_aload_n hx hb dX6_readRule_65 rfl (lv_at hl 1 rfl) ?_
      refine dg_get (C := RX6) (T := TX6) (N := 8) hx hb hts (fun w h => bw_mem (wU_X6 w h)) hown K hP sX_209 rfl 3 (by decide) (hts _ (bw_mem wB_38)) (fun _ h9 => h9) (v := .ref (o + gd)) (((m_11.1 209 3 _ sX_209 (by decide)).trans ((dg_uf_F e_8 209 3).trans ((dg_uF_ne e_6 (fun z => absurd z.2 (by decide))).trans (m_4.1 209 3 _ sX_209 (by decide))))).trans f_gd) dX6_readRule_66 ?_
      refine dg_get (C := RX2) (T := TX2) (N := 19) hx hb hts (fun w h => bw_mem (wU_X2 w h)) hown K hP (rX_0 gd hk_gd) rfl 18 (by decide) (hts _ (bw_mem wB_220)) (fun _ h9 => h9) (v := .ref (o + (gd + 11))) (show S_11.1 gd 18 = .ref (o + (gd + 11)) from dg_I.rel (d := 11) I_11 (rX_0 gd hk_gd) (by decide +kernel)) dX6_readRule_69 ?_
      refine lv_aload_n hx hb dX6_readRule_72 rfl (lv_at hl 1 rfl) ?_
      refine dg_get (C := RX6) (T := TX6) (N := 8) hx hb hts (fun w h => bw_mem (wU_X6 w h)) hown K hP sX_209 rfl 6 (by decide) (hts _ (bw_mem wB_40)) (fun _ h9 => h9) (v := .int a1) (((m_11.1 209 6 _ sX_209 (by decide)).trans (dg_uf_F e_8 209 6)).trans (dg_uF_at e_6)) dX6_readRule_73 ?_
      refine lv_aload_n hx hb dX6_readRule_76 rfl (lv_at hl 1 rfl) ?_
      refine dg_get (C := RX6) (T := TX6) (N := 8) hx hb hts (fun w h => bw_mem (wU_X6 w h)) hown K hP sX_209 rfl 7 (by decide) (hts _ (bw_mem wB_37)) (fun _ h9 => h9) (v := .int y_13) f_y_13 dX6_readRule_77 ?_
      have hin_14 : vp_in a1 3 := (dk_inv (by omega) (by omega))
      refine dg_iast hx hb K hP hS hA1 (rX_11 gd hk_gd) hin_14 dX6_readRule_80 (fun S_15 e_15 H locs hP hS => ?_)
      have I_15 := dg_I.ufu (lo := 0) (hi := 1600) I_11 e_15 (rX_11 gd hk_gd) (by decide +kernel) (show 0 ≤ (y_13).toInt ∧ (y_13).toInt ≤ 1600 from (by omega))
      have M_15 := dg_sm.uf M_11 e_15 (rX_11 gd hk_gd) (by decide)
      have GO_15 := GOX.uf (GOX.keep GO_8 m_11 (by decide) (by decide)) hk_gd hd0 (i := 11) (by decide) e_15
      refine lv_iload_n hx hb dX6_readRule_81 rfl (lv_at hl 0 rfl) ?_
      have qa9 : ¬ (a1).toInt = 1 := by omega
      refine W.widen (k := 0) (n := 0) (Nat.le_of_ble_eq_true rfl) (Nat.le_of_ble_eq_true rfl) ?_
      exact dg_iret hx hb hr hlocks (dk_znar (by omega) (by omega)) hP hS ⟨I_15, M_15, (by omega), (fun q9 => ⟨sc, y_13, by omega, by rw [((dg_uf_ne e_15 (by omega)).trans (m_11.2 (gd + 10) _ (rX_10 gd hk_gd) (by decide)).1), dg_uf_at e_8, ((dg_uF_f e_6 (gd + 10)).trans (m_4.2 (gd + 10) _ (rX_10 gd hk_gd) (by decide)).1), hfr], by rw [dg_uf_at e_15, ((m_11.2 (gd + 11) _ (rX_11 gd hk_gd) (by decide)).1.trans ((dg_uf_ne e_8 (by omega)).trans ((dg_uF_f e_6 (gd + 11)).trans (m_4.2 (gd + 11) _ (rX_11 gd hk_gd) (by decide)).1))), hfe]⟩), ⟨y_12, y_13, ((dg_uf_F e_15 209 4).trans f_y_12), ((dg_uf_F e_15 209 7).trans f_y_13), ⟨⟨by omega, by omega⟩, (g_ans.to (E := (x_lv kd vl (a1).toInt 8).1 ((n0 : Int32).toNatClampNeg + 1)) (by have h9 := w_11_1.2; rw [nq_y_5] at h9; exact h9) (by simp [y_rule, qw_2_1, nq_y_5, qa9]))⟩⟩, GO_15, trivial⟩ dX6_readRule_82
    · have jc_9 := dk_eqc (k := 1) (by decide +kernel) c_9
      refine lv_aload_n hx hb dX6_readRule_51 rfl (lv_at hl 0 rfl) ?_
      refine lv_iconst (v := 0) hx hb dX6_readRule_52 (by decide +kernel) ?_
      refine dg_calli hS hA1 hA (va_runV (As := [.int 0]) (rest := []) F (c_rd_readTest_0 l g D o S_8 en kd vl y_5 (((dg_uf_F e_8 209 4).trans (dg_uF_ne e_6 (fun z => absurd z.2 (by decide)))).trans f_y_5) (by omega) a1 ((dg_uf_F e_8 209 6).trans (dg_uF_at e_6)) (by omega) sc (((dg_uf_F e_8 209 7).trans ((dg_uF_ne e_6 (fun z => absurd z.2 (by decide))).trans (m_4.1 209 7 _ sX_209 (by decide)))).trans f_sc) (by omega) ke ((congrFun ((dg_uf_ne e_8 (fun z => by have h9 := sX_211; rw [z, (rX_10 gd hk_gd)] at h9; cases h9)).trans ((dg_uF_f e_6 211).trans (m_4.2 211 _ sX_211 (by decide)).1)) _).trans f_ke) (by omega) (by omega) (fun k9 h9 => (congrFun ((dg_uf_ne e_8 (fun z => by have h9 := sX_211; rw [z, (rX_10 gd hk_gd)] at h9; cases h9)).trans ((dg_uF_f e_6 211).trans (m_4.2 211 _ sX_211 (by decide)).1)) k9).trans (hkd k9 h9)) (fun k9 h9 => (congrFun ((dg_uf_ne e_8 (fun z => by have h9 := sX_213; rw [z, (rX_10 gd hk_gd)] at h9; cases h9)).trans ((dg_uF_f e_6 213).trans (m_4.2 213 _ sX_213 (by decide)).1)) k9).trans (hvl k9 h9)) (by omega) I_8 H.size) (cwV 1 hts (bw_V wB_148 wB_149 wB_150 wB_24 wB_147) rfl rfl rfl (by decide +kernel) ⟨Nat.le_of_ble_eq_true rfl, Nat.le_of_ble_eq_true rfl⟩) (dg_preV sX_209 rfl K ST hP hS hA1 hA) rfl rfl hl.1 rfl (lv_room (Nat.le_of_ble_eq_true rfl)) dX6_readRule_53 ⟨Nat.le_of_ble_eq_true rfl, Nat.le_of_ble_eq_true rfl⟩) (fun x_16 S_17 hw_17 H locs hP hS => ?_)
      obtain ⟨I_17, m_17, w_17_0, w_17_1, -⟩ := hw_17
      have M_17 := dg_sm.tr M_8 m_17 (by decide) (by decide)
      have w_17_0 : 0 ≤ (x_16).toInt ∧ (x_16).toInt ≤ 1 := w_17_0
      obtain ⟨y_18, y_19, f_y_18, f_y_19, w_17_1⟩ := w_17_1
      have w_17_1 : ((y_18).toInt ≤ (en).toInt ∧ ((x_16).toInt = 1 → ((sc).toInt + 1 ≤ (y_19).toInt ∧ (y_19).toInt - (sc).toInt ≤ (y_18).toInt - (y_5).toInt))) ∧ g_ans x_16 ((x_lv kd vl (a1).toInt 8).2.1 (y_5 : Int32).toNatClampNeg) (y_18 : Int32).toNatClampNeg := w_17_1
      have b_y_18 : 0 ≤ (y_18).toInt ∧ (y_18).toInt ≤ 1600 := dg_I.intb (lo := 0) (hi := 1600) I_17 sX_209 (by decide +kernel) f_y_18
      have b_y_19 : 0 ≤ (y_19).toInt ∧ (y_19).toInt ≤ 1600 := dg_I.intb (lo := 0) (hi := 1600) I_17 sX_209 (by decide +kernel) f_y_19
      refine lv_goto (tgt := 64) hx hb dX6_readRule_56 (by decide) ?_
      refine lv_istore_n (lv' := [(2, .int x_16), (0, .ref (o + 209)), (1, .int a1)]) hx hb dX6_readRule_64 rfl hl (by decide) rfl (fun ls hl => ?_)
      refine lv_aload_n hx hb dX6_readRule_65 rfl (lv_at hl 1 rfl) ?_
      refine dg_get (C := RX6) (T := TX6) (N := 8) hx hb hts (fun w h => bw_mem (wU_X6 w h)) hown K hP sX_209 rfl 3 (by decide) (hts _ (bw_mem wB_38)) (fun _ h9 => h9) (v := .ref (o + gd)) (((m_17.1 209 3 _ sX_209 (by decide)).trans ((dg_uf_F e_8 209 3).trans ((dg_uF_ne e_6 (fun z => absurd z.2 (by decide))).trans (m_4.1 209 3 _ sX_209 (by decide))))).trans f_gd) dX6_readRule_66 ?_
      refine dg_get (C := RX2) (T := TX2) (N := 19) hx hb hts (fun w h => bw_mem (wU_X2 w h)) hown K hP (rX_0 gd hk_gd) rfl 18 (by decide) (hts _ (bw_mem wB_220)) (fun _ h9 => h9) (v := .ref (o + (gd + 11))) (show S_17.1 gd 18 = .ref (o + (gd + 11)) from dg_I.rel (d := 11) I_17 (rX_0 gd hk_gd) (by decide +kernel)) dX6_readRule_69 ?_
      refine lv_aload_n hx hb dX6_readRule_72 rfl (lv_at hl 1 rfl) ?_
      refine dg_get (C := RX6) (T := TX6) (N := 8) hx hb hts (fun w h => bw_mem (wU_X6 w h)) hown K hP sX_209 rfl 6 (by decide) (hts _ (bw_mem wB_40)) (fun _ h9 => h9) (v := .int a1) (((m_17.1 209 6 _ sX_209 (by decide)).trans (dg_uf_F e_8 209 6)).trans (dg_uF_at e_6)) dX6_readRule_73 ?_
      refine lv_aload_n hx hb dX6_readRule_76 rfl (lv_at hl 1 rfl) ?_
      refine dg_get (C := RX6) (T := TX6) (N := 8) hx hb hts (fun w h => bw_mem (wU_X6 w h)) hown K hP sX_209 rfl 7 (by decide) (hts _ (bw_mem wB_37)) (fun _ h9 => h9) (v := .int y_19) f_y_19 dX6_readRule_77 ?_
      have hin_20 : vp_in a1 3 := (dk_inv (by omega) (by omega))
      refine dg_iast hx hb K hP hS hA1 (rX_11 gd hk_gd) hin_20 dX6_readRule_80 (fun S_21 e_21 H locs hP hS => ?_)
      have I_21 := dg_I.ufu (lo := 0) (hi := 1600) I_17 e_21 (rX_11 gd hk_gd) (by decide +kernel) (show 0 ≤ (y_19).toInt ∧ (y_19).toInt ≤ 1600 from (by omega))
      have M_21 := dg_sm.uf M_17 e_21 (rX_11 gd hk_gd) (by decide)
      have GO_21 := GOX.uf (GOX.keep GO_8 m_17 (by decide) (by decide)) hk_gd hd0 (i := 11) (by decide) e_21
      refine lv_iload_n hx hb dX6_readRule_81 rfl (lv_at hl 0 rfl) ?_
      have qa9 : (a1).toInt = 1 := by omega
      refine W.widen (k := 0) (n := 0) (Nat.le_of_ble_eq_true rfl) (Nat.le_of_ble_eq_true rfl) ?_
      exact dg_iret hx hb hr hlocks (dk_znar (by omega) (by omega)) hP hS ⟨I_21, M_21, (by omega), (fun q9 => ⟨sc, y_19, by omega, by rw [((dg_uf_ne e_21 (by omega)).trans (m_17.2 (gd + 10) _ (rX_10 gd hk_gd) (by decide)).1), dg_uf_at e_8, ((dg_uF_f e_6 (gd + 10)).trans (m_4.2 (gd + 10) _ (rX_10 gd hk_gd) (by decide)).1), hfr], by rw [dg_uf_at e_21, ((m_17.2 (gd + 11) _ (rX_11 gd hk_gd) (by decide)).1.trans ((dg_uf_ne e_8 (by omega)).trans ((dg_uF_f e_6 (gd + 11)).trans (m_4.2 (gd + 11) _ (rX_11 gd hk_gd) (by decide)).1))), hfe]⟩), ⟨y_18, y_19, ((dg_uf_F e_21 209 4).trans f_y_18), ((dg_uf_F e_21 209 7).trans f_y_19), ⟨⟨by omega, by omega⟩, (g_ans.to (E := (x_lv kd vl (a1).toInt 8).2.1 ((n0 : Int32).toNatClampNeg + 1)) (by have h9 := w_17_1.2; rw [nq_y_5] at h9; exact h9) (by simp [y_rule, qw_2_1, nq_y_5, qa9]))⟩⟩, GO_21, trivial⟩ dX6_readRule_82
  · have jc_3 := dk_neqc (k := 0) (by decide +kernel) c_3
    have qw_2_1 := w_2_1.mp (by omega)
    refine lv_aload_n hx hb dX6_readRule_11 rfl (lv_at hl 0 rfl) ?_
    refine lv_bipush (v := 6) hx hb dX6_readRule_12 (by decide +kernel) ?_
    refine dg_calli hS hA1 hA (va_runV (As := [.int 6]) (rest := []) F (c_rd_fail l g D o S 6 en n0 f_n0 (by omega) ke f_ke (by omega) (by omega) I H.size) (cwV 1 hts (bw_V wB_30 wB_31 wB_32 wB_24 wB_29) rfl rfl rfl (by decide +kernel) ⟨Nat.le_of_ble_eq_true rfl, Nat.le_of_ble_eq_true rfl⟩) (dg_preV sX_209 rfl K ST hP hS hA1 hA) rfl rfl hl.1 rfl (lv_room (Nat.le_of_ble_eq_true rfl)) dX6_readRule_14 ⟨Nat.le_of_ble_eq_true rfl, Nat.le_of_ble_eq_true rfl⟩) (fun x_22 S_23 hw_23 H locs hP hS => ?_)
    obtain ⟨I_23, m_23, w_23_0, -⟩ := hw_23
    have M_23 := dg_sm.tr M_0 m_23 (by decide) (by decide)
    have w_23_0 : 0 ≤ (x_22).toInt ∧ (x_22).toInt ≤ 0 := w_23_0
    refine W.widen (k := 0) (n := 0) (Nat.le_of_ble_eq_true rfl) (Nat.le_of_ble_eq_true rfl) ?_
    exact dg_iret hx hb hr hlocks (dk_znar (by omega) (by omega)) hP hS ⟨I_23, M_23, (by omega), (fun q9 => absurd q9 (by omega)), ⟨n0, sc, ((m_23.1 209 4 _ sX_209 (by decide)).trans f_n0), ((m_23.1 209 7 _ sX_209 (by decide)).trans f_sc), ⟨⟨by omega, by omega⟩, g_ans.n (by omega) (by simp [y_rule, qw_2_1])⟩⟩, (GOX.keep GO m_23 (by decide) (by decide)), trivial⟩ dX6_readRule_17
set_option maxHeartbeats 8000000 in
set_option maxRecDepth 100000 in
theorem c_rd_readStatement (l : Launch) (g : Nat → ClassId) (D : va_G) (o : Nat) (S : dg_S) (a1 : Int32) (b_a1 : 0 ≤ (a1).toInt ∧ (a1).toInt ≤ 80) (en : Int32) (kd : Nat → Int32) (vl : Nat → Int32) (fm : Nat → Int32) (fo : Nat → Int32) (fr : Nat → Int32) (fe : Nat → Int32) (S0 : dg_S) (d0 : Nat) (gd : Nat) (hk_gd : rX gd) (f_gd : S.1 209 3 = .ref (o + gd)) (n0 : Int32) (f_n0 : S.1 209 4 = .int n0) (b_n0 : 0 ≤ (n0).toInt ∧ (n0).toInt ≤ 1600) (sc : Int32) (f_sc : S.1 209 7 = .int sc) (b_sc : 0 ≤ (sc).toInt ∧ (sc).toInt ≤ 1600) (cx : Int32) (f_cx : S.1 gd 0 = .int cx) (b_cx : 0 ≤ (cx).toInt ∧ (cx).toInt ≤ 7) (ry : Int32) (f_ry : S.1 gd 1 = .int ry) (b_ry : 0 ≤ (ry).toInt ∧ (ry).toInt ≤ 7) (mi : Int32) (f_mi : S.1 gd 6 = .int mi) (b_mi : 0 ≤ (mi).toInt ∧ (mi).toInt ≤ 6) (pl : Int32) (f_pl : S.1 gd 8 = .int pl) (b_pl : 0 ≤ (pl).toInt ∧ (pl).toInt ≤ 16) (od : Int32) (f_od : S.1 gd 11 = .int od) (b_od : 0 ≤ (od).toInt ∧ (od).toInt ≤ 5) (ke : Int32) (f_ke : S.2.1 211 (en : Int32).toNatClampNeg = ke) (b_ke : 0 ≤ (ke).toInt ∧ (ke).toInt ≤ 0) (hne : (n0).toInt ≤ (en).toInt ∧ (en).toInt ≤ 1600 ∧ 0 ≤ (en).toInt) (hkd : ∀ k9 : Nat, k9 ≤ (en : Int32).toNatClampNeg → S.2.1 211 k9 = kd k9) (hvl : ∀ k9 : Nat, k9 ≤ (en : Int32).toNatClampNeg → S.2.1 213 k9 = vl k9) (hsc : (sc).toInt ≤ (n0).toInt) (hfm : S.2.1 (gd + 2) = fm) (hfo : S.2.1 (gd + 5) = fo) (hfr : S.2.1 (gd + 10) = fr) (hfe : S.2.1 (gd + 11) = fe) (hd0 : d0 ≠ gd) (Z1 : Z1X S) (GO : GOX S0 d0 S) (I : CX o S) (sz : Nat) : Met l yX6_readStatement (bw yX6_readStatement cX6_readStatement 2 (some .boolean)) ({ frames := 69, cells := 0, slots := 0, locals := 1583 } : Room) (dk_Pc g D (dg_w g shX o rfX S) sz [.ref (o + 209), .int a1]) (va_Qi (fun (r : Int32) S' => CX o S' ∧ dg_sm shX [(19, 0), (19, 1), (19, 2), (19, 3), (19, 4), (19, 6), (19, 8), (19, 11), (31, 0), (31, 1), (31, 4), (31, 5), (31, 6), (31, 7)] [20, 21, 22, 23, 24, 25, 26, 27, 28, 29, 30] S S' ∧ (0 ≤ (r).toInt ∧ (r).toInt ≤ 1) ∧ (∃ cx9 ry9 mi9 pl9 od9 n9 s9 : Int32, S'.1 gd 0 = .int cx9 ∧ S'.1 gd 1 = .int ry9 ∧ S'.1 gd 6 = .int mi9 ∧ S'.1 gd 8 = .int pl9 ∧ S'.1 gd 11 = .int od9 ∧ S'.1 209 4 = .int n9 ∧ S'.1 209 7 = .int s9 ∧ n9.toInt ≤ (en).toInt ∧ ((r).toInt = 1 → s9.toInt ≤ n9.toInt) ∧ ((a1).toInt = 80 → (r).toInt = 0) ∧ ((a1).toInt ≠ 80 → y_ok r (y_one kd vl (a1 : Int32).toNatClampNeg (y_gx cx ry fm mi pl fo od fr fe) (n0 : Int32).toNatClampNeg) (y_gx cx9 ry9 (S'.2.1 (gd + 2)) mi9 pl9 (S'.2.1 (gd + 5)) od9 (S'.2.1 (gd + 10)) (S'.2.1 (gd + 11))) (n0 : Int32).toNatClampNeg (n9 : Int32).toNatClampNeg)) ∧ Z1X S' ∧ GOX S0 d0 S' ∧ True) (dg_B g D shX o rfX) (dg_A o shX.length sz)) 0 0 (dg_A o shX.length sz) := by
  refine dg_met (cc := cX6_readStatement) (maxL := 2) (ret := (some .boolean)) (by decide) rfl (Nat.le_of_ble_eq_true rfl) ?_
  intro p e s m args below meth c A hAe harg hx hb hr hml hts hown hlocks hin hP K hS hA1 hA ST hsz ls hl
  rw [← hAe]
  have F : CallFix p m c cX6_readStatement 2 s args (bw yX6_readStatement cX6_readStatement 2 (some .boolean)) RX6 := ⟨hx, hb, hml, hown, hts⟩
  have hl : lv_has ls 2 [(0, .ref (o + 209)), (1, .int a1)] := hl
  have M_0 : dg_sm shX [(19, 0), (19, 1), (19, 2), (19, 3), (19, 4), (19, 6), (19, 8), (19, 11), (31, 0), (31, 1), (31, 4), (31, 5), (31, 6), (31, 7)] [20, 21, 22, 23, 24, 25, 26, 27, 28, 29, 30] S S := dg_sm.rf
  refine lv_iload_n hx hb dX6_readStatement_0 rfl (lv_at hl 1 rfl) ?_
  refine lv_bipush (v := 80) hx hb dX6_readStatement_1 (by decide +kernel) ?_
  refine lv_icmp_ne (tgt := 13) hx hb dX6_readStatement_3 (by decide) (fun c_1 => ?_) (fun c_1 => ?_)
  · have jc_1 := dk_neqc (k := 80) (by decide +kernel) c_1
    refine lv_aload_n hx hb dX6_readStatement_13 rfl (lv_at hl 0 rfl) ?_
    refine dg_get (C := RX6) (T := TX6) (N := 8) hx hb hts (fun w h => bw_mem (wU_X6 w h)) hown K hP sX_209 rfl 2 (by decide) (hts _ (bw_mem wB_13)) (fun _ h9 => h9) (v := .ref (o + 210)) (show S.1 209 2 = .ref (o + 210) from dg_I.rel (d := 1) I sX_209 (by decide +kernel)) dX6_readStatement_14 ?_
    refine dg_get (C := RX9) (T := TX9) (N := 5) hx hb hts (fun w h => bw_mem (wU_X9 w h)) hown K hP sX_210 rfl 0 (by decide) (hts _ (bw_mem wB_14)) (fun _ h9 => h9) (v := .ref (o + 211)) (show S.1 210 0 = .ref (o + 211) from dg_I.rel (d := 1) I sX_210 (by decide +kernel)) dX6_readStatement_17 ?_
    refine lv_aload_n hx hb dX6_readStatement_20 rfl (lv_at hl 0 rfl) ?_
    refine dg_get (C := RX6) (T := TX6) (N := 8) hx hb hts (fun w h => bw_mem (wU_X6 w h)) hown K hP sX_209 rfl 4 (by decide) (hts _ (bw_mem wB_15)) (fun _ h9 => h9) (v := .int n0) f_n0 dX6_readStatement_21 ?_
    have hin_2 : vp_in n0 1601 := (dk_inv (by omega) (by omega))
    refine dg_iald hx hb K hP sX_211 hin_2 dX6_readStatement_24 (fun x_3 ex_3 => ?_)
    have hs_x_3 : (n0 : Int32).toInt = (en).toInt → (x_3).toInt = (ke).toInt := fun h => by have h9 := Int32.toInt_inj.mp h; rw [ex_3, h9]; exact congrArg Int32.toInt f_ke
    have kx_3 : (kd (n0 : Int32).toNatClampNeg).toInt = (x_3).toInt := by rw [ex_3, hkd _ (by unfold Int32.toNatClampNeg; omega)]
    refine lv_iconst (v := 1) hx hb dX6_readStatement_25 (by decide +kernel) ?_
    refine lv_icmp_ne (tgt := 46) hx hb dX6_readStatement_26 (by decide) (fun c_4 => ?_) (fun c_4 => ?_)
    · have jc_4 := dk_neqc (k := 1) (by decide +kernel) c_4
      refine lv_aload_n hx hb dX6_readStatement_46 rfl (lv_at hl 0 rfl) ?_
      refine lv_iconst (v := 1) hx hb dX6_readStatement_47 (by decide +kernel) ?_
      refine dg_calli hS hA1 hA (va_runV (As := [.int 1]) (rest := []) F (c_rd_fail l g D o S 1 en n0 f_n0 (by omega) ke f_ke (by omega) (by omega) I s.heap.size) (cwV 1 hts (bw_V wB_30 wB_31 wB_32 wB_24 wB_29) rfl rfl rfl (by decide +kernel) ⟨Nat.le_of_ble_eq_true rfl, Nat.le_of_ble_eq_true rfl⟩) (dg_preV sX_209 rfl K ST hP hS hA1 hA) rfl rfl hl.1 rfl (lv_room (Nat.le_of_ble_eq_true rfl)) dX6_readStatement_48 ⟨Nat.le_of_ble_eq_true rfl, Nat.le_of_ble_eq_true rfl⟩) (fun x_5 S_6 hw_6 H locs hP hS => ?_)
      obtain ⟨I_6, m_6, w_6_0, -⟩ := hw_6
      have M_6 := dg_sm.tr M_0 m_6 (by decide) (by decide)
      have w_6_0 : 0 ≤ (x_5).toInt ∧ (x_5).toInt ≤ 0 := w_6_0
      refine W.widen (k := 0) (n := 0) (Nat.le_of_ble_eq_true rfl) (Nat.le_of_ble_eq_true rfl) ?_
      exact dg_iret hx hb hr hlocks (dk_znar (by omega) (by omega)) hP hS ⟨I_6, M_6, (by omega), ⟨cx, ry, mi, pl, od, n0, sc, ((m_6.1 gd 0 _ (rX_0 gd hk_gd) (by decide)).trans f_cx), ((m_6.1 gd 1 _ (rX_0 gd hk_gd) (by decide)).trans f_ry), ((m_6.1 gd 6 _ (rX_0 gd hk_gd) (by decide)).trans f_mi), ((m_6.1 gd 8 _ (rX_0 gd hk_gd) (by decide)).trans f_pl), ((m_6.1 gd 11 _ (rX_0 gd hk_gd) (by decide)).trans f_od), ((m_6.1 209 4 _ sX_209 (by decide)).trans f_n0), ((m_6.1 209 7 _ sX_209 (by decide)).trans f_sc), by omega, fun q9 => absurd q9 (by omega), (fun _ => by omega), fun _ => by rw [(m_6.2 (gd + 2) _ (rX_2 gd hk_gd) (by decide)).1, hfm, (m_6.2 (gd + 5) _ (rX_5 gd hk_gd) (by decide)).1, hfo, (m_6.2 (gd + 10) _ (rX_10 gd hk_gd) (by decide)).1, hfr, (m_6.2 (gd + 11) _ (rX_11 gd hk_gd) (by decide)).1, hfe]; exact y_ok.no (by omega) (by first | exact y_one_k (by omega) | exact y_one_0 (by have h8 := dk_clN a1; omega) (by omega) | exact y_one_no (by have h8 := dk_clN a1; omega) (by omega))⟩, (Z1X.keep Z1 m_6 (by decide) (by decide) (by decide)), (GOX.keep GO m_6 (by decide) (by decide)), trivial⟩ dX6_readStatement_51
    · have jc_4 := dk_eqc (k := 1) (by decide +kernel) c_4
      refine lv_aload_n hx hb dX6_readStatement_29 rfl (lv_at hl 0 rfl) ?_
      refine lv_iconst (v := 0) hx hb dX6_readStatement_30 (by decide +kernel) ?_
      refine dg_calli hS hA1 hA (va_runV (As := [.int 0]) (rest := []) F (c_rd_isOwn l g D o S 0 en kd vl n0 f_n0 (by omega) ke f_ke (by omega) (by omega) hkd hvl I s.heap.size) (cwV 1 hts (bw_V wB_21 wB_22 wB_23 wB_24 wB_20) rfl rfl rfl (by decide +kernel) ⟨Nat.le_of_ble_eq_true rfl, Nat.le_of_ble_eq_true rfl⟩) (dg_preV sX_209 rfl K ST hP hS hA1 hA) rfl rfl hl.1 rfl (lv_room (Nat.le_of_ble_eq_true rfl)) dX6_readStatement_31 ⟨Nat.le_of_ble_eq_true rfl, Nat.le_of_ble_eq_true rfl⟩) (fun x_7 S_8 hw_8 H locs hP hS => ?_)
      rw [hw_8.1] at hP
      obtain ⟨hq_8, w_8_0, w_8_1, -⟩ := hw_8
      have hz_9 : (0 : Int32).toInt = 0 := by decide +kernel
      have w_8_0 : 0 ≤ (x_7).toInt ∧ (x_7).toInt ≤ 1 := w_8_0
      have w_8_1 : (x_7).toInt = 1 ↔ g_o kd vl ((0 : Int32)).toInt (n0 : Int32).toNatClampNeg = true := w_8_1
      refine lv_iload_n hx hb dX6_readStatement_34 rfl (lv_at hl 1 rfl) ?_
      refine lv_if_ne (tgt := 42) hx hb dX6_readStatement_35 (by decide) (fun c_10 => ?_) (fun c_10 => ?_)
      · have jc_10 := dk_neqc (k := 0) (by decide +kernel) c_10
        refine lv_iconst (v := 0) hx hb dX6_readStatement_42 (by decide +kernel) ?_
        refine lv_icmp_eq (tgt := 52) hx hb dX6_readStatement_43 (by decide) (fun c_11 => ?_) (fun c_11 => ?_)
        · have jc_11 := dk_eqc (k := 0) (by decide +kernel) c_11
          have qw_8_1 : g_o kd vl 0 (n0 : Int32).toNatClampNeg = false := by have h9 := g_iff_f w_8_1 (by omega); rw [show (0 : Int32).toInt = 0 from by decide +kernel] at h9; exact h9
          have qlw_8_1 : ¬ ((kd (n0 : Int32).toNatClampNeg).toInt = 1 ∧ (vl (n0 : Int32).toNatClampNeg).toInt = 0) := by have h8 := g_o_iff (kd := kd) (vl := vl) (c := 0) (k := (n0 : Int32).toNatClampNeg); rw [qw_8_1] at h8; simpa using h8
          refine lv_aload_n hx hb dX6_readStatement_52 rfl (lv_at hl 0 rfl) ?_
          refine dg_get (C := RX6) (T := TX6) (N := 8) hx hb hts (fun w h => bw_mem (wU_X6 w h)) hown K hP sX_209 rfl 2 (by decide) (hts _ (bw_mem wB_13)) (fun _ h9 => h9) (v := .ref (o + 210)) (show S.1 209 2 = .ref (o + 210) from dg_I.rel (d := 1) I sX_209 (by decide +kernel)) dX6_readStatement_53 ?_
          refine dg_get (C := RX9) (T := TX9) (N := 5) hx hb hts (fun w h => bw_mem (wU_X9 w h)) hown K hP sX_210 rfl 2 (by decide) (hts _ (bw_mem wB_16)) (fun _ h9 => h9) (v := .ref (o + 213)) (show S.1 210 2 = .ref (o + 213) from dg_I.rel (d := 3) I sX_210 (by decide +kernel)) dX6_readStatement_56 ?_
          refine lv_aload_n hx hb dX6_readStatement_59 rfl (lv_at hl 0 rfl) ?_
          refine dg_get (C := RX6) (T := TX6) (N := 8) hx hb hts (fun w h => bw_mem (wU_X6 w h)) hown K hP sX_209 rfl 4 (by decide) (hts _ (bw_mem wB_15)) (fun _ h9 => h9) (v := .int n0) f_n0 dX6_readStatement_60 ?_
          have hin_12 : vp_in n0 1601 := (dk_inv (by omega) (by omega))
          refine dg_iald hx hb K hP sX_213 hin_12 dX6_readStatement_63 (fun x_13 ex_13 => ?_)
          have kx_13 : (vl (n0 : Int32).toNatClampNeg).toInt = (x_13).toInt := by rw [ex_13, hvl _ (by unfold Int32.toNatClampNeg; omega)]
          rcases (show ((x_13).toInt < 0 ∨ 14 < (x_13).toInt) ∨ (x_13).toInt = 0 ∨ (x_13).toInt = 1 ∨ (x_13).toInt = 2 ∨ (x_13).toInt = 3 ∨ (x_13).toInt = 4 ∨ (x_13).toInt = 5 ∨ (x_13).toInt = 6 ∨ (x_13).toInt = 7 ∨ (x_13).toInt = 8 ∨ (x_13).toInt = 9 ∨ (x_13).toInt = 10 ∨ (x_13).toInt = 11 ∨ (x_13).toInt = 12 ∨ (x_13).toInt = 13 ∨ (x_13).toInt = 14 by omega) with jc_14 | jc_14 | jc_14 | jc_14 | jc_14 | jc_14 | jc_14 | jc_14 | jc_14 | jc_14 | jc_14 | jc_14 | jc_14 | jc_14 | jc_14 | jc_14
          · refine lv_tableOut (tgt := 198) hx hb dX6_readStatement_64 jc_14 (by decide) ?_
            refine lv_aload_n hx hb dX6_readStatement_198 rfl (lv_at hl 0 rfl) ?_
            refine lv_iconst (v := 1) hx hb dX6_readStatement_199 (by decide +kernel) ?_
            refine dg_calli hS hA1 hA (va_runV (As := [.int 1]) (rest := []) F (c_rd_fail l g D o S 1 en n0 f_n0 (by omega) ke f_ke (by omega) (by omega) I H.size) (cwV 1 hts (bw_V wB_30 wB_31 wB_32 wB_24 wB_29) rfl rfl rfl (by decide +kernel) ⟨Nat.le_of_ble_eq_true rfl, Nat.le_of_ble_eq_true rfl⟩) (dg_preV sX_209 rfl K ST hP hS hA1 hA) rfl rfl hl.1 rfl (lv_room (Nat.le_of_ble_eq_true rfl)) dX6_readStatement_200 ⟨Nat.le_of_ble_eq_true rfl, Nat.le_of_ble_eq_true rfl⟩) (fun x_15 S_16 hw_16 H locs hP hS => ?_)
            obtain ⟨I_16, m_16, w_16_0, -⟩ := hw_16
            have M_16 := dg_sm.tr M_0 m_16 (by decide) (by decide)
            have w_16_0 : 0 ≤ (x_15).toInt ∧ (x_15).toInt ≤ 0 := w_16_0
            refine W.widen (k := 0) (n := 0) (Nat.le_of_ble_eq_true rfl) (Nat.le_of_ble_eq_true rfl) ?_
            exact dg_iret hx hb hr hlocks (dk_znar (by omega) (by omega)) hP hS ⟨I_16, M_16, (by omega), ⟨cx, ry, mi, pl, od, n0, sc, ((m_16.1 gd 0 _ (rX_0 gd hk_gd) (by decide)).trans f_cx), ((m_16.1 gd 1 _ (rX_0 gd hk_gd) (by decide)).trans f_ry), ((m_16.1 gd 6 _ (rX_0 gd hk_gd) (by decide)).trans f_mi), ((m_16.1 gd 8 _ (rX_0 gd hk_gd) (by decide)).trans f_pl), ((m_16.1 gd 11 _ (rX_0 gd hk_gd) (by decide)).trans f_od), ((m_16.1 209 4 _ sX_209 (by decide)).trans f_n0), ((m_16.1 209 7 _ sX_209 (by decide)).trans f_sc), by omega, fun q9 => absurd q9 (by omega), (fun _ => by omega), fun _ => by rw [(m_16.2 (gd + 2) _ (rX_2 gd hk_gd) (by decide)).1, hfm, (m_16.2 (gd + 5) _ (rX_5 gd hk_gd) (by decide)).1, hfo, (m_16.2 (gd + 10) _ (rX_10 gd hk_gd) (by decide)).1, hfr, (m_16.2 (gd + 11) _ (rX_11 gd hk_gd) (by decide)).1, hfe]; exact y_ok.no (by omega) (by first | exact y_one_k (by omega) | exact y_one_0 (by have h8 := dk_clN a1; omega) (by omega) | exact y_one_no (by have h8 := dk_clN a1; omega) (by omega))⟩, (Z1X.keep Z1 m_16 (by decide) (by decide) (by decide)), (GOX.keep GO m_16 (by decide) (by decide)), trivial⟩ dX6_readStatement_203
          · refine lv_tableIn (off := 76) (tgt := 140) hx hb dX6_readStatement_64 (by rw [jc_14]; decide) (by rw [jc_14]; decide) (by rw [jc_14]; decide +kernel) (by decide) ?_
            refine lv_aload_n hx hb dX6_readStatement_140 rfl (lv_at hl 0 rfl) ?_
            refine dg_calli hS hA1 hA (va_runV (As := []) (rest := []) F (c_rd_readSeam l g D o S en kd vl S0 d0 gd hk_gd f_gd n0 f_n0 (by omega) ke f_ke (by omega) (by omega) hkd hvl (by omega) hd0 Z1 GO I H.size) (cwV 0 hts (bw_V wB_222 wB_223 wB_224 wB_24 wB_221) rfl rfl rfl (by decide +kernel) ⟨Nat.le_of_ble_eq_true rfl, Nat.le_of_ble_eq_true rfl⟩) (dg_preV sX_209 rfl K ST hP hS hA1 hA) rfl rfl hl.1 rfl (lv_room (Nat.le_of_ble_eq_true rfl)) dX6_readStatement_141 ⟨Nat.le_of_ble_eq_true rfl, Nat.le_of_ble_eq_true rfl⟩) (fun x_17 S_18 hw_18 H locs hP hS => ?_)
            obtain ⟨I_18, m_18, w_18_0, w_18_1, w_18_2, w_18_3, w_18_4, w_18_5, -⟩ := hw_18
            have M_18 := dg_sm.tr M_0 m_18 (by decide) (by decide)
            have w_18_0 : 0 ≤ (x_17).toInt ∧ (x_17).toInt ≤ 1 := w_18_0
            obtain ⟨y_19, f_y_19, w_18_1⟩ := w_18_1
            have w_18_1 : (x_17).toInt = 1 → (y_19).toInt = (vl ((n0 : Int32).toNatClampNeg + 1)).toInt := w_18_1
            have b_y_19 : 0 ≤ (y_19).toInt ∧ (y_19).toInt ≤ 7 := dg_I.intb (lo := 0) (hi := 7) I_18 (rX_0 gd hk_gd) (by decide +kernel) f_y_19
            obtain ⟨y_20, f_y_20, w_18_2⟩ := w_18_2
            have w_18_2 : (x_17).toInt = 1 → (y_20).toInt = (vl ((n0 : Int32).toNatClampNeg + 3)).toInt := w_18_2
            have b_y_20 : 0 ≤ (y_20).toInt ∧ (y_20).toInt ≤ 7 := dg_I.intb (lo := 0) (hi := 7) I_18 (rX_0 gd hk_gd) (by decide +kernel) f_y_20
            obtain ⟨y_21, f_y_21, w_18_3⟩ := w_18_3
            have w_18_3 : (y_21).toInt ≤ (en).toInt ∧ g_ans x_17 ((y_num kd vl 3 7 ((n0 : Int32).toNatClampNeg + 1)).bind fun k2 => (y_own kd vl 1 k2).bind (y_num kd vl 3 7)) (y_21 : Int32).toNatClampNeg := w_18_3
            have b_y_21 : 0 ≤ (y_21).toInt ∧ (y_21).toInt ≤ 1600 := dg_I.intb (lo := 0) (hi := 1600) I_18 sX_209 (by decide +kernel) f_y_21
            refine W.widen (k := 0) (n := 0) (Nat.le_of_ble_eq_true rfl) (Nat.le_of_ble_eq_true rfl) ?_
            exact dg_iret hx hb hr hlocks (dk_znar (by omega) (by omega)) hP hS ⟨I_18, M_18, (by omega), (by exfalso; omega), w_18_4, w_18_5, trivial⟩ dX6_readStatement_144
          · refine lv_tableIn (off := 134) (tgt := 198) hx hb dX6_readStatement_64 (by rw [jc_14]; decide) (by rw [jc_14]; decide) (by rw [jc_14]; decide +kernel) (by decide) ?_
            refine lv_aload_n hx hb dX6_readStatement_198 rfl (lv_at hl 0 rfl) ?_
            refine lv_iconst (v := 1) hx hb dX6_readStatement_199 (by decide +kernel) ?_
            refine dg_calli hS hA1 hA (va_runV (As := [.int 1]) (rest := []) F (c_rd_fail l g D o S 1 en n0 f_n0 (by omega) ke f_ke (by omega) (by omega) I H.size) (cwV 1 hts (bw_V wB_30 wB_31 wB_32 wB_24 wB_29) rfl rfl rfl (by decide +kernel) ⟨Nat.le_of_ble_eq_true rfl, Nat.le_of_ble_eq_true rfl⟩) (dg_preV sX_209 rfl K ST hP hS hA1 hA) rfl rfl hl.1 rfl (lv_room (Nat.le_of_ble_eq_true rfl)) dX6_readStatement_200 ⟨Nat.le_of_ble_eq_true rfl, Nat.le_of_ble_eq_true rfl⟩) (fun x_22 S_23 hw_23 H locs hP hS => ?_)
            obtain ⟨I_23, m_23, w_23_0, -⟩ := hw_23
            have M_23 := dg_sm.tr M_0 m_23 (by decide) (by decide)
            have w_23_0 : 0 ≤ (x_22).toInt ∧ (x_22).toInt ≤ 0 := w_23_0
            refine W.widen (k := 0) (n := 0) (Nat.le_of_ble_eq_true rfl) (Nat.le_of_ble_eq_true rfl) ?_
            exact dg_iret hx hb hr hlocks (dk_znar (by omega) (by omega)) hP hS ⟨I_23, M_23, (by omega), ⟨cx, ry, mi, pl, od, n0, sc, ((m_23.1 gd 0 _ (rX_0 gd hk_gd) (by decide)).trans f_cx), ((m_23.1 gd 1 _ (rX_0 gd hk_gd) (by decide)).trans f_ry), ((m_23.1 gd 6 _ (rX_0 gd hk_gd) (by decide)).trans f_mi), ((m_23.1 gd 8 _ (rX_0 gd hk_gd) (by decide)).trans f_pl), ((m_23.1 gd 11 _ (rX_0 gd hk_gd) (by decide)).trans f_od), ((m_23.1 209 4 _ sX_209 (by decide)).trans f_n0), ((m_23.1 209 7 _ sX_209 (by decide)).trans f_sc), by omega, fun q9 => absurd q9 (by omega), (fun _ => by omega), fun _ => by rw [(m_23.2 (gd + 2) _ (rX_2 gd hk_gd) (by decide)).1, hfm, (m_23.2 (gd + 5) _ (rX_5 gd hk_gd) (by decide)).1, hfo, (m_23.2 (gd + 10) _ (rX_10 gd hk_gd) (by decide)).1, hfr, (m_23.2 (gd + 11) _ (rX_11 gd hk_gd) (by decide)).1, hfe]; exact y_ok.no (by omega) (by first | exact y_one_k (by omega) | exact y_one_0 (by have h8 := dk_clN a1; omega) (by omega) | exact y_one_no (by have h8 := dk_clN a1; omega) (by omega))⟩, (Z1X.keep Z1 m_23 (by decide) (by decide) (by decide)), (GOX.keep GO m_23 (by decide) (by decide)), trivial⟩ dX6_readStatement_203
          · refine lv_tableIn (off := 81) (tgt := 145) hx hb dX6_readStatement_64 (by rw [jc_14]; decide) (by rw [jc_14]; decide) (by rw [jc_14]; decide +kernel) (by decide) ?_
            refine lv_aload_n hx hb dX6_readStatement_145 rfl (lv_at hl 0 rfl) ?_
            refine dg_calli hS hA1 hA (va_runV (As := []) (rest := []) F (c_rd_readShaft l g D o S en kd vl S0 d0 gd hk_gd f_gd n0 f_n0 (by omega) cx f_cx (by omega) ry f_ry (by omega) ke f_ke (by omega) (by omega) hkd hvl (by omega) hd0 Z1 GO I H.size) (cwV 0 hts (bw_V wB_226 wB_227 wB_228 wB_24 wB_225) rfl rfl rfl (by decide +kernel) ⟨Nat.le_of_ble_eq_true rfl, Nat.le_of_ble_eq_true rfl⟩) (dg_preV sX_209 rfl K ST hP hS hA1 hA) rfl rfl hl.1 rfl (lv_room (Nat.le_of_ble_eq_true rfl)) dX6_readStatement_146 ⟨Nat.le_of_ble_eq_true rfl, Nat.le_of_ble_eq_true rfl⟩) (fun x_24 S_25 hw_25 H locs hP hS => ?_)
            obtain ⟨I_25, m_25, w_25_0, w_25_1, w_25_2, w_25_3, -⟩ := hw_25
            have M_25 := dg_sm.tr M_0 m_25 (by decide) (by decide)
            have w_25_0 : 0 ≤ (x_24).toInt ∧ (x_24).toInt ≤ 1 := w_25_0
            obtain ⟨y_26, f_y_26, w_25_1⟩ := w_25_1
            have w_25_1 : (y_26).toInt ≤ (en).toInt ∧ g_ans x_24 (y_num kd vl 0 ((cx).toInt - 1) ((n0 : Int32).toNatClampNeg + 1)) (y_26 : Int32).toNatClampNeg := w_25_1
            have b_y_26 : 0 ≤ (y_26).toInt ∧ (y_26).toInt ≤ 1600 := dg_I.intb (lo := 0) (hi := 1600) I_25 sX_209 (by decide +kernel) f_y_26
            have hL9 : y_ok x_24 (y_one kd vl (a1 : Int32).toNatClampNeg (y_gx cx ry fm mi pl fo od fr fe) (n0 : Int32).toNatClampNeg) (y_gx cx ry (S_25.2.1 (gd + 2)) mi pl (S_25.2.1 (gd + 5)) od (S_25.2.1 (gd + 10)) (S_25.2.1 (gd + 11))) (n0 : Int32).toNatClampNeg (y_26 : Int32).toNatClampNeg := by rw [(m_25.2 (gd + 2) _ (rX_2 gd hk_gd) (by decide)).1, hfm, (m_25.2 (gd + 5) _ (rX_5 gd hk_gd) (by decide)).1, hfo, (m_25.2 (gd + 10) _ (rX_10 gd hk_gd) (by decide)).1, hfr, (m_25.2 (gd + 11) _ (rX_11 gd hk_gd) (by decide)).1, hfe]; exact y_ok_2 (by have h8 := dk_clN a1; omega) (by omega) (by omega) w_25_1.2
            refine W.widen (k := 0) (n := 0) (Nat.le_of_ble_eq_true rfl) (Nat.le_of_ble_eq_true rfl) ?_
            exact dg_iret hx hb hr hlocks (dk_znar (by omega) (by omega)) hP hS ⟨I_25, M_25, (by omega), ⟨cx, ry, mi, pl, od, y_26, sc, ((m_25.1 gd 0 _ (rX_0 gd hk_gd) (by decide)).trans f_cx), ((m_25.1 gd 1 _ (rX_0 gd hk_gd) (by decide)).trans f_ry), ((m_25.1 gd 6 _ (rX_0 gd hk_gd) (by decide)).trans f_mi), ((m_25.1 gd 8 _ (rX_0 gd hk_gd) (by decide)).trans f_pl), ((m_25.1 gd 11 _ (rX_0 gd hk_gd) (by decide)).trans f_od), f_y_26, ((m_25.1 209 7 _ sX_209 (by decide)).trans f_sc), by omega, fun q9 => (by have h7 := (hL9.1 q9).2; have h8 := dk_clN y_26; have h9 := dk_clN n0; omega), (fun q9 => absurd q9 (by omega)), fun _ => hL9⟩, w_25_2, w_25_3, trivial⟩ dX6_readStatement_149
          · refine lv_tableIn (off := 86) (tgt := 150) hx hb dX6_readStatement_64 (by rw [jc_14]; decide) (by rw [jc_14]; decide) (by rw [jc_14]; decide +kernel) (by decide) ?_
            refine lv_aload_n hx hb dX6_readStatement_150 rfl (lv_at hl 0 rfl) ?_
            refine dg_calli hS hA1 hA (va_runV (As := []) (rest := []) F (c_rd_readReach l g D o S en kd vl S0 d0 gd hk_gd f_gd n0 f_n0 (by omega) ke f_ke (by omega) (by omega) hkd hvl (by omega) hd0 GO I H.size) (cwV 0 hts (bw_V wB_230 wB_231 wB_232 wB_24 wB_229) rfl rfl rfl (by decide +kernel) ⟨Nat.le_of_ble_eq_true rfl, Nat.le_of_ble_eq_true rfl⟩) (dg_preV sX_209 rfl K ST hP hS hA1 hA) rfl rfl hl.1 rfl (lv_room (Nat.le_of_ble_eq_true rfl)) dX6_readStatement_151 ⟨Nat.le_of_ble_eq_true rfl, Nat.le_of_ble_eq_true rfl⟩) (fun x_27 S_28 hw_28 H locs hP hS => ?_)
            obtain ⟨I_28, m_28, w_28_0, w_28_1, w_28_2, -⟩ := hw_28
            have M_28 := dg_sm.tr M_0 m_28 (by decide) (by decide)
            have w_28_0 : 0 ≤ (x_27).toInt ∧ (x_27).toInt ≤ 1 := w_28_0
            obtain ⟨y_29, f_y_29, w_28_1⟩ := w_28_1
            have w_28_1 : (y_29).toInt ≤ (en).toInt ∧ g_ans x_27 (y_num kd vl 0 20 ((n0 : Int32).toNatClampNeg + 1)) (y_29 : Int32).toNatClampNeg := w_28_1
            have b_y_29 : 0 ≤ (y_29).toInt ∧ (y_29).toInt ≤ 1600 := dg_I.intb (lo := 0) (hi := 1600) I_28 sX_209 (by decide +kernel) f_y_29
            have hL9 : y_ok x_27 (y_one kd vl (a1 : Int32).toNatClampNeg (y_gx cx ry fm mi pl fo od fr fe) (n0 : Int32).toNatClampNeg) (y_gx cx ry (S_28.2.1 (gd + 2)) mi pl (S_28.2.1 (gd + 5)) od (S_28.2.1 (gd + 10)) (S_28.2.1 (gd + 11))) (n0 : Int32).toNatClampNeg (y_29 : Int32).toNatClampNeg := by rw [(m_28.2 (gd + 2) _ (rX_2 gd hk_gd) (by decide)).1, hfm, (m_28.2 (gd + 5) _ (rX_5 gd hk_gd) (by decide)).1, hfo, (m_28.2 (gd + 10) _ (rX_10 gd hk_gd) (by decide)).1, hfr, (m_28.2 (gd + 11) _ (rX_11 gd hk_gd) (by decide)).1, hfe]; exact y_ok_3 (by have h8 := dk_clN a1; omega) (by omega) (by omega) w_28_1.2
            refine W.widen (k := 0) (n := 0) (Nat.le_of_ble_eq_true rfl) (Nat.le_of_ble_eq_true rfl) ?_
            exact dg_iret hx hb hr hlocks (dk_znar (by omega) (by omega)) hP hS ⟨I_28, M_28, (by omega), ⟨cx, ry, mi, pl, od, y_29, sc, ((m_28.1 gd 0 _ (rX_0 gd hk_gd) (by decide)).trans f_cx), ((m_28.1 gd 1 _ (rX_0 gd hk_gd) (by decide)).trans f_ry), ((m_28.1 gd 6 _ (rX_0 gd hk_gd) (by decide)).trans f_mi), ((m_28.1 gd 8 _ (rX_0 gd hk_gd) (by decide)).trans f_pl), ((m_28.1 gd 11 _ (rX_0 gd hk_gd) (by decide)).trans f_od), f_y_29, ((m_28.1 209 7 _ sX_209 (by decide)).trans f_sc), by omega, fun q9 => (by have h7 := (hL9.1 q9).2; have h8 := dk_clN y_29; have h9 := dk_clN n0; omega), (fun q9 => absurd q9 (by omega)), fun _ => hL9⟩, (Z1X.keep Z1 m_28 (by decide) (by decide) (by decide)), w_28_2, trivial⟩ dX6_readStatement_154
          · refine lv_tableIn (off := 91) (tgt := 155) hx hb dX6_readStatement_64 (by rw [jc_14]; decide) (by rw [jc_14]; decide) (by rw [jc_14]; decide +kernel) (by decide) ?_
            refine lv_aload_n hx hb dX6_readStatement_155 rfl (lv_at hl 0 rfl) ?_
            refine dg_calli hS hA1 hA (va_runV (As := []) (rest := []) F (c_rd_readQuake l g D o S en kd vl S0 d0 gd hk_gd f_gd n0 f_n0 (by omega) ke f_ke (by omega) (by omega) hkd hvl (by omega) hd0 GO I H.size) (cwV 0 hts (bw_V wB_234 wB_235 wB_236 wB_24 wB_233) rfl rfl rfl (by decide +kernel) ⟨Nat.le_of_ble_eq_true rfl, Nat.le_of_ble_eq_true rfl⟩) (dg_preV sX_209 rfl K ST hP hS hA1 hA) rfl rfl hl.1 rfl (lv_room (Nat.le_of_ble_eq_true rfl)) dX6_readStatement_156 ⟨Nat.le_of_ble_eq_true rfl, Nat.le_of_ble_eq_true rfl⟩) (fun x_30 S_31 hw_31 H locs hP hS => ?_)
            obtain ⟨I_31, m_31, w_31_0, w_31_1, w_31_2, -⟩ := hw_31
            have M_31 := dg_sm.tr M_0 m_31 (by decide) (by decide)
            have w_31_0 : 0 ≤ (x_30).toInt ∧ (x_30).toInt ≤ 1 := w_31_0
            obtain ⟨y_32, f_y_32, w_31_1⟩ := w_31_1
            have w_31_1 : (y_32).toInt ≤ (en).toInt ∧ g_ans x_30 (y_num kd vl 0 100 ((n0 : Int32).toNatClampNeg + 1)) (y_32 : Int32).toNatClampNeg := w_31_1
            have b_y_32 : 0 ≤ (y_32).toInt ∧ (y_32).toInt ≤ 1600 := dg_I.intb (lo := 0) (hi := 1600) I_31 sX_209 (by decide +kernel) f_y_32
            have hL9 : y_ok x_30 (y_one kd vl (a1 : Int32).toNatClampNeg (y_gx cx ry fm mi pl fo od fr fe) (n0 : Int32).toNatClampNeg) (y_gx cx ry (S_31.2.1 (gd + 2)) mi pl (S_31.2.1 (gd + 5)) od (S_31.2.1 (gd + 10)) (S_31.2.1 (gd + 11))) (n0 : Int32).toNatClampNeg (y_32 : Int32).toNatClampNeg := by rw [(m_31.2 (gd + 2) _ (rX_2 gd hk_gd) (by decide)).1, hfm, (m_31.2 (gd + 5) _ (rX_5 gd hk_gd) (by decide)).1, hfo, (m_31.2 (gd + 10) _ (rX_10 gd hk_gd) (by decide)).1, hfr, (m_31.2 (gd + 11) _ (rX_11 gd hk_gd) (by decide)).1, hfe]; exact y_ok_4 (by have h8 := dk_clN a1; omega) (by omega) (by omega) w_31_1.2
            refine W.widen (k := 0) (n := 0) (Nat.le_of_ble_eq_true rfl) (Nat.le_of_ble_eq_true rfl) ?_
            exact dg_iret hx hb hr hlocks (dk_znar (by omega) (by omega)) hP hS ⟨I_31, M_31, (by omega), ⟨cx, ry, mi, pl, od, y_32, sc, ((m_31.1 gd 0 _ (rX_0 gd hk_gd) (by decide)).trans f_cx), ((m_31.1 gd 1 _ (rX_0 gd hk_gd) (by decide)).trans f_ry), ((m_31.1 gd 6 _ (rX_0 gd hk_gd) (by decide)).trans f_mi), ((m_31.1 gd 8 _ (rX_0 gd hk_gd) (by decide)).trans f_pl), ((m_31.1 gd 11 _ (rX_0 gd hk_gd) (by decide)).trans f_od), f_y_32, ((m_31.1 209 7 _ sX_209 (by decide)).trans f_sc), by omega, fun q9 => (by have h7 := (hL9.1 q9).2; have h8 := dk_clN y_32; have h9 := dk_clN n0; omega), (fun q9 => absurd q9 (by omega)), fun _ => hL9⟩, (Z1X.keep Z1 m_31 (by decide) (by decide) (by decide)), w_31_2, trivial⟩ dX6_readStatement_159
          · refine lv_tableIn (off := 96) (tgt := 160) hx hb dX6_readStatement_64 (by rw [jc_14]; decide) (by rw [jc_14]; decide) (by rw [jc_14]; decide +kernel) (by decide) ?_
            refine lv_aload_n hx hb dX6_readStatement_160 rfl (lv_at hl 0 rfl) ?_
            refine dg_calli hS hA1 hA (va_runV (As := []) (rest := []) F (c_rd_readGrade l g D o S en kd vl S0 d0 gd hk_gd f_gd n0 f_n0 (by omega) cx f_cx (by omega) ry f_ry (by omega) ke f_ke (by omega) (by omega) hkd hvl (by omega) hd0 GO I H.size) (cwV 0 hts (bw_V wB_238 wB_239 wB_240 wB_24 wB_237) rfl rfl rfl (by decide +kernel) ⟨Nat.le_of_ble_eq_true rfl, Nat.le_of_ble_eq_true rfl⟩) (dg_preV sX_209 rfl K ST hP hS hA1 hA) rfl rfl hl.1 rfl (lv_room (Nat.le_of_ble_eq_true rfl)) dX6_readStatement_161 ⟨Nat.le_of_ble_eq_true rfl, Nat.le_of_ble_eq_true rfl⟩) (fun x_33 S_34 hw_34 H locs hP hS => ?_)
            obtain ⟨I_34, m_34, w_34_0, w_34_1, w_34_2, -⟩ := hw_34
            have M_34 := dg_sm.tr M_0 m_34 (by decide) (by decide)
            have w_34_0 : 0 ≤ (x_33).toInt ∧ (x_33).toInt ≤ 1 := w_34_0
            obtain ⟨y_35, f_y_35, w_34_1⟩ := w_34_1
            have w_34_1 : (y_35).toInt ≤ (en).toInt ∧ g_ans x_33 ((y_cell kd vl ((cx).toInt, (ry).toInt) ((n0 : Int32).toNatClampNeg + 1)).bind (y_num kd vl 0 9)) (y_35 : Int32).toNatClampNeg := w_34_1
            have b_y_35 : 0 ≤ (y_35).toInt ∧ (y_35).toInt ≤ 1600 := dg_I.intb (lo := 0) (hi := 1600) I_34 sX_209 (by decide +kernel) f_y_35
            have hL9 : y_ok x_33 (y_one kd vl (a1 : Int32).toNatClampNeg (y_gx cx ry fm mi pl fo od fr fe) (n0 : Int32).toNatClampNeg) (y_gx cx ry (S_34.2.1 (gd + 2)) mi pl (S_34.2.1 (gd + 5)) od (S_34.2.1 (gd + 10)) (S_34.2.1 (gd + 11))) (n0 : Int32).toNatClampNeg (y_35 : Int32).toNatClampNeg := by rw [(m_34.2 (gd + 2) _ (rX_2 gd hk_gd) (by decide)).1, hfm, (m_34.2 (gd + 5) _ (rX_5 gd hk_gd) (by decide)).1, hfo, (m_34.2 (gd + 10) _ (rX_10 gd hk_gd) (by decide)).1, hfr, (m_34.2 (gd + 11) _ (rX_11 gd hk_gd) (by decide)).1, hfe]; exact y_ok_5 (by have h8 := dk_clN a1; omega) (by omega) (by omega) w_34_1.2
            refine W.widen (k := 0) (n := 0) (Nat.le_of_ble_eq_true rfl) (Nat.le_of_ble_eq_true rfl) ?_
            exact dg_iret hx hb hr hlocks (dk_znar (by omega) (by omega)) hP hS ⟨I_34, M_34, (by omega), ⟨cx, ry, mi, pl, od, y_35, sc, ((m_34.1 gd 0 _ (rX_0 gd hk_gd) (by decide)).trans f_cx), ((m_34.1 gd 1 _ (rX_0 gd hk_gd) (by decide)).trans f_ry), ((m_34.1 gd 6 _ (rX_0 gd hk_gd) (by decide)).trans f_mi), ((m_34.1 gd 8 _ (rX_0 gd hk_gd) (by decide)).trans f_pl), ((m_34.1 gd 11 _ (rX_0 gd hk_gd) (by decide)).trans f_od), f_y_35, ((m_34.1 209 7 _ sX_209 (by decide)).trans f_sc), by omega, fun q9 => (by have h7 := (hL9.1 q9).2; have h8 := dk_clN y_35; have h9 := dk_clN n0; omega), (fun q9 => absurd q9 (by omega)), fun _ => hL9⟩, (Z1X.keep Z1 m_34 (by decide) (by decide) (by decide)), w_34_2, trivial⟩ dX6_readStatement_164
          · refine lv_tableIn (off := 101) (tgt := 165) hx hb dX6_readStatement_64 (by rw [jc_14]; decide) (by rw [jc_14]; decide) (by rw [jc_14]; decide +kernel) (by decide) ?_
            refine lv_aload_n hx hb dX6_readStatement_165 rfl (lv_at hl 0 rfl) ?_
            refine dg_calli hS hA1 hA (va_runV (As := []) (rest := []) F (c_rd_readMiner l g D o S en kd vl fm fo S0 d0 gd hk_gd f_gd n0 f_n0 (by omega) mi f_mi (by omega) od f_od (by omega) ke f_ke (by omega) (by omega) hkd hvl (by omega) hfm hfo hd0 GO I H.size) (cwV 0 hts (bw_V wB_242 wB_243 wB_244 wB_24 wB_241) rfl rfl rfl (by decide +kernel) ⟨Nat.le_of_ble_eq_true rfl, Nat.le_of_ble_eq_true rfl⟩) (dg_preV sX_209 rfl K ST hP hS hA1 hA) rfl rfl hl.1 rfl (lv_room (Nat.le_of_ble_eq_true rfl)) dX6_readStatement_166 ⟨Nat.le_of_ble_eq_true rfl, Nat.le_of_ble_eq_true rfl⟩) (fun x_36 S_37 hw_37 H locs hP hS => ?_)
            obtain ⟨I_37, m_37, w_37_0, w_37_1, w_37_2, w_37_3, w_37_4, -⟩ := hw_37
            have M_37 := dg_sm.tr M_0 m_37 (by decide) (by decide)
            have w_37_0 : 0 ≤ (x_36).toInt ∧ (x_36).toInt ≤ 1 := w_37_0
            obtain ⟨y_38, f_y_38, w_37_1⟩ := w_37_1
            have w_37_1 : (x_36).toInt = 1 → (y_38).toInt = (mi).toInt + 1 := w_37_1
            have b_y_38 : 0 ≤ (y_38).toInt ∧ (y_38).toInt ≤ 6 := dg_I.intb (lo := 0) (hi := 6) I_37 (rX_0 gd hk_gd) (by decide +kernel) f_y_38
            replace w_37_2 : (x_36).toInt = 1 → ∃ v9 : Int32, v9.toInt = (vl ((n0 : Int32).toNatClampNeg + 1)).toInt ∧ S_37.2.1 (gd + 2) = upd fm (mi : Int32).toNatClampNeg v9 := w_37_2
            obtain ⟨y_39, f_y_39, w_37_3⟩ := w_37_3
            have w_37_3 : (y_39).toInt ≤ (en).toInt ∧ g_ans x_36 (if (mi).toInt = 6 then none else y_new kd vl (y_nm fm (mi : Int32).toNatClampNeg) (y_nm fo (od : Int32).toNatClampNeg) ((n0 : Int32).toNatClampNeg + 1)) (y_39 : Int32).toNatClampNeg := w_37_3
            have b_y_39 : 0 ≤ (y_39).toInt ∧ (y_39).toInt ≤ 1600 := dg_I.intb (lo := 0) (hi := 1600) I_37 sX_209 (by decide +kernel) f_y_39
            have hL9 : y_ok x_36 (y_one kd vl (a1 : Int32).toNatClampNeg (y_gx cx ry fm mi pl fo od fr fe) (n0 : Int32).toNatClampNeg) (y_gx cx ry (S_37.2.1 (gd + 2)) y_38 pl (S_37.2.1 (gd + 5)) od (S_37.2.1 (gd + 10)) (S_37.2.1 (gd + 11))) (n0 : Int32).toNatClampNeg (y_39 : Int32).toNatClampNeg := by rw [(m_37.2 (gd + 5) _ (rX_5 gd hk_gd) (by decide)).1, hfo, (m_37.2 (gd + 10) _ (rX_10 gd hk_gd) (by decide)).1, hfr, (m_37.2 (gd + 11) _ (rX_11 gd hk_gd) (by decide)).1, hfe]; exact y_ok_6 (by clear w_37_2; have h8 := dk_clN a1; omega) (by clear w_37_2; omega) (by clear w_37_2; omega) (by clear w_37_2; omega) w_37_3.2 w_37_1 w_37_2
            refine W.widen (k := 0) (n := 0) (Nat.le_of_ble_eq_true rfl) (Nat.le_of_ble_eq_true rfl) ?_
            exact dg_iret hx hb hr hlocks (dk_znar (by omega) (by omega)) hP hS ⟨I_37, M_37, (by omega), ⟨cx, ry, y_38, pl, od, y_39, sc, ((m_37.1 gd 0 _ (rX_0 gd hk_gd) (by decide)).trans f_cx), ((m_37.1 gd 1 _ (rX_0 gd hk_gd) (by decide)).trans f_ry), f_y_38, ((m_37.1 gd 8 _ (rX_0 gd hk_gd) (by decide)).trans f_pl), ((m_37.1 gd 11 _ (rX_0 gd hk_gd) (by decide)).trans f_od), f_y_39, ((m_37.1 209 7 _ sX_209 (by decide)).trans f_sc), by omega, fun q9 => (by have h7 := (hL9.1 q9).2; have h8 := dk_clN y_39; have h9 := dk_clN n0; omega), (fun q9 => absurd q9 (by omega)), fun _ => hL9⟩, (Z1X.keep Z1 m_37 (by decide) (by decide) (by decide)), w_37_4, trivial⟩ dX6_readStatement_169
          · refine lv_tableIn (off := 106) (tgt := 170) hx hb dX6_readStatement_64 (by rw [jc_14]; decide) (by rw [jc_14]; decide) (by rw [jc_14]; decide +kernel) (by decide) ?_
            refine lv_aload_n hx hb dX6_readStatement_170 rfl (lv_at hl 0 rfl) ?_
            refine dg_calli hS hA1 hA (va_runV (As := []) (rest := []) F (c_rd_readDig l g D o S en kd vl fm S0 d0 gd hk_gd f_gd n0 f_n0 (by omega) cx f_cx (by omega) ry f_ry (by omega) mi f_mi (by omega) pl f_pl (by omega) ke f_ke (by omega) (by omega) hkd hvl (by omega) hfm hd0 GO I H.size) (cwV 0 hts (bw_V wB_246 wB_247 wB_248 wB_24 wB_245) rfl rfl rfl (by decide +kernel) ⟨Nat.le_of_ble_eq_true rfl, Nat.le_of_ble_eq_true rfl⟩) (dg_preV sX_209 rfl K ST hP hS hA1 hA) rfl rfl hl.1 rfl (lv_room (Nat.le_of_ble_eq_true rfl)) dX6_readStatement_171 ⟨Nat.le_of_ble_eq_true rfl, Nat.le_of_ble_eq_true rfl⟩) (fun x_40 S_41 hw_41 H locs hP hS => ?_)
            obtain ⟨I_41, m_41, w_41_0, w_41_1, w_41_2, w_41_3, -⟩ := hw_41
            have M_41 := dg_sm.tr M_0 m_41 (by decide) (by decide)
            have w_41_0 : 0 ≤ (x_40).toInt ∧ (x_40).toInt ≤ 1 := w_41_0
            obtain ⟨y_42, f_y_42, w_41_1⟩ := w_41_1
            have w_41_1 : (x_40).toInt = 1 → (y_42).toInt = (pl).toInt + 1 := w_41_1
            have b_y_42 : 0 ≤ (y_42).toInt ∧ (y_42).toInt ≤ 16 := dg_I.intb (lo := 0) (hi := 16) I_41 (rX_0 gd hk_gd) (by decide +kernel) f_y_42
            obtain ⟨y_43, f_y_43, w_41_2⟩ := w_41_2
            have w_41_2 : (y_43).toInt ≤ (en).toInt ∧ g_ans x_40 (if (pl).toInt = 16 then none else ((y_old kd vl (y_nm fm (mi : Int32).toNatClampNeg) ((n0 : Int32).toNatClampNeg + 1)).bind fun k1 => (y_own kd vl 8 k1).bind (y_cell kd vl ((cx).toInt, (ry).toInt)))) (y_43 : Int32).toNatClampNeg := w_41_2
            have b_y_43 : 0 ≤ (y_43).toInt ∧ (y_43).toInt ≤ 1600 := dg_I.intb (lo := 0) (hi := 1600) I_41 sX_209 (by decide +kernel) f_y_43
            have hL9 : y_ok x_40 (y_one kd vl (a1 : Int32).toNatClampNeg (y_gx cx ry fm mi pl fo od fr fe) (n0 : Int32).toNatClampNeg) (y_gx cx ry (S_41.2.1 (gd + 2)) mi y_42 (S_41.2.1 (gd + 5)) od (S_41.2.1 (gd + 10)) (S_41.2.1 (gd + 11))) (n0 : Int32).toNatClampNeg (y_43 : Int32).toNatClampNeg := by rw [(m_41.2 (gd + 2) _ (rX_2 gd hk_gd) (by decide)).1, hfm, (m_41.2 (gd + 5) _ (rX_5 gd hk_gd) (by decide)).1, hfo, (m_41.2 (gd + 10) _ (rX_10 gd hk_gd) (by decide)).1, hfr, (m_41.2 (gd + 11) _ (rX_11 gd hk_gd) (by decide)).1, hfe]; exact y_ok_7 (by have h8 := dk_clN a1; omega) (by omega) (by omega) (by omega) w_41_2.2 w_41_1
            refine W.widen (k := 0) (n := 0) (Nat.le_of_ble_eq_true rfl) (Nat.le_of_ble_eq_true rfl) ?_
            exact dg_iret hx hb hr hlocks (dk_znar (by omega) (by omega)) hP hS ⟨I_41, M_41, (by omega), ⟨cx, ry, mi, y_42, od, y_43, sc, ((m_41.1 gd 0 _ (rX_0 gd hk_gd) (by decide)).trans f_cx), ((m_41.1 gd 1 _ (rX_0 gd hk_gd) (by decide)).trans f_ry), ((m_41.1 gd 6 _ (rX_0 gd hk_gd) (by decide)).trans f_mi), f_y_42, ((m_41.1 gd 11 _ (rX_0 gd hk_gd) (by decide)).trans f_od), f_y_43, ((m_41.1 209 7 _ sX_209 (by decide)).trans f_sc), by omega, fun q9 => (by have h7 := (hL9.1 q9).2; have h8 := dk_clN y_43; have h9 := dk_clN n0; omega), (fun q9 => absurd q9 (by omega)), fun _ => hL9⟩, (Z1X.keep Z1 m_41 (by decide) (by decide) (by decide)), w_41_3, trivial⟩ dX6_readStatement_174
          · refine lv_tableIn (off := 134) (tgt := 198) hx hb dX6_readStatement_64 (by rw [jc_14]; decide) (by rw [jc_14]; decide) (by rw [jc_14]; decide +kernel) (by decide) ?_
            refine lv_aload_n hx hb dX6_readStatement_198 rfl (lv_at hl 0 rfl) ?_
            refine lv_iconst (v := 1) hx hb dX6_readStatement_199 (by decide +kernel) ?_
            refine dg_calli hS hA1 hA (va_runV (As := [.int 1]) (rest := []) F (c_rd_fail l g D o S 1 en n0 f_n0 (by omega) ke f_ke (by omega) (by omega) I H.size) (cwV 1 hts (bw_V wB_30 wB_31 wB_32 wB_24 wB_29) rfl rfl rfl (by decide +kernel) ⟨Nat.le_of_ble_eq_true rfl, Nat.le_of_ble_eq_true rfl⟩) (dg_preV sX_209 rfl K ST hP hS hA1 hA) rfl rfl hl.1 rfl (lv_room (Nat.le_of_ble_eq_true rfl)) dX6_readStatement_200 ⟨Nat.le_of_ble_eq_true rfl, Nat.le_of_ble_eq_true rfl⟩) (fun x_44 S_45 hw_45 H locs hP hS => ?_)
            obtain ⟨I_45, m_45, w_45_0, -⟩ := hw_45
            have M_45 := dg_sm.tr M_0 m_45 (by decide) (by decide)
            have w_45_0 : 0 ≤ (x_44).toInt ∧ (x_44).toInt ≤ 0 := w_45_0
            refine W.widen (k := 0) (n := 0) (Nat.le_of_ble_eq_true rfl) (Nat.le_of_ble_eq_true rfl) ?_
            exact dg_iret hx hb hr hlocks (dk_znar (by omega) (by omega)) hP hS ⟨I_45, M_45, (by omega), ⟨cx, ry, mi, pl, od, n0, sc, ((m_45.1 gd 0 _ (rX_0 gd hk_gd) (by decide)).trans f_cx), ((m_45.1 gd 1 _ (rX_0 gd hk_gd) (by decide)).trans f_ry), ((m_45.1 gd 6 _ (rX_0 gd hk_gd) (by decide)).trans f_mi), ((m_45.1 gd 8 _ (rX_0 gd hk_gd) (by decide)).trans f_pl), ((m_45.1 gd 11 _ (rX_0 gd hk_gd) (by decide)).trans f_od), ((m_45.1 209 4 _ sX_209 (by decide)).trans f_n0), ((m_45.1 209 7 _ sX_209 (by decide)).trans f_sc), by omega, fun q9 => absurd q9 (by omega), (fun _ => by omega), fun _ => by rw [(m_45.2 (gd + 2) _ (rX_2 gd hk_gd) (by decide)).1, hfm, (m_45.2 (gd + 5) _ (rX_5 gd hk_gd) (by decide)).1, hfo, (m_45.2 (gd + 10) _ (rX_10 gd hk_gd) (by decide)).1, hfr, (m_45.2 (gd + 11) _ (rX_11 gd hk_gd) (by decide)).1, hfe]; exact y_ok.no (by omega) (by first | exact y_one_k (by omega) | exact y_one_0 (by have h8 := dk_clN a1; omega) (by omega) | exact y_one_no (by have h8 := dk_clN a1; omega) (by omega))⟩, (Z1X.keep Z1 m_45 (by decide) (by decide) (by decide)), (GOX.keep GO m_45 (by decide) (by decide)), trivial⟩ dX6_readStatement_203
          · refine lv_tableIn (off := 111) (tgt := 175) hx hb dX6_readStatement_64 (by rw [jc_14]; decide) (by rw [jc_14]; decide) (by rw [jc_14]; decide +kernel) (by decide) ?_
            refine lv_aload_n hx hb dX6_readStatement_175 rfl (lv_at hl 0 rfl) ?_
            refine dg_calli hS hA1 hA (va_runV (As := []) (rest := []) F (c_rd_readOrder l g D o S en kd vl fm fo S0 d0 gd hk_gd f_gd n0 f_n0 (by omega) mi f_mi (by omega) od f_od (by omega) ke f_ke (by omega) (by omega) hkd hvl (by omega) hfm hfo hd0 GO I H.size) (cwV 0 hts (bw_V wB_250 wB_251 wB_252 wB_24 wB_249) rfl rfl rfl (by decide +kernel) ⟨Nat.le_of_ble_eq_true rfl, Nat.le_of_ble_eq_true rfl⟩) (dg_preV sX_209 rfl K ST hP hS hA1 hA) rfl rfl hl.1 rfl (lv_room (Nat.le_of_ble_eq_true rfl)) dX6_readStatement_176 ⟨Nat.le_of_ble_eq_true rfl, Nat.le_of_ble_eq_true rfl⟩) (fun x_46 S_47 hw_47 H locs hP hS => ?_)
            obtain ⟨I_47, m_47, w_47_0, w_47_1, w_47_2, w_47_3, w_47_4, -⟩ := hw_47
            have M_47 := dg_sm.tr M_0 m_47 (by decide) (by decide)
            have w_47_0 : 0 ≤ (x_46).toInt ∧ (x_46).toInt ≤ 1 := w_47_0
            obtain ⟨y_48, f_y_48, w_47_1⟩ := w_47_1
            have w_47_1 : (x_46).toInt = 1 → (y_48).toInt = (od).toInt + 1 := w_47_1
            have b_y_48 : 0 ≤ (y_48).toInt ∧ (y_48).toInt ≤ 5 := dg_I.intb (lo := 0) (hi := 5) I_47 (rX_0 gd hk_gd) (by decide +kernel) f_y_48
            replace w_47_2 : (x_46).toInt = 1 → ∃ v9 : Int32, v9.toInt = (vl ((n0 : Int32).toNatClampNeg + 1)).toInt ∧ S_47.2.1 (gd + 5) = upd fo (od : Int32).toNatClampNeg v9 := w_47_2
            obtain ⟨y_49, f_y_49, w_47_3⟩ := w_47_3
            have w_47_3 : (y_49).toInt ≤ (en).toInt ∧ g_ans x_46 (if (od).toInt = 5 then none else ((y_new kd vl (y_nm fm (mi : Int32).toNatClampNeg) (y_nm fo (od : Int32).toNatClampNeg) ((n0 : Int32).toNatClampNeg + 1)).bind fun k1 => (y_own kd vl 5 k1).bind fun k2 => (y_num kd vl 0 9 k2).bind fun k3 => (y_own kd vl 10 k3).bind fun k4 => (y_num kd vl 1 9 k4).bind fun k5 => (y_own kd vl 11 k5).bind (y_num kd vl 0 999))) (y_49 : Int32).toNatClampNeg := w_47_3
            have b_y_49 : 0 ≤ (y_49).toInt ∧ (y_49).toInt ≤ 1600 := dg_I.intb (lo := 0) (hi := 1600) I_47 sX_209 (by decide +kernel) f_y_49
            have hL9 : y_ok x_46 (y_one kd vl (a1 : Int32).toNatClampNeg (y_gx cx ry fm mi pl fo od fr fe) (n0 : Int32).toNatClampNeg) (y_gx cx ry (S_47.2.1 (gd + 2)) mi pl (S_47.2.1 (gd + 5)) y_48 (S_47.2.1 (gd + 10)) (S_47.2.1 (gd + 11))) (n0 : Int32).toNatClampNeg (y_49 : Int32).toNatClampNeg := by rw [(m_47.2 (gd + 2) _ (rX_2 gd hk_gd) (by decide)).1, hfm, (m_47.2 (gd + 10) _ (rX_10 gd hk_gd) (by decide)).1, hfr, (m_47.2 (gd + 11) _ (rX_11 gd hk_gd) (by decide)).1, hfe]; exact y_ok_9 (by clear w_47_2; have h8 := dk_clN a1; omega) (by clear w_47_2; omega) (by clear w_47_2; omega) (by clear w_47_2; omega) w_47_3.2 w_47_1 w_47_2
            refine W.widen (k := 0) (n := 0) (Nat.le_of_ble_eq_true rfl) (Nat.le_of_ble_eq_true rfl) ?_
            exact dg_iret hx hb hr hlocks (dk_znar (by omega) (by omega)) hP hS ⟨I_47, M_47, (by omega), ⟨cx, ry, mi, pl, y_48, y_49, sc, ((m_47.1 gd 0 _ (rX_0 gd hk_gd) (by decide)).trans f_cx), ((m_47.1 gd 1 _ (rX_0 gd hk_gd) (by decide)).trans f_ry), ((m_47.1 gd 6 _ (rX_0 gd hk_gd) (by decide)).trans f_mi), ((m_47.1 gd 8 _ (rX_0 gd hk_gd) (by decide)).trans f_pl), f_y_48, f_y_49, ((m_47.1 209 7 _ sX_209 (by decide)).trans f_sc), by omega, fun q9 => (by have h7 := (hL9.1 q9).2; have h8 := dk_clN y_49; have h9 := dk_clN n0; omega), (fun q9 => absurd q9 (by omega)), fun _ => hL9⟩, (Z1X.keep Z1 m_47 (by decide) (by decide) (by decide)), w_47_4, trivial⟩ dX6_readStatement_179
          · refine lv_tableIn (off := 134) (tgt := 198) hx hb dX6_readStatement_64 (by rw [jc_14]; decide) (by rw [jc_14]; decide) (by rw [jc_14]; decide +kernel) (by decide) ?_
            refine lv_aload_n hx hb dX6_readStatement_198 rfl (lv_at hl 0 rfl) ?_
            refine lv_iconst (v := 1) hx hb dX6_readStatement_199 (by decide +kernel) ?_
            refine dg_calli hS hA1 hA (va_runV (As := [.int 1]) (rest := []) F (c_rd_fail l g D o S 1 en n0 f_n0 (by omega) ke f_ke (by omega) (by omega) I H.size) (cwV 1 hts (bw_V wB_30 wB_31 wB_32 wB_24 wB_29) rfl rfl rfl (by decide +kernel) ⟨Nat.le_of_ble_eq_true rfl, Nat.le_of_ble_eq_true rfl⟩) (dg_preV sX_209 rfl K ST hP hS hA1 hA) rfl rfl hl.1 rfl (lv_room (Nat.le_of_ble_eq_true rfl)) dX6_readStatement_200 ⟨Nat.le_of_ble_eq_true rfl, Nat.le_of_ble_eq_true rfl⟩) (fun x_50 S_51 hw_51 H locs hP hS => ?_)
            obtain ⟨I_51, m_51, w_51_0, -⟩ := hw_51
            have M_51 := dg_sm.tr M_0 m_51 (by decide) (by decide)
            have w_51_0 : 0 ≤ (x_50).toInt ∧ (x_50).toInt ≤ 0 := w_51_0
            refine W.widen (k := 0) (n := 0) (Nat.le_of_ble_eq_true rfl) (Nat.le_of_ble_eq_true rfl) ?_
            exact dg_iret hx hb hr hlocks (dk_znar (by omega) (by omega)) hP hS ⟨I_51, M_51, (by omega), ⟨cx, ry, mi, pl, od, n0, sc, ((m_51.1 gd 0 _ (rX_0 gd hk_gd) (by decide)).trans f_cx), ((m_51.1 gd 1 _ (rX_0 gd hk_gd) (by decide)).trans f_ry), ((m_51.1 gd 6 _ (rX_0 gd hk_gd) (by decide)).trans f_mi), ((m_51.1 gd 8 _ (rX_0 gd hk_gd) (by decide)).trans f_pl), ((m_51.1 gd 11 _ (rX_0 gd hk_gd) (by decide)).trans f_od), ((m_51.1 209 4 _ sX_209 (by decide)).trans f_n0), ((m_51.1 209 7 _ sX_209 (by decide)).trans f_sc), by omega, fun q9 => absurd q9 (by omega), (fun _ => by omega), fun _ => by rw [(m_51.2 (gd + 2) _ (rX_2 gd hk_gd) (by decide)).1, hfm, (m_51.2 (gd + 5) _ (rX_5 gd hk_gd) (by decide)).1, hfo, (m_51.2 (gd + 10) _ (rX_10 gd hk_gd) (by decide)).1, hfr, (m_51.2 (gd + 11) _ (rX_11 gd hk_gd) (by decide)).1, hfe]; exact y_ok.no (by omega) (by first | exact y_one_k (by omega) | exact y_one_0 (by have h8 := dk_clN a1; omega) (by omega) | exact y_one_no (by have h8 := dk_clN a1; omega) (by omega))⟩, (Z1X.keep Z1 m_51 (by decide) (by decide) (by decide)), (GOX.keep GO m_51 (by decide) (by decide)), trivial⟩ dX6_readStatement_203
          · refine lv_tableIn (off := 134) (tgt := 198) hx hb dX6_readStatement_64 (by rw [jc_14]; decide) (by rw [jc_14]; decide) (by rw [jc_14]; decide +kernel) (by decide) ?_
            refine lv_aload_n hx hb dX6_readStatement_198 rfl (lv_at hl 0 rfl) ?_
            refine lv_iconst (v := 1) hx hb dX6_readStatement_199 (by decide +kernel) ?_
            refine dg_calli hS hA1 hA (va_runV (As := [.int 1]) (rest := []) F (c_rd_fail l g D o S 1 en n0 f_n0 (by omega) ke f_ke (by omega) (by omega) I H.size) (cwV 1 hts (bw_V wB_30 wB_31 wB_32 wB_24 wB_29) rfl rfl rfl (by decide +kernel) ⟨Nat.le_of_ble_eq_true rfl, Nat.le_of_ble_eq_true rfl⟩) (dg_preV sX_209 rfl K ST hP hS hA1 hA) rfl rfl hl.1 rfl (lv_room (Nat.le_of_ble_eq_true rfl)) dX6_readStatement_200 ⟨Nat.le_of_ble_eq_true rfl, Nat.le_of_ble_eq_true rfl⟩) (fun x_52 S_53 hw_53 H locs hP hS => ?_)
            obtain ⟨I_53, m_53, w_53_0, -⟩ := hw_53
            have M_53 := dg_sm.tr M_0 m_53 (by decide) (by decide)
            have w_53_0 : 0 ≤ (x_52).toInt ∧ (x_52).toInt ≤ 0 := w_53_0
            refine W.widen (k := 0) (n := 0) (Nat.le_of_ble_eq_true rfl) (Nat.le_of_ble_eq_true rfl) ?_
            exact dg_iret hx hb hr hlocks (dk_znar (by omega) (by omega)) hP hS ⟨I_53, M_53, (by omega), ⟨cx, ry, mi, pl, od, n0, sc, ((m_53.1 gd 0 _ (rX_0 gd hk_gd) (by decide)).trans f_cx), ((m_53.1 gd 1 _ (rX_0 gd hk_gd) (by decide)).trans f_ry), ((m_53.1 gd 6 _ (rX_0 gd hk_gd) (by decide)).trans f_mi), ((m_53.1 gd 8 _ (rX_0 gd hk_gd) (by decide)).trans f_pl), ((m_53.1 gd 11 _ (rX_0 gd hk_gd) (by decide)).trans f_od), ((m_53.1 209 4 _ sX_209 (by decide)).trans f_n0), ((m_53.1 209 7 _ sX_209 (by decide)).trans f_sc), by omega, fun q9 => absurd q9 (by omega), (fun _ => by omega), fun _ => by rw [(m_53.2 (gd + 2) _ (rX_2 gd hk_gd) (by decide)).1, hfm, (m_53.2 (gd + 5) _ (rX_5 gd hk_gd) (by decide)).1, hfo, (m_53.2 (gd + 10) _ (rX_10 gd hk_gd) (by decide)).1, hfr, (m_53.2 (gd + 11) _ (rX_11 gd hk_gd) (by decide)).1, hfe]; exact y_ok.no (by omega) (by first | exact y_one_k (by omega) | exact y_one_0 (by have h8 := dk_clN a1; omega) (by omega) | exact y_one_no (by have h8 := dk_clN a1; omega) (by omega))⟩, (Z1X.keep Z1 m_53 (by decide) (by decide) (by decide)), (GOX.keep GO m_53 (by decide) (by decide)), trivial⟩ dX6_readStatement_203
          · refine lv_tableIn (off := 116) (tgt := 180) hx hb dX6_readStatement_64 (by rw [jc_14]; decide) (by rw [jc_14]; decide) (by rw [jc_14]; decide +kernel) (by decide) ?_
            refine lv_aload_n hx hb dX6_readStatement_180 rfl (lv_at hl 0 rfl) ?_
            refine lv_iconst (v := 0) hx hb dX6_readStatement_181 (by decide +kernel) ?_
            have hz_54 : (0 : Int32).toInt = 0 := by decide +kernel
            refine dg_calli hS hA1 hA (va_runV (As := [.int 0]) (rest := []) F (c_rd_readRule l g D o S 0 (by decide +kernel) en kd vl fr fe S0 d0 gd hk_gd f_gd n0 f_n0 (by omega) sc f_sc (by omega) ke f_ke (by omega) (by omega) hkd hvl (by omega) (by omega) hfr hfe hd0 GO I H.size) (cwV 1 hts (bw_V wB_254 wB_255 wB_256 wB_24 wB_253) rfl rfl rfl (by decide +kernel) ⟨Nat.le_of_ble_eq_true rfl, Nat.le_of_ble_eq_true rfl⟩) (dg_preV sX_209 rfl K ST hP hS hA1 hA) rfl rfl hl.1 rfl (lv_room (Nat.le_of_ble_eq_true rfl)) dX6_readStatement_182 ⟨Nat.le_of_ble_eq_true rfl, Nat.le_of_ble_eq_true rfl⟩) (fun x_55 S_56 hw_56 H locs hP hS => ?_)
            obtain ⟨I_56, m_56, w_56_0, w_56_1, w_56_2, w_56_3, -⟩ := hw_56
            have M_56 := dg_sm.tr M_0 m_56 (by decide) (by decide)
            have hz_57 : (0 : Int32).toInt = 0 := by decide +kernel
            have w_56_0 : 0 ≤ (x_55).toInt ∧ (x_55).toInt ≤ 1 := w_56_0
            replace w_56_1 : (x_55).toInt = 1 → ∃ c8 c9 : Int32, c8.toInt < c9.toInt ∧ S_56.2.1 (gd + 10) = upd fr ((0 : Int32) : Int32).toNatClampNeg c8 ∧ S_56.2.1 (gd + 11) = upd fe ((0 : Int32) : Int32).toNatClampNeg c9 := w_56_1
            obtain ⟨y_58, y_59, f_y_58, f_y_59, w_56_2⟩ := w_56_2
            have w_56_2 : ((y_58).toInt ≤ (en).toInt ∧ ((x_55).toInt = 1 → ((sc).toInt + 1 ≤ (y_59).toInt ∧ (y_59).toInt - (sc).toInt ≤ (y_58).toInt - (n0).toInt))) ∧ g_ans x_55 (if (fr ((0 : Int32) : Int32).toNatClampNeg).toInt < (fe ((0 : Int32) : Int32).toNatClampNeg).toInt then none else y_rule kd vl ((0 : Int32)).toInt ((n0 : Int32).toNatClampNeg + 1)) (y_58 : Int32).toNatClampNeg := w_56_2
            have b_y_58 : 0 ≤ (y_58).toInt ∧ (y_58).toInt ≤ 1600 := dg_I.intb (lo := 0) (hi := 1600) I_56 sX_209 (by decide +kernel) f_y_58
            have b_y_59 : 0 ≤ (y_59).toInt ∧ (y_59).toInt ≤ 1600 := dg_I.intb (lo := 0) (hi := 1600) I_56 sX_209 (by decide +kernel) f_y_59
            have hL9 : y_ok x_55 (y_one kd vl (a1 : Int32).toNatClampNeg (y_gx cx ry fm mi pl fo od fr fe) (n0 : Int32).toNatClampNeg) (y_gx cx ry (S_56.2.1 (gd + 2)) mi pl (S_56.2.1 (gd + 5)) od (S_56.2.1 (gd + 10)) (S_56.2.1 (gd + 11))) (n0 : Int32).toNatClampNeg (y_58 : Int32).toNatClampNeg := by rw [(m_56.2 (gd + 2) _ (rX_2 gd hk_gd) (by decide)).1, hfm, (m_56.2 (gd + 5) _ (rX_5 gd hk_gd) (by decide)).1, hfo]; exact y_ok_r0 (by clear w_56_1; have h8 := dk_clN a1; omega) (by clear w_56_1; omega) (by clear w_56_1; omega) (by decide +kernel) w_56_2.2 w_56_1 (fun q8 => by clear w_56_1; have h7 := dk_clN y_58; have h8 := dk_clN n0; omega)
            refine W.widen (k := 0) (n := 0) (Nat.le_of_ble_eq_true rfl) (Nat.le_of_ble_eq_true rfl) ?_
            exact dg_iret hx hb hr hlocks (dk_znar (by omega) (by omega)) hP hS ⟨I_56, M_56, (by omega), ⟨cx, ry, mi, pl, od, y_58, y_59, ((m_56.1 gd 0 _ (rX_0 gd hk_gd) (by decide)).trans f_cx), ((m_56.1 gd 1 _ (rX_0 gd hk_gd) (by decide)).trans f_ry), ((m_56.1 gd 6 _ (rX_0 gd hk_gd) (by decide)).trans f_mi), ((m_56.1 gd 8 _ (rX_0 gd hk_gd) (by decide)).trans f_pl), ((m_56.1 gd 11 _ (rX_0 gd hk_gd) (by decide)).trans f_od), f_y_58, f_y_59, by omega, fun q9 => (by omega), (fun q9 => absurd q9 (by omega)), fun _ => hL9⟩, (Z1X.keep Z1 m_56 (by decide) (by decide) (by decide)), w_56_3, trivial⟩ dX6_readStatement_185
          · refine lv_tableIn (off := 122) (tgt := 186) hx hb dX6_readStatement_64 (by rw [jc_14]; decide) (by rw [jc_14]; decide) (by rw [jc_14]; decide +kernel) (by decide) ?_
            refine lv_aload_n hx hb dX6_readStatement_186 rfl (lv_at hl 0 rfl) ?_
            refine lv_iconst (v := 1) hx hb dX6_readStatement_187 (by decide +kernel) ?_
            have hz_60 : (1 : Int32).toInt = 1 := by decide +kernel
            refine dg_calli hS hA1 hA (va_runV (As := [.int 1]) (rest := []) F (c_rd_readRule l g D o S 1 (by decide +kernel) en kd vl fr fe S0 d0 gd hk_gd f_gd n0 f_n0 (by omega) sc f_sc (by omega) ke f_ke (by omega) (by omega) hkd hvl (by omega) (by omega) hfr hfe hd0 GO I H.size) (cwV 1 hts (bw_V wB_254 wB_255 wB_256 wB_24 wB_253) rfl rfl rfl (by decide +kernel) ⟨Nat.le_of_ble_eq_true rfl, Nat.le_of_ble_eq_true rfl⟩) (dg_preV sX_209 rfl K ST hP hS hA1 hA) rfl rfl hl.1 rfl (lv_room (Nat.le_of_ble_eq_true rfl)) dX6_readStatement_188 ⟨Nat.le_of_ble_eq_true rfl, Nat.le_of_ble_eq_true rfl⟩) (fun x_61 S_62 hw_62 H locs hP hS => ?_)
            obtain ⟨I_62, m_62, w_62_0, w_62_1, w_62_2, w_62_3, -⟩ := hw_62
            have M_62 := dg_sm.tr M_0 m_62 (by decide) (by decide)
            have hz_63 : (1 : Int32).toInt = 1 := by decide +kernel
            have w_62_0 : 0 ≤ (x_61).toInt ∧ (x_61).toInt ≤ 1 := w_62_0
            replace w_62_1 : (x_61).toInt = 1 → ∃ c8 c9 : Int32, c8.toInt < c9.toInt ∧ S_62.2.1 (gd + 10) = upd fr ((1 : Int32) : Int32).toNatClampNeg c8 ∧ S_62.2.1 (gd + 11) = upd fe ((1 : Int32) : Int32).toNatClampNeg c9 := w_62_1
            obtain ⟨y_64, y_65, f_y_64, f_y_65, w_62_2⟩ := w_62_2
            have w_62_2 : ((y_64).toInt ≤ (en).toInt ∧ ((x_61).toInt = 1 → ((sc).toInt + 1 ≤ (y_65).toInt ∧ (y_65).toInt - (sc).toInt ≤ (y_64).toInt - (n0).toInt))) ∧ g_ans x_61 (if (fr ((1 : Int32) : Int32).toNatClampNeg).toInt < (fe ((1 : Int32) : Int32).toNatClampNeg).toInt then none else y_rule kd vl ((1 : Int32)).toInt ((n0 : Int32).toNatClampNeg + 1)) (y_64 : Int32).toNatClampNeg := w_62_2
            have b_y_64 : 0 ≤ (y_64).toInt ∧ (y_64).toInt ≤ 1600 := dg_I.intb (lo := 0) (hi := 1600) I_62 sX_209 (by decide +kernel) f_y_64
            have b_y_65 : 0 ≤ (y_65).toInt ∧ (y_65).toInt ≤ 1600 := dg_I.intb (lo := 0) (hi := 1600) I_62 sX_209 (by decide +kernel) f_y_65
            have hL9 : y_ok x_61 (y_one kd vl (a1 : Int32).toNatClampNeg (y_gx cx ry fm mi pl fo od fr fe) (n0 : Int32).toNatClampNeg) (y_gx cx ry (S_62.2.1 (gd + 2)) mi pl (S_62.2.1 (gd + 5)) od (S_62.2.1 (gd + 10)) (S_62.2.1 (gd + 11))) (n0 : Int32).toNatClampNeg (y_64 : Int32).toNatClampNeg := by rw [(m_62.2 (gd + 2) _ (rX_2 gd hk_gd) (by decide)).1, hfm, (m_62.2 (gd + 5) _ (rX_5 gd hk_gd) (by decide)).1, hfo]; exact y_ok_r1 (by clear w_62_1; have h8 := dk_clN a1; omega) (by clear w_62_1; omega) (by clear w_62_1; omega) (by decide +kernel) w_62_2.2 w_62_1 (fun q8 => by clear w_62_1; have h7 := dk_clN y_64; have h8 := dk_clN n0; omega)
            refine W.widen (k := 0) (n := 0) (Nat.le_of_ble_eq_true rfl) (Nat.le_of_ble_eq_true rfl) ?_
            exact dg_iret hx hb hr hlocks (dk_znar (by omega) (by omega)) hP hS ⟨I_62, M_62, (by omega), ⟨cx, ry, mi, pl, od, y_64, y_65, ((m_62.1 gd 0 _ (rX_0 gd hk_gd) (by decide)).trans f_cx), ((m_62.1 gd 1 _ (rX_0 gd hk_gd) (by decide)).trans f_ry), ((m_62.1 gd 6 _ (rX_0 gd hk_gd) (by decide)).trans f_mi), ((m_62.1 gd 8 _ (rX_0 gd hk_gd) (by decide)).trans f_pl), ((m_62.1 gd 11 _ (rX_0 gd hk_gd) (by decide)).trans f_od), f_y_64, f_y_65, by omega, fun q9 => (by omega), (fun q9 => absurd q9 (by omega)), fun _ => hL9⟩, (Z1X.keep Z1 m_62 (by decide) (by decide) (by decide)), w_62_3, trivial⟩ dX6_readStatement_191
          · refine lv_tableIn (off := 128) (tgt := 192) hx hb dX6_readStatement_64 (by rw [jc_14]; decide) (by rw [jc_14]; decide) (by rw [jc_14]; decide +kernel) (by decide) ?_
            refine lv_aload_n hx hb dX6_readStatement_192 rfl (lv_at hl 0 rfl) ?_
            refine lv_iconst (v := 2) hx hb dX6_readStatement_193 (by decide +kernel) ?_
            have hz_66 : (2 : Int32).toInt = 2 := by decide +kernel
            refine dg_calli hS hA1 hA (va_runV (As := [.int 2]) (rest := []) F (c_rd_readRule l g D o S 2 (by decide +kernel) en kd vl fr fe S0 d0 gd hk_gd f_gd n0 f_n0 (by omega) sc f_sc (by omega) ke f_ke (by omega) (by omega) hkd hvl (by omega) (by omega) hfr hfe hd0 GO I H.size) (cwV 1 hts (bw_V wB_254 wB_255 wB_256 wB_24 wB_253) rfl rfl rfl (by decide +kernel) ⟨Nat.le_of_ble_eq_true rfl, Nat.le_of_ble_eq_true rfl⟩) (dg_preV sX_209 rfl K ST hP hS hA1 hA) rfl rfl hl.1 rfl (lv_room (Nat.le_of_ble_eq_true rfl)) dX6_readStatement_194 ⟨Nat.le_of_ble_eq_true rfl, Nat.le_of_ble_eq_true rfl⟩) (fun x_67 S_68 hw_68 H locs hP hS => ?_)
            obtain ⟨I_68, m_68, w_68_0, w_68_1, w_68_2, w_68_3, -⟩ := hw_68
            have M_68 := dg_sm.tr M_0 m_68 (by decide) (by decide)
            have hz_69 : (2 : Int32).toInt = 2 := by decide +kernel
            have w_68_0 : 0 ≤ (x_67).toInt ∧ (x_67).toInt ≤ 1 := w_68_0
            replace w_68_1 : (x_67).toInt = 1 → ∃ c8 c9 : Int32, c8.toInt < c9.toInt ∧ S_68.2.1 (gd + 10) = upd fr ((2 : Int32) : Int32).toNatClampNeg c8 ∧ S_68.2.1 (gd + 11) = upd fe ((2 : Int32) : Int32).toNatClampNeg c9 := w_68_1
            obtain ⟨y_70, y_71, f_y_70, f_y_71, w_68_2⟩ := w_68_2
            have w_68_2 : ((y_70).toInt ≤ (en).toInt ∧ ((x_67).toInt = 1 → ((sc).toInt + 1 ≤ (y_71).toInt ∧ (y_71).toInt - (sc).toInt ≤ (y_70).toInt - (n0).toInt))) ∧ g_ans x_67 (if (fr ((2 : Int32) : Int32).toNatClampNeg).toInt < (fe ((2 : Int32) : Int32).toNatClampNeg).toInt then none else y_rule kd vl ((2 : Int32)).toInt ((n0 : Int32).toNatClampNeg + 1)) (y_70 : Int32).toNatClampNeg := w_68_2
            have b_y_70 : 0 ≤ (y_70).toInt ∧ (y_70).toInt ≤ 1600 := dg_I.intb (lo := 0) (hi := 1600) I_68 sX_209 (by decide +kernel) f_y_70
            have b_y_71 : 0 ≤ (y_71).toInt ∧ (y_71).toInt ≤ 1600 := dg_I.intb (lo := 0) (hi := 1600) I_68 sX_209 (by decide +kernel) f_y_71
            have hL9 : y_ok x_67 (y_one kd vl (a1 : Int32).toNatClampNeg (y_gx cx ry fm mi pl fo od fr fe) (n0 : Int32).toNatClampNeg) (y_gx cx ry (S_68.2.1 (gd + 2)) mi pl (S_68.2.1 (gd + 5)) od (S_68.2.1 (gd + 10)) (S_68.2.1 (gd + 11))) (n0 : Int32).toNatClampNeg (y_70 : Int32).toNatClampNeg := by rw [(m_68.2 (gd + 2) _ (rX_2 gd hk_gd) (by decide)).1, hfm, (m_68.2 (gd + 5) _ (rX_5 gd hk_gd) (by decide)).1, hfo]; exact y_ok_r2 (by clear w_68_1; have h8 := dk_clN a1; omega) (by clear w_68_1; omega) (by clear w_68_1; omega) (by decide +kernel) w_68_2.2 w_68_1 (fun q8 => by clear w_68_1; have h7 := dk_clN y_70; have h8 := dk_clN n0; omega)
            refine W.widen (k := 0) (n := 0) (Nat.le_of_ble_eq_true rfl) (Nat.le_of_ble_eq_true rfl) ?_
            exact dg_iret hx hb hr hlocks (dk_znar (by omega) (by omega)) hP hS ⟨I_68, M_68, (by omega), ⟨cx, ry, mi, pl, od, y_70, y_71, ((m_68.1 gd 0 _ (rX_0 gd hk_gd) (by decide)).trans f_cx), ((m_68.1 gd 1 _ (rX_0 gd hk_gd) (by decide)).trans f_ry), ((m_68.1 gd 6 _ (rX_0 gd hk_gd) (by decide)).trans f_mi), ((m_68.1 gd 8 _ (rX_0 gd hk_gd) (by decide)).trans f_pl), ((m_68.1 gd 11 _ (rX_0 gd hk_gd) (by decide)).trans f_od), f_y_70, f_y_71, by omega, fun q9 => (by omega), (fun q9 => absurd q9 (by omega)), fun _ => hL9⟩, (Z1X.keep Z1 m_68 (by decide) (by decide) (by decide)), w_68_3, trivial⟩ dX6_readStatement_197
        · have jc_11 := dk_neqc (k := 0) (by decide +kernel) c_11
          have qw_8_1 : g_o kd vl 0 (n0 : Int32).toNatClampNeg = true := by have h9 := w_8_1.mp (by omega); rw [show (0 : Int32).toInt = 0 from by decide +kernel] at h9; exact h9
          have qlw_8_1 : (kd (n0 : Int32).toNatClampNeg).toInt = 1 ∧ (vl (n0 : Int32).toNatClampNeg).toInt = 0 := by have h8 := g_o_iff (kd := kd) (vl := vl) (c := 0) (k := (n0 : Int32).toNatClampNeg); rw [qw_8_1] at h8; simpa using h8
          refine lv_aload_n hx hb dX6_readStatement_46 rfl (lv_at hl 0 rfl) ?_
          refine lv_iconst (v := 1) hx hb dX6_readStatement_47 (by decide +kernel) ?_
          refine dg_calli hS hA1 hA (va_runV (As := [.int 1]) (rest := []) F (c_rd_fail l g D o S 1 en n0 f_n0 (by omega) ke f_ke (by omega) (by omega) I H.size) (cwV 1 hts (bw_V wB_30 wB_31 wB_32 wB_24 wB_29) rfl rfl rfl (by decide +kernel) ⟨Nat.le_of_ble_eq_true rfl, Nat.le_of_ble_eq_true rfl⟩) (dg_preV sX_209 rfl K ST hP hS hA1 hA) rfl rfl hl.1 rfl (lv_room (Nat.le_of_ble_eq_true rfl)) dX6_readStatement_48 ⟨Nat.le_of_ble_eq_true rfl, Nat.le_of_ble_eq_true rfl⟩) (fun x_72 S_73 hw_73 H locs hP hS => ?_)
          obtain ⟨I_73, m_73, w_73_0, -⟩ := hw_73
          have M_73 := dg_sm.tr M_0 m_73 (by decide) (by decide)
          have w_73_0 : 0 ≤ (x_72).toInt ∧ (x_72).toInt ≤ 0 := w_73_0
          refine W.widen (k := 0) (n := 0) (Nat.le_of_ble_eq_true rfl) (Nat.le_of_ble_eq_true rfl) ?_
          exact dg_iret hx hb hr hlocks (dk_znar (by omega) (by omega)) hP hS ⟨I_73, M_73, (by omega), ⟨cx, ry, mi, pl, od, n0, sc, ((m_73.1 gd 0 _ (rX_0 gd hk_gd) (by decide)).trans f_cx), ((m_73.1 gd 1 _ (rX_0 gd hk_gd) (by decide)).trans f_ry), ((m_73.1 gd 6 _ (rX_0 gd hk_gd) (by decide)).trans f_mi), ((m_73.1 gd 8 _ (rX_0 gd hk_gd) (by decide)).trans f_pl), ((m_73.1 gd 11 _ (rX_0 gd hk_gd) (by decide)).trans f_od), ((m_73.1 209 4 _ sX_209 (by decide)).trans f_n0), ((m_73.1 209 7 _ sX_209 (by decide)).trans f_sc), by omega, fun q9 => absurd q9 (by omega), (fun _ => by omega), fun _ => by rw [(m_73.2 (gd + 2) _ (rX_2 gd hk_gd) (by decide)).1, hfm, (m_73.2 (gd + 5) _ (rX_5 gd hk_gd) (by decide)).1, hfo, (m_73.2 (gd + 10) _ (rX_10 gd hk_gd) (by decide)).1, hfr, (m_73.2 (gd + 11) _ (rX_11 gd hk_gd) (by decide)).1, hfe]; exact y_ok.no (by omega) (by first | exact y_one_k (by omega) | exact y_one_0 (by have h8 := dk_clN a1; omega) (by omega) | exact y_one_no (by have h8 := dk_clN a1; omega) (by omega))⟩, (Z1X.keep Z1 m_73 (by decide) (by decide) (by decide)), (GOX.keep GO m_73 (by decide) (by decide)), trivial⟩ dX6_readStatement_51
      · have jc_10 := dk_eqc (k := 0) (by decide +kernel) c_10
        refine lv_iconst (v := 1) hx hb dX6_readStatement_38 (by decide +kernel) ?_
        refine lv_goto (tgt := 43) hx hb dX6_readStatement_39 (by decide) ?_
        refine lv_icmp_eq (tgt := 52) hx hb dX6_readStatement_43 (by decide) (fun c_74 => ?_) (fun c_74 => ?_)
        · have jc_74 := dk_eqc (k := 1) (by decide +kernel) c_74
          have qw_8_1 : g_o kd vl 0 (n0 : Int32).toNatClampNeg = true := by have h9 := w_8_1.mp (by omega); rw [show (0 : Int32).toInt = 0 from by decide +kernel] at h9; exact h9
          have qlw_8_1 : (kd (n0 : Int32).toNatClampNeg).toInt = 1 ∧ (vl (n0 : Int32).toNatClampNeg).toInt = 0 := by have h8 := g_o_iff (kd := kd) (vl := vl) (c := 0) (k := (n0 : Int32).toNatClampNeg); rw [qw_8_1] at h8; simpa using h8
          refine lv_aload_n hx hb dX6_readStatement_52 rfl (lv_at hl 0 rfl) ?_
          refine dg_get (C := RX6) (T := TX6) (N := 8) hx hb hts (fun w h => bw_mem (wU_X6 w h)) hown K hP sX_209 rfl 2 (by decide) (hts _ (bw_mem wB_13)) (fun _ h9 => h9) (v := .ref (o + 210)) (show S.1 209 2 = .ref (o + 210) from dg_I.rel (d := 1) I sX_209 (by decide +kernel)) dX6_readStatement_53 ?_
          refine dg_get (C := RX9) (T := TX9) (N := 5) hx hb hts (fun w h => bw_mem (wU_X9 w h)) hown K hP sX_210 rfl 2 (by decide) (hts _ (bw_mem wB_16)) (fun _ h9 => h9) (v := .ref (o + 213)) (show S.1 210 2 = .ref (o + 213) from dg_I.rel (d := 3) I sX_210 (by decide +kernel)) dX6_readStatement_56 ?_
          refine lv_aload_n hx hb dX6_readStatement_59 rfl (lv_at hl 0 rfl) ?_
          refine dg_get (C := RX6) (T := TX6) (N := 8) hx hb hts (fun w h => bw_mem (wU_X6 w h)) hown K hP sX_209 rfl 4 (by decide) (hts _ (bw_mem wB_15)) (fun _ h9 => h9) (v := .int n0) f_n0 dX6_readStatement_60 ?_
          have hin_75 : vp_in n0 1601 := (dk_inv (by omega) (by omega))
          refine dg_iald hx hb K hP sX_213 hin_75 dX6_readStatement_63 (fun x_76 ex_76 => ?_)
          have kx_76 : (vl (n0 : Int32).toNatClampNeg).toInt = (x_76).toInt := by rw [ex_76, hvl _ (by unfold Int32.toNatClampNeg; omega)]
          rcases (show ((x_76).toInt < 0 ∨ 14 < (x_76).toInt) ∨ (x_76).toInt = 0 ∨ (x_76).toInt = 1 ∨ (x_76).toInt = 2 ∨ (x_76).toInt = 3 ∨ (x_76).toInt = 4 ∨ (x_76).toInt = 5 ∨ (x_76).toInt = 6 ∨ (x_76).toInt = 7 ∨ (x_76).toInt = 8 ∨ (x_76).toInt = 9 ∨ (x_76).toInt = 10 ∨ (x_76).toInt = 11 ∨ (x_76).toInt = 12 ∨ (x_76).toInt = 13 ∨ (x_76).toInt = 14 by omega) with jc_77 | jc_77 | jc_77 | jc_77 | jc_77 | jc_77 | jc_77 | jc_77 | jc_77 | jc_77 | jc_77 | jc_77 | jc_77 | jc_77 | jc_77 | jc_77
          · refine lv_tableOut (tgt := 198) hx hb dX6_readStatement_64 jc_77 (by decide) ?_
            refine lv_aload_n hx hb dX6_readStatement_198 rfl (lv_at hl 0 rfl) ?_
            refine lv_iconst (v := 1) hx hb dX6_readStatement_199 (by decide +kernel) ?_
            refine dg_calli hS hA1 hA (va_runV (As := [.int 1]) (rest := []) F (c_rd_fail l g D o S 1 en n0 f_n0 (by omega) ke f_ke (by omega) (by omega) I H.size) (cwV 1 hts (bw_V wB_30 wB_31 wB_32 wB_24 wB_29) rfl rfl rfl (by decide +kernel) ⟨Nat.le_of_ble_eq_true rfl, Nat.le_of_ble_eq_true rfl⟩) (dg_preV sX_209 rfl K ST hP hS hA1 hA) rfl rfl hl.1 rfl (lv_room (Nat.le_of_ble_eq_true rfl)) dX6_readStatement_200 ⟨Nat.le_of_ble_eq_true rfl, Nat.le_of_ble_eq_true rfl⟩) (fun x_78 S_79 hw_79 H locs hP hS => ?_)
            obtain ⟨I_79, m_79, w_79_0, -⟩ := hw_79
            have M_79 := dg_sm.tr M_0 m_79 (by decide) (by decide)
            have w_79_0 : 0 ≤ (x_78).toInt ∧ (x_78).toInt ≤ 0 := w_79_0
            refine W.widen (k := 0) (n := 0) (Nat.le_of_ble_eq_true rfl) (Nat.le_of_ble_eq_true rfl) ?_
            exact dg_iret hx hb hr hlocks (dk_znar (by omega) (by omega)) hP hS ⟨I_79, M_79, (by omega), (by exfalso; omega), (Z1X.keep Z1 m_79 (by decide) (by decide) (by decide)), (GOX.keep GO m_79 (by decide) (by decide)), trivial⟩ dX6_readStatement_203
          · refine lv_tableIn (off := 76) (tgt := 140) hx hb dX6_readStatement_64 (by rw [jc_77]; decide) (by rw [jc_77]; decide) (by rw [jc_77]; decide +kernel) (by decide) ?_
            refine lv_aload_n hx hb dX6_readStatement_140 rfl (lv_at hl 0 rfl) ?_
            refine dg_calli hS hA1 hA (va_runV (As := []) (rest := []) F (c_rd_readSeam l g D o S en kd vl S0 d0 gd hk_gd f_gd n0 f_n0 (by omega) ke f_ke (by omega) (by omega) hkd hvl (g_o_ne qw_8_1) hd0 Z1 GO I H.size) (cwV 0 hts (bw_V wB_222 wB_223 wB_224 wB_24 wB_221) rfl rfl rfl (by decide +kernel) ⟨Nat.le_of_ble_eq_true rfl, Nat.le_of_ble_eq_true rfl⟩) (dg_preV sX_209 rfl K ST hP hS hA1 hA) rfl rfl hl.1 rfl (lv_room (Nat.le_of_ble_eq_true rfl)) dX6_readStatement_141 ⟨Nat.le_of_ble_eq_true rfl, Nat.le_of_ble_eq_true rfl⟩) (fun x_80 S_81 hw_81 H locs hP hS => ?_)
            obtain ⟨I_81, m_81, w_81_0, w_81_1, w_81_2, w_81_3, w_81_4, w_81_5, -⟩ := hw_81
            have M_81 := dg_sm.tr M_0 m_81 (by decide) (by decide)
            have w_81_0 : 0 ≤ (x_80).toInt ∧ (x_80).toInt ≤ 1 := w_81_0
            obtain ⟨y_82, f_y_82, w_81_1⟩ := w_81_1
            have w_81_1 : (x_80).toInt = 1 → (y_82).toInt = (vl ((n0 : Int32).toNatClampNeg + 1)).toInt := w_81_1
            have b_y_82 : 0 ≤ (y_82).toInt ∧ (y_82).toInt ≤ 7 := dg_I.intb (lo := 0) (hi := 7) I_81 (rX_0 gd hk_gd) (by decide +kernel) f_y_82
            obtain ⟨y_83, f_y_83, w_81_2⟩ := w_81_2
            have w_81_2 : (x_80).toInt = 1 → (y_83).toInt = (vl ((n0 : Int32).toNatClampNeg + 3)).toInt := w_81_2
            have b_y_83 : 0 ≤ (y_83).toInt ∧ (y_83).toInt ≤ 7 := dg_I.intb (lo := 0) (hi := 7) I_81 (rX_0 gd hk_gd) (by decide +kernel) f_y_83
            obtain ⟨y_84, f_y_84, w_81_3⟩ := w_81_3
            have w_81_3 : (y_84).toInt ≤ (en).toInt ∧ g_ans x_80 ((y_num kd vl 3 7 ((n0 : Int32).toNatClampNeg + 1)).bind fun k2 => (y_own kd vl 1 k2).bind (y_num kd vl 3 7)) (y_84 : Int32).toNatClampNeg := w_81_3
            have b_y_84 : 0 ≤ (y_84).toInt ∧ (y_84).toInt ≤ 1600 := dg_I.intb (lo := 0) (hi := 1600) I_81 sX_209 (by decide +kernel) f_y_84
            have hL9 : y_ok x_80 (y_one kd vl (a1 : Int32).toNatClampNeg (y_gx cx ry fm mi pl fo od fr fe) (n0 : Int32).toNatClampNeg) (y_gx y_82 y_83 (S_81.2.1 (gd + 2)) mi pl (S_81.2.1 (gd + 5)) od (S_81.2.1 (gd + 10)) (S_81.2.1 (gd + 11))) (n0 : Int32).toNatClampNeg (y_84 : Int32).toNatClampNeg := by rw [(m_81.2 (gd + 2) _ (rX_2 gd hk_gd) (by decide)).1, hfm, (m_81.2 (gd + 5) _ (rX_5 gd hk_gd) (by decide)).1, hfo, (m_81.2 (gd + 10) _ (rX_10 gd hk_gd) (by decide)).1, hfr, (m_81.2 (gd + 11) _ (rX_11 gd hk_gd) (by decide)).1, hfe]; exact y_ok_s (by have h8 := dk_clN a1; omega) (by omega) (by omega) w_81_3.2 w_81_1 w_81_2
            refine W.widen (k := 0) (n := 0) (Nat.le_of_ble_eq_true rfl) (Nat.le_of_ble_eq_true rfl) ?_
            exact dg_iret hx hb hr hlocks (dk_znar (by omega) (by omega)) hP hS ⟨I_81, M_81, (by omega), ⟨y_82, y_83, mi, pl, od, y_84, sc, f_y_82, f_y_83, ((m_81.1 gd 6 _ (rX_0 gd hk_gd) (by decide)).trans f_mi), ((m_81.1 gd 8 _ (rX_0 gd hk_gd) (by decide)).trans f_pl), ((m_81.1 gd 11 _ (rX_0 gd hk_gd) (by decide)).trans f_od), f_y_84, ((m_81.1 209 7 _ sX_209 (by decide)).trans f_sc), by omega, fun q9 => (by have h7 := (hL9.1 q9).2; have h8 := dk_clN y_84; have h9 := dk_clN n0; omega), (fun q9 => absurd q9 (by omega)), fun _ => hL9⟩, w_81_4, w_81_5, trivial⟩ dX6_readStatement_144
          · refine lv_tableIn (off := 134) (tgt := 198) hx hb dX6_readStatement_64 (by rw [jc_77]; decide) (by rw [jc_77]; decide) (by rw [jc_77]; decide +kernel) (by decide) ?_
            refine lv_aload_n hx hb dX6_readStatement_198 rfl (lv_at hl 0 rfl) ?_
            refine lv_iconst (v := 1) hx hb dX6_readStatement_199 (by decide +kernel) ?_
            refine dg_calli hS hA1 hA (va_runV (As := [.int 1]) (rest := []) F (c_rd_fail l g D o S 1 en n0 f_n0 (by omega) ke f_ke (by omega) (by omega) I H.size) (cwV 1 hts (bw_V wB_30 wB_31 wB_32 wB_24 wB_29) rfl rfl rfl (by decide +kernel) ⟨Nat.le_of_ble_eq_true rfl, Nat.le_of_ble_eq_true rfl⟩) (dg_preV sX_209 rfl K ST hP hS hA1 hA) rfl rfl hl.1 rfl (lv_room (Nat.le_of_ble_eq_true rfl)) dX6_readStatement_200 ⟨Nat.le_of_ble_eq_true rfl, Nat.le_of_ble_eq_true rfl⟩) (fun x_85 S_86 hw_86 H locs hP hS => ?_)
            obtain ⟨I_86, m_86, w_86_0, -⟩ := hw_86
            have M_86 := dg_sm.tr M_0 m_86 (by decide) (by decide)
            have w_86_0 : 0 ≤ (x_85).toInt ∧ (x_85).toInt ≤ 0 := w_86_0
            refine W.widen (k := 0) (n := 0) (Nat.le_of_ble_eq_true rfl) (Nat.le_of_ble_eq_true rfl) ?_
            exact dg_iret hx hb hr hlocks (dk_znar (by omega) (by omega)) hP hS ⟨I_86, M_86, (by omega), (by exfalso; omega), (Z1X.keep Z1 m_86 (by decide) (by decide) (by decide)), (GOX.keep GO m_86 (by decide) (by decide)), trivial⟩ dX6_readStatement_203
          · refine lv_tableIn (off := 81) (tgt := 145) hx hb dX6_readStatement_64 (by rw [jc_77]; decide) (by rw [jc_77]; decide) (by rw [jc_77]; decide +kernel) (by decide) ?_
            refine lv_aload_n hx hb dX6_readStatement_145 rfl (lv_at hl 0 rfl) ?_
            refine dg_calli hS hA1 hA (va_runV (As := []) (rest := []) F (c_rd_readShaft l g D o S en kd vl S0 d0 gd hk_gd f_gd n0 f_n0 (by omega) cx f_cx (by omega) ry f_ry (by omega) ke f_ke (by omega) (by omega) hkd hvl (g_o_ne qw_8_1) hd0 Z1 GO I H.size) (cwV 0 hts (bw_V wB_226 wB_227 wB_228 wB_24 wB_225) rfl rfl rfl (by decide +kernel) ⟨Nat.le_of_ble_eq_true rfl, Nat.le_of_ble_eq_true rfl⟩) (dg_preV sX_209 rfl K ST hP hS hA1 hA) rfl rfl hl.1 rfl (lv_room (Nat.le_of_ble_eq_true rfl)) dX6_readStatement_146 ⟨Nat.le_of_ble_eq_true rfl, Nat.le_of_ble_eq_true rfl⟩) (fun x_87 S_88 hw_88 H locs hP hS => ?_)
            obtain ⟨I_88, m_88, w_88_0, w_88_1, w_88_2, w_88_3, -⟩ := hw_88
            have M_88 := dg_sm.tr M_0 m_88 (by decide) (by decide)
            have w_88_0 : 0 ≤ (x_87).toInt ∧ (x_87).toInt ≤ 1 := w_88_0
            obtain ⟨y_89, f_y_89, w_88_1⟩ := w_88_1
            have w_88_1 : (y_89).toInt ≤ (en).toInt ∧ g_ans x_87 (y_num kd vl 0 ((cx).toInt - 1) ((n0 : Int32).toNatClampNeg + 1)) (y_89 : Int32).toNatClampNeg := w_88_1
            have b_y_89 : 0 ≤ (y_89).toInt ∧ (y_89).toInt ≤ 1600 := dg_I.intb (lo := 0) (hi := 1600) I_88 sX_209 (by decide +kernel) f_y_89
            refine W.widen (k := 0) (n := 0) (Nat.le_of_ble_eq_true rfl) (Nat.le_of_ble_eq_true rfl) ?_
            exact dg_iret hx hb hr hlocks (dk_znar (by omega) (by omega)) hP hS ⟨I_88, M_88, (by omega), (by exfalso; omega), w_88_2, w_88_3, trivial⟩ dX6_readStatement_149
          · refine lv_tableIn (off := 86) (tgt := 150) hx hb dX6_readStatement_64 (by rw [jc_77]; decide) (by rw [jc_77]; decide) (by rw [jc_77]; decide +kernel) (by decide) ?_
            refine lv_aload_n hx hb dX6_readStatement_150 rfl (lv_at hl 0 rfl) ?_
            refine dg_calli hS hA1 hA (va_runV (As := []) (rest := []) F (c_rd_readReach l g D o S en kd vl S0 d0 gd hk_gd f_gd n0 f_n0 (by omega) ke f_ke (by omega) (by omega) hkd hvl (g_o_ne qw_8_1) hd0 GO I H.size) (cwV 0 hts (bw_V wB_230 wB_231 wB_232 wB_24 wB_229) rfl rfl rfl (by decide +kernel) ⟨Nat.le_of_ble_eq_true rfl, Nat.le_of_ble_eq_true rfl⟩) (dg_preV sX_209 rfl K ST hP hS hA1 hA) rfl rfl hl.1 rfl (lv_room (Nat.le_of_ble_eq_true rfl)) dX6_readStatement_151 ⟨Nat.le_of_ble_eq_true rfl, Nat.le_of_ble_eq_true rfl⟩) (fun x_90 S_91 hw_91 H locs hP hS => ?_)
            obtain ⟨I_91, m_91, w_91_0, w_91_1, w_91_2, -⟩ := hw_91
            have M_91 := dg_sm.tr M_0 m_91 (by decide) (by decide)
            have w_91_0 : 0 ≤ (x_90).toInt ∧ (x_90).toInt ≤ 1 := w_91_0
            obtain ⟨y_92, f_y_92, w_91_1⟩ := w_91_1
            have w_91_1 : (y_92).toInt ≤ (en).toInt ∧ g_ans x_90 (y_num kd vl 0 20 ((n0 : Int32).toNatClampNeg + 1)) (y_92 : Int32).toNatClampNeg := w_91_1
            have b_y_92 : 0 ≤ (y_92).toInt ∧ (y_92).toInt ≤ 1600 := dg_I.intb (lo := 0) (hi := 1600) I_91 sX_209 (by decide +kernel) f_y_92
            refine W.widen (k := 0) (n := 0) (Nat.le_of_ble_eq_true rfl) (Nat.le_of_ble_eq_true rfl) ?_
            exact dg_iret hx hb hr hlocks (dk_znar (by omega) (by omega)) hP hS ⟨I_91, M_91, (by omega), (by exfalso; omega), (Z1X.keep Z1 m_91 (by decide) (by decide) (by decide)), w_91_2, trivial⟩ dX6_readStatement_154
          · refine lv_tableIn (off := 91) (tgt := 155) hx hb dX6_readStatement_64 (by rw [jc_77]; decide) (by rw [jc_77]; decide) (by rw [jc_77]; decide +kernel) (by decide) ?_
            refine lv_aload_n hx hb dX6_readStatement_155 rfl (lv_at hl 0 rfl) ?_
            refine dg_calli hS hA1 hA (va_runV (As := []) (rest := []) F (c_rd_readQuake l g D o S en kd vl S0 d0 gd hk_gd f_gd n0 f_n0 (by omega) ke f_ke (by omega) (by omega) hkd hvl (g_o_ne qw_8_1) hd0 GO I H.size) (cwV 0 hts (bw_V wB_234 wB_235 wB_236 wB_24 wB_233) rfl rfl rfl (by decide +kernel) ⟨Nat.le_of_ble_eq_true rfl, Nat.le_of_ble_eq_true rfl⟩) (dg_preV sX_209 rfl K ST hP hS hA1 hA) rfl rfl hl.1 rfl (lv_room (Nat.le_of_ble_eq_true rfl)) dX6_readStatement_156 ⟨Nat.le_of_ble_eq_true rfl, Nat.le_of_ble_eq_true rfl⟩) (fun x_93 S_94 hw_94 H locs hP hS => ?_)
            obtain ⟨I_94, m_94, w_94_0, w_94_1, w_94_2, -⟩ := hw_94
            have M_94 := dg_sm.tr M_0 m_94 (by decide) (by decide)
            have w_94_0 : 0 ≤ (x_93).toInt ∧ (x_93).toInt ≤ 1 := w_94_0
            obtain ⟨y_95, f_y_95, w_94_1⟩ := w_94_1
            have w_94_1 : (y_95).toInt ≤ (en).toInt ∧ g_ans x_93 (y_num kd vl 0 100 ((n0 : Int32).toNatClampNeg + 1)) (y_95 : Int32).toNatClampNeg := w_94_1
            have b_y_95 : 0 ≤ (y_95).toInt ∧ (y_95).toInt ≤ 1600 := dg_I.intb (lo := 0) (hi := 1600) I_94 sX_209 (by decide +kernel) f_y_95
            refine W.widen (k := 0) (n := 0) (Nat.le_of_ble_eq_true rfl) (Nat.le_of_ble_eq_true rfl) ?_
            exact dg_iret hx hb hr hlocks (dk_znar (by omega) (by omega)) hP hS ⟨I_94, M_94, (by omega), (by exfalso; omega), (Z1X.keep Z1 m_94 (by decide) (by decide) (by decide)), w_94_2, trivial⟩ dX6_readStatement_159
          · refine lv_tableIn (off := 96) (tgt := 160) hx hb dX6_readStatement_64 (by rw [jc_77]; decide) (by rw [jc_77]; decide) (by rw [jc_77]; decide +kernel) (by decide) ?_
            refine lv_aload_n hx hb dX6_readStatement_160 rfl (lv_at hl 0 rfl) ?_
            refine dg_calli hS hA1 hA (va_runV (As := []) (rest := []) F (c_rd_readGrade l g D o S en kd vl S0 d0 gd hk_gd f_gd n0 f_n0 (by omega) cx f_cx (by omega) ry f_ry (by omega) ke f_ke (by omega) (by omega) hkd hvl (g_o_ne qw_8_1) hd0 GO I H.size) (cwV 0 hts (bw_V wB_238 wB_239 wB_240 wB_24 wB_237) rfl rfl rfl (by decide +kernel) ⟨Nat.le_of_ble_eq_true rfl, Nat.le_of_ble_eq_true rfl⟩) (dg_preV sX_209 rfl K ST hP hS hA1 hA) rfl rfl hl.1 rfl (lv_room (Nat.le_of_ble_eq_true rfl)) dX6_readStatement_161 ⟨Nat.le_of_ble_eq_true rfl, Nat.le_of_ble_eq_true rfl⟩) (fun x_96 S_97 hw_97 H locs hP hS => ?_)
            obtain ⟨I_97, m_97, w_97_0, w_97_1, w_97_2, -⟩ := hw_97
            have M_97 := dg_sm.tr M_0 m_97 (by decide) (by decide)
            have w_97_0 : 0 ≤ (x_96).toInt ∧ (x_96).toInt ≤ 1 := w_97_0
            obtain ⟨y_98, f_y_98, w_97_1⟩ := w_97_1
            have w_97_1 : (y_98).toInt ≤ (en).toInt ∧ g_ans x_96 ((y_cell kd vl ((cx).toInt, (ry).toInt) ((n0 : Int32).toNatClampNeg + 1)).bind (y_num kd vl 0 9)) (y_98 : Int32).toNatClampNeg := w_97_1
            have b_y_98 : 0 ≤ (y_98).toInt ∧ (y_98).toInt ≤ 1600 := dg_I.intb (lo := 0) (hi := 1600) I_97 sX_209 (by decide +kernel) f_y_98
            refine W.widen (k := 0) (n := 0) (Nat.le_of_ble_eq_true rfl) (Nat.le_of_ble_eq_true rfl) ?_
            exact dg_iret hx hb hr hlocks (dk_znar (by omega) (by omega)) hP hS ⟨I_97, M_97, (by omega), (by exfalso; omega), (Z1X.keep Z1 m_97 (by decide) (by decide) (by decide)), w_97_2, trivial⟩ dX6_readStatement_164
          · refine lv_tableIn (off := 101) (tgt := 165) hx hb dX6_readStatement_64 (by rw [jc_77]; decide) (by rw [jc_77]; decide) (by rw [jc_77]; decide +kernel) (by decide) ?_
            refine lv_aload_n hx hb dX6_readStatement_165 rfl (lv_at hl 0 rfl) ?_
            refine dg_calli hS hA1 hA (va_runV (As := []) (rest := []) F (c_rd_readMiner l g D o S en kd vl fm fo S0 d0 gd hk_gd f_gd n0 f_n0 (by omega) mi f_mi (by omega) od f_od (by omega) ke f_ke (by omega) (by omega) hkd hvl (g_o_ne qw_8_1) hfm hfo hd0 GO I H.size) (cwV 0 hts (bw_V wB_242 wB_243 wB_244 wB_24 wB_241) rfl rfl rfl (by decide +kernel) ⟨Nat.le_of_ble_eq_true rfl, Nat.le_of_ble_eq_true rfl⟩) (dg_preV sX_209 rfl K ST hP hS hA1 hA) rfl rfl hl.1 rfl (lv_room (Nat.le_of_ble_eq_true rfl)) dX6_readStatement_166 ⟨Nat.le_of_ble_eq_true rfl, Nat.le_of_ble_eq_true rfl⟩) (fun x_99 S_100 hw_100 H locs hP hS => ?_)
            obtain ⟨I_100, m_100, w_100_0, w_100_1, w_100_2, w_100_3, w_100_4, -⟩ := hw_100
            have M_100 := dg_sm.tr M_0 m_100 (by decide) (by decide)
            have w_100_0 : 0 ≤ (x_99).toInt ∧ (x_99).toInt ≤ 1 := w_100_0
            obtain ⟨y_101, f_y_101, w_100_1⟩ := w_100_1
            have w_100_1 : (x_99).toInt = 1 → (y_101).toInt = (mi).toInt + 1 := w_100_1
            have b_y_101 : 0 ≤ (y_101).toInt ∧ (y_101).toInt ≤ 6 := dg_I.intb (lo := 0) (hi := 6) I_100 (rX_0 gd hk_gd) (by decide +kernel) f_y_101
            replace w_100_2 : (x_99).toInt = 1 → ∃ v9 : Int32, v9.toInt = (vl ((n0 : Int32).toNatClampNeg + 1)).toInt ∧ S_100.2.1 (gd + 2) = upd fm (mi : Int32).toNatClampNeg v9 := w_100_2
            obtain ⟨y_102, f_y_102, w_100_3⟩ := w_100_3
            have w_100_3 : (y_102).toInt ≤ (en).toInt ∧ g_ans x_99 (if (mi).toInt = 6 then none else y_new kd vl (y_nm fm (mi : Int32).toNatClampNeg) (y_nm fo (od : Int32).toNatClampNeg) ((n0 : Int32).toNatClampNeg + 1)) (y_102 : Int32).toNatClampNeg := w_100_3
            have b_y_102 : 0 ≤ (y_102).toInt ∧ (y_102).toInt ≤ 1600 := dg_I.intb (lo := 0) (hi := 1600) I_100 sX_209 (by decide +kernel) f_y_102
            refine W.widen (k := 0) (n := 0) (Nat.le_of_ble_eq_true rfl) (Nat.le_of_ble_eq_true rfl) ?_
            exact dg_iret hx hb hr hlocks (dk_znar (by omega) (by omega)) hP hS ⟨I_100, M_100, (by omega), (by exfalso; omega), (Z1X.keep Z1 m_100 (by decide) (by decide) (by decide)), w_100_4, trivial⟩ dX6_readStatement_169
          · refine lv_tableIn (off := 106) (tgt := 170) hx hb dX6_readStatement_64 (by rw [jc_77]; decide) (by rw [jc_77]; decide) (by rw [jc_77]; decide +kernel) (by decide) ?_
            refine lv_aload_n hx hb dX6_readStatement_170 rfl (lv_at hl 0 rfl) ?_
            refine dg_calli hS hA1 hA (va_runV (As := []) (rest := []) F (c_rd_readDig l g D o S en kd vl fm S0 d0 gd hk_gd f_gd n0 f_n0 (by omega) cx f_cx (by omega) ry f_ry (by omega) mi f_mi (by omega) pl f_pl (by omega) ke f_ke (by omega) (by omega) hkd hvl (g_o_ne qw_8_1) hfm hd0 GO I H.size) (cwV 0 hts (bw_V wB_246 wB_247 wB_248 wB_24 wB_245) rfl rfl rfl (by decide +kernel) ⟨Nat.le_of_ble_eq_true rfl, Nat.le_of_ble_eq_true rfl⟩) (dg_preV sX_209 rfl K ST hP hS hA1 hA) rfl rfl hl.1 rfl (lv_room (Nat.le_of_ble_eq_true rfl)) dX6_readStatement_171 ⟨Nat.le_of_ble_eq_true rfl, Nat.le_of_ble_eq_true rfl⟩) (fun x_103 S_104 hw_104 H locs hP hS => ?_)
            obtain ⟨I_104, m_104, w_104_0, w_104_1, w_104_2, w_104_3, -⟩ := hw_104
            have M_104 := dg_sm.tr M_0 m_104 (by decide) (by decide)
            have w_104_0 : 0 ≤ (x_103).toInt ∧ (x_103).toInt ≤ 1 := w_104_0
            obtain ⟨y_105, f_y_105, w_104_1⟩ := w_104_1
            have w_104_1 : (x_103).toInt = 1 → (y_105).toInt = (pl).toInt + 1 := w_104_1
            have b_y_105 : 0 ≤ (y_105).toInt ∧ (y_105).toInt ≤ 16 := dg_I.intb (lo := 0) (hi := 16) I_104 (rX_0 gd hk_gd) (by decide +kernel) f_y_105
            obtain ⟨y_106, f_y_106, w_104_2⟩ := w_104_2
            have w_104_2 : (y_106).toInt ≤ (en).toInt ∧ g_ans x_103 (if (pl).toInt = 16 then none else ((y_old kd vl (y_nm fm (mi : Int32).toNatClampNeg) ((n0 : Int32).toNatClampNeg + 1)).bind fun k1 => (y_own kd vl 8 k1).bind (y_cell kd vl ((cx).toInt, (ry).toInt)))) (y_106 : Int32).toNatClampNeg := w_104_2
            have b_y_106 : 0 ≤ (y_106).toInt ∧ (y_106).toInt ≤ 1600 := dg_I.intb (lo := 0) (hi := 1600) I_104 sX_209 (by decide +kernel) f_y_106
            refine W.widen (k := 0) (n := 0) (Nat.le_of_ble_eq_true rfl) (Nat.le_of_ble_eq_true rfl) ?_
            exact dg_iret hx hb hr hlocks (dk_znar (by omega) (by omega)) hP hS ⟨I_104, M_104, (by omega), (by exfalso; omega), (Z1X.keep Z1 m_104 (by decide) (by decide) (by decide)), w_104_3, trivial⟩ dX6_readStatement_174
          · refine lv_tableIn (off := 134) (tgt := 198) hx hb dX6_readStatement_64 (by rw [jc_77]; decide) (by rw [jc_77]; decide) (by rw [jc_77]; decide +kernel) (by decide) ?_
            refine lv_aload_n hx hb dX6_readStatement_198 rfl (lv_at hl 0 rfl) ?_
            refine lv_iconst (v := 1) hx hb dX6_readStatement_199 (by decide +kernel) ?_
            refine dg_calli hS hA1 hA (va_runV (As := [.int 1]) (rest := []) F (c_rd_fail l g D o S 1 en n0 f_n0 (by omega) ke f_ke (by omega) (by omega) I H.size) (cwV 1 hts (bw_V wB_30 wB_31 wB_32 wB_24 wB_29) rfl rfl rfl (by decide +kernel) ⟨Nat.le_of_ble_eq_true rfl, Nat.le_of_ble_eq_true rfl⟩) (dg_preV sX_209 rfl K ST hP hS hA1 hA) rfl rfl hl.1 rfl (lv_room (Nat.le_of_ble_eq_true rfl)) dX6_readStatement_200 ⟨Nat.le_of_ble_eq_true rfl, Nat.le_of_ble_eq_true rfl⟩) (fun x_107 S_108 hw_108 H locs hP hS => ?_)
            obtain ⟨I_108, m_108, w_108_0, -⟩ := hw_108
            have M_108 := dg_sm.tr M_0 m_108 (by decide) (by decide)
            have w_108_0 : 0 ≤ (x_107).toInt ∧ (x_107).toInt ≤ 0 := w_108_0
            refine W.widen (k := 0) (n := 0) (Nat.le_of_ble_eq_true rfl) (Nat.le_of_ble_eq_true rfl) ?_
            exact dg_iret hx hb hr hlocks (dk_znar (by omega) (by omega)) hP hS ⟨I_108, M_108, (by omega), (by exfalso; omega), (Z1X.keep Z1 m_108 (by decide) (by decide) (by decide)), (GOX.keep GO m_108 (by decide) (by decide)), trivial⟩ dX6_readStatement_203
          · refine lv_tableIn (off := 111) (tgt := 175) hx hb dX6_readStatement_64 (by rw [jc_77]; decide) (by rw [jc_77]; decide) (by rw [jc_77]; decide +kernel) (by decide) ?_
            refine lv_aload_n hx hb dX6_readStatement_175 rfl (lv_at hl 0 rfl) ?_
            refine dg_calli hS hA1 hA (va_runV (As := []) (rest := []) F (c_rd_readOrder l g D o S en kd vl fm fo S0 d0 gd hk_gd f_gd n0 f_n0 (by omega) mi f_mi (by omega) od f_od (by omega) ke f_ke (by omega) (by omega) hkd hvl (g_o_ne qw_8_1) hfm hfo hd0 GO I H.size) (cwV 0 hts (bw_V wB_250 wB_251 wB_252 wB_24 wB_249) rfl rfl rfl (by decide +kernel) ⟨Nat.le_of_ble_eq_true rfl, Nat.le_of_ble_eq_true rfl⟩) (dg_preV sX_209 rfl K ST hP hS hA1 hA) rfl rfl hl.1 rfl (lv_room (Nat.le_of_ble_eq_true rfl)) dX6_readStatement_176 ⟨Nat.le_of_ble_eq_true rfl, Nat.le_of_ble_eq_true rfl⟩) (fun x_109 S_110 hw_110 H locs hP hS => ?_)
            obtain ⟨I_110, m_110, w_110_0, w_110_1, w_110_2, w_110_3, w_110_4, -⟩ := hw_110
            have M_110 := dg_sm.tr M_0 m_110 (by decide) (by decide)
            have w_110_0 : 0 ≤ (x_109).toInt ∧ (x_109).toInt ≤ 1 := w_110_0
            obtain ⟨y_111, f_y_111, w_110_1⟩ := w_110_1
            have w_110_1 : (x_109).toInt = 1 → (y_111).toInt = (od).toInt + 1 := w_110_1
            have b_y_111 : 0 ≤ (y_111).toInt ∧ (y_111).toInt ≤ 5 := dg_I.intb (lo := 0) (hi := 5) I_110 (rX_0 gd hk_gd) (by decide +kernel) f_y_111
            replace w_110_2 : (x_109).toInt = 1 → ∃ v9 : Int32, v9.toInt = (vl ((n0 : Int32).toNatClampNeg + 1)).toInt ∧ S_110.2.1 (gd + 5) = upd fo (od : Int32).toNatClampNeg v9 := w_110_2
            obtain ⟨y_112, f_y_112, w_110_3⟩ := w_110_3
            have w_110_3 : (y_112).toInt ≤ (en).toInt ∧ g_ans x_109 (if (od).toInt = 5 then none else ((y_new kd vl (y_nm fm (mi : Int32).toNatClampNeg) (y_nm fo (od : Int32).toNatClampNeg) ((n0 : Int32).toNatClampNeg + 1)).bind fun k1 => (y_own kd vl 5 k1).bind fun k2 => (y_num kd vl 0 9 k2).bind fun k3 => (y_own kd vl 10 k3).bind fun k4 => (y_num kd vl 1 9 k4).bind fun k5 => (y_own kd vl 11 k5).bind (y_num kd vl 0 999))) (y_112 : Int32).toNatClampNeg := w_110_3
            have b_y_112 : 0 ≤ (y_112).toInt ∧ (y_112).toInt ≤ 1600 := dg_I.intb (lo := 0) (hi := 1600) I_110 sX_209 (by decide +kernel) f_y_112
            refine W.widen (k := 0) (n := 0) (Nat.le_of_ble_eq_true rfl) (Nat.le_of_ble_eq_true rfl) ?_
            exact dg_iret hx hb hr hlocks (dk_znar (by omega) (by omega)) hP hS ⟨I_110, M_110, (by omega), (by exfalso; omega), (Z1X.keep Z1 m_110 (by decide) (by decide) (by decide)), w_110_4, trivial⟩ dX6_readStatement_179
          · refine lv_tableIn (off := 134) (tgt := 198) hx hb dX6_readStatement_64 (by rw [jc_77]; decide) (by rw [jc_77]; decide) (by rw [jc_77]; decide +kernel) (by decide) ?_
            refine lv_aload_n hx hb dX6_readStatement_198 rfl (lv_at hl 0 rfl) ?_
            refine lv_iconst (v := 1) hx hb dX6_readStatement_199 (by decide +kernel) ?_
            refine dg_calli hS hA1 hA (va_runV (As := [.int 1]) (rest := []) F (c_rd_fail l g D o S 1 en n0 f_n0 (by omega) ke f_ke (by omega) (by omega) I H.size) (cwV 1 hts (bw_V wB_30 wB_31 wB_32 wB_24 wB_29) rfl rfl rfl (by decide +kernel) ⟨Nat.le_of_ble_eq_true rfl, Nat.le_of_ble_eq_true rfl⟩) (dg_preV sX_209 rfl K ST hP hS hA1 hA) rfl rfl hl.1 rfl (lv_room (Nat.le_of_ble_eq_true rfl)) dX6_readStatement_200 ⟨Nat.le_of_ble_eq_true rfl, Nat.le_of_ble_eq_true rfl⟩) (fun x_113 S_114 hw_114 H locs hP hS => ?_)
            obtain ⟨I_114, m_114, w_114_0, -⟩ := hw_114
            have M_114 := dg_sm.tr M_0 m_114 (by decide) (by decide)
            have w_114_0 : 0 ≤ (x_113).toInt ∧ (x_113).toInt ≤ 0 := w_114_0
            refine W.widen (k := 0) (n := 0) (Nat.le_of_ble_eq_true rfl) (Nat.le_of_ble_eq_true rfl) ?_
            exact dg_iret hx hb hr hlocks (dk_znar (by omega) (by omega)) hP hS ⟨I_114, M_114, (by omega), (by exfalso; omega), (Z1X.keep Z1 m_114 (by decide) (by decide) (by decide)), (GOX.keep GO m_114 (by decide) (by decide)), trivial⟩ dX6_readStatement_203
          · refine lv_tableIn (off := 134) (tgt := 198) hx hb dX6_readStatement_64 (by rw [jc_77]; decide) (by rw [jc_77]; decide) (by rw [jc_77]; decide +kernel) (by decide) ?_
            refine lv_aload_n hx hb dX6_readStatement_198 rfl (lv_at hl 0 rfl) ?_
            refine lv_iconst (v := 1) hx hb dX6_readStatement_199 (by decide +kernel) ?_
            refine dg_calli hS hA1 hA (va_runV (As := [.int 1]) (rest := []) F (c_rd_fail l g D o S 1 en n0 f_n0 (by omega) ke f_ke (by omega) (by omega) I H.size) (cwV 1 hts (bw_V wB_30 wB_31 wB_32 wB_24 wB_29) rfl rfl rfl (by decide +kernel) ⟨Nat.le_of_ble_eq_true rfl, Nat.le_of_ble_eq_true rfl⟩) (dg_preV sX_209 rfl K ST hP hS hA1 hA) rfl rfl hl.1 rfl (lv_room (Nat.le_of_ble_eq_true rfl)) dX6_readStatement_200 ⟨Nat.le_of_ble_eq_true rfl, Nat.le_of_ble_eq_true rfl⟩) (fun x_115 S_116 hw_116 H locs hP hS => ?_)
            obtain ⟨I_116, m_116, w_116_0, -⟩ := hw_116
            have M_116 := dg_sm.tr M_0 m_116 (by decide) (by decide)
            have w_116_0 : 0 ≤ (x_115).toInt ∧ (x_115).toInt ≤ 0 := w_116_0
            refine W.widen (k := 0) (n := 0) (Nat.le_of_ble_eq_true rfl) (Nat.le_of_ble_eq_true rfl) ?_
            exact dg_iret hx hb hr hlocks (dk_znar (by omega) (by omega)) hP hS ⟨I_116, M_116, (by omega), (by exfalso; omega), (Z1X.keep Z1 m_116 (by decide) (by decide) (by decide)), (GOX.keep GO m_116 (by decide) (by decide)), trivial⟩ dX6_readStatement_203
          · refine lv_tableIn (off := 116) (tgt := 180) hx hb dX6_readStatement_64 (by rw [jc_77]; decide) (by rw [jc_77]; decide) (by rw [jc_77]; decide +kernel) (by decide) ?_
            refine lv_aload_n hx hb dX6_readStatement_180 rfl (lv_at hl 0 rfl) ?_
            refine lv_iconst (v := 0) hx hb dX6_readStatement_181 (by decide +kernel) ?_
            have hz_117 : (0 : Int32).toInt = 0 := by decide +kernel
            refine dg_calli hS hA1 hA (va_runV (As := [.int 0]) (rest := []) F (c_rd_readRule l g D o S 0 (by decide +kernel) en kd vl fr fe S0 d0 gd hk_gd f_gd n0 f_n0 (by omega) sc f_sc (by omega) ke f_ke (by omega) (by omega) hkd hvl (by omega) (g_o_ne qw_8_1) hfr hfe hd0 GO I H.size) (cwV 1 hts (bw_V wB_254 wB_255 wB_256 wB_24 wB_253) rfl rfl rfl (by decide +kernel) ⟨Nat.le_of_ble_eq_true rfl, Nat.le_of_ble_eq_true rfl⟩) (dg_preV sX_209 rfl K ST hP hS hA1 hA) rfl rfl hl.1 rfl (lv_room (Nat.le_of_ble_eq_true rfl)) dX6_readStatement_182 ⟨Nat.le_of_ble_eq_true rfl, Nat.le_of_ble_eq_true rfl⟩) (fun x_118 S_119 hw_119 H locs hP hS => ?_)
            obtain ⟨I_119, m_119, w_119_0, w_119_1, w_119_2, w_119_3, -⟩ := hw_119
            have M_119 := dg_sm.tr M_0 m_119 (by decide) (by decide)
            have hz_120 : (0 : Int32).toInt = 0 := by decide +kernel
            have w_119_0 : 0 ≤ (x_118).toInt ∧ (x_118).toInt ≤ 1 := w_119_0
            replace w_119_1 : (x_118).toInt = 1 → ∃ c8 c9 : Int32, c8.toInt < c9.toInt ∧ S_119.2.1 (gd + 10) = upd fr ((0 : Int32) : Int32).toNatClampNeg c8 ∧ S_119.2.1 (gd + 11) = upd fe ((0 : Int32) : Int32).toNatClampNeg c9 := w_119_1
            obtain ⟨y_121, y_122, f_y_121, f_y_122, w_119_2⟩ := w_119_2
            have w_119_2 : ((y_121).toInt ≤ (en).toInt ∧ ((x_118).toInt = 1 → ((sc).toInt + 1 ≤ (y_122).toInt ∧ (y_122).toInt - (sc).toInt ≤ (y_121).toInt - (n0).toInt))) ∧ g_ans x_118 (if (fr ((0 : Int32) : Int32).toNatClampNeg).toInt < (fe ((0 : Int32) : Int32).toNatClampNeg).toInt then none else y_rule kd vl ((0 : Int32)).toInt ((n0 : Int32).toNatClampNeg + 1)) (y_121 : Int32).toNatClampNeg := w_119_2
            have b_y_121 : 0 ≤ (y_121).toInt ∧ (y_121).toInt ≤ 1600 := dg_I.intb (lo := 0) (hi := 1600) I_119 sX_209 (by decide +kernel) f_y_121
            have b_y_122 : 0 ≤ (y_122).toInt ∧ (y_122).toInt ≤ 1600 := dg_I.intb (lo := 0) (hi := 1600) I_119 sX_209 (by decide +kernel) f_y_122
            refine W.widen (k := 0) (n := 0) (Nat.le_of_ble_eq_true rfl) (Nat.le_of_ble_eq_true rfl) ?_
            exact dg_iret hx hb hr hlocks (dk_znar (by omega) (by omega)) hP hS ⟨I_119, M_119, (by omega), (by exfalso; omega), (Z1X.keep Z1 m_119 (by decide) (by decide) (by decide)), w_119_3, trivial⟩ dX6_readStatement_185
          · refine lv_tableIn (off := 122) (tgt := 186) hx hb dX6_readStatement_64 (by rw [jc_77]; decide) (by rw [jc_77]; decide) (by rw [jc_77]; decide +kernel) (by decide) ?_
            refine lv_aload_n hx hb dX6_readStatement_186 rfl (lv_at hl 0 rfl) ?_
            refine lv_iconst (v := 1) hx hb dX6_readStatement_187 (by decide +kernel) ?_
            have hz_123 : (1 : Int32).toInt = 1 := by decide +kernel
            refine dg_calli hS hA1 hA (va_runV (As := [.int 1]) (rest := []) F (c_rd_readRule l g D o S 1 (by decide +kernel) en kd vl fr fe S0 d0 gd hk_gd f_gd n0 f_n0 (by omega) sc f_sc (by omega) ke f_ke (by omega) (by omega) hkd hvl (by omega) (g_o_ne qw_8_1) hfr hfe hd0 GO I H.size) (cwV 1 hts (bw_V wB_254 wB_255 wB_256 wB_24 wB_253) rfl rfl rfl (by decide +kernel) ⟨Nat.le_of_ble_eq_true rfl, Nat.le_of_ble_eq_true rfl⟩) (dg_preV sX_209 rfl K ST hP hS hA1 hA) rfl rfl hl.1 rfl (lv_room (Nat.le_of_ble_eq_true rfl)) dX6_readStatement_188 ⟨Nat.le_of_ble_eq_true rfl, Nat.le_of_ble_eq_true rfl⟩) (fun x_124 S_125 hw_125 H locs hP hS => ?_)
            obtain ⟨I_125, m_125, w_125_0, w_125_1, w_125_2, w_125_3, -⟩ := hw_125
            have M_125 := dg_sm.tr M_0 m_125 (by decide) (by decide)
            have hz_126 : (1 : Int32).toInt = 1 := by decide +kernel
            have w_125_0 : 0 ≤ (x_124).toInt ∧ (x_124).toInt ≤ 1 := w_125_0
            replace w_125_1 : (x_124).toInt = 1 → ∃ c8 c9 : Int32, c8.toInt < c9.toInt ∧ S_125.2.1 (gd + 10) = upd fr ((1 : Int32) : Int32).toNatClampNeg c8 ∧ S_125.2.1 (gd + 11) = upd fe ((1 : Int32) : Int32).toNatClampNeg c9 := w_125_1
            obtain ⟨y_127, y_128, f_y_127, f_y_128, w_125_2⟩ := w_125_2
            have w_125_2 : ((y_127).toInt ≤ (en).toInt ∧ ((x_124).toInt = 1 → ((sc).toInt + 1 ≤ (y_128).toInt ∧ (y_128).toInt - (sc).toInt ≤ (y_127).toInt - (n0).toInt))) ∧ g_ans x_124 (if (fr ((1 : Int32) : Int32).toNatClampNeg).toInt < (fe ((1 : Int32) : Int32).toNatClampNeg).toInt then none else y_rule kd vl ((1 : Int32)).toInt ((n0 : Int32).toNatClampNeg + 1)) (y_127 : Int32).toNatClampNeg := w_125_2
            have b_y_127 : 0 ≤ (y_127).toInt ∧ (y_127).toInt ≤ 1600 := dg_I.intb (lo := 0) (hi := 1600) I_125 sX_209 (by decide +kernel) f_y_127
            have b_y_128 : 0 ≤ (y_128).toInt ∧ (y_128).toInt ≤ 1600 := dg_I.intb (lo := 0) (hi := 1600) I_125 sX_209 (by decide +kernel) f_y_128
            refine W.widen (k := 0) (n := 0) (Nat.le_of_ble_eq_true rfl) (Nat.le_of_ble_eq_true rfl) ?_
            exact dg_iret hx hb hr hlocks (dk_znar (by omega) (by omega)) hP hS ⟨I_125, M_125, (by omega), (by exfalso; omega), (Z1X.keep Z1 m_125 (by decide) (by decide) (by decide)), w_125_3, trivial⟩ dX6_readStatement_191
          · refine lv_tableIn (off := 128) (tgt := 192) hx hb dX6_readStatement_64 (by rw [jc_77]; decide) (by rw [jc_77]; decide) (by rw [jc_77]; decide +kernel) (by decide) ?_
            refine lv_aload_n hx hb dX6_readStatement_192 rfl (lv_at hl 0 rfl) ?_
            refine lv_iconst (v := 2) hx hb dX6_readStatement_193 (by decide +kernel) ?_
            have hz_129 : (2 : Int32).toInt = 2 := by decide +kernel
            refine dg_calli hS hA1 hA (va_runV (As := [.int 2]) (rest := []) F (c_rd_readRule l g D o S 2 (by decide +kernel) en kd vl fr fe S0 d0 gd hk_gd f_gd n0 f_n0 (by omega) sc f_sc (by omega) ke f_ke (by omega) (by omega) hkd hvl (by omega) (g_o_ne qw_8_1) hfr hfe hd0 GO I H.size) (cwV 1 hts (bw_V wB_254 wB_255 wB_256 wB_24 wB_253) rfl rfl rfl (by decide +kernel) ⟨Nat.le_of_ble_eq_true rfl, Nat.le_of_ble_eq_true rfl⟩) (dg_preV sX_209 rfl K ST hP hS hA1 hA) rfl rfl hl.1 rfl (lv_room (Nat.le_of_ble_eq_true rfl)) dX6_readStatement_194 ⟨Nat.le_of_ble_eq_true rfl, Nat.le_of_ble_eq_true rfl⟩) (fun x_130 S_131 hw_131 H locs hP hS => ?_)
            obtain ⟨I_131, m_131, w_131_0, w_131_1, w_131_2, w_131_3, -⟩ := hw_131
            have M_131 := dg_sm.tr M_0 m_131 (by decide) (by decide)
            have hz_132 : (2 : Int32).toInt = 2 := by decide +kernel
            have w_131_0 : 0 ≤ (x_130).toInt ∧ (x_130).toInt ≤ 1 := w_131_0
            replace w_131_1 : (x_130).toInt = 1 → ∃ c8 c9 : Int32, c8.toInt < c9.toInt ∧ S_131.2.1 (gd + 10) = upd fr ((2 : Int32) : Int32).toNatClampNeg c8 ∧ S_131.2.1 (gd + 11) = upd fe ((2 : Int32) : Int32).toNatClampNeg c9 := w_131_1
            obtain ⟨y_133, y_134, f_y_133, f_y_134, w_131_2⟩ := w_131_2
            have w_131_2 : ((y_133).toInt ≤ (en).toInt ∧ ((x_130).toInt = 1 → ((sc).toInt + 1 ≤ (y_134).toInt ∧ (y_134).toInt - (sc).toInt ≤ (y_133).toInt - (n0).toInt))) ∧ g_ans x_130 (if (fr ((2 : Int32) : Int32).toNatClampNeg).toInt < (fe ((2 : Int32) : Int32).toNatClampNeg).toInt then none else y_rule kd vl ((2 : Int32)).toInt ((n0 : Int32).toNatClampNeg + 1)) (y_133 : Int32).toNatClampNeg := w_131_2
            have b_y_133 : 0 ≤ (y_133).toInt ∧ (y_133).toInt ≤ 1600 := dg_I.intb (lo := 0) (hi := 1600) I_131 sX_209 (by decide +kernel) f_y_133
            have b_y_134 : 0 ≤ (y_134).toInt ∧ (y_134).toInt ≤ 1600 := dg_I.intb (lo := 0) (hi := 1600) I_131 sX_209 (by decide +kernel) f_y_134
            refine W.widen (k := 0) (n := 0) (Nat.le_of_ble_eq_true rfl) (Nat.le_of_ble_eq_true rfl) ?_
            exact dg_iret hx hb hr hlocks (dk_znar (by omega) (by omega)) hP hS ⟨I_131, M_131, (by omega), (by exfalso; omega), (Z1X.keep Z1 m_131 (by decide) (by decide) (by decide)), w_131_3, trivial⟩ dX6_readStatement_197
        · have jc_74 := dk_neqc (k := 1) (by decide +kernel) c_74
          have qw_8_1 : g_o kd vl 0 (n0 : Int32).toNatClampNeg = false := by have h9 := g_iff_f w_8_1 (by omega); rw [show (0 : Int32).toInt = 0 from by decide +kernel] at h9; exact h9
          have qlw_8_1 : ¬ ((kd (n0 : Int32).toNatClampNeg).toInt = 1 ∧ (vl (n0 : Int32).toNatClampNeg).toInt = 0) := by have h8 := g_o_iff (kd := kd) (vl := vl) (c := 0) (k := (n0 : Int32).toNatClampNeg); rw [qw_8_1] at h8; simpa using h8
          refine lv_aload_n hx hb dX6_readStatement_46 rfl (lv_at hl 0 rfl) ?_
          refine lv_iconst (v := 1) hx hb dX6_readStatement_47 (by decide +kernel) ?_
          refine dg_calli hS hA1 hA (va_runV (As := [.int 1]) (rest := []) F (c_rd_fail l g D o S 1 en n0 f_n0 (by omega) ke f_ke (by omega) (by omega) I H.size) (cwV 1 hts (bw_V wB_30 wB_31 wB_32 wB_24 wB_29) rfl rfl rfl (by decide +kernel) ⟨Nat.le_of_ble_eq_true rfl, Nat.le_of_ble_eq_true rfl⟩) (dg_preV sX_209 rfl K ST hP hS hA1 hA) rfl rfl hl.1 rfl (lv_room (Nat.le_of_ble_eq_true rfl)) dX6_readStatement_48 ⟨Nat.le_of_ble_eq_true rfl, Nat.le_of_ble_eq_true rfl⟩) (fun x_135 S_136 hw_136 H locs hP hS => ?_)
          obtain ⟨I_136, m_136, w_136_0, -⟩ := hw_136
          have M_136 := dg_sm.tr M_0 m_136 (by decide) (by decide)
          have w_136_0 : 0 ≤ (x_135).toInt ∧ (x_135).toInt ≤ 0 := w_136_0
          refine W.widen (k := 0) (n := 0) (Nat.le_of_ble_eq_true rfl) (Nat.le_of_ble_eq_true rfl) ?_
          exact dg_iret hx hb hr hlocks (dk_znar (by omega) (by omega)) hP hS ⟨I_136, M_136, (by omega), ⟨cx, ry, mi, pl, od, n0, sc, ((m_136.1 gd 0 _ (rX_0 gd hk_gd) (by decide)).trans f_cx), ((m_136.1 gd 1 _ (rX_0 gd hk_gd) (by decide)).trans f_ry), ((m_136.1 gd 6 _ (rX_0 gd hk_gd) (by decide)).trans f_mi), ((m_136.1 gd 8 _ (rX_0 gd hk_gd) (by decide)).trans f_pl), ((m_136.1 gd 11 _ (rX_0 gd hk_gd) (by decide)).trans f_od), ((m_136.1 209 4 _ sX_209 (by decide)).trans f_n0), ((m_136.1 209 7 _ sX_209 (by decide)).trans f_sc), by omega, fun q9 => absurd q9 (by omega), (fun _ => by omega), fun _ => by rw [(m_136.2 (gd + 2) _ (rX_2 gd hk_gd) (by decide)).1, hfm, (m_136.2 (gd + 5) _ (rX_5 gd hk_gd) (by decide)).1, hfo, (m_136.2 (gd + 10) _ (rX_10 gd hk_gd) (by decide)).1, hfr, (m_136.2 (gd + 11) _ (rX_11 gd hk_gd) (by decide)).1, hfe]; exact y_ok.no (by omega) (by first | exact y_one_k (by omega) | exact y_one_0 (by have h8 := dk_clN a1; omega) (by omega) | exact y_one_no (by have h8 := dk_clN a1; omega) (by omega))⟩, (Z1X.keep Z1 m_136 (by decide) (by decide) (by decide)), (GOX.keep GO m_136 (by decide) (by decide)), trivial⟩ dX6_readStatement_51
  · have jc_1 := dk_eqc (k := 80) (by decide +kernel) c_1
    refine lv_aload_n hx hb dX6_readStatement_6 rfl (lv_at hl 0 rfl) ?_
    refine lv_bipush (v := 6) hx hb dX6_readStatement_7 (by decide +kernel) ?_
    refine dg_calli hS hA1 hA (va_runV (As := [.int 6]) (rest := []) F (c_rd_fail l g D o S 6 en n0 f_n0 (by omega) ke f_ke (by omega) (by omega) I s.heap.size) (cwV 1 hts (bw_V wB_30 wB_31 wB_32 wB_24 wB_29) rfl rfl rfl (by decide +kernel) ⟨Nat.le_of_ble_eq_true rfl, Nat.le_of_ble_eq_true rfl⟩) (dg_preV sX_209 rfl K ST hP hS hA1 hA) rfl rfl hl.1 rfl (lv_room (Nat.le_of_ble_eq_true rfl)) dX6_readStatement_9 ⟨Nat.le_of_ble_eq_true rfl, Nat.le_of_ble_eq_true rfl⟩) (fun x_137 S_138 hw_138 H locs hP hS => ?_)
    obtain ⟨I_138, m_138, w_138_0, -⟩ := hw_138
    have M_138 := dg_sm.tr M_0 m_138 (by decide) (by decide)
    have w_138_0 : 0 ≤ (x_137).toInt ∧ (x_137).toInt ≤ 0 := w_138_0
    refine W.widen (k := 0) (n := 0) (Nat.le_of_ble_eq_true rfl) (Nat.le_of_ble_eq_true rfl) ?_
    exact dg_iret hx hb hr hlocks (dk_znar (by omega) (by omega)) hP hS ⟨I_138, M_138, (by omega), ⟨cx, ry, mi, pl, od, n0, sc, ((m_138.1 gd 0 _ (rX_0 gd hk_gd) (by decide)).trans f_cx), ((m_138.1 gd 1 _ (rX_0 gd hk_gd) (by decide)).trans f_ry), ((m_138.1 gd 6 _ (rX_0 gd hk_gd) (by decide)).trans f_mi), ((m_138.1 gd 8 _ (rX_0 gd hk_gd) (by decide)).trans f_pl), ((m_138.1 gd 11 _ (rX_0 gd hk_gd) (by decide)).trans f_od), ((m_138.1 209 4 _ sX_209 (by decide)).trans f_n0), ((m_138.1 209 7 _ sX_209 (by decide)).trans f_sc), by omega, fun q9 => absurd q9 (by omega), fun _ => by omega, fun q9 => absurd (by omega) q9⟩, (Z1X.keep Z1 m_138 (by decide) (by decide) (by decide)), (GOX.keep GO m_138 (by decide) (by decide)), trivial⟩ dX6_readStatement_12
