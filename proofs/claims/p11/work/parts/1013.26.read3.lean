/-! 26.read3.lean.txt -/
theorem dX6_readStatement_0 : decode cX6_readStatement 0 = .ok (.iload_n 1, 1) := dk_o27 (by decide +kernel)
theorem dX6_readStatement_1 : decode cX6_readStatement 1 = .ok (.bipush 80, 2) := dk_o16 (by decide +kernel)
theorem dX6_readStatement_3 : decode cX6_readStatement 3 = .ok (.if_icmp .ne 10, 3) := dk_o160 (by decide +kernel)
theorem dX6_readStatement_6 : decode cX6_readStatement 6 = .ok (.aload_n 0, 1) := dk_o42 (by decide +kernel)
theorem dX6_readStatement_7 : decode cX6_readStatement 7 = .ok (.bipush 6, 2) := dk_o16 (by decide +kernel)
theorem dX6_readStatement_9 : decode cX6_readStatement 9 = .ok (.invokevirtual 55, 3) := dk_o182 (by decide +kernel)
theorem dX6_readStatement_12 : decode cX6_readStatement 12 = .ok (.ireturn, 1) := dk_o172 (by decide +kernel)
theorem dX6_readStatement_13 : decode cX6_readStatement 13 = .ok (.aload_n 0, 1) := dk_o42 (by decide +kernel)
theorem dX6_readStatement_14 : decode cX6_readStatement 14 = .ok (.getfield 18, 3) := dk_o180 (by decide +kernel)
theorem dX6_readStatement_17 : decode cX6_readStatement 17 = .ok (.getfield 44, 3) := dk_o180 (by decide +kernel)
theorem dX6_readStatement_20 : decode cX6_readStatement 20 = .ok (.aload_n 0, 1) := dk_o42 (by decide +kernel)
theorem dX6_readStatement_21 : decode cX6_readStatement 21 = .ok (.getfield 34, 3) := dk_o180 (by decide +kernel)
theorem dX6_readStatement_24 : decode cX6_readStatement 24 = .ok (.iaload, 1) := dk_o46 (by decide +kernel)
theorem dX6_readStatement_25 : decode cX6_readStatement 25 = .ok (.iconst 1, 1) := dk_o4 (by decide +kernel)
theorem dX6_readStatement_26 : decode cX6_readStatement 26 = .ok (.if_icmp .ne 20, 3) := dk_o160 (by decide +kernel)
theorem dX6_readStatement_29 : decode cX6_readStatement 29 = .ok (.aload_n 0, 1) := dk_o42 (by decide +kernel)
theorem dX6_readStatement_30 : decode cX6_readStatement 30 = .ok (.iconst 0, 1) := dk_o3 (by decide +kernel)
theorem dX6_readStatement_31 : decode cX6_readStatement 31 = .ok (.invokevirtual 58, 3) := dk_o182 (by decide +kernel)
theorem dX6_readStatement_34 : decode cX6_readStatement 34 = .ok (.iload_n 1, 1) := dk_o27 (by decide +kernel)
theorem dX6_readStatement_35 : decode cX6_readStatement 35 = .ok (.ifCond .ne 7, 3) := dk_o154 (by decide +kernel)
theorem dX6_readStatement_38 : decode cX6_readStatement 38 = .ok (.iconst 1, 1) := dk_o4 (by decide +kernel)
theorem dX6_readStatement_39 : decode cX6_readStatement 39 = .ok (.goto 4, 3) := dk_o167 (by decide +kernel)
theorem dX6_readStatement_42 : decode cX6_readStatement 42 = .ok (.iconst 0, 1) := dk_o3 (by decide +kernel)
theorem dX6_readStatement_43 : decode cX6_readStatement 43 = .ok (.if_icmp .eq 9, 3) := dk_o159 (by decide +kernel)
theorem dX6_readStatement_46 : decode cX6_readStatement 46 = .ok (.aload_n 0, 1) := dk_o42 (by decide +kernel)
theorem dX6_readStatement_47 : decode cX6_readStatement 47 = .ok (.iconst 1, 1) := dk_o4 (by decide +kernel)
theorem dX6_readStatement_48 : decode cX6_readStatement 48 = .ok (.invokevirtual 55, 3) := dk_o182 (by decide +kernel)
theorem dX6_readStatement_51 : decode cX6_readStatement 51 = .ok (.ireturn, 1) := dk_o172 (by decide +kernel)
theorem dX6_readStatement_52 : decode cX6_readStatement 52 = .ok (.aload_n 0, 1) := dk_o42 (by decide +kernel)
theorem dX6_readStatement_53 : decode cX6_readStatement 53 = .ok (.getfield 18, 3) := dk_o180 (by decide +kernel)
theorem dX6_readStatement_56 : decode cX6_readStatement 56 = .ok (.getfield 61, 3) := dk_o180 (by decide +kernel)
theorem dX6_readStatement_59 : decode cX6_readStatement 59 = .ok (.aload_n 0, 1) := dk_o42 (by decide +kernel)
theorem dX6_readStatement_60 : decode cX6_readStatement 60 = .ok (.getfield 34, 3) := dk_o180 (by decide +kernel)
theorem dX6_readStatement_63 : decode cX6_readStatement 63 = .ok (.iaload, 1) := dk_o46 (by decide +kernel)
theorem dX6_readStatement_64 : decode cX6_readStatement 64 = .ok (.tableswitch 134 0 14 #[76, 134, 81, 86, 91, 96, 101, 106, 134, 111, 134, 134, 116, 122, 128], 76) := by decide +kernel
theorem dX6_readStatement_140 : decode cX6_readStatement 140 = .ok (.aload_n 0, 1) := dk_o42 (by decide +kernel)
theorem dX6_readStatement_141 : decode cX6_readStatement 141 = .ok (.invokevirtual 64, 3) := dk_o182 (by decide +kernel)
theorem dX6_readStatement_144 : decode cX6_readStatement 144 = .ok (.ireturn, 1) := dk_o172 (by decide +kernel)
theorem dX6_readStatement_145 : decode cX6_readStatement 145 = .ok (.aload_n 0, 1) := dk_o42 (by decide +kernel)
theorem dX6_readStatement_146 : decode cX6_readStatement 146 = .ok (.invokevirtual 68, 3) := dk_o182 (by decide +kernel)
theorem dX6_readStatement_149 : decode cX6_readStatement 149 = .ok (.ireturn, 1) := dk_o172 (by decide +kernel)
theorem dX6_readStatement_150 : decode cX6_readStatement 150 = .ok (.aload_n 0, 1) := dk_o42 (by decide +kernel)
theorem dX6_readStatement_151 : decode cX6_readStatement 151 = .ok (.invokevirtual 71, 3) := dk_o182 (by decide +kernel)
theorem dX6_readStatement_154 : decode cX6_readStatement 154 = .ok (.ireturn, 1) := dk_o172 (by decide +kernel)
theorem dX6_readStatement_155 : decode cX6_readStatement 155 = .ok (.aload_n 0, 1) := dk_o42 (by decide +kernel)
theorem dX6_readStatement_156 : decode cX6_readStatement 156 = .ok (.invokevirtual 74, 3) := dk_o182 (by decide +kernel)
theorem dX6_readStatement_159 : decode cX6_readStatement 159 = .ok (.ireturn, 1) := dk_o172 (by decide +kernel)
theorem dX6_readStatement_160 : decode cX6_readStatement 160 = .ok (.aload_n 0, 1) := dk_o42 (by decide +kernel)
theorem dX6_readStatement_161 : decode cX6_readStatement 161 = .ok (.invokevirtual 77, 3) := dk_o182 (by decide +kernel)
theorem dX6_readStatement_164 : decode cX6_readStatement 164 = .ok (.ireturn, 1) := dk_o172 (by decide +kernel)
theorem dX6_readStatement_165 : decode cX6_readStatement 165 = .ok (.aload_n 0, 1) := dk_o42 (by decide +kernel)
theorem dX6_readStatement_166 : decode cX6_readStatement 166 = .ok (.invokevirtual 80, 3) := dk_o182 (by decide +kernel)
theorem dX6_readStatement_169 : decode cX6_readStatement 169 = .ok (.ireturn, 1) := dk_o172 (by decide +kernel)
theorem dX6_readStatement_170 : decode cX6_readStatement 170 = .ok (.aload_n 0, 1) := dk_o42 (by decide +kernel)
theorem dX6_readStatement_171 : decode cX6_readStatement 171 = .ok (.invokevirtual 83, 3) := dk_o182 (by decide +kernel)
theorem dX6_readStatement_174 : decode cX6_readStatement 174 = .ok (.ireturn, 1) := dk_o172 (by decide +kernel)
theorem dX6_readStatement_175 : decode cX6_readStatement 175 = .ok (.aload_n 0, 1) := dk_o42 (by decide +kernel)
theorem dX6_readStatement_176 : decode cX6_readStatement 176 = .ok (.invokevirtual 86, 3) := dk_o182 (by decide +kernel)
theorem dX6_readStatement_179 : decode cX6_readStatement 179 = .ok (.ireturn, 1) := dk_o172 (by decide +kernel)
theorem dX6_readStatement_180 : decode cX6_readStatement 180 = .ok (.aload_n 0, 1) := dk_o42 (by decide +kernel)
theorem dX6_readStatement_181 : decode cX6_readStatement 181 = .ok (.iconst 0, 1) := dk_o3 (by decide +kernel)
theorem dX6_readStatement_182 : decode cX6_readStatement 182 = .ok (.invokevirtual 89, 3) := dk_o182 (by decide +kernel)
theorem dX6_readStatement_185 : decode cX6_readStatement 185 = .ok (.ireturn, 1) := dk_o172 (by decide +kernel)
theorem dX6_readStatement_186 : decode cX6_readStatement 186 = .ok (.aload_n 0, 1) := dk_o42 (by decide +kernel)
theorem dX6_readStatement_187 : decode cX6_readStatement 187 = .ok (.iconst 1, 1) := dk_o4 (by decide +kernel)
theorem dX6_readStatement_188 : decode cX6_readStatement 188 = .ok (.invokevirtual 89, 3) := dk_o182 (by decide +kernel)
theorem dX6_readStatement_191 : decode cX6_readStatement 191 = .ok (.ireturn, 1) := dk_o172 (by decide +kernel)
theorem dX6_readStatement_192 : decode cX6_readStatement 192 = .ok (.aload_n 0, 1) := dk_o42 (by decide +kernel)
theorem dX6_readStatement_193 : decode cX6_readStatement 193 = .ok (.iconst 2, 1) := dk_o5 (by decide +kernel)
theorem dX6_readStatement_194 : decode cX6_readStatement 194 = .ok (.invokevirtual 89, 3) := dk_o182 (by decide +kernel)
theorem dX6_readStatement_197 : decode cX6_readStatement 197 = .ok (.ireturn, 1) := dk_o172 (by decide +kernel)
theorem dX6_readStatement_198 : decode cX6_readStatement 198 = .ok (.aload_n 0, 1) := dk_o42 (by decide +kernel)
theorem dX6_readStatement_199 : decode cX6_readStatement 199 = .ok (.iconst 1, 1) := dk_o4 (by decide +kernel)
theorem dX6_readStatement_200 : decode cX6_readStatement 200 = .ok (.invokevirtual 55, 3) := dk_o182 (by decide +kernel)
theorem dX6_readStatement_203 : decode cX6_readStatement 203 = .ok (.ireturn, 1) := dk_o172 (by decide +kernel)
theorem dX6_readRule_0 : decode cX6_readRule 0 = .ok (.aload_n 0, 1) := dk_o42 (by decide +kernel)
theorem dX6_readRule_1 : decode cX6_readRule 1 = .ok (.getfield 22, 3) := dk_o180 (by decide +kernel)
theorem dX6_readRule_4 : decode cX6_readRule 4 = .ok (.iload_n 1, 1) := dk_o27 (by decide +kernel)
theorem dX6_readRule_5 : decode cX6_readRule 5 = .ok (.invokevirtual 167, 3) := dk_o182 (by decide +kernel)
theorem dX6_readRule_8 : decode cX6_readRule 8 = .ok (.ifCond .eq 10, 3) := dk_o153 (by decide +kernel)
theorem dX6_readRule_11 : decode cX6_readRule 11 = .ok (.aload_n 0, 1) := dk_o42 (by decide +kernel)
theorem dX6_readRule_12 : decode cX6_readRule 12 = .ok (.bipush 6, 2) := dk_o16 (by decide +kernel)
theorem dX6_readRule_14 : decode cX6_readRule 14 = .ok (.invokevirtual 55, 3) := dk_o182 (by decide +kernel)
theorem dX6_readRule_17 : decode cX6_readRule 17 = .ok (.ireturn, 1) := dk_o172 (by decide +kernel)
theorem dX6_readRule_18 : decode cX6_readRule 18 = .ok (.aload_n 0, 1) := dk_o42 (by decide +kernel)
theorem dX6_readRule_19 : decode cX6_readRule 19 = .ok (.invokevirtual 92, 3) := dk_o182 (by decide +kernel)
theorem dX6_readRule_22 : decode cX6_readRule 22 = .ok (.aload_n 0, 1) := dk_o42 (by decide +kernel)
theorem dX6_readRule_23 : decode cX6_readRule 23 = .ok (.iload_n 1, 1) := dk_o27 (by decide +kernel)
theorem dX6_readRule_24 : decode cX6_readRule 24 = .ok (.putfield 170, 3) := dk_o181 (by decide +kernel)
theorem dX6_readRule_27 : decode cX6_readRule 27 = .ok (.aload_n 0, 1) := dk_o42 (by decide +kernel)
theorem dX6_readRule_28 : decode cX6_readRule 28 = .ok (.getfield 22, 3) := dk_o180 (by decide +kernel)
theorem dX6_readRule_31 : decode cX6_readRule 31 = .ok (.getfield 173, 3) := dk_o180 (by decide +kernel)
theorem dX6_readRule_34 : decode cX6_readRule 34 = .ok (.aload_n 0, 1) := dk_o42 (by decide +kernel)
theorem dX6_readRule_35 : decode cX6_readRule 35 = .ok (.getfield 170, 3) := dk_o180 (by decide +kernel)
theorem dX6_readRule_38 : decode cX6_readRule 38 = .ok (.aload_n 0, 1) := dk_o42 (by decide +kernel)
theorem dX6_readRule_39 : decode cX6_readRule 39 = .ok (.getfield 37, 3) := dk_o180 (by decide +kernel)
theorem dX6_readRule_42 : decode cX6_readRule 42 = .ok (.iastore, 1) := dk_o79 (by decide +kernel)
theorem dX6_readRule_43 : decode cX6_readRule 43 = .ok (.aload_n 0, 1) := dk_o42 (by decide +kernel)
theorem dX6_readRule_44 : decode cX6_readRule 44 = .ok (.getfield 170, 3) := dk_o180 (by decide +kernel)
theorem dX6_readRule_47 : decode cX6_readRule 47 = .ok (.iconst 1, 1) := dk_o4 (by decide +kernel)
theorem dX6_readRule_48 : decode cX6_readRule 48 = .ok (.if_icmp .ne 11, 3) := dk_o160 (by decide +kernel)
theorem dX6_readRule_51 : decode cX6_readRule 51 = .ok (.aload_n 0, 1) := dk_o42 (by decide +kernel)
theorem dX6_readRule_52 : decode cX6_readRule 52 = .ok (.iconst 0, 1) := dk_o3 (by decide +kernel)
theorem dX6_readRule_53 : decode cX6_readRule 53 = .ok (.invokevirtual 176, 3) := dk_o182 (by decide +kernel)
theorem dX6_readRule_56 : decode cX6_readRule 56 = .ok (.goto 8, 3) := dk_o167 (by decide +kernel)
theorem dX6_readRule_59 : decode cX6_readRule 59 = .ok (.aload_n 0, 1) := dk_o42 (by decide +kernel)
theorem dX6_readRule_60 : decode cX6_readRule 60 = .ok (.iconst 0, 1) := dk_o3 (by decide +kernel)
theorem dX6_readRule_61 : decode cX6_readRule 61 = .ok (.invokevirtual 179, 3) := dk_o182 (by decide +kernel)
theorem dX6_readRule_64 : decode cX6_readRule 64 = .ok (.istore_n 2, 1) := dk_o61 (by decide +kernel)
theorem dX6_readRule_65 : decode cX6_readRule 65 = .ok (.aload_n 0, 1) := dk_o42 (by decide +kernel)
theorem dX6_readRule_66 : decode cX6_readRule 66 = .ok (.getfield 22, 3) := dk_o180 (by decide +kernel)
theorem dX6_readRule_69 : decode cX6_readRule 69 = .ok (.getfield 182, 3) := dk_o180 (by decide +kernel)
theorem dX6_readRule_72 : decode cX6_readRule 72 = .ok (.aload_n 0, 1) := dk_o42 (by decide +kernel)
theorem dX6_readRule_73 : decode cX6_readRule 73 = .ok (.getfield 170, 3) := dk_o180 (by decide +kernel)
theorem dX6_readRule_76 : decode cX6_readRule 76 = .ok (.aload_n 0, 1) := dk_o42 (by decide +kernel)
theorem dX6_readRule_77 : decode cX6_readRule 77 = .ok (.getfield 37, 3) := dk_o180 (by decide +kernel)
theorem dX6_readRule_80 : decode cX6_readRule 80 = .ok (.iastore, 1) := dk_o79 (by decide +kernel)
theorem dX6_readRule_81 : decode cX6_readRule 81 = .ok (.iload_n 2, 1) := dk_o28 (by decide +kernel)
theorem dX6_readRule_82 : decode cX6_readRule 82 = .ok (.ireturn, 1) := dk_o172 (by decide +kernel)
theorem wB_215 : Cond.code yX2_hasRule cX2_hasRule 2 (some .boolean) ∈ dgB := List.mem_filter.mpr ⟨tbl_4 _ (List.mem_of_getElem? (i := 42) rfl), rfl⟩
theorem wB_216 : Cond.methodLink RX6 167 yX2_hasRule ∈ dgB := List.mem_filter.mpr ⟨tbl_4 _ (List.mem_of_getElem? (i := 39) (by decide +kernel)), by decide +kernel⟩
theorem wB_217 : Cond.instanceMethod yX2_hasRule ∈ dgB := List.mem_filter.mpr ⟨tbl_4 _ (List.mem_of_getElem? (i := 40) (by decide +kernel)), by decide +kernel⟩
theorem wB_218 : Cond.selects RX2 yX2_hasRule yX2_hasRule ∈ dgB := List.mem_filter.mpr ⟨tbl_4 _ (List.mem_of_getElem? (i := 41) (by decide +kernel)), by decide +kernel⟩
theorem wB_219 : Cond.fieldLink RX6 173 "DarkMine$Ground" "ruleFrom" "[I" ∈ dgB := List.mem_filter.mpr ⟨tbl_2 _ (List.mem_of_getElem? (i := 5) (by decide +kernel)), by decide +kernel⟩
theorem wB_220 : Cond.fieldLink RX6 182 "DarkMine$Ground" "ruleEnd" "[I" ∈ dgB := List.mem_filter.mpr ⟨tbl_2 _ (List.mem_of_getElem? (i := 8) (by decide +kernel)), by decide +kernel⟩
theorem wB_221 : Cond.code yX6_readSeam cX6_readSeam 2 (some .boolean) ∈ dgB := List.mem_filter.mpr ⟨tbl_3 _ (List.mem_of_getElem? (i := 209) rfl), rfl⟩
theorem wB_222 : Cond.methodLink RX6 64 yX6_readSeam ∈ dgB := List.mem_filter.mpr ⟨tbl_3 _ (List.mem_of_getElem? (i := 206) (by decide +kernel)), by decide +kernel⟩
theorem wB_223 : Cond.instanceMethod yX6_readSeam ∈ dgB := List.mem_filter.mpr ⟨tbl_3 _ (List.mem_of_getElem? (i := 208) (by decide +kernel)), by decide +kernel⟩
theorem wB_224 : Cond.selects RX6 yX6_readSeam yX6_readSeam ∈ dgB := List.mem_filter.mpr ⟨List.mem_of_getElem? (i := 9) (by decide +kernel), by decide +kernel⟩
theorem wB_225 : Cond.code yX6_readShaft cX6_readShaft 1 (some .boolean) ∈ dgB := List.mem_filter.mpr ⟨tbl_3 _ (List.mem_of_getElem? (i := 229) rfl), rfl⟩
theorem wB_226 : Cond.methodLink RX6 68 yX6_readShaft ∈ dgB := List.mem_filter.mpr ⟨tbl_3 _ (List.mem_of_getElem? (i := 226) (by decide +kernel)), by decide +kernel⟩
theorem wB_227 : Cond.instanceMethod yX6_readShaft ∈ dgB := List.mem_filter.mpr ⟨tbl_3 _ (List.mem_of_getElem? (i := 228) (by decide +kernel)), by decide +kernel⟩
theorem wB_228 : Cond.selects RX6 yX6_readShaft yX6_readShaft ∈ dgB := List.mem_filter.mpr ⟨List.mem_of_getElem? (i := 13) (by decide +kernel), by decide +kernel⟩
theorem wB_229 : Cond.code yX6_readReach cX6_readReach 1 (some .boolean) ∈ dgB := List.mem_filter.mpr ⟨tbl_3 _ (List.mem_of_getElem? (i := 233) rfl), rfl⟩
theorem wB_230 : Cond.methodLink RX6 71 yX6_readReach ∈ dgB := List.mem_filter.mpr ⟨tbl_3 _ (List.mem_of_getElem? (i := 230) (by decide +kernel)), by decide +kernel⟩
theorem wB_231 : Cond.instanceMethod yX6_readReach ∈ dgB := List.mem_filter.mpr ⟨tbl_3 _ (List.mem_of_getElem? (i := 232) (by decide +kernel)), by decide +kernel⟩
theorem wB_232 : Cond.selects RX6 yX6_readReach yX6_readReach ∈ dgB := List.mem_filter.mpr ⟨List.mem_of_getElem? (i := 14) (by decide +kernel), by decide +kernel⟩
theorem wB_233 : Cond.code yX6_readQuake cX6_readQuake 1 (some .boolean) ∈ dgB := List.mem_filter.mpr ⟨tbl_3 _ (List.mem_of_getElem? (i := 237) rfl), rfl⟩
theorem wB_234 : Cond.methodLink RX6 74 yX6_readQuake ∈ dgB := List.mem_filter.mpr ⟨tbl_3 _ (List.mem_of_getElem? (i := 234) (by decide +kernel)), by decide +kernel⟩
theorem wB_235 : Cond.instanceMethod yX6_readQuake ∈ dgB := List.mem_filter.mpr ⟨tbl_3 _ (List.mem_of_getElem? (i := 236) (by decide +kernel)), by decide +kernel⟩
theorem wB_236 : Cond.selects RX6 yX6_readQuake yX6_readQuake ∈ dgB := List.mem_filter.mpr ⟨List.mem_of_getElem? (i := 15) (by decide +kernel), by decide +kernel⟩
theorem wB_237 : Cond.code yX6_readGrade cX6_readGrade 2 (some .boolean) ∈ dgB := List.mem_filter.mpr ⟨tbl_4 _ (List.mem_of_getElem? (i := 1) rfl), rfl⟩
theorem wB_238 : Cond.methodLink RX6 77 yX6_readGrade ∈ dgB := List.mem_filter.mpr ⟨tbl_3 _ (List.mem_of_getElem? (i := 238) (by decide +kernel)), by decide +kernel⟩
theorem wB_239 : Cond.instanceMethod yX6_readGrade ∈ dgB := List.mem_filter.mpr ⟨tbl_4 _ (List.mem_of_getElem? (i := 0) (by decide +kernel)), by decide +kernel⟩
theorem wB_240 : Cond.selects RX6 yX6_readGrade yX6_readGrade ∈ dgB := List.mem_filter.mpr ⟨List.mem_of_getElem? (i := 16) (by decide +kernel), by decide +kernel⟩
theorem wB_241 : Cond.code yX6_readMiner cX6_readMiner 1 (some .boolean) ∈ dgB := List.mem_filter.mpr ⟨tbl_4 _ (List.mem_of_getElem? (i := 9) rfl), rfl⟩
theorem wB_242 : Cond.methodLink RX6 80 yX6_readMiner ∈ dgB := List.mem_filter.mpr ⟨tbl_4 _ (List.mem_of_getElem? (i := 6) (by decide +kernel)), by decide +kernel⟩
theorem wB_243 : Cond.instanceMethod yX6_readMiner ∈ dgB := List.mem_filter.mpr ⟨tbl_4 _ (List.mem_of_getElem? (i := 8) (by decide +kernel)), by decide +kernel⟩
theorem wB_244 : Cond.selects RX6 yX6_readMiner yX6_readMiner ∈ dgB := List.mem_filter.mpr ⟨List.mem_of_getElem? (i := 18) (by decide +kernel), by decide +kernel⟩
theorem wB_245 : Cond.code yX6_readDig cX6_readDig 3 (some .boolean) ∈ dgB := List.mem_filter.mpr ⟨tbl_4 _ (List.mem_of_getElem? (i := 25) rfl), rfl⟩
theorem wB_246 : Cond.methodLink RX6 83 yX6_readDig ∈ dgB := List.mem_filter.mpr ⟨tbl_4 _ (List.mem_of_getElem? (i := 22) (by decide +kernel)), by decide +kernel⟩
theorem wB_247 : Cond.instanceMethod yX6_readDig ∈ dgB := List.mem_filter.mpr ⟨tbl_4 _ (List.mem_of_getElem? (i := 24) (by decide +kernel)), by decide +kernel⟩
theorem wB_248 : Cond.selects RX6 yX6_readDig yX6_readDig ∈ dgB := List.mem_filter.mpr ⟨List.mem_of_getElem? (i := 20) (by decide +kernel), by decide +kernel⟩
theorem wB_249 : Cond.code yX6_readOrder cX6_readOrder 2 (some .boolean) ∈ dgB := List.mem_filter.mpr ⟨tbl_4 _ (List.mem_of_getElem? (i := 34) rfl), rfl⟩
theorem wB_250 : Cond.methodLink RX6 86 yX6_readOrder ∈ dgB := List.mem_filter.mpr ⟨tbl_4 _ (List.mem_of_getElem? (i := 31) (by decide +kernel)), by decide +kernel⟩
theorem wB_251 : Cond.instanceMethod yX6_readOrder ∈ dgB := List.mem_filter.mpr ⟨tbl_4 _ (List.mem_of_getElem? (i := 33) (by decide +kernel)), by decide +kernel⟩
theorem wB_252 : Cond.selects RX6 yX6_readOrder yX6_readOrder ∈ dgB := List.mem_filter.mpr ⟨List.mem_of_getElem? (i := 22) (by decide +kernel), by decide +kernel⟩
theorem wB_253 : Cond.code yX6_readRule cX6_readRule 3 (some .boolean) ∈ dgB := List.mem_filter.mpr ⟨tbl_4 _ (List.mem_of_getElem? (i := 38) rfl), rfl⟩
theorem wB_254 : Cond.methodLink RX6 89 yX6_readRule ∈ dgB := List.mem_filter.mpr ⟨tbl_4 _ (List.mem_of_getElem? (i := 35) (by decide +kernel)), by decide +kernel⟩
theorem wB_255 : Cond.instanceMethod yX6_readRule ∈ dgB := List.mem_filter.mpr ⟨tbl_4 _ (List.mem_of_getElem? (i := 37) (by decide +kernel)), by decide +kernel⟩
theorem wB_256 : Cond.selects RX6 yX6_readRule yX6_readRule ∈ dgB := List.mem_filter.mpr ⟨List.mem_of_getElem? (i := 23) (by decide +kernel), by decide +kernel⟩
set_option maxHeartbeats 8000000 in
set_option maxRecDepth 100000 in
theorem c_rd_readRule (l : Launch) (g : Nat → ClassId) (D : va_G) (o : Nat) (S : dg_S) (a1 : Int32) (b_a1 : 0 ≤ (a1).toInt ∧ (a1).toInt ≤ 2) (en : Int32) (kd : Nat → Int32) (vl : Nat → Int32) (fr : Nat → Int32) (fe : Nat → Int32) (S0 : dg_S) (d0 : Nat) (gd : Nat) (hk_gd : rX gd) (f_gd : S.1 209 3 = .ref (o + gd)) (n0 : Int32) (f_n0 : S.1 209 4 = .int n0) (b_n0 : 0 ≤ (n0).toInt ∧ (n0).toInt ≤ 1600) (sc : Int32) (f_sc : S.1 209 7 = .int sc) (b_sc : 0 ≤ (sc).toInt ∧ (sc).toInt ≤ 1600) (ke : Int32) (f_ke : S.2.1 211 (en : Int32).toNatClampNeg = ke) (b_ke : 0 ≤ (ke).toInt ∧ (ke).toInt ≤ 0) (hne : (n0).toInt ≤ (en).toInt ∧ (en).toInt ≤ 1600 ∧ 0 ≤ (en).toInt) (hkd : ∀ k9 : Nat, k9 ≤ (en : Int32).toNatClampNeg → S.2.1 211 k9 = kd k9) (hvl : ∀ k9 : Nat, k9 ≤ (en : Int32).toNatClampNeg → S.2.1 213 k9 = vl k9) (hsc : (sc).toInt ≤ (n0).toInt) (hkn : (kd (n0 : Int32).toNatClampNeg).toInt ≠ 0) (hfr : S.2.1 (gd + 10) = fr) (hfe : S.2.1 (gd + 11) = fe) (hd0 : d0 ≠ gd) (GO : GOX S0 d0 S) (G9 : G9X S0 d0 S) (I : CX o S) (sz : Nat) : Met l yX6_readRule (bw yX6_readRule cX6_readRule 3 (some .boolean)) ({ frames := 68, cells := 0, slots := 0, locals := 1561 } : Room) (dk_Pc g D (dg_w g shX o rfX S) sz [.ref (o + 209), .int a1]) (va_Qi (fun (r : Int32) S' => CX o S' ∧ dg_sm shX [(31, 0), (31, 1), (31, 4), (31, 6), (31, 7)] [28, 29, 30] S S' ∧ (0 ≤ (r).toInt ∧ (r).toInt ≤ 1) ∧ ((r).toInt = 1 → ∃ c8 c9 : Int32, c8.toInt < c9.toInt ∧ S'.2.1 (gd + 10) = upd fr (a1 : Int32).toNatClampNeg c8 ∧ S'.2.1 (gd + 11) = upd fe (a1 : Int32).toNatClampNeg c9) ∧ (m_hid ((r).toInt = 1 → q_as gd S S' sc (d_rule kd vl (a1).toInt ((n0 : Int32).toNatClampNeg + 1)))) ∧ (m_hid ((r).toInt = 1 → ∃ c9 : Int32, S'.1 209 7 = .int c9 ∧ S'.2.1 (gd + 10) = upd fr (a1 : Int32).toNatClampNeg sc ∧ S'.2.1 (gd + 11) = upd fe (a1 : Int32).toNatClampNeg c9)) ∧ (∃ y9_4 y9_7 : Int32, S'.1 209 4 = .int y9_4 ∧ S'.1 209 7 = .int y9_7 ∧ (((y9_4).toInt ≤ (en).toInt ∧ ((r).toInt = 1 → ((sc).toInt + 1 ≤ (y9_7).toInt ∧ (y9_7).toInt - (sc).toInt ≤ (y9_4).toInt - (n0).toInt))) ∧ g_ans r (if (fr (a1 : Int32).toNatClampNeg).toInt < (fe (a1 : Int32).toNatClampNeg).toInt then none else y_rule kd vl (a1).toInt ((n0 : Int32).toNatClampNeg + 1)) (y9_4 : Int32).toNatClampNeg)) ∧ GOX S0 d0 S' ∧ G9X S0 d0 S' ∧ True) (dg_B g D shX o rfX) (dg_A o shX.length sz)) 0 0 (dg_A o shX.length sz) := by
  refine dg_met (cc := cX6_readRule) (maxL := 3) (ret := (some .boolean)) (dk_dq rfl) rfl (Nat.le_of_ble_eq_true rfl) ?_
  intro p e s m args below meth c A hAe harg hx hb hr hml hts hown hlocks hin hP K hS hA1 hA ST hsz ls hl
  rw [← hAe]
  have F : CallFix p m c cX6_readRule 3 s args (bw yX6_readRule cX6_readRule 3 (some .boolean)) RX6 := ⟨hx, hb, hml, hown, hts⟩
  have hl : lv_has ls 3 [(0, .ref (o + 209)), (1, .int a1)] := hl
  have M_0 : dg_sm shX [(31, 0), (31, 1), (31, 4), (31, 6), (31, 7)] [28, 29, 30] S S := dg_sm.rf
  refine lv_aload_n hx hb dX6_readRule_0 rfl (lv_at hl 0 rfl) ?_
  refine dg_get (C := RX6) (T := TX6) (N := 8) hx hb hts (fun w h => bw_mem (wU_X6 w h)) hown K hP sX_209 rfl 3 (dk_dq rfl) (hts _ (bw_mem wB_38)) (fun _ h9 => h9) (v := .ref (o + gd)) f_gd dX6_readRule_1 ?_
  refine lv_iload_n hx hb dX6_readRule_4 rfl (lv_at hl 1 rfl) ?_
  refine dg_calli hS hA1 hA (va_runV (As := [.int a1]) (rest := []) F (c_g_hasRule l g D o S gd hk_gd a1 (by omega) fr fe hfr hfe I s.heap.size) (cwV 1 hts (bw_V wB_216 wB_217 wB_218 wB_9 wB_215) rfl rfl rfl (by decide +kernel) ⟨Nat.le_of_ble_eq_true rfl, Nat.le_of_ble_eq_true rfl⟩) (dg_preV (rX_0 gd hk_gd) rfl K ST hP hS hA1 hA) rfl rfl hl.1 rfl (lv_room (Nat.le_of_ble_eq_true rfl)) dX6_readRule_5 ⟨Nat.le_of_ble_eq_true rfl, Nat.le_of_ble_eq_true rfl⟩) (fun x_1 S_2 hw_2 H locs hP hS => ?_)
  rw [hw_2.1] at hP
  obtain ⟨hq_2, w_2_0, w_2_1, -⟩ := hw_2
  have w_2_0 : 0 ≤ (x_1).toInt ∧ (x_1).toInt ≤ 1 := w_2_0
  have w_2_1 : (x_1).toInt = 1 ↔ (fr (a1 : Int32).toNatClampNeg).toInt < (fe (a1 : Int32).toNatClampNeg).toInt := w_2_1
  refine lv_if_eq (tgt := 18) hx hb dX6_readRule_8 (dk_dq rfl) (fun c_3 => ?_) (fun c_3 => ?_)
  · as_aux_lemma =>
      have jc_3 := dk_eqc (k := 0) (by decide +kernel) c_3
      have qw_2_1 : ¬ (fr (a1 : Int32).toNatClampNeg).toInt < (fe (a1 : Int32).toNatClampNeg).toInt := fun h9 => absurd (w_2_1.mpr h9) (by omega)
      refine lv_aload_n hx hb dX6_readRule_18 rfl (lv_at hl 0 rfl) ?_
      refine dg_callv hS hA1 hA (va_runV (As := []) (rest := []) F (c_rd_pass l g D o S en kd vl n0 f_n0 (by omega) ke f_ke (by omega) (by omega) hkd hvl I H.size) (cwV 0 hts (bw_V wB_26 wB_27 wB_28 wB_24 wB_25) rfl rfl rfl (by decide +kernel) ⟨Nat.le_of_ble_eq_true rfl, Nat.le_of_ble_eq_true rfl⟩) (dg_preV sX_209 rfl K ST hP hS hA1 hA) rfl rfl hl.1 rfl (lv_room (Nat.le_of_ble_eq_true rfl)) dX6_readRule_19 ⟨Nat.le_of_ble_eq_true rfl, Nat.le_of_ble_eq_true rfl⟩) (fun S_4 hw_4 H locs hP hS => ?_)
      obtain ⟨I_4, m_4, w_4_0, -⟩ := hw_4
      have M_4 := dg_sm.tr M_0 m_4 (dk_dq rfl) (dk_dq rfl)
      obtain ⟨y_5, f_y_5, w_4_0⟩ := w_4_0
      have w_4_0 : (y_5).toInt ≤ (en).toInt ∧ ((kd (n0 : Int32).toNatClampNeg).toInt ≠ 0 → (y_5 : Int32).toNatClampNeg = (n0 : Int32).toNatClampNeg + 1) := w_4_0
      have b_y_5 : 0 ≤ (y_5).toInt ∧ (y_5).toInt ≤ 1600 := dg_I.intb (lo := 0) (hi := 1600) I_4 sX_209 (by decide +kernel) f_y_5
      have nq_y_5 : (y_5 : Int32).toNatClampNeg = (n0 : Int32).toNatClampNeg + 1 := by have h9 := w_4_0.2 hkn; omega
      have ni_y_5 : (y_5).toInt = (n0).toInt + 1 := by have h8 := dk_clN y_5; have h9 := dk_clN n0; omega
      refine lv_aload_n hx hb dX6_readRule_22 rfl (lv_at hl 0 rfl) ?_
      refine lv_iload_n hx hb dX6_readRule_23 rfl (lv_at hl 1 rfl) ?_
      refine dg_put (ci := 6) (v := .int a1) (ty := tyX6 6) (C := RX6) (T := TX6) (N := 8) hx hb hts (fun w h => bw_mem (wU_X6 w h)) tyX6 tyX6_ok nmX6 hown K hP hS hA1 sX_209 rfl 6 (dk_dq rfl) (hts _ (bw_mem wB_40)) (fun _ h9 => h9) rfl (by decide +kernel) rfl rfl dX6_readRule_24 (fun S_6 e_6 H locs hP hS => ?_)
      have I_6 := dg_I.uFi (lo := 0) (hi := 2) I_4 e_6 sX_209 (by decide +kernel) (show 0 ≤ (a1).toInt ∧ (a1).toInt ≤ 2 from (by omega))
      have M_6 := dg_sm.uF M_4 e_6 sX_209 (dk_dq rfl)
      refine lv_aload_n hx hb dX6_readRule_27 rfl (lv_at hl 0 rfl) ?_
      refine dg_get (C := RX6) (T := TX6) (N := 8) hx hb hts (fun w h => bw_mem (wU_X6 w h)) hown K hP sX_209 rfl 3 (dk_dq rfl) (hts _ (bw_mem wB_38)) (fun _ h9 => h9) (v := .ref (o + gd)) (((dg_uF_ne e_6 (fun z => absurd z.2 (dk_dq rfl))).trans (m_4.1 209 3 _ sX_209 (dk_dq rfl))).trans f_gd) dX6_readRule_28 ?_
      refine dg_get (C := RX2) (T := TX2) (N := 19) hx hb hts (fun w h => bw_mem (wU_X2 w h)) hown K hP (rX_0 gd hk_gd) rfl 17 (dk_dq rfl) (hts _ (bw_mem wB_219)) (fun _ h9 => h9) (v := .ref (o + (gd + 10))) (show S_6.1 gd 17 = .ref (o + (gd + 10)) from dg_I.rel (d := 10) I_6 (rX_0 gd hk_gd) (by decide +kernel)) dX6_readRule_31 ?_
      refine lv_aload_n hx hb dX6_readRule_34 rfl (lv_at hl 0 rfl) ?_
      refine dg_get (C := RX6) (T := TX6) (N := 8) hx hb hts (fun w h => bw_mem (wU_X6 w h)) hown K hP sX_209 rfl 6 (dk_dq rfl) (hts _ (bw_mem wB_40)) (fun _ h9 => h9) (v := .int a1) (dg_uF_at e_6) dX6_readRule_35 ?_
      refine lv_aload_n hx hb dX6_readRule_38 rfl (lv_at hl 0 rfl) ?_
      refine dg_get (C := RX6) (T := TX6) (N := 8) hx hb hts (fun w h => bw_mem (wU_X6 w h)) hown K hP sX_209 rfl 7 (dk_dq rfl) (hts _ (bw_mem wB_37)) (fun _ h9 => h9) (v := .int sc) (((dg_uF_ne e_6 (fun z => absurd z.2 (dk_dq rfl))).trans (m_4.1 209 7 _ sX_209 (dk_dq rfl))).trans f_sc) dX6_readRule_39 ?_
      have hin_7 : vp_in a1 3 := (dk_inv2 (by omega))
      refine dg_iast hx hb K hP hS hA1 (rX_10 gd hk_gd) hin_7 dX6_readRule_42 (fun S_8 e_8 H locs hP hS => ?_)
      have I_8 := dg_I.ufu (lo := 0) (hi := 1600) I_6 e_8 (rX_10 gd hk_gd) (by decide +kernel) (show 0 ≤ (sc).toInt ∧ (sc).toInt ≤ 1600 from (by omega))
      have M_8 := dg_sm.uf M_6 e_8 (rX_10 gd hk_gd) (dk_dq rfl)
      have GO_8 := GOX.uf (GOX.keep (GOX.keep GO m_4 (dk_dq rfl) (dk_dq rfl)) (dg_sm.uF (WF := [(31, 6)]) (WA := []) dg_sm.rf e_6 sX_209 (dk_dq rfl)) (dk_dq rfl) (dk_dq rfl)) hk_gd hd0 (i := 10) (dk_dq rfl) e_8
      refine lv_aload_n hx hb dX6_readRule_43 rfl (lv_at hl 0 rfl) ?_
      refine dg_get (C := RX6) (T := TX6) (N := 8) hx hb hts (fun w h => bw_mem (wU_X6 w h)) hown K hP sX_209 rfl 6 (dk_dq rfl) (hts _ (bw_mem wB_40)) (fun _ h9 => h9) (v := .int a1) ((dg_uf_F e_8 209 6).trans (dg_uF_at e_6)) dX6_readRule_44 ?_
      refine lv_iconst (v := 1) hx hb dX6_readRule_47 (by decide +kernel) ?_
      refine lv_icmp_ne (tgt := 59) hx hb dX6_readRule_48 (dk_dq rfl) (fun c_9 => ?_) (fun c_9 => ?_)
      · as_aux_lemma =>
          have jc_9 := dk_neqc (k := 1) (by decide +kernel) c_9
          refine lv_aload_n hx hb dX6_readRule_59 rfl (lv_at hl 0 rfl) ?_
          refine lv_iconst (v := 0) hx hb dX6_readRule_60 (by decide +kernel) ?_
          refine dg_calli hS hA1 hA (va_runV (As := [.int 0]) (rest := []) F (c_rd_readSum_0 l g D o S_8 en kd vl S0 d0 gd hk_gd (((dg_uf_F e_8 209 3).trans ((dg_uF_ne e_6 (fun z => absurd z.2 (dk_dq rfl))).trans (m_4.1 209 3 _ sX_209 (dk_dq rfl)))).trans f_gd) y_5 (((dg_uf_F e_8 209 4).trans (dg_uF_ne e_6 (fun z => absurd z.2 (dk_dq rfl)))).trans f_y_5) (by omega) a1 ((dg_uf_F e_8 209 6).trans (dg_uF_at e_6)) (by omega) sc (((dg_uf_F e_8 209 7).trans ((dg_uF_ne e_6 (fun z => absurd z.2 (dk_dq rfl))).trans (m_4.1 209 7 _ sX_209 (dk_dq rfl)))).trans f_sc) (by omega) ke ((congrFun ((dg_uf_ne e_8 (fun z => by have h9 := sX_211; rw [z, (rX_10 gd hk_gd)] at h9; cases h9)).trans ((dg_uF_f e_6 211).trans (m_4.2 211 _ sX_211 (dk_dq rfl)).1)) _).trans f_ke) (by omega) (by omega) (fun k9 h9 => (congrFun ((dg_uf_ne e_8 (fun z => by have h9 := sX_211; rw [z, (rX_10 gd hk_gd)] at h9; cases h9)).trans ((dg_uF_f e_6 211).trans (m_4.2 211 _ sX_211 (dk_dq rfl)).1)) k9).trans (hkd k9 h9)) (fun k9 h9 => (congrFun ((dg_uf_ne e_8 (fun z => by have h9 := sX_213; rw [z, (rX_10 gd hk_gd)] at h9; cases h9)).trans ((dg_uF_f e_6 213).trans (m_4.2 213 _ sX_213 (dk_dq rfl)).1)) k9).trans (hvl k9 h9)) (by omega) hd0 (G9X.keep (G9X.keep (G9X.keep G9 m_4 (dk_dq rfl)) (dg_sm.uF (WF := [(31, 6)]) (WA := []) dg_sm.rf e_6 sX_209 (dk_dq rfl)) (dk_dq rfl)) (dg_sm.uf (WF := []) (WA := [29]) dg_sm.rf e_8 (rX_10 gd hk_gd) (dk_dq rfl)) (dk_dq rfl)) I_8 H.size) (cwV 1 hts (bw_V wB_128 wB_129 wB_130 wB_24 wB_127) rfl rfl rfl (by decide +kernel) ⟨Nat.le_of_ble_eq_true rfl, Nat.le_of_ble_eq_true rfl⟩) (dg_preV sX_209 rfl K ST hP hS hA1 hA) rfl rfl hl.1 rfl (lv_room (Nat.le_of_ble_eq_true rfl)) dX6_readRule_61 ⟨Nat.le_of_ble_eq_true rfl, Nat.le_of_ble_eq_true rfl⟩) (fun x_10 S_11 hw_11 H locs hP hS => ?_)
          obtain ⟨I_11, m_11, w_11_0, w_11_1, w_11_2, w_11_3, -⟩ := hw_11
          have M_11 := dg_sm.tr M_8 m_11 (dk_dq rfl) (dk_dq rfl)
          have w_11_0 : 0 ≤ (x_10).toInt ∧ (x_10).toInt ≤ 1 := w_11_0
          replace w_11_1 : m_hid ((x_10).toInt = 1 → q_as gd S_8 S_11 sc ((d_lv kd vl (a1).toInt 8).1 (y_5 : Int32).toNatClampNeg)) := w_11_1
          have ap_11 : m_hid ((x_10).toInt = 1 → q_as gd S S_11 sc ((d_lv kd vl (a1).toInt 8).1 ((n0 : Int32).toNatClampNeg + 1))) := m_hid.mk (fun q9 => (q_as.fst ((dg_uf_ne e_8 (by omega)).trans ((dg_uF_f e_6 (gd + 9)).trans (m_4.2 (gd + 9) _ (rX_9 gd hk_gd) (dk_dq rfl)).1)) (by have h9 := w_11_1.out q9; rw [nq_y_5] at h9; exact h9)))
          obtain ⟨y_12, y_13, f_y_12, f_y_13, w_11_2⟩ := w_11_2
          have w_11_2 : ((y_12).toInt ≤ (en).toInt ∧ ((x_10).toInt = 1 → ((sc).toInt + 1 ≤ (y_13).toInt ∧ (y_13).toInt - (sc).toInt ≤ (y_12).toInt - (y_5).toInt))) ∧ g_ans x_10 ((x_lv kd vl (a1).toInt 8).1 (y_5 : Int32).toNatClampNeg) (y_12 : Int32).toNatClampNeg := w_11_2
          have b_y_12 : 0 ≤ (y_12).toInt ∧ (y_12).toInt ≤ 1600 := dg_I.intb (lo := 0) (hi := 1600) I_11 sX_209 (by decide +kernel) f_y_12
          have b_y_13 : 0 ≤ (y_13).toInt ∧ (y_13).toInt ≤ 1600 := dg_I.intb (lo := 0) (hi := 1600) I_11 sX_209 (by decide +kernel) f_y_13
          refine lv_istore_n (lv' := [(2, .int x_10), (0, .ref (o + 209)), (1, .int a1)]) hx hb dX6_readRule_64 rfl hl (dk_dq rfl) rfl (fun ls hl => ?_)
          refine lv_aload_n hx hb dX6_readRule_65 rfl (lv_at hl 1 rfl) ?_
          refine dg_get (C := RX6) (T := TX6) (N := 8) hx hb hts (fun w h => bw_mem (wU_X6 w h)) hown K hP sX_209 rfl 3 (dk_dq rfl) (hts _ (bw_mem wB_38)) (fun _ h9 => h9) (v := .ref (o + gd)) (((m_11.1 209 3 _ sX_209 (dk_dq rfl)).trans ((dg_uf_F e_8 209 3).trans ((dg_uF_ne e_6 (fun z => absurd z.2 (dk_dq rfl))).trans (m_4.1 209 3 _ sX_209 (dk_dq rfl))))).trans f_gd) dX6_readRule_66 ?_
          refine dg_get (C := RX2) (T := TX2) (N := 19) hx hb hts (fun w h => bw_mem (wU_X2 w h)) hown K hP (rX_0 gd hk_gd) rfl 18 (dk_dq rfl) (hts _ (bw_mem wB_220)) (fun _ h9 => h9) (v := .ref (o + (gd + 11))) (show S_11.1 gd 18 = .ref (o + (gd + 11)) from dg_I.rel (d := 11) I_11 (rX_0 gd hk_gd) (by decide +kernel)) dX6_readRule_69 ?_
          refine lv_aload_n hx hb dX6_readRule_72 rfl (lv_at hl 1 rfl) ?_
          refine dg_get (C := RX6) (T := TX6) (N := 8) hx hb hts (fun w h => bw_mem (wU_X6 w h)) hown K hP sX_209 rfl 6 (dk_dq rfl) (hts _ (bw_mem wB_40)) (fun _ h9 => h9) (v := .int a1) (((m_11.1 209 6 _ sX_209 (dk_dq rfl)).trans (dg_uf_F e_8 209 6)).trans (dg_uF_at e_6)) dX6_readRule_73 ?_
          refine lv_aload_n hx hb dX6_readRule_76 rfl (lv_at hl 1 rfl) ?_
          refine dg_get (C := RX6) (T := TX6) (N := 8) hx hb hts (fun w h => bw_mem (wU_X6 w h)) hown K hP sX_209 rfl 7 (dk_dq rfl) (hts _ (bw_mem wB_37)) (fun _ h9 => h9) (v := .int y_13) f_y_13 dX6_readRule_77 ?_
          have hin_14 : vp_in a1 3 := (dk_inv2 (by omega))
          refine dg_iast hx hb K hP hS hA1 (rX_11 gd hk_gd) hin_14 dX6_readRule_80 (fun S_15 e_15 H locs hP hS => ?_)
          have I_15 := dg_I.ufu (lo := 0) (hi := 1600) I_11 e_15 (rX_11 gd hk_gd) (by decide +kernel) (show 0 ≤ (y_13).toInt ∧ (y_13).toInt ≤ 1600 from (by omega))
          have M_15 := dg_sm.uf M_11 e_15 (rX_11 gd hk_gd) (dk_dq rfl)
          have GO_15 := GOX.uf (GOX.keep GO_8 m_11 (dk_dq rfl) (dk_dq rfl)) hk_gd hd0 (i := 11) (dk_dq rfl) e_15
          refine lv_iload_n hx hb dX6_readRule_81 rfl (lv_at hl 0 rfl) ?_
          have qa9 : ¬ (a1).toInt = 1 := by omega
          have qa9 : ¬ (a1).toInt = 1 := by omega
          refine W.widen (k := 0) (n := 0) (Nat.le_of_ble_eq_true rfl) (Nat.le_of_ble_eq_true rfl) ?_
          exact dg_iret hx hb hr hlocks (dk_znar2 (by omega)) hP hS ⟨I_15, M_15, (by omega), (fun q9 => ⟨sc, y_13, by omega, by rw [((dg_uf_ne e_15 (by omega)).trans (m_11.2 (gd + 10) _ (rX_10 gd hk_gd) (dk_dq rfl)).1), dg_uf_at e_8, ((dg_uF_f e_6 (gd + 10)).trans (m_4.2 (gd + 10) _ (rX_10 gd hk_gd) (dk_dq rfl)).1), hfr], by rw [dg_uf_at e_15, ((m_11.2 (gd + 11) _ (rX_11 gd hk_gd) (dk_dq rfl)).1.trans ((dg_uf_ne e_8 (by omega)).trans ((dg_uF_f e_6 (gd + 11)).trans (m_4.2 (gd + 11) _ (rX_11 gd hk_gd) (dk_dq rfl)).1))), hfe]⟩), (m_hid.mk (fun q9 => q_as.to (q_as.keep (ap_11.out (by omega)) (dg_uf_F e_15 209 7) (dg_uf_ne e_15 (by omega))) (by simp [d_rule, qw_2_1, nq_y_5, qa9]))), (m_hid.mk (fun q9 => ⟨y_13, ((dg_uf_F e_15 209 7).trans f_y_13), by rw [((dg_uf_ne e_15 (by omega)).trans (m_11.2 (gd + 10) _ (rX_10 gd hk_gd) (dk_dq rfl)).1), dg_uf_at e_8, ((dg_uF_f e_6 (gd + 10)).trans (m_4.2 (gd + 10) _ (rX_10 gd hk_gd) (dk_dq rfl)).1), hfr], by rw [dg_uf_at e_15, ((m_11.2 (gd + 11) _ (rX_11 gd hk_gd) (dk_dq rfl)).1.trans ((dg_uf_ne e_8 (by omega)).trans ((dg_uF_f e_6 (gd + 11)).trans (m_4.2 (gd + 11) _ (rX_11 gd hk_gd) (dk_dq rfl)).1))), hfe]⟩)), ⟨y_12, y_13, ((dg_uf_F e_15 209 4).trans f_y_12), ((dg_uf_F e_15 209 7).trans f_y_13), ⟨⟨by omega, by omega⟩, (g_ans.to (E := (x_lv kd vl (a1).toInt 8).1 ((n0 : Int32).toNatClampNeg + 1)) (by have h9 := w_11_2.2; rw [nq_y_5] at h9; exact h9) (by simp [y_rule, qw_2_1, nq_y_5, qa9, qa9]))⟩⟩, GO_15, (G9X.keep w_11_3 (dg_sm.uf (WF := []) (WA := [30]) dg_sm.rf e_15 (rX_11 gd hk_gd) (dk_dq rfl)) (dk_dq rfl)), trivial⟩ dX6_readRule_82
      · as_aux_lemma =>
          have jc_9 := dk_eqc (k := 1) (by decide +kernel) c_9
          refine lv_aload_n hx hb dX6_readRule_51 rfl (lv_at hl 0 rfl) ?_
          refine lv_iconst (v := 0) hx hb dX6_readRule_52 (by decide +kernel) ?_
          refine dg_calli hS hA1 hA (va_runV (As := [.int 0]) (rest := []) F (c_rd_readTest_0 l g D o S_8 en kd vl S0 d0 gd hk_gd (((dg_uf_F e_8 209 3).trans ((dg_uF_ne e_6 (fun z => absurd z.2 (dk_dq rfl))).trans (m_4.1 209 3 _ sX_209 (dk_dq rfl)))).trans f_gd) y_5 (((dg_uf_F e_8 209 4).trans (dg_uF_ne e_6 (fun z => absurd z.2 (dk_dq rfl)))).trans f_y_5) (by omega) a1 ((dg_uf_F e_8 209 6).trans (dg_uF_at e_6)) (by omega) sc (((dg_uf_F e_8 209 7).trans ((dg_uF_ne e_6 (fun z => absurd z.2 (dk_dq rfl))).trans (m_4.1 209 7 _ sX_209 (dk_dq rfl)))).trans f_sc) (by omega) ke ((congrFun ((dg_uf_ne e_8 (fun z => by have h9 := sX_211; rw [z, (rX_10 gd hk_gd)] at h9; cases h9)).trans ((dg_uF_f e_6 211).trans (m_4.2 211 _ sX_211 (dk_dq rfl)).1)) _).trans f_ke) (by omega) (by omega) (fun k9 h9 => (congrFun ((dg_uf_ne e_8 (fun z => by have h9 := sX_211; rw [z, (rX_10 gd hk_gd)] at h9; cases h9)).trans ((dg_uF_f e_6 211).trans (m_4.2 211 _ sX_211 (dk_dq rfl)).1)) k9).trans (hkd k9 h9)) (fun k9 h9 => (congrFun ((dg_uf_ne e_8 (fun z => by have h9 := sX_213; rw [z, (rX_10 gd hk_gd)] at h9; cases h9)).trans ((dg_uF_f e_6 213).trans (m_4.2 213 _ sX_213 (dk_dq rfl)).1)) k9).trans (hvl k9 h9)) (by omega) hd0 (G9X.keep (G9X.keep (G9X.keep G9 m_4 (dk_dq rfl)) (dg_sm.uF (WF := [(31, 6)]) (WA := []) dg_sm.rf e_6 sX_209 (dk_dq rfl)) (dk_dq rfl)) (dg_sm.uf (WF := []) (WA := [29]) dg_sm.rf e_8 (rX_10 gd hk_gd) (dk_dq rfl)) (dk_dq rfl)) I_8 H.size) (cwV 1 hts (bw_V wB_148 wB_149 wB_150 wB_24 wB_147) rfl rfl rfl (by decide +kernel) ⟨Nat.le_of_ble_eq_true rfl, Nat.le_of_ble_eq_true rfl⟩) (dg_preV sX_209 rfl K ST hP hS hA1 hA) rfl rfl hl.1 rfl (lv_room (Nat.le_of_ble_eq_true rfl)) dX6_readRule_53 ⟨Nat.le_of_ble_eq_true rfl, Nat.le_of_ble_eq_true rfl⟩) (fun x_16 S_17 hw_17 H locs hP hS => ?_)
          obtain ⟨I_17, m_17, w_17_0, w_17_1, w_17_2, w_17_3, -⟩ := hw_17
          have M_17 := dg_sm.tr M_8 m_17 (dk_dq rfl) (dk_dq rfl)
          have w_17_0 : 0 ≤ (x_16).toInt ∧ (x_16).toInt ≤ 1 := w_17_0
          replace w_17_1 : m_hid ((x_16).toInt = 1 → q_as gd S_8 S_17 sc ((d_lv kd vl (a1).toInt 8).2.1 (y_5 : Int32).toNatClampNeg)) := w_17_1
          have ap_17 : m_hid ((x_16).toInt = 1 → q_as gd S S_17 sc ((d_lv kd vl (a1).toInt 8).2.1 ((n0 : Int32).toNatClampNeg + 1))) := m_hid.mk (fun q9 => (q_as.fst ((dg_uf_ne e_8 (by omega)).trans ((dg_uF_f e_6 (gd + 9)).trans (m_4.2 (gd + 9) _ (rX_9 gd hk_gd) (dk_dq rfl)).1)) (by have h9 := w_17_1.out q9; rw [nq_y_5] at h9; exact h9)))
          obtain ⟨y_18, y_19, f_y_18, f_y_19, w_17_2⟩ := w_17_2
          have w_17_2 : ((y_18).toInt ≤ (en).toInt ∧ ((x_16).toInt = 1 → ((sc).toInt + 1 ≤ (y_19).toInt ∧ (y_19).toInt - (sc).toInt ≤ (y_18).toInt - (y_5).toInt))) ∧ g_ans x_16 ((x_lv kd vl (a1).toInt 8).2.1 (y_5 : Int32).toNatClampNeg) (y_18 : Int32).toNatClampNeg := w_17_2
          have b_y_18 : 0 ≤ (y_18).toInt ∧ (y_18).toInt ≤ 1600 := dg_I.intb (lo := 0) (hi := 1600) I_17 sX_209 (by decide +kernel) f_y_18
          have b_y_19 : 0 ≤ (y_19).toInt ∧ (y_19).toInt ≤ 1600 := dg_I.intb (lo := 0) (hi := 1600) I_17 sX_209 (by decide +kernel) f_y_19
          refine lv_goto (tgt := 64) hx hb dX6_readRule_56 (dk_dq rfl) ?_
          refine lv_istore_n (lv' := [(2, .int x_16), (0, .ref (o + 209)), (1, .int a1)]) hx hb dX6_readRule_64 rfl hl (dk_dq rfl) rfl (fun ls hl => ?_)
          refine lv_aload_n hx hb dX6_readRule_65 rfl (lv_at hl 1 rfl) ?_
          refine dg_get (C := RX6) (T := TX6) (N := 8) hx hb hts (fun w h => bw_mem (wU_X6 w h)) hown K hP sX_209 rfl 3 (dk_dq rfl) (hts _ (bw_mem wB_38)) (fun _ h9 => h9) (v := .ref (o + gd)) (((m_17.1 209 3 _ sX_209 (dk_dq rfl)).trans ((dg_uf_F e_8 209 3).trans ((dg_uF_ne e_6 (fun z => absurd z.2 (dk_dq rfl))).trans (m_4.1 209 3 _ sX_209 (dk_dq rfl))))).trans f_gd) dX6_readRule_66 ?_
          refine dg_get (C := RX2) (T := TX2) (N := 19) hx hb hts (fun w h => bw_mem (wU_X2 w h)) hown K hP (rX_0 gd hk_gd) rfl 18 (dk_dq rfl) (hts _ (bw_mem wB_220)) (fun _ h9 => h9) (v := .ref (o + (gd + 11))) (show S_17.1 gd 18 = .ref (o + (gd + 11)) from dg_I.rel (d := 11) I_17 (rX_0 gd hk_gd) (by decide +kernel)) dX6_readRule_69 ?_
          refine lv_aload_n hx hb dX6_readRule_72 rfl (lv_at hl 1 rfl) ?_
          refine dg_get (C := RX6) (T := TX6) (N := 8) hx hb hts (fun w h => bw_mem (wU_X6 w h)) hown K hP sX_209 rfl 6 (dk_dq rfl) (hts _ (bw_mem wB_40)) (fun _ h9 => h9) (v := .int a1) (((m_17.1 209 6 _ sX_209 (dk_dq rfl)).trans (dg_uf_F e_8 209 6)).trans (dg_uF_at e_6)) dX6_readRule_73 ?_
          refine lv_aload_n hx hb dX6_readRule_76 rfl (lv_at hl 1 rfl) ?_
          refine dg_get (C := RX6) (T := TX6) (N := 8) hx hb hts (fun w h => bw_mem (wU_X6 w h)) hown K hP sX_209 rfl 7 (dk_dq rfl) (hts _ (bw_mem wB_37)) (fun _ h9 => h9) (v := .int y_19) f_y_19 dX6_readRule_77 ?_
          have hin_20 : vp_in a1 3 := (dk_inv2 (by omega))
          refine dg_iast hx hb K hP hS hA1 (rX_11 gd hk_gd) hin_20 dX6_readRule_80 (fun S_21 e_21 H locs hP hS => ?_)
          have I_21 := dg_I.ufu (lo := 0) (hi := 1600) I_17 e_21 (rX_11 gd hk_gd) (by decide +kernel) (show 0 ≤ (y_19).toInt ∧ (y_19).toInt ≤ 1600 from (by omega))
          have M_21 := dg_sm.uf M_17 e_21 (rX_11 gd hk_gd) (dk_dq rfl)
          have GO_21 := GOX.uf (GOX.keep GO_8 m_17 (dk_dq rfl) (dk_dq rfl)) hk_gd hd0 (i := 11) (dk_dq rfl) e_21
          refine lv_iload_n hx hb dX6_readRule_81 rfl (lv_at hl 0 rfl) ?_
          have qa9 : (a1).toInt = 1 := by omega
          have qa9 : (a1).toInt = 1 := by omega
          refine W.widen (k := 0) (n := 0) (Nat.le_of_ble_eq_true rfl) (Nat.le_of_ble_eq_true rfl) ?_
          exact dg_iret hx hb hr hlocks (dk_znar2 (by omega)) hP hS ⟨I_21, M_21, (by omega), (fun q9 => ⟨sc, y_19, by omega, by rw [((dg_uf_ne e_21 (by omega)).trans (m_17.2 (gd + 10) _ (rX_10 gd hk_gd) (dk_dq rfl)).1), dg_uf_at e_8, ((dg_uF_f e_6 (gd + 10)).trans (m_4.2 (gd + 10) _ (rX_10 gd hk_gd) (dk_dq rfl)).1), hfr], by rw [dg_uf_at e_21, ((m_17.2 (gd + 11) _ (rX_11 gd hk_gd) (dk_dq rfl)).1.trans ((dg_uf_ne e_8 (by omega)).trans ((dg_uF_f e_6 (gd + 11)).trans (m_4.2 (gd + 11) _ (rX_11 gd hk_gd) (dk_dq rfl)).1))), hfe]⟩), (m_hid.mk (fun q9 => q_as.to (q_as.keep (ap_17.out (by omega)) (dg_uf_F e_21 209 7) (dg_uf_ne e_21 (by omega))) (by simp [d_rule, qw_2_1, nq_y_5, qa9]))), (m_hid.mk (fun q9 => ⟨y_19, ((dg_uf_F e_21 209 7).trans f_y_19), by rw [((dg_uf_ne e_21 (by omega)).trans (m_17.2 (gd + 10) _ (rX_10 gd hk_gd) (dk_dq rfl)).1), dg_uf_at e_8, ((dg_uF_f e_6 (gd + 10)).trans (m_4.2 (gd + 10) _ (rX_10 gd hk_gd) (dk_dq rfl)).1), hfr], by rw [dg_uf_at e_21, ((m_17.2 (gd + 11) _ (rX_11 gd hk_gd) (dk_dq rfl)).1.trans ((dg_uf_ne e_8 (by omega)).trans ((dg_uF_f e_6 (gd + 11)).trans (m_4.2 (gd + 11) _ (rX_11 gd hk_gd) (dk_dq rfl)).1))), hfe]⟩)), ⟨y_18, y_19, ((dg_uf_F e_21 209 4).trans f_y_18), ((dg_uf_F e_21 209 7).trans f_y_19), ⟨⟨by omega, by omega⟩, (g_ans.to (E := (x_lv kd vl (a1).toInt 8).2.1 ((n0 : Int32).toNatClampNeg + 1)) (by have h9 := w_17_2.2; rw [nq_y_5] at h9; exact h9) (by simp [y_rule, qw_2_1, nq_y_5, qa9, qa9]))⟩⟩, GO_21, (G9X.keep w_17_3 (dg_sm.uf (WF := []) (WA := [30]) dg_sm.rf e_21 (rX_11 gd hk_gd) (dk_dq rfl)) (dk_dq rfl)), trivial⟩ dX6_readRule_82
  · have jc_3 := dk_neqc (k := 0) (by decide +kernel) c_3
    have qw_2_1 := w_2_1.mp (by omega)
    refine lv_aload_n hx hb dX6_readRule_11 rfl (lv_at hl 0 rfl) ?_
    refine lv_bipush (v := 6) hx hb dX6_readRule_12 (by decide +kernel) ?_
    refine dg_calli hS hA1 hA (va_runV (As := [.int 6]) (rest := []) F (c_rd_fail l g D o S 6 en n0 f_n0 (by omega) ke f_ke (by omega) (by omega) I H.size) (cwV 1 hts (bw_V wB_30 wB_31 wB_32 wB_24 wB_29) rfl rfl rfl (by decide +kernel) ⟨Nat.le_of_ble_eq_true rfl, Nat.le_of_ble_eq_true rfl⟩) (dg_preV sX_209 rfl K ST hP hS hA1 hA) rfl rfl hl.1 rfl (lv_room (Nat.le_of_ble_eq_true rfl)) dX6_readRule_14 ⟨Nat.le_of_ble_eq_true rfl, Nat.le_of_ble_eq_true rfl⟩) (fun x_22 S_23 hw_23 H locs hP hS => ?_)
    obtain ⟨I_23, m_23, w_23_0, -⟩ := hw_23
    have M_23 := dg_sm.tr M_0 m_23 (dk_dq rfl) (dk_dq rfl)
    have w_23_0 : 0 ≤ (x_22).toInt ∧ (x_22).toInt ≤ 0 := w_23_0
    refine W.widen (k := 0) (n := 0) (Nat.le_of_ble_eq_true rfl) (Nat.le_of_ble_eq_true rfl) ?_
    exact dg_iret hx hb hr hlocks (dk_znar2 (by omega)) hP hS ⟨I_23, M_23, (by omega), (fun q9 => absurd q9 (by omega)), (m_hid.mk (fun q9 => absurd q9 (by omega))), (m_hid.mk (fun q9 => absurd q9 (by omega))), ⟨n0, sc, ((m_23.1 209 4 _ sX_209 (dk_dq rfl)).trans f_n0), ((m_23.1 209 7 _ sX_209 (dk_dq rfl)).trans f_sc), ⟨⟨by omega, by omega⟩, g_ans.n (by omega) (by simp [y_rule, qw_2_1])⟩⟩, (GOX.keep GO m_23 (dk_dq rfl) (dk_dq rfl)), (G9X.keep G9 m_23 (dk_dq rfl)), trivial⟩ dX6_readRule_17
set_option maxHeartbeats 8000000 in
set_option maxRecDepth 100000 in
theorem c_rd_readStatement (l : Launch) (g : Nat → ClassId) (D : va_G) (o : Nat) (S : dg_S) (a1 : Int32) (b_a1 : 0 ≤ (a1).toInt ∧ (a1).toInt ≤ 80) (en : Int32) (kd : Nat → Int32) (vl : Nat → Int32) (fm : Nat → Int32) (fo : Nat → Int32) (fr : Nat → Int32) (fe : Nat → Int32) (S0 : dg_S) (d0 : Nat) (gd : Nat) (hk_gd : rX gd) (f_gd : S.1 209 3 = .ref (o + gd)) (n0 : Int32) (f_n0 : S.1 209 4 = .int n0) (b_n0 : 0 ≤ (n0).toInt ∧ (n0).toInt ≤ 1600) (sc : Int32) (f_sc : S.1 209 7 = .int sc) (b_sc : 0 ≤ (sc).toInt ∧ (sc).toInt ≤ 1600) (cx : Int32) (f_cx : S.1 gd 0 = .int cx) (b_cx : 0 ≤ (cx).toInt ∧ (cx).toInt ≤ 7) (ry : Int32) (f_ry : S.1 gd 1 = .int ry) (b_ry : 0 ≤ (ry).toInt ∧ (ry).toInt ≤ 7) (mi : Int32) (f_mi : S.1 gd 6 = .int mi) (b_mi : 0 ≤ (mi).toInt ∧ (mi).toInt ≤ 6) (pl : Int32) (f_pl : S.1 gd 8 = .int pl) (b_pl : 0 ≤ (pl).toInt ∧ (pl).toInt ≤ 16) (od : Int32) (f_od : S.1 gd 11 = .int od) (b_od : 0 ≤ (od).toInt ∧ (od).toInt ≤ 5) (ke : Int32) (f_ke : S.2.1 211 (en : Int32).toNatClampNeg = ke) (b_ke : 0 ≤ (ke).toInt ∧ (ke).toInt ≤ 0) (hne : (n0).toInt ≤ (en).toInt ∧ (en).toInt ≤ 1600 ∧ 0 ≤ (en).toInt) (hkd : ∀ k9 : Nat, k9 ≤ (en : Int32).toNatClampNeg → S.2.1 211 k9 = kd k9) (hvl : ∀ k9 : Nat, k9 ≤ (en : Int32).toNatClampNeg → S.2.1 213 k9 = vl k9) (hsc : (sc).toInt ≤ (n0).toInt) (hfm : S.2.1 (gd + 2) = fm) (hfo : S.2.1 (gd + 5) = fo) (hfr : S.2.1 (gd + 10) = fr) (hfe : S.2.1 (gd + 11) = fe) (hd0 : d0 ≠ gd) (Z1 : Z1X S) (GO : GOX S0 d0 S) (G9 : G9X S0 d0 S) (I : CX o S) (sz : Nat) : Met l yX6_readStatement (bw yX6_readStatement cX6_readStatement 2 (some .boolean)) ({ frames := 69, cells := 0, slots := 0, locals := 1583 } : Room) (dk_Pc g D (dg_w g shX o rfX S) sz [.ref (o + 209), .int a1]) (va_Qi (fun (r : Int32) S' => CX o S' ∧ dg_sm shX [(19, 0), (19, 1), (19, 2), (19, 3), (19, 4), (19, 6), (19, 8), (19, 11), (31, 0), (31, 1), (31, 4), (31, 5), (31, 6), (31, 7)] [20, 21, 22, 23, 24, 25, 26, 27, 28, 29, 30] S S' ∧ (0 ≤ (r).toInt ∧ (r).toInt ≤ 1) ∧ (∃ cx9 ry9 mi9 pl9 od9 n9 s9 : Int32, S'.1 gd 0 = .int cx9 ∧ S'.1 gd 1 = .int ry9 ∧ S'.1 gd 6 = .int mi9 ∧ S'.1 gd 8 = .int pl9 ∧ S'.1 gd 11 = .int od9 ∧ S'.1 209 4 = .int n9 ∧ S'.1 209 7 = .int s9 ∧ n9.toInt ≤ (en).toInt ∧ ((r).toInt = 1 → s9.toInt ≤ n9.toInt) ∧ ((a1).toInt = 80 → (r).toInt = 0) ∧ ((a1).toInt ≠ 80 → y_ok r (y_one kd vl (a1 : Int32).toNatClampNeg (y_gx cx ry fm mi pl fo od fr fe) (n0 : Int32).toNatClampNeg) (y_gx cx9 ry9 (S'.2.1 (gd + 2)) mi9 pl9 (S'.2.1 (gd + 5)) od9 (S'.2.1 (gd + 10)) (S'.2.1 (gd + 11))) (n0 : Int32).toNatClampNeg (n9 : Int32).toNatClampNeg)) ∧ ((r).toInt = 1 → KST kd vl (a1 : Int32).toNatClampNeg (y_gx cx ry fm mi pl fo od fr fe) (n0 : Int32).toNatClampNeg S S' gd) ∧ Z1X S' ∧ GOX S0 d0 S' ∧ G9X S0 d0 S' ∧ True) (dg_B g D shX o rfX) (dg_A o shX.length sz)) 0 0 (dg_A o shX.length sz) := by
  refine dg_met (cc := cX6_readStatement) (maxL := 2) (ret := (some .boolean)) (dk_dq rfl) rfl (Nat.le_of_ble_eq_true rfl) ?_
  intro p e s m args below meth c A hAe harg hx hb hr hml hts hown hlocks hin hP K hS hA1 hA ST hsz ls hl
  rw [← hAe]
  have F : CallFix p m c cX6_readStatement 2 s args (bw yX6_readStatement cX6_readStatement 2 (some .boolean)) RX6 := ⟨hx, hb, hml, hown, hts⟩
  have hl : lv_has ls 2 [(0, .ref (o + 209)), (1, .int a1)] := hl
  have M_0 : dg_sm shX [(19, 0), (19, 1), (19, 2), (19, 3), (19, 4), (19, 6), (19, 8), (19, 11), (31, 0), (31, 1), (31, 4), (31, 5), (31, 6), (31, 7)] [20, 21, 22, 23, 24, 25, 26, 27, 28, 29, 30] S S := dg_sm.rf
  refine lv_iload_n hx hb dX6_readStatement_0 rfl (lv_at hl 1 rfl) ?_
  refine lv_bipush (v := 80) hx hb dX6_readStatement_1 (by decide +kernel) ?_
  refine lv_icmp_ne (tgt := 13) hx hb dX6_readStatement_3 (dk_dq rfl) (fun c_1 => ?_) (fun c_1 => ?_)
  · as_aux_lemma =>
      have jc_1 := dk_neqc (k := 80) (by decide +kernel) c_1
      refine lv_aload_n hx hb dX6_readStatement_13 rfl (lv_at hl 0 rfl) ?_
      refine dg_get (C := RX6) (T := TX6) (N := 8) hx hb hts (fun w h => bw_mem (wU_X6 w h)) hown K hP sX_209 rfl 2 (dk_dq rfl) (hts _ (bw_mem wB_13)) (fun _ h9 => h9) (v := .ref (o + 210)) (show S.1 209 2 = .ref (o + 210) from dg_I.rel (d := 1) I sX_209 (by decide +kernel)) dX6_readStatement_14 ?_
      refine dg_get (C := RX9) (T := TX9) (N := 5) hx hb hts (fun w h => bw_mem (wU_X9 w h)) hown K hP sX_210 rfl 0 (dk_dq rfl) (hts _ (bw_mem wB_14)) (fun _ h9 => h9) (v := .ref (o + 211)) (show S.1 210 0 = .ref (o + 211) from dg_I.rel (d := 1) I sX_210 (by decide +kernel)) dX6_readStatement_17 ?_
      refine lv_aload_n hx hb dX6_readStatement_20 rfl (lv_at hl 0 rfl) ?_
      refine dg_get (C := RX6) (T := TX6) (N := 8) hx hb hts (fun w h => bw_mem (wU_X6 w h)) hown K hP sX_209 rfl 4 (dk_dq rfl) (hts _ (bw_mem wB_15)) (fun _ h9 => h9) (v := .int n0) f_n0 dX6_readStatement_21 ?_
      have hin_2 : vp_in n0 1601 := (dk_inv2 (by omega))
      refine dg_iald hx hb K hP sX_211 hin_2 dX6_readStatement_24 (fun x_3 ex_3 => ?_)
      have hs_x_3 : (n0 : Int32).toInt = (en).toInt → (x_3).toInt = (ke).toInt := fun h => by have h9 := Int32.toInt_inj.mp h; rw [ex_3, h9]; exact congrArg Int32.toInt f_ke
      have kx_3 : (kd (n0 : Int32).toNatClampNeg).toInt = (x_3).toInt := by rw [ex_3, hkd _ (by unfold Int32.toNatClampNeg; omega)]
      refine lv_iconst (v := 1) hx hb dX6_readStatement_25 (by decide +kernel) ?_
      refine lv_icmp_ne (tgt := 46) hx hb dX6_readStatement_26 (dk_dq rfl) (fun c_4 => ?_) (fun c_4 => ?_)
      · have jc_4 := dk_neqc (k := 1) (by decide +kernel) c_4
        refine lv_aload_n hx hb dX6_readStatement_46 rfl (lv_at hl 0 rfl) ?_
        refine lv_iconst (v := 1) hx hb dX6_readStatement_47 (by decide +kernel) ?_
        refine dg_calli hS hA1 hA (va_runV (As := [.int 1]) (rest := []) F (c_rd_fail l g D o S 1 en n0 f_n0 (by omega) ke f_ke (by omega) (by omega) I s.heap.size) (cwV 1 hts (bw_V wB_30 wB_31 wB_32 wB_24 wB_29) rfl rfl rfl (by decide +kernel) ⟨Nat.le_of_ble_eq_true rfl, Nat.le_of_ble_eq_true rfl⟩) (dg_preV sX_209 rfl K ST hP hS hA1 hA) rfl rfl hl.1 rfl (lv_room (Nat.le_of_ble_eq_true rfl)) dX6_readStatement_48 ⟨Nat.le_of_ble_eq_true rfl, Nat.le_of_ble_eq_true rfl⟩) (fun x_5 S_6 hw_6 H locs hP hS => ?_)
        obtain ⟨I_6, m_6, w_6_0, -⟩ := hw_6
        have M_6 := dg_sm.tr M_0 m_6 (dk_dq rfl) (dk_dq rfl)
        have w_6_0 : 0 ≤ (x_5).toInt ∧ (x_5).toInt ≤ 0 := w_6_0
        refine W.widen (k := 0) (n := 0) (Nat.le_of_ble_eq_true rfl) (Nat.le_of_ble_eq_true rfl) ?_
        exact dg_iret hx hb hr hlocks (dk_znar2 (by omega)) hP hS ⟨I_6, M_6, (by omega), ⟨cx, ry, mi, pl, od, n0, sc, ((m_6.1 gd 0 _ (rX_0 gd hk_gd) (dk_dq rfl)).trans f_cx), ((m_6.1 gd 1 _ (rX_0 gd hk_gd) (dk_dq rfl)).trans f_ry), ((m_6.1 gd 6 _ (rX_0 gd hk_gd) (dk_dq rfl)).trans f_mi), ((m_6.1 gd 8 _ (rX_0 gd hk_gd) (dk_dq rfl)).trans f_pl), ((m_6.1 gd 11 _ (rX_0 gd hk_gd) (dk_dq rfl)).trans f_od), ((m_6.1 209 4 _ sX_209 (dk_dq rfl)).trans f_n0), ((m_6.1 209 7 _ sX_209 (dk_dq rfl)).trans f_sc), by omega, fun q9 => absurd q9 (by omega), (fun _ => by omega), fun _ => by rw [(m_6.2 (gd + 2) _ (rX_2 gd hk_gd) (dk_dq rfl)).1, hfm, (m_6.2 (gd + 5) _ (rX_5 gd hk_gd) (dk_dq rfl)).1, hfo, (m_6.2 (gd + 10) _ (rX_10 gd hk_gd) (dk_dq rfl)).1, hfr, (m_6.2 (gd + 11) _ (rX_11 gd hk_gd) (dk_dq rfl)).1, hfe]; exact y_ok.no (by omega) (by first | exact y_one_k (by omega) | exact y_one_0 (by have h8 := dk_clN a1; omega) (by omega) | exact y_one_no (by have h8 := dk_clN a1; omega) (by omega))⟩, (fun q9 => absurd q9 (by omega)), (Z1X.keep Z1 m_6 (dk_dq rfl) (dk_dq rfl) (dk_dq rfl)), (GOX.keep GO m_6 (dk_dq rfl) (dk_dq rfl)), (G9X.keep G9 m_6 (dk_dq rfl)), trivial⟩ dX6_readStatement_51
      · as_aux_lemma =>
          have jc_4 := dk_eqc (k := 1) (by decide +kernel) c_4
          refine lv_aload_n hx hb dX6_readStatement_29 rfl (lv_at hl 0 rfl) ?_
          refine lv_iconst (v := 0) hx hb dX6_readStatement_30 (by decide +kernel) ?_
          refine dg_calli hS hA1 hA (va_runV (As := [.int 0]) (rest := []) F (c_rd_isOwn l g D o S 0 en kd vl n0 f_n0 (by omega) ke f_ke (by omega) (by omega) hkd hvl I s.heap.size) (cwV 1 hts (bw_V wB_21 wB_22 wB_23 wB_24 wB_20) rfl rfl rfl (by decide +kernel) ⟨Nat.le_of_ble_eq_true rfl, Nat.le_of_ble_eq_true rfl⟩) (dg_preV sX_209 rfl K ST hP hS hA1 hA) rfl rfl hl.1 rfl (lv_room (Nat.le_of_ble_eq_true rfl)) dX6_readStatement_31 ⟨Nat.le_of_ble_eq_true rfl, Nat.le_of_ble_eq_true rfl⟩) (fun x_7 S_8 hw_8 H locs hP hS => ?_)
          rw [hw_8.1] at hP
          obtain ⟨hq_8, w_8_0, w_8_1, -⟩ := hw_8
          have hz_9 : (0 : Int32).toInt = 0 := by decide +kernel
          have w_8_0 : 0 ≤ (x_7).toInt ∧ (x_7).toInt ≤ 1 := w_8_0
          have w_8_1 : (x_7).toInt = 1 ↔ g_o kd vl ((0 : Int32)).toInt (n0 : Int32).toNatClampNeg = true := w_8_1
          refine lv_iload_n hx hb dX6_readStatement_34 rfl (lv_at hl 1 rfl) ?_
          refine lv_if_ne (tgt := 42) hx hb dX6_readStatement_35 (dk_dq rfl) (fun c_10 => ?_) (fun c_10 => ?_)
          · as_aux_lemma =>
              have jc_10 := dk_neqc (k := 0) (by decide +kernel) c_10
              refine lv_iconst (v := 0) hx hb dX6_readStatement_42 (by decide +kernel) ?_
              refine lv_icmp_eq (tgt := 52) hx hb dX6_readStatement_43 (dk_dq rfl) (fun c_11 => ?_) (fun c_11 => ?_)
              · as_aux_lemma =>
                  have jc_11 := dk_eqc (k := 0) (by decide +kernel) c_11
                  have qw_8_1 : g_o kd vl 0 (n0 : Int32).toNatClampNeg = false := by have h9 := g_iff_f w_8_1 (by omega); rw [show (0 : Int32).toInt = 0 from by decide +kernel] at h9; exact h9
                  have qlw_8_1 : ¬ ((kd (n0 : Int32).toNatClampNeg).toInt = 1 ∧ (vl (n0 : Int32).toNatClampNeg).toInt = 0) := by have h8 := g_o_iff (kd := kd) (vl := vl) (c := 0) (k := (n0 : Int32).toNatClampNeg); rw [qw_8_1] at h8; simpa using h8
                  refine lv_aload_n hx hb dX6_readStatement_52 rfl (lv_at hl 0 rfl) ?_
                  refine dg_get (C := RX6) (T := TX6) (N := 8) hx hb hts (fun w h => bw_mem (wU_X6 w h)) hown K hP sX_209 rfl 2 (dk_dq rfl) (hts _ (bw_mem wB_13)) (fun _ h9 => h9) (v := .ref (o + 210)) (show S.1 209 2 = .ref (o + 210) from dg_I.rel (d := 1) I sX_209 (by decide +kernel)) dX6_readStatement_53 ?_
                  refine dg_get (C := RX9) (T := TX9) (N := 5) hx hb hts (fun w h => bw_mem (wU_X9 w h)) hown K hP sX_210 rfl 2 (dk_dq rfl) (hts _ (bw_mem wB_16)) (fun _ h9 => h9) (v := .ref (o + 213)) (show S.1 210 2 = .ref (o + 213) from dg_I.rel (d := 3) I sX_210 (by decide +kernel)) dX6_readStatement_56 ?_
                  refine lv_aload_n hx hb dX6_readStatement_59 rfl (lv_at hl 0 rfl) ?_
                  refine dg_get (C := RX6) (T := TX6) (N := 8) hx hb hts (fun w h => bw_mem (wU_X6 w h)) hown K hP sX_209 rfl 4 (dk_dq rfl) (hts _ (bw_mem wB_15)) (fun _ h9 => h9) (v := .int n0) f_n0 dX6_readStatement_60 ?_
                  have hin_12 : vp_in n0 1601 := (dk_inv2 (by omega))
                  refine dg_iald hx hb K hP sX_213 hin_12 dX6_readStatement_63 (fun x_13 ex_13 => ?_)
                  have kx_13 : (vl (n0 : Int32).toNatClampNeg).toInt = (x_13).toInt := by rw [ex_13, hvl _ (by unfold Int32.toNatClampNeg; omega)]
                  rcases (show ((x_13).toInt < 0 ∨ 14 < (x_13).toInt) ∨ (x_13).toInt = 0 ∨ (x_13).toInt = 1 ∨ (x_13).toInt = 2 ∨ (x_13).toInt = 3 ∨ (x_13).toInt = 4 ∨ (x_13).toInt = 5 ∨ (x_13).toInt = 6 ∨ (x_13).toInt = 7 ∨ (x_13).toInt = 8 ∨ (x_13).toInt = 9 ∨ (x_13).toInt = 10 ∨ (x_13).toInt = 11 ∨ (x_13).toInt = 12 ∨ (x_13).toInt = 13 ∨ (x_13).toInt = 14 by omega) with jc_14 | jc_14 | jc_14 | jc_14 | jc_14 | jc_14 | jc_14 | jc_14 | jc_14 | jc_14 | jc_14 | jc_14 | jc_14 | jc_14 | jc_14 | jc_14
                  · refine lv_tableOut (tgt := 198) hx hb dX6_readStatement_64 jc_14 (dk_dq rfl) ?_
                    refine lv_aload_n hx hb dX6_readStatement_198 rfl (lv_at hl 0 rfl) ?_
                    refine lv_iconst (v := 1) hx hb dX6_readStatement_199 (by decide +kernel) ?_
                    refine dg_calli hS hA1 hA (va_runV (As := [.int 1]) (rest := []) F (c_rd_fail l g D o S 1 en n0 f_n0 (by omega) ke f_ke (by omega) (by omega) I H.size) (cwV 1 hts (bw_V wB_30 wB_31 wB_32 wB_24 wB_29) rfl rfl rfl (by decide +kernel) ⟨Nat.le_of_ble_eq_true rfl, Nat.le_of_ble_eq_true rfl⟩) (dg_preV sX_209 rfl K ST hP hS hA1 hA) rfl rfl hl.1 rfl (lv_room (Nat.le_of_ble_eq_true rfl)) dX6_readStatement_200 ⟨Nat.le_of_ble_eq_true rfl, Nat.le_of_ble_eq_true rfl⟩) (fun x_15 S_16 hw_16 H locs hP hS => ?_)
                    obtain ⟨I_16, m_16, w_16_0, -⟩ := hw_16
                    have M_16 := dg_sm.tr M_0 m_16 (dk_dq rfl) (dk_dq rfl)
                    have w_16_0 : 0 ≤ (x_15).toInt ∧ (x_15).toInt ≤ 0 := w_16_0
                    refine W.widen (k := 0) (n := 0) (Nat.le_of_ble_eq_true rfl) (Nat.le_of_ble_eq_true rfl) ?_
                    exact dg_iret hx hb hr hlocks (dk_znar2 (by omega)) hP hS ⟨I_16, M_16, (by omega), ⟨cx, ry, mi, pl, od, n0, sc, ((m_16.1 gd 0 _ (rX_0 gd hk_gd) (dk_dq rfl)).trans f_cx), ((m_16.1 gd 1 _ (rX_0 gd hk_gd) (dk_dq rfl)).trans f_ry), ((m_16.1 gd 6 _ (rX_0 gd hk_gd) (dk_dq rfl)).trans f_mi), ((m_16.1 gd 8 _ (rX_0 gd hk_gd) (dk_dq rfl)).trans f_pl), ((m_16.1 gd 11 _ (rX_0 gd hk_gd) (dk_dq rfl)).trans f_od), ((m_16.1 209 4 _ sX_209 (dk_dq rfl)).trans f_n0), ((m_16.1 209 7 _ sX_209 (dk_dq rfl)).trans f_sc), by omega, fun q9 => absurd q9 (by omega), (fun _ => by omega), fun _ => by rw [(m_16.2 (gd + 2) _ (rX_2 gd hk_gd) (dk_dq rfl)).1, hfm, (m_16.2 (gd + 5) _ (rX_5 gd hk_gd) (dk_dq rfl)).1, hfo, (m_16.2 (gd + 10) _ (rX_10 gd hk_gd) (dk_dq rfl)).1, hfr, (m_16.2 (gd + 11) _ (rX_11 gd hk_gd) (dk_dq rfl)).1, hfe]; exact y_ok.no (by omega) (by first | exact y_one_k (by omega) | exact y_one_0 (by have h8 := dk_clN a1; omega) (by omega) | exact y_one_no (by have h8 := dk_clN a1; omega) (by omega))⟩, (fun q9 => absurd q9 (by omega)), (Z1X.keep Z1 m_16 (dk_dq rfl) (dk_dq rfl) (dk_dq rfl)), (GOX.keep GO m_16 (dk_dq rfl) (dk_dq rfl)), (G9X.keep G9 m_16 (dk_dq rfl)), trivial⟩ dX6_readStatement_203
                  · as_aux_lemma =>
                      refine lv_tableIn (off := 76) (tgt := 140) hx hb dX6_readStatement_64 (by rw [jc_14]; decide) (by rw [jc_14]; decide) (by rw [jc_14]; decide +kernel) (dk_dq rfl) ?_
                      refine lv_aload_n hx hb dX6_readStatement_140 rfl (lv_at hl 0 rfl) ?_
                      refine dg_calli hS hA1 hA (va_runV (As := []) (rest := []) F (c_rd_readSeam l g D o S en kd vl S0 d0 gd hk_gd f_gd n0 f_n0 (by omega) ke f_ke (by omega) (by omega) hkd hvl (by omega) hd0 Z1 GO I H.size) (cwV 0 hts (bw_V wB_222 wB_223 wB_224 wB_24 wB_221) rfl rfl rfl (by decide +kernel) ⟨Nat.le_of_ble_eq_true rfl, Nat.le_of_ble_eq_true rfl⟩) (dg_preV sX_209 rfl K ST hP hS hA1 hA) rfl rfl hl.1 rfl (lv_room (Nat.le_of_ble_eq_true rfl)) dX6_readStatement_141 ⟨Nat.le_of_ble_eq_true rfl, Nat.le_of_ble_eq_true rfl⟩) (fun x_17 S_18 hw_18 H locs hP hS => ?_)
                      obtain ⟨I_18, m_18, w_18_0, w_18_1, w_18_2, w_18_3, w_18_4, w_18_5, w_18_6, -⟩ := hw_18
                      have M_18 := dg_sm.tr M_0 m_18 (dk_dq rfl) (dk_dq rfl)
                      have w_18_0 : 0 ≤ (x_17).toInt ∧ (x_17).toInt ≤ 1 := w_18_0
                      obtain ⟨y_19, f_y_19, w_18_1⟩ := w_18_1
                      have w_18_1 : (x_17).toInt = 1 → (y_19).toInt = (vl ((n0 : Int32).toNatClampNeg + 1)).toInt := w_18_1
                      have b_y_19 : 0 ≤ (y_19).toInt ∧ (y_19).toInt ≤ 7 := dg_I.intb (lo := 0) (hi := 7) I_18 (rX_0 gd hk_gd) (by decide +kernel) f_y_19
                      obtain ⟨y_20, f_y_20, w_18_2⟩ := w_18_2
                      have w_18_2 : (x_17).toInt = 1 → (y_20).toInt = (vl ((n0 : Int32).toNatClampNeg + 3)).toInt := w_18_2
                      have b_y_20 : 0 ≤ (y_20).toInt ∧ (y_20).toInt ≤ 7 := dg_I.intb (lo := 0) (hi := 7) I_18 (rX_0 gd hk_gd) (by decide +kernel) f_y_20
                      obtain ⟨y_21, f_y_21, w_18_3⟩ := w_18_3
                      have w_18_3 : (x_17).toInt = 1 → (y_21).toInt = 8 := w_18_3
                      have b_y_21 : (-1) ≤ (y_21).toInt ∧ (y_21).toInt ≤ 63 := dg_I.intb (lo := (-1)) (hi := 63) I_18 (rX_0 gd hk_gd) (by decide +kernel) f_y_21
                      obtain ⟨y_22, f_y_22, w_18_4⟩ := w_18_4
                      have w_18_4 : (y_22).toInt ≤ (en).toInt ∧ g_ans x_17 ((y_num kd vl 3 7 ((n0 : Int32).toNatClampNeg + 1)).bind fun k2 => (y_own kd vl 1 k2).bind (y_num kd vl 3 7)) (y_22 : Int32).toNatClampNeg := w_18_4
                      have b_y_22 : 0 ≤ (y_22).toInt ∧ (y_22).toInt ≤ 1600 := dg_I.intb (lo := 0) (hi := 1600) I_18 sX_209 (by decide +kernel) f_y_22
                      refine W.widen (k := 0) (n := 0) (Nat.le_of_ble_eq_true rfl) (Nat.le_of_ble_eq_true rfl) ?_
                      exact dg_iret hx hb hr hlocks (dk_znar2 (by omega)) hP hS ⟨I_18, M_18, (by omega), (by exfalso; omega), (fun q9 d9 z9 o9 => by have e1 := w_18_1 (by omega); have e3 := w_18_2 (by omega); rw [k_st_0 (by omega), ← e1, ← e3]; exact kx0.seam (G := d9.1) (K := d9.2) (z9 (by have h8 := dk_clN a1; omega)) m_18 f_y_19 f_y_20 f_y_21 (w_18_3 (by omega))), w_18_5, w_18_6, (G9X.keep G9 m_18 (dk_dq rfl)), trivial⟩ dX6_readStatement_144
                  · refine lv_tableIn (off := 134) (tgt := 198) hx hb dX6_readStatement_64 (by rw [jc_14]; decide) (by rw [jc_14]; decide) (by rw [jc_14]; decide +kernel) (dk_dq rfl) ?_
                    refine lv_aload_n hx hb dX6_readStatement_198 rfl (lv_at hl 0 rfl) ?_
                    refine lv_iconst (v := 1) hx hb dX6_readStatement_199 (by decide +kernel) ?_
                    refine dg_calli hS hA1 hA (va_runV (As := [.int 1]) (rest := []) F (c_rd_fail l g D o S 1 en n0 f_n0 (by omega) ke f_ke (by omega) (by omega) I H.size) (cwV 1 hts (bw_V wB_30 wB_31 wB_32 wB_24 wB_29) rfl rfl rfl (by decide +kernel) ⟨Nat.le_of_ble_eq_true rfl, Nat.le_of_ble_eq_true rfl⟩) (dg_preV sX_209 rfl K ST hP hS hA1 hA) rfl rfl hl.1 rfl (lv_room (Nat.le_of_ble_eq_true rfl)) dX6_readStatement_200 ⟨Nat.le_of_ble_eq_true rfl, Nat.le_of_ble_eq_true rfl⟩) (fun x_23 S_24 hw_24 H locs hP hS => ?_)
                    obtain ⟨I_24, m_24, w_24_0, -⟩ := hw_24
                    have M_24 := dg_sm.tr M_0 m_24 (dk_dq rfl) (dk_dq rfl)
                    have w_24_0 : 0 ≤ (x_23).toInt ∧ (x_23).toInt ≤ 0 := w_24_0
                    refine W.widen (k := 0) (n := 0) (Nat.le_of_ble_eq_true rfl) (Nat.le_of_ble_eq_true rfl) ?_
                    exact dg_iret hx hb hr hlocks (dk_znar2 (by omega)) hP hS ⟨I_24, M_24, (by omega), ⟨cx, ry, mi, pl, od, n0, sc, ((m_24.1 gd 0 _ (rX_0 gd hk_gd) (dk_dq rfl)).trans f_cx), ((m_24.1 gd 1 _ (rX_0 gd hk_gd) (dk_dq rfl)).trans f_ry), ((m_24.1 gd 6 _ (rX_0 gd hk_gd) (dk_dq rfl)).trans f_mi), ((m_24.1 gd 8 _ (rX_0 gd hk_gd) (dk_dq rfl)).trans f_pl), ((m_24.1 gd 11 _ (rX_0 gd hk_gd) (dk_dq rfl)).trans f_od), ((m_24.1 209 4 _ sX_209 (dk_dq rfl)).trans f_n0), ((m_24.1 209 7 _ sX_209 (dk_dq rfl)).trans f_sc), by omega, fun q9 => absurd q9 (by omega), (fun _ => by omega), fun _ => by rw [(m_24.2 (gd + 2) _ (rX_2 gd hk_gd) (dk_dq rfl)).1, hfm, (m_24.2 (gd + 5) _ (rX_5 gd hk_gd) (dk_dq rfl)).1, hfo, (m_24.2 (gd + 10) _ (rX_10 gd hk_gd) (dk_dq rfl)).1, hfr, (m_24.2 (gd + 11) _ (rX_11 gd hk_gd) (dk_dq rfl)).1, hfe]; exact y_ok.no (by omega) (by first | exact y_one_k (by omega) | exact y_one_0 (by have h8 := dk_clN a1; omega) (by omega) | exact y_one_no (by have h8 := dk_clN a1; omega) (by omega))⟩, (fun q9 => absurd q9 (by omega)), (Z1X.keep Z1 m_24 (dk_dq rfl) (dk_dq rfl) (dk_dq rfl)), (GOX.keep GO m_24 (dk_dq rfl) (dk_dq rfl)), (G9X.keep G9 m_24 (dk_dq rfl)), trivial⟩ dX6_readStatement_203
                  · refine lv_tableIn (off := 81) (tgt := 145) hx hb dX6_readStatement_64 (by rw [jc_14]; decide) (by rw [jc_14]; decide) (by rw [jc_14]; decide +kernel) (dk_dq rfl) ?_
                    refine lv_aload_n hx hb dX6_readStatement_145 rfl (lv_at hl 0 rfl) ?_
                    refine dg_calli hS hA1 hA (va_runV (As := []) (rest := []) F (c_rd_readShaft l g D o S en kd vl S0 d0 gd hk_gd f_gd n0 f_n0 (by omega) cx f_cx (by omega) ry f_ry (by omega) ke f_ke (by omega) (by omega) hkd hvl (by omega) hd0 Z1 GO I H.size) (cwV 0 hts (bw_V wB_226 wB_227 wB_228 wB_24 wB_225) rfl rfl rfl (by decide +kernel) ⟨Nat.le_of_ble_eq_true rfl, Nat.le_of_ble_eq_true rfl⟩) (dg_preV sX_209 rfl K ST hP hS hA1 hA) rfl rfl hl.1 rfl (lv_room (Nat.le_of_ble_eq_true rfl)) dX6_readStatement_146 ⟨Nat.le_of_ble_eq_true rfl, Nat.le_of_ble_eq_true rfl⟩) (fun x_25 S_26 hw_26 H locs hP hS => ?_)
                    obtain ⟨I_26, m_26, w_26_0, w_26_1, w_26_2, w_26_3, w_26_4, -⟩ := hw_26
                    have M_26 := dg_sm.tr M_0 m_26 (dk_dq rfl) (dk_dq rfl)
                    have w_26_0 : 0 ≤ (x_25).toInt ∧ (x_25).toInt ≤ 1 := w_26_0
                    obtain ⟨y_27, f_y_27, w_26_1⟩ := w_26_1
                    have w_26_1 : (x_25).toInt = 1 → (y_27).toInt = (vl ((n0 : Int32).toNatClampNeg + 1)).toInt + 8 := w_26_1
                    have b_y_27 : (-1) ≤ (y_27).toInt ∧ (y_27).toInt ≤ 63 := dg_I.intb (lo := (-1)) (hi := 63) I_26 (rX_0 gd hk_gd) (by decide +kernel) f_y_27
                    obtain ⟨y_28, f_y_28, w_26_2⟩ := w_26_2
                    have w_26_2 : (y_28).toInt ≤ (en).toInt ∧ g_ans x_25 (y_num kd vl 0 ((cx).toInt - 1) ((n0 : Int32).toNatClampNeg + 1)) (y_28 : Int32).toNatClampNeg := w_26_2
                    have b_y_28 : 0 ≤ (y_28).toInt ∧ (y_28).toInt ≤ 1600 := dg_I.intb (lo := 0) (hi := 1600) I_26 sX_209 (by decide +kernel) f_y_28
                    have hL9 : y_ok x_25 (y_one kd vl (a1 : Int32).toNatClampNeg (y_gx cx ry fm mi pl fo od fr fe) (n0 : Int32).toNatClampNeg) (y_gx cx ry (S_26.2.1 (gd + 2)) mi pl (S_26.2.1 (gd + 5)) od (S_26.2.1 (gd + 10)) (S_26.2.1 (gd + 11))) (n0 : Int32).toNatClampNeg (y_28 : Int32).toNatClampNeg := by rw [(m_26.2 (gd + 2) _ (rX_2 gd hk_gd) (dk_dq rfl)).1, hfm, (m_26.2 (gd + 5) _ (rX_5 gd hk_gd) (dk_dq rfl)).1, hfo, (m_26.2 (gd + 10) _ (rX_10 gd hk_gd) (dk_dq rfl)).1, hfr, (m_26.2 (gd + 11) _ (rX_11 gd hk_gd) (dk_dq rfl)).1, hfe]; exact y_ok_2 (by have h8 := dk_clN a1; omega) (by omega) (by omega) w_26_2.2
                    refine W.widen (k := 0) (n := 0) (Nat.le_of_ble_eq_true rfl) (Nat.le_of_ble_eq_true rfl) ?_
                    exact dg_iret hx hb hr hlocks (dk_znar2 (by omega)) hP hS ⟨I_26, M_26, (by omega), ⟨cx, ry, mi, pl, od, y_28, sc, ((m_26.1 gd 0 _ (rX_0 gd hk_gd) (dk_dq rfl)).trans f_cx), ((m_26.1 gd 1 _ (rX_0 gd hk_gd) (dk_dq rfl)).trans f_ry), ((m_26.1 gd 6 _ (rX_0 gd hk_gd) (dk_dq rfl)).trans f_mi), ((m_26.1 gd 8 _ (rX_0 gd hk_gd) (dk_dq rfl)).trans f_pl), ((m_26.1 gd 11 _ (rX_0 gd hk_gd) (dk_dq rfl)).trans f_od), f_y_28, ((m_26.1 209 7 _ sX_209 (dk_dq rfl)).trans f_sc), by omega, fun q9 => (by have h7 := (hL9.1 q9).2; have h8 := dk_clN y_28; have h9 := dk_clN n0; omega), (fun q9 => absurd q9 (by omega)), fun _ => hL9⟩, (fun q9 d9 z9 o9 => by rw [k_st_2 (by omega)]; exact kx.shaft (G := d9.1) (K := d9.2) (o9 (by have h8 := dk_clN a1; omega)) m_26 f_y_27 (w_26_1 (by omega))), w_26_3, w_26_4, (G9X.keep G9 m_26 (dk_dq rfl)), trivial⟩ dX6_readStatement_149
                  · refine lv_tableIn (off := 86) (tgt := 150) hx hb dX6_readStatement_64 (by rw [jc_14]; decide) (by rw [jc_14]; decide) (by rw [jc_14]; decide +kernel) (dk_dq rfl) ?_
                    refine lv_aload_n hx hb dX6_readStatement_150 rfl (lv_at hl 0 rfl) ?_
                    refine dg_calli hS hA1 hA (va_runV (As := []) (rest := []) F (c_rd_readReach l g D o S en kd vl S0 d0 gd hk_gd f_gd n0 f_n0 (by omega) ke f_ke (by omega) (by omega) hkd hvl (by omega) hd0 GO I H.size) (cwV 0 hts (bw_V wB_230 wB_231 wB_232 wB_24 wB_229) rfl rfl rfl (by decide +kernel) ⟨Nat.le_of_ble_eq_true rfl, Nat.le_of_ble_eq_true rfl⟩) (dg_preV sX_209 rfl K ST hP hS hA1 hA) rfl rfl hl.1 rfl (lv_room (Nat.le_of_ble_eq_true rfl)) dX6_readStatement_151 ⟨Nat.le_of_ble_eq_true rfl, Nat.le_of_ble_eq_true rfl⟩) (fun x_29 S_30 hw_30 H locs hP hS => ?_)
                    obtain ⟨I_30, m_30, w_30_0, w_30_1, w_30_2, w_30_3, -⟩ := hw_30
                    have M_30 := dg_sm.tr M_0 m_30 (dk_dq rfl) (dk_dq rfl)
                    have w_30_0 : 0 ≤ (x_29).toInt ∧ (x_29).toInt ≤ 1 := w_30_0
                    obtain ⟨y_31, f_y_31, w_30_1⟩ := w_30_1
                    have w_30_1 : (x_29).toInt = 1 → (y_31).toInt = (vl ((n0 : Int32).toNatClampNeg + 1)).toInt := w_30_1
                    obtain ⟨y_32, f_y_32, w_30_2⟩ := w_30_2
                    have w_30_2 : (y_32).toInt ≤ (en).toInt ∧ g_ans x_29 (y_num kd vl 0 20 ((n0 : Int32).toNatClampNeg + 1)) (y_32 : Int32).toNatClampNeg := w_30_2
                    have b_y_32 : 0 ≤ (y_32).toInt ∧ (y_32).toInt ≤ 1600 := dg_I.intb (lo := 0) (hi := 1600) I_30 sX_209 (by decide +kernel) f_y_32
                    have hL9 : y_ok x_29 (y_one kd vl (a1 : Int32).toNatClampNeg (y_gx cx ry fm mi pl fo od fr fe) (n0 : Int32).toNatClampNeg) (y_gx cx ry (S_30.2.1 (gd + 2)) mi pl (S_30.2.1 (gd + 5)) od (S_30.2.1 (gd + 10)) (S_30.2.1 (gd + 11))) (n0 : Int32).toNatClampNeg (y_32 : Int32).toNatClampNeg := by rw [(m_30.2 (gd + 2) _ (rX_2 gd hk_gd) (dk_dq rfl)).1, hfm, (m_30.2 (gd + 5) _ (rX_5 gd hk_gd) (dk_dq rfl)).1, hfo, (m_30.2 (gd + 10) _ (rX_10 gd hk_gd) (dk_dq rfl)).1, hfr, (m_30.2 (gd + 11) _ (rX_11 gd hk_gd) (dk_dq rfl)).1, hfe]; exact y_ok_3 (by have h8 := dk_clN a1; omega) (by omega) (by omega) w_30_2.2
                    refine W.widen (k := 0) (n := 0) (Nat.le_of_ble_eq_true rfl) (Nat.le_of_ble_eq_true rfl) ?_
                    exact dg_iret hx hb hr hlocks (dk_znar2 (by omega)) hP hS ⟨I_30, M_30, (by omega), ⟨cx, ry, mi, pl, od, y_32, sc, ((m_30.1 gd 0 _ (rX_0 gd hk_gd) (dk_dq rfl)).trans f_cx), ((m_30.1 gd 1 _ (rX_0 gd hk_gd) (dk_dq rfl)).trans f_ry), ((m_30.1 gd 6 _ (rX_0 gd hk_gd) (dk_dq rfl)).trans f_mi), ((m_30.1 gd 8 _ (rX_0 gd hk_gd) (dk_dq rfl)).trans f_pl), ((m_30.1 gd 11 _ (rX_0 gd hk_gd) (dk_dq rfl)).trans f_od), f_y_32, ((m_30.1 209 7 _ sX_209 (dk_dq rfl)).trans f_sc), by omega, fun q9 => (by have h7 := (hL9.1 q9).2; have h8 := dk_clN y_32; have h9 := dk_clN n0; omega), (fun q9 => absurd q9 (by omega)), fun _ => hL9⟩, (fun q9 d9 z9 o9 => by have e1 := w_30_1 (by omega); rw [k_st_3 (by omega), ← e1]; exact kx.reach (G := d9.1) (K := d9.2) (o9 (by have h8 := dk_clN a1; omega)) m_30 f_y_31), (Z1X.keep Z1 m_30 (dk_dq rfl) (dk_dq rfl) (dk_dq rfl)), w_30_3, (G9X.keep G9 m_30 (dk_dq rfl)), trivial⟩ dX6_readStatement_154
                  · refine lv_tableIn (off := 91) (tgt := 155) hx hb dX6_readStatement_64 (by rw [jc_14]; decide) (by rw [jc_14]; decide) (by rw [jc_14]; decide +kernel) (dk_dq rfl) ?_
                    refine lv_aload_n hx hb dX6_readStatement_155 rfl (lv_at hl 0 rfl) ?_
                    refine dg_calli hS hA1 hA (va_runV (As := []) (rest := []) F (c_rd_readQuake l g D o S en kd vl S0 d0 gd hk_gd f_gd n0 f_n0 (by omega) ke f_ke (by omega) (by omega) hkd hvl (by omega) hd0 GO I H.size) (cwV 0 hts (bw_V wB_234 wB_235 wB_236 wB_24 wB_233) rfl rfl rfl (by decide +kernel) ⟨Nat.le_of_ble_eq_true rfl, Nat.le_of_ble_eq_true rfl⟩) (dg_preV sX_209 rfl K ST hP hS hA1 hA) rfl rfl hl.1 rfl (lv_room (Nat.le_of_ble_eq_true rfl)) dX6_readStatement_156 ⟨Nat.le_of_ble_eq_true rfl, Nat.le_of_ble_eq_true rfl⟩) (fun x_33 S_34 hw_34 H locs hP hS => ?_)
                    obtain ⟨I_34, m_34, w_34_0, w_34_1, w_34_2, w_34_3, -⟩ := hw_34
                    have M_34 := dg_sm.tr M_0 m_34 (dk_dq rfl) (dk_dq rfl)
                    have w_34_0 : 0 ≤ (x_33).toInt ∧ (x_33).toInt ≤ 1 := w_34_0
                    obtain ⟨y_35, f_y_35, w_34_1⟩ := w_34_1
                    have w_34_1 : (x_33).toInt = 1 → (y_35).toInt = (vl ((n0 : Int32).toNatClampNeg + 1)).toInt := w_34_1
                    obtain ⟨y_36, f_y_36, w_34_2⟩ := w_34_2
                    have w_34_2 : (y_36).toInt ≤ (en).toInt ∧ g_ans x_33 (y_num kd vl 0 100 ((n0 : Int32).toNatClampNeg + 1)) (y_36 : Int32).toNatClampNeg := w_34_2
                    have b_y_36 : 0 ≤ (y_36).toInt ∧ (y_36).toInt ≤ 1600 := dg_I.intb (lo := 0) (hi := 1600) I_34 sX_209 (by decide +kernel) f_y_36
                    have hL9 : y_ok x_33 (y_one kd vl (a1 : Int32).toNatClampNeg (y_gx cx ry fm mi pl fo od fr fe) (n0 : Int32).toNatClampNeg) (y_gx cx ry (S_34.2.1 (gd + 2)) mi pl (S_34.2.1 (gd + 5)) od (S_34.2.1 (gd + 10)) (S_34.2.1 (gd + 11))) (n0 : Int32).toNatClampNeg (y_36 : Int32).toNatClampNeg := by rw [(m_34.2 (gd + 2) _ (rX_2 gd hk_gd) (dk_dq rfl)).1, hfm, (m_34.2 (gd + 5) _ (rX_5 gd hk_gd) (dk_dq rfl)).1, hfo, (m_34.2 (gd + 10) _ (rX_10 gd hk_gd) (dk_dq rfl)).1, hfr, (m_34.2 (gd + 11) _ (rX_11 gd hk_gd) (dk_dq rfl)).1, hfe]; exact y_ok_4 (by have h8 := dk_clN a1; omega) (by omega) (by omega) w_34_2.2
                    refine W.widen (k := 0) (n := 0) (Nat.le_of_ble_eq_true rfl) (Nat.le_of_ble_eq_true rfl) ?_
                    exact dg_iret hx hb hr hlocks (dk_znar2 (by omega)) hP hS ⟨I_34, M_34, (by omega), ⟨cx, ry, mi, pl, od, y_36, sc, ((m_34.1 gd 0 _ (rX_0 gd hk_gd) (dk_dq rfl)).trans f_cx), ((m_34.1 gd 1 _ (rX_0 gd hk_gd) (dk_dq rfl)).trans f_ry), ((m_34.1 gd 6 _ (rX_0 gd hk_gd) (dk_dq rfl)).trans f_mi), ((m_34.1 gd 8 _ (rX_0 gd hk_gd) (dk_dq rfl)).trans f_pl), ((m_34.1 gd 11 _ (rX_0 gd hk_gd) (dk_dq rfl)).trans f_od), f_y_36, ((m_34.1 209 7 _ sX_209 (dk_dq rfl)).trans f_sc), by omega, fun q9 => (by have h7 := (hL9.1 q9).2; have h8 := dk_clN y_36; have h9 := dk_clN n0; omega), (fun q9 => absurd q9 (by omega)), fun _ => hL9⟩, (fun q9 d9 z9 o9 => by have e1 := w_34_1 (by omega); rw [k_st_4 (by omega), ← e1]; exact kx.quake (G := d9.1) (K := d9.2) (o9 (by have h8 := dk_clN a1; omega)) m_34 f_y_35), (Z1X.keep Z1 m_34 (dk_dq rfl) (dk_dq rfl) (dk_dq rfl)), w_34_3, (G9X.keep G9 m_34 (dk_dq rfl)), trivial⟩ dX6_readStatement_159
                  · refine lv_tableIn (off := 96) (tgt := 160) hx hb dX6_readStatement_64 (by rw [jc_14]; decide) (by rw [jc_14]; decide) (by rw [jc_14]; decide +kernel) (dk_dq rfl) ?_
                    refine lv_aload_n hx hb dX6_readStatement_160 rfl (lv_at hl 0 rfl) ?_
                    refine dg_calli hS hA1 hA (va_runV (As := []) (rest := []) F (c_rd_readGrade l g D o S en kd vl S0 d0 gd hk_gd f_gd n0 f_n0 (by omega) cx f_cx (by omega) ry f_ry (by omega) ke f_ke (by omega) (by omega) hkd hvl (by omega) hd0 GO I H.size) (cwV 0 hts (bw_V wB_238 wB_239 wB_240 wB_24 wB_237) rfl rfl rfl (by decide +kernel) ⟨Nat.le_of_ble_eq_true rfl, Nat.le_of_ble_eq_true rfl⟩) (dg_preV sX_209 rfl K ST hP hS hA1 hA) rfl rfl hl.1 rfl (lv_room (Nat.le_of_ble_eq_true rfl)) dX6_readStatement_161 ⟨Nat.le_of_ble_eq_true rfl, Nat.le_of_ble_eq_true rfl⟩) (fun x_37 S_38 hw_38 H locs hP hS => ?_)
                    obtain ⟨I_38, m_38, w_38_0, w_38_1, w_38_2, w_38_3, -⟩ := hw_38
                    have M_38 := dg_sm.tr M_0 m_38 (dk_dq rfl) (dk_dq rfl)
                    have w_38_0 : 0 ≤ (x_37).toInt ∧ (x_37).toInt ≤ 1 := w_38_0
                    replace w_38_1 : m_hid ((x_37).toInt = 1 → ∃ (v9 : Int32) (i9 : Nat), v9.toInt = (vl ((n0 : Int32).toNatClampNeg + 3)).toInt ∧ (i9 : Int) = 8 * (vl ((n0 : Int32).toNatClampNeg + 2)).toInt + (vl ((n0 : Int32).toNatClampNeg + 1)).toInt + 8 ∧ 8 ≤ (i9 : Int) ∧ S_38.2.1 (gd + 1) = upd (S.2.1 (gd + 1)) i9 v9) := w_38_1
                    obtain ⟨y_39, f_y_39, w_38_2⟩ := w_38_2
                    have w_38_2 : (y_39).toInt ≤ (en).toInt ∧ g_ans x_37 ((y_cell kd vl ((cx).toInt, (ry).toInt) ((n0 : Int32).toNatClampNeg + 1)).bind (y_num kd vl 0 9)) (y_39 : Int32).toNatClampNeg := w_38_2
                    have b_y_39 : 0 ≤ (y_39).toInt ∧ (y_39).toInt ≤ 1600 := dg_I.intb (lo := 0) (hi := 1600) I_38 sX_209 (by decide +kernel) f_y_39
                    have hL9 : y_ok x_37 (y_one kd vl (a1 : Int32).toNatClampNeg (y_gx cx ry fm mi pl fo od fr fe) (n0 : Int32).toNatClampNeg) (y_gx cx ry (S_38.2.1 (gd + 2)) mi pl (S_38.2.1 (gd + 5)) od (S_38.2.1 (gd + 10)) (S_38.2.1 (gd + 11))) (n0 : Int32).toNatClampNeg (y_39 : Int32).toNatClampNeg := by rw [(m_38.2 (gd + 2) _ (rX_2 gd hk_gd) (dk_dq rfl)).1, hfm, (m_38.2 (gd + 5) _ (rX_5 gd hk_gd) (dk_dq rfl)).1, hfo, (m_38.2 (gd + 10) _ (rX_10 gd hk_gd) (dk_dq rfl)).1, hfr, (m_38.2 (gd + 11) _ (rX_11 gd hk_gd) (dk_dq rfl)).1, hfe]; exact y_ok_5 (by have h8 := dk_clN a1; omega) (by omega) (by omega) w_38_2.2
                    refine W.widen (k := 0) (n := 0) (Nat.le_of_ble_eq_true rfl) (Nat.le_of_ble_eq_true rfl) ?_
                    exact dg_iret hx hb hr hlocks (dk_znar2 (by omega)) hP hS ⟨I_38, M_38, (by omega), ⟨cx, ry, mi, pl, od, y_39, sc, ((m_38.1 gd 0 _ (rX_0 gd hk_gd) (dk_dq rfl)).trans f_cx), ((m_38.1 gd 1 _ (rX_0 gd hk_gd) (dk_dq rfl)).trans f_ry), ((m_38.1 gd 6 _ (rX_0 gd hk_gd) (dk_dq rfl)).trans f_mi), ((m_38.1 gd 8 _ (rX_0 gd hk_gd) (dk_dq rfl)).trans f_pl), ((m_38.1 gd 11 _ (rX_0 gd hk_gd) (dk_dq rfl)).trans f_od), f_y_39, ((m_38.1 209 7 _ sX_209 (dk_dq rfl)).trans f_sc), by omega, fun q9 => (by have h7 := (hL9.1 q9).2; have h8 := dk_clN y_39; have h9 := dk_clN n0; omega), (fun q9 => absurd q9 (by omega)), fun _ => hL9⟩, (fun q9 d9 z9 o9 => by obtain ⟨v9, i9, e1, e2, e4, e3⟩ := w_38_1.out (by omega); rw [k_st_5 (by omega), ← e1]; exact kx.grade (G := d9.1) (K := d9.2) (o9 (by have h8 := dk_clN a1; omega)) m_38 e3 (by omega)), (Z1X.keep Z1 m_38 (dk_dq rfl) (dk_dq rfl) (dk_dq rfl)), w_38_3, (G9X.keep G9 m_38 (dk_dq rfl)), trivial⟩ dX6_readStatement_164
                  · as_aux_lemma =>
                      refine lv_tableIn (off := 101) (tgt := 165) hx hb dX6_readStatement_64 (by rw [jc_14]; decide) (by rw [jc_14]; decide) (by rw [jc_14]; decide +kernel) (dk_dq rfl) ?_
                      refine lv_aload_n hx hb dX6_readStatement_165 rfl (lv_at hl 0 rfl) ?_
                      refine dg_calli hS hA1 hA (va_runV (As := []) (rest := []) F (c_rd_readMiner l g D o S en kd vl fm fo S0 d0 gd hk_gd f_gd n0 f_n0 (by omega) mi f_mi (by omega) od f_od (by omega) ke f_ke (by omega) (by omega) hkd hvl (by omega) hfm hfo hd0 GO I H.size) (cwV 0 hts (bw_V wB_242 wB_243 wB_244 wB_24 wB_241) rfl rfl rfl (by decide +kernel) ⟨Nat.le_of_ble_eq_true rfl, Nat.le_of_ble_eq_true rfl⟩) (dg_preV sX_209 rfl K ST hP hS hA1 hA) rfl rfl hl.1 rfl (lv_room (Nat.le_of_ble_eq_true rfl)) dX6_readStatement_166 ⟨Nat.le_of_ble_eq_true rfl, Nat.le_of_ble_eq_true rfl⟩) (fun x_40 S_41 hw_41 H locs hP hS => ?_)
                      obtain ⟨I_41, m_41, w_41_0, w_41_1, w_41_2, w_41_3, w_41_4, -⟩ := hw_41
                      have M_41 := dg_sm.tr M_0 m_41 (dk_dq rfl) (dk_dq rfl)
                      have w_41_0 : 0 ≤ (x_40).toInt ∧ (x_40).toInt ≤ 1 := w_41_0
                      obtain ⟨y_42, f_y_42, w_41_1⟩ := w_41_1
                      have w_41_1 : (x_40).toInt = 1 → (y_42).toInt = (mi).toInt + 1 := w_41_1
                      have b_y_42 : 0 ≤ (y_42).toInt ∧ (y_42).toInt ≤ 6 := dg_I.intb (lo := 0) (hi := 6) I_41 (rX_0 gd hk_gd) (by decide +kernel) f_y_42
                      replace w_41_2 : (x_40).toInt = 1 → ∃ v9 : Int32, v9.toInt = (vl ((n0 : Int32).toNatClampNeg + 1)).toInt ∧ S_41.2.1 (gd + 2) = upd fm (mi : Int32).toNatClampNeg v9 := w_41_2
                      obtain ⟨y_43, f_y_43, w_41_3⟩ := w_41_3
                      have w_41_3 : (y_43).toInt ≤ (en).toInt ∧ g_ans x_40 (if (mi).toInt = 6 then none else y_new kd vl (y_nm fm (mi : Int32).toNatClampNeg) (y_nm fo (od : Int32).toNatClampNeg) ((n0 : Int32).toNatClampNeg + 1)) (y_43 : Int32).toNatClampNeg := w_41_3
                      have b_y_43 : 0 ≤ (y_43).toInt ∧ (y_43).toInt ≤ 1600 := dg_I.intb (lo := 0) (hi := 1600) I_41 sX_209 (by decide +kernel) f_y_43
                      have hL9 : y_ok x_40 (y_one kd vl (a1 : Int32).toNatClampNeg (y_gx cx ry fm mi pl fo od fr fe) (n0 : Int32).toNatClampNeg) (y_gx cx ry (S_41.2.1 (gd + 2)) y_42 pl (S_41.2.1 (gd + 5)) od (S_41.2.1 (gd + 10)) (S_41.2.1 (gd + 11))) (n0 : Int32).toNatClampNeg (y_43 : Int32).toNatClampNeg := by rw [(m_41.2 (gd + 5) _ (rX_5 gd hk_gd) (dk_dq rfl)).1, hfo, (m_41.2 (gd + 10) _ (rX_10 gd hk_gd) (dk_dq rfl)).1, hfr, (m_41.2 (gd + 11) _ (rX_11 gd hk_gd) (dk_dq rfl)).1, hfe]; exact y_ok_6 (by clear w_41_2; have h8 := dk_clN a1; omega) (by clear w_41_2; omega) (by clear w_41_2; omega) (by clear w_41_2; omega) w_41_3.2 w_41_1 w_41_2
                      refine W.widen (k := 0) (n := 0) (Nat.le_of_ble_eq_true rfl) (Nat.le_of_ble_eq_true rfl) ?_
                      exact dg_iret hx hb hr hlocks (dk_znar2 (by omega)) hP hS ⟨I_41, M_41, (by omega), ⟨cx, ry, y_42, pl, od, y_43, sc, ((m_41.1 gd 0 _ (rX_0 gd hk_gd) (dk_dq rfl)).trans f_cx), ((m_41.1 gd 1 _ (rX_0 gd hk_gd) (dk_dq rfl)).trans f_ry), f_y_42, ((m_41.1 gd 8 _ (rX_0 gd hk_gd) (dk_dq rfl)).trans f_pl), ((m_41.1 gd 11 _ (rX_0 gd hk_gd) (dk_dq rfl)).trans f_od), f_y_43, ((m_41.1 209 7 _ sX_209 (dk_dq rfl)).trans f_sc), by omega, fun q9 => (by have h7 := (hL9.1 q9).2; have h8 := dk_clN y_43; have h9 := dk_clN n0; omega), (fun q9 => absurd q9 (by omega)), fun _ => hL9⟩, (fun q9 d9 z9 o9 => by clear w_41_2; have e1 := w_41_1 (by omega); have e2 := (zI_at f_mi).symm.trans (o9 (by have h8 := dk_clN a1; omega)).1.2.1.2.2.2.2.1; rw [k_st_6 (by omega)]; exact kx.miner (G := d9.1) (K := d9.2) (o9 (by have h8 := dk_clN a1; omega)) m_41 f_y_42 (by omega)), (Z1X.keep Z1 m_41 (dk_dq rfl) (dk_dq rfl) (dk_dq rfl)), w_41_4, (G9X.keep G9 m_41 (dk_dq rfl)), trivial⟩ dX6_readStatement_169
                  · as_aux_lemma =>
                      refine lv_tableIn (off := 106) (tgt := 170) hx hb dX6_readStatement_64 (by rw [jc_14]; decide) (by rw [jc_14]; decide) (by rw [jc_14]; decide +kernel) (dk_dq rfl) ?_
                      refine lv_aload_n hx hb dX6_readStatement_170 rfl (lv_at hl 0 rfl) ?_
                      refine dg_calli hS hA1 hA (va_runV (As := []) (rest := []) F (c_rd_readDig l g D o S en kd vl fm S0 d0 gd hk_gd f_gd n0 f_n0 (by omega) cx f_cx (by omega) ry f_ry (by omega) mi f_mi (by omega) pl f_pl (by omega) ke f_ke (by omega) (by omega) hkd hvl (by omega) hfm hd0 GO I H.size) (cwV 0 hts (bw_V wB_246 wB_247 wB_248 wB_24 wB_245) rfl rfl rfl (by decide +kernel) ⟨Nat.le_of_ble_eq_true rfl, Nat.le_of_ble_eq_true rfl⟩) (dg_preV sX_209 rfl K ST hP hS hA1 hA) rfl rfl hl.1 rfl (lv_room (Nat.le_of_ble_eq_true rfl)) dX6_readStatement_171 ⟨Nat.le_of_ble_eq_true rfl, Nat.le_of_ble_eq_true rfl⟩) (fun x_44 S_45 hw_45 H locs hP hS => ?_)
                      obtain ⟨I_45, m_45, w_45_0, w_45_1, w_45_2, w_45_3, w_45_4, -⟩ := hw_45
                      have M_45 := dg_sm.tr M_0 m_45 (dk_dq rfl) (dk_dq rfl)
                      have w_45_0 : 0 ≤ (x_44).toInt ∧ (x_44).toInt ≤ 1 := w_45_0
                      replace w_45_1 : m_hid ((x_44).toInt = 1 → ∃ v9 w9 : Int32, v9.toInt = z_ix (y_nm fm (mi : Int32).toNatClampNeg) (vl ((n0 : Int32).toNatClampNeg + 1)).toInt ∧ w9.toInt = 8 * (vl ((n0 : Int32).toNatClampNeg + 4)).toInt + (vl ((n0 : Int32).toNatClampNeg + 3)).toInt + 8 ∧ S_45.2.1 (gd + 3) = upd (S.2.1 (gd + 3)) (pl : Int32).toNatClampNeg v9 ∧ S_45.2.1 (gd + 4) = upd (S.2.1 (gd + 4)) (pl : Int32).toNatClampNeg w9) := w_45_1
                      obtain ⟨y_46, f_y_46, w_45_2⟩ := w_45_2
                      have w_45_2 : (x_44).toInt = 1 → (y_46).toInt = (pl).toInt + 1 := w_45_2
                      have b_y_46 : 0 ≤ (y_46).toInt ∧ (y_46).toInt ≤ 16 := dg_I.intb (lo := 0) (hi := 16) I_45 (rX_0 gd hk_gd) (by decide +kernel) f_y_46
                      obtain ⟨y_47, f_y_47, w_45_3⟩ := w_45_3
                      have w_45_3 : (y_47).toInt ≤ (en).toInt ∧ g_ans x_44 (if (pl).toInt = 16 then none else ((y_old kd vl (y_nm fm (mi : Int32).toNatClampNeg) ((n0 : Int32).toNatClampNeg + 1)).bind fun k1 => (y_own kd vl 8 k1).bind (y_cell kd vl ((cx).toInt, (ry).toInt)))) (y_47 : Int32).toNatClampNeg := w_45_3
                      have b_y_47 : 0 ≤ (y_47).toInt ∧ (y_47).toInt ≤ 1600 := dg_I.intb (lo := 0) (hi := 1600) I_45 sX_209 (by decide +kernel) f_y_47
                      have hL9 : y_ok x_44 (y_one kd vl (a1 : Int32).toNatClampNeg (y_gx cx ry fm mi pl fo od fr fe) (n0 : Int32).toNatClampNeg) (y_gx cx ry (S_45.2.1 (gd + 2)) mi y_46 (S_45.2.1 (gd + 5)) od (S_45.2.1 (gd + 10)) (S_45.2.1 (gd + 11))) (n0 : Int32).toNatClampNeg (y_47 : Int32).toNatClampNeg := by rw [(m_45.2 (gd + 2) _ (rX_2 gd hk_gd) (dk_dq rfl)).1, hfm, (m_45.2 (gd + 5) _ (rX_5 gd hk_gd) (dk_dq rfl)).1, hfo, (m_45.2 (gd + 10) _ (rX_10 gd hk_gd) (dk_dq rfl)).1, hfr, (m_45.2 (gd + 11) _ (rX_11 gd hk_gd) (dk_dq rfl)).1, hfe]; exact y_ok_7 (by have h8 := dk_clN a1; omega) (by omega) (by omega) (by omega) w_45_3.2 w_45_2
                      refine W.widen (k := 0) (n := 0) (Nat.le_of_ble_eq_true rfl) (Nat.le_of_ble_eq_true rfl) ?_
                      exact dg_iret hx hb hr hlocks (dk_znar2 (by omega)) hP hS ⟨I_45, M_45, (by omega), ⟨cx, ry, mi, y_46, od, y_47, sc, ((m_45.1 gd 0 _ (rX_0 gd hk_gd) (dk_dq rfl)).trans f_cx), ((m_45.1 gd 1 _ (rX_0 gd hk_gd) (dk_dq rfl)).trans f_ry), ((m_45.1 gd 6 _ (rX_0 gd hk_gd) (dk_dq rfl)).trans f_mi), f_y_46, ((m_45.1 gd 11 _ (rX_0 gd hk_gd) (dk_dq rfl)).trans f_od), f_y_47, ((m_45.1 209 7 _ sX_209 (dk_dq rfl)).trans f_sc), by omega, fun q9 => (by have h7 := (hL9.1 q9).2; have h8 := dk_clN y_47; have h9 := dk_clN n0; omega), (fun q9 => absurd q9 (by omega)), fun _ => hL9⟩, (fun q9 d9 z9 o9 => by obtain ⟨v9, w9, e1, e2, e3, e4⟩ := w_45_1.out (by omega); rw [k_st_7 (by omega)]; exact kx.dig (G := d9.1) (K := d9.2) (o9 (by have h8 := dk_clN a1; omega)) m_45 f_y_46 f_pl (by omega) (w_45_2 (by omega)) e3 e4 e1 e2), (Z1X.keep Z1 m_45 (dk_dq rfl) (dk_dq rfl) (dk_dq rfl)), w_45_4, (G9X.keep G9 m_45 (dk_dq rfl)), trivial⟩ dX6_readStatement_174
                  · refine lv_tableIn (off := 134) (tgt := 198) hx hb dX6_readStatement_64 (by rw [jc_14]; decide) (by rw [jc_14]; decide) (by rw [jc_14]; decide +kernel) (dk_dq rfl) ?_
                    refine lv_aload_n hx hb dX6_readStatement_198 rfl (lv_at hl 0 rfl) ?_
                    refine lv_iconst (v := 1) hx hb dX6_readStatement_199 (by decide +kernel) ?_
                    refine dg_calli hS hA1 hA (va_runV (As := [.int 1]) (rest := []) F (c_rd_fail l g D o S 1 en n0 f_n0 (by omega) ke f_ke (by omega) (by omega) I H.size) (cwV 1 hts (bw_V wB_30 wB_31 wB_32 wB_24 wB_29) rfl rfl rfl (by decide +kernel) ⟨Nat.le_of_ble_eq_true rfl, Nat.le_of_ble_eq_true rfl⟩) (dg_preV sX_209 rfl K ST hP hS hA1 hA) rfl rfl hl.1 rfl (lv_room (Nat.le_of_ble_eq_true rfl)) dX6_readStatement_200 ⟨Nat.le_of_ble_eq_true rfl, Nat.le_of_ble_eq_true rfl⟩) (fun x_48 S_49 hw_49 H locs hP hS => ?_)
                    obtain ⟨I_49, m_49, w_49_0, -⟩ := hw_49
                    have M_49 := dg_sm.tr M_0 m_49 (dk_dq rfl) (dk_dq rfl)
                    have w_49_0 : 0 ≤ (x_48).toInt ∧ (x_48).toInt ≤ 0 := w_49_0
                    refine W.widen (k := 0) (n := 0) (Nat.le_of_ble_eq_true rfl) (Nat.le_of_ble_eq_true rfl) ?_
                    exact dg_iret hx hb hr hlocks (dk_znar2 (by omega)) hP hS ⟨I_49, M_49, (by omega), ⟨cx, ry, mi, pl, od, n0, sc, ((m_49.1 gd 0 _ (rX_0 gd hk_gd) (dk_dq rfl)).trans f_cx), ((m_49.1 gd 1 _ (rX_0 gd hk_gd) (dk_dq rfl)).trans f_ry), ((m_49.1 gd 6 _ (rX_0 gd hk_gd) (dk_dq rfl)).trans f_mi), ((m_49.1 gd 8 _ (rX_0 gd hk_gd) (dk_dq rfl)).trans f_pl), ((m_49.1 gd 11 _ (rX_0 gd hk_gd) (dk_dq rfl)).trans f_od), ((m_49.1 209 4 _ sX_209 (dk_dq rfl)).trans f_n0), ((m_49.1 209 7 _ sX_209 (dk_dq rfl)).trans f_sc), by omega, fun q9 => absurd q9 (by omega), (fun _ => by omega), fun _ => by rw [(m_49.2 (gd + 2) _ (rX_2 gd hk_gd) (dk_dq rfl)).1, hfm, (m_49.2 (gd + 5) _ (rX_5 gd hk_gd) (dk_dq rfl)).1, hfo, (m_49.2 (gd + 10) _ (rX_10 gd hk_gd) (dk_dq rfl)).1, hfr, (m_49.2 (gd + 11) _ (rX_11 gd hk_gd) (dk_dq rfl)).1, hfe]; exact y_ok.no (by omega) (by first | exact y_one_k (by omega) | exact y_one_0 (by have h8 := dk_clN a1; omega) (by omega) | exact y_one_no (by have h8 := dk_clN a1; omega) (by omega))⟩, (fun q9 => absurd q9 (by omega)), (Z1X.keep Z1 m_49 (dk_dq rfl) (dk_dq rfl) (dk_dq rfl)), (GOX.keep GO m_49 (dk_dq rfl) (dk_dq rfl)), (G9X.keep G9 m_49 (dk_dq rfl)), trivial⟩ dX6_readStatement_203
                  · as_aux_lemma =>
                      refine lv_tableIn (off := 111) (tgt := 175) hx hb dX6_readStatement_64 (by rw [jc_14]; decide) (by rw [jc_14]; decide) (by rw [jc_14]; decide +kernel) (dk_dq rfl) ?_
                      refine lv_aload_n hx hb dX6_readStatement_175 rfl (lv_at hl 0 rfl) ?_
                      refine dg_calli hS hA1 hA (va_runV (As := []) (rest := []) F (c_rd_readOrder l g D o S en kd vl fm fo S0 d0 gd hk_gd f_gd n0 f_n0 (by omega) mi f_mi (by omega) od f_od (by omega) ke f_ke (by omega) (by omega) hkd hvl (by omega) hfm hfo hd0 GO I H.size) (cwV 0 hts (bw_V wB_250 wB_251 wB_252 wB_24 wB_249) rfl rfl rfl (by decide +kernel) ⟨Nat.le_of_ble_eq_true rfl, Nat.le_of_ble_eq_true rfl⟩) (dg_preV sX_209 rfl K ST hP hS hA1 hA) rfl rfl hl.1 rfl (lv_room (Nat.le_of_ble_eq_true rfl)) dX6_readStatement_176 ⟨Nat.le_of_ble_eq_true rfl, Nat.le_of_ble_eq_true rfl⟩) (fun x_50 S_51 hw_51 H locs hP hS => ?_)
                      obtain ⟨I_51, m_51, w_51_0, w_51_1, w_51_2, w_51_3, w_51_4, w_51_5, -⟩ := hw_51
                      have M_51 := dg_sm.tr M_0 m_51 (dk_dq rfl) (dk_dq rfl)
                      have w_51_0 : 0 ≤ (x_50).toInt ∧ (x_50).toInt ≤ 1 := w_51_0
                      replace w_51_1 : m_hid ((x_50).toInt = 1 → ∃ u9 v9 w9 : Int32, u9.toInt = (vl ((n0 : Int32).toNatClampNeg + 3)).toInt ∧ v9.toInt = (vl ((n0 : Int32).toNatClampNeg + 5)).toInt ∧ w9.toInt = (vl ((n0 : Int32).toNatClampNeg + 7)).toInt ∧ S_51.2.1 (gd + 6) = upd (S.2.1 (gd + 6)) (od : Int32).toNatClampNeg u9 ∧ S_51.2.1 (gd + 7) = upd (S.2.1 (gd + 7)) (od : Int32).toNatClampNeg v9 ∧ S_51.2.1 (gd + 8) = upd (S.2.1 (gd + 8)) (od : Int32).toNatClampNeg w9) := w_51_1
                      obtain ⟨y_52, f_y_52, w_51_2⟩ := w_51_2
                      have w_51_2 : (x_50).toInt = 1 → (y_52).toInt = (od).toInt + 1 := w_51_2
                      have b_y_52 : 0 ≤ (y_52).toInt ∧ (y_52).toInt ≤ 5 := dg_I.intb (lo := 0) (hi := 5) I_51 (rX_0 gd hk_gd) (by decide +kernel) f_y_52
                      replace w_51_3 : (x_50).toInt = 1 → ∃ v9 : Int32, v9.toInt = (vl ((n0 : Int32).toNatClampNeg + 1)).toInt ∧ S_51.2.1 (gd + 5) = upd fo (od : Int32).toNatClampNeg v9 := w_51_3
                      obtain ⟨y_53, f_y_53, w_51_4⟩ := w_51_4
                      have w_51_4 : (y_53).toInt ≤ (en).toInt ∧ g_ans x_50 (if (od).toInt = 5 then none else ((y_new kd vl (y_nm fm (mi : Int32).toNatClampNeg) (y_nm fo (od : Int32).toNatClampNeg) ((n0 : Int32).toNatClampNeg + 1)).bind fun k1 => (y_own kd vl 5 k1).bind fun k2 => (y_num kd vl 0 9 k2).bind fun k3 => (y_own kd vl 10 k3).bind fun k4 => (y_num kd vl 1 9 k4).bind fun k5 => (y_own kd vl 11 k5).bind (y_num kd vl 0 999))) (y_53 : Int32).toNatClampNeg := w_51_4
                      have b_y_53 : 0 ≤ (y_53).toInt ∧ (y_53).toInt ≤ 1600 := dg_I.intb (lo := 0) (hi := 1600) I_51 sX_209 (by decide +kernel) f_y_53
                      have hL9 : y_ok x_50 (y_one kd vl (a1 : Int32).toNatClampNeg (y_gx cx ry fm mi pl fo od fr fe) (n0 : Int32).toNatClampNeg) (y_gx cx ry (S_51.2.1 (gd + 2)) mi pl (S_51.2.1 (gd + 5)) y_52 (S_51.2.1 (gd + 10)) (S_51.2.1 (gd + 11))) (n0 : Int32).toNatClampNeg (y_53 : Int32).toNatClampNeg := by rw [(m_51.2 (gd + 2) _ (rX_2 gd hk_gd) (dk_dq rfl)).1, hfm, (m_51.2 (gd + 10) _ (rX_10 gd hk_gd) (dk_dq rfl)).1, hfr, (m_51.2 (gd + 11) _ (rX_11 gd hk_gd) (dk_dq rfl)).1, hfe]; exact y_ok_9 (by clear w_51_3; have h8 := dk_clN a1; omega) (by clear w_51_3; omega) (by clear w_51_3; omega) (by clear w_51_3; omega) w_51_4.2 w_51_2 w_51_3
                      refine W.widen (k := 0) (n := 0) (Nat.le_of_ble_eq_true rfl) (Nat.le_of_ble_eq_true rfl) ?_
                      exact dg_iret hx hb hr hlocks (dk_znar2 (by omega)) hP hS ⟨I_51, M_51, (by omega), ⟨cx, ry, mi, pl, y_52, y_53, sc, ((m_51.1 gd 0 _ (rX_0 gd hk_gd) (dk_dq rfl)).trans f_cx), ((m_51.1 gd 1 _ (rX_0 gd hk_gd) (dk_dq rfl)).trans f_ry), ((m_51.1 gd 6 _ (rX_0 gd hk_gd) (dk_dq rfl)).trans f_mi), ((m_51.1 gd 8 _ (rX_0 gd hk_gd) (dk_dq rfl)).trans f_pl), f_y_52, f_y_53, ((m_51.1 209 7 _ sX_209 (dk_dq rfl)).trans f_sc), by omega, fun q9 => (by have h7 := (hL9.1 q9).2; have h8 := dk_clN y_53; have h9 := dk_clN n0; omega), (fun q9 => absurd q9 (by omega)), fun _ => hL9⟩, (fun q9 d9 z9 o9 => by clear w_51_3; obtain ⟨u9, v9, w9, e1, e2, e3, e4, e5, e6⟩ := w_51_1.out (by omega); rw [k_st_9 (by omega), ← e1, ← e2, ← e3]; exact kx.order (G := d9.1) (K := d9.2) (o9 (by have h8 := dk_clN a1; omega)) m_51 f_y_52 f_od (by omega) (w_51_2 (by omega)) e4 e5 e6), (Z1X.keep Z1 m_51 (dk_dq rfl) (dk_dq rfl) (dk_dq rfl)), w_51_5, (G9X.keep G9 m_51 (dk_dq rfl)), trivial⟩ dX6_readStatement_179
                  · refine lv_tableIn (off := 134) (tgt := 198) hx hb dX6_readStatement_64 (by rw [jc_14]; decide) (by rw [jc_14]; decide) (by rw [jc_14]; decide +kernel) (dk_dq rfl) ?_
                    refine lv_aload_n hx hb dX6_readStatement_198 rfl (lv_at hl 0 rfl) ?_
                    refine lv_iconst (v := 1) hx hb dX6_readStatement_199 (by decide +kernel) ?_
                    refine dg_calli hS hA1 hA (va_runV (As := [.int 1]) (rest := []) F (c_rd_fail l g D o S 1 en n0 f_n0 (by omega) ke f_ke (by omega) (by omega) I H.size) (cwV 1 hts (bw_V wB_30 wB_31 wB_32 wB_24 wB_29) rfl rfl rfl (by decide +kernel) ⟨Nat.le_of_ble_eq_true rfl, Nat.le_of_ble_eq_true rfl⟩) (dg_preV sX_209 rfl K ST hP hS hA1 hA) rfl rfl hl.1 rfl (lv_room (Nat.le_of_ble_eq_true rfl)) dX6_readStatement_200 ⟨Nat.le_of_ble_eq_true rfl, Nat.le_of_ble_eq_true rfl⟩) (fun x_54 S_55 hw_55 H locs hP hS => ?_)
                    obtain ⟨I_55, m_55, w_55_0, -⟩ := hw_55
                    have M_55 := dg_sm.tr M_0 m_55 (dk_dq rfl) (dk_dq rfl)
                    have w_55_0 : 0 ≤ (x_54).toInt ∧ (x_54).toInt ≤ 0 := w_55_0
                    refine W.widen (k := 0) (n := 0) (Nat.le_of_ble_eq_true rfl) (Nat.le_of_ble_eq_true rfl) ?_
                    exact dg_iret hx hb hr hlocks (dk_znar2 (by omega)) hP hS ⟨I_55, M_55, (by omega), ⟨cx, ry, mi, pl, od, n0, sc, ((m_55.1 gd 0 _ (rX_0 gd hk_gd) (dk_dq rfl)).trans f_cx), ((m_55.1 gd 1 _ (rX_0 gd hk_gd) (dk_dq rfl)).trans f_ry), ((m_55.1 gd 6 _ (rX_0 gd hk_gd) (dk_dq rfl)).trans f_mi), ((m_55.1 gd 8 _ (rX_0 gd hk_gd) (dk_dq rfl)).trans f_pl), ((m_55.1 gd 11 _ (rX_0 gd hk_gd) (dk_dq rfl)).trans f_od), ((m_55.1 209 4 _ sX_209 (dk_dq rfl)).trans f_n0), ((m_55.1 209 7 _ sX_209 (dk_dq rfl)).trans f_sc), by omega, fun q9 => absurd q9 (by omega), (fun _ => by omega), fun _ => by rw [(m_55.2 (gd + 2) _ (rX_2 gd hk_gd) (dk_dq rfl)).1, hfm, (m_55.2 (gd + 5) _ (rX_5 gd hk_gd) (dk_dq rfl)).1, hfo, (m_55.2 (gd + 10) _ (rX_10 gd hk_gd) (dk_dq rfl)).1, hfr, (m_55.2 (gd + 11) _ (rX_11 gd hk_gd) (dk_dq rfl)).1, hfe]; exact y_ok.no (by omega) (by first | exact y_one_k (by omega) | exact y_one_0 (by have h8 := dk_clN a1; omega) (by omega) | exact y_one_no (by have h8 := dk_clN a1; omega) (by omega))⟩, (fun q9 => absurd q9 (by omega)), (Z1X.keep Z1 m_55 (dk_dq rfl) (dk_dq rfl) (dk_dq rfl)), (GOX.keep GO m_55 (dk_dq rfl) (dk_dq rfl)), (G9X.keep G9 m_55 (dk_dq rfl)), trivial⟩ dX6_readStatement_203
                  · refine lv_tableIn (off := 134) (tgt := 198) hx hb dX6_readStatement_64 (by rw [jc_14]; decide) (by rw [jc_14]; decide) (by rw [jc_14]; decide +kernel) (dk_dq rfl) ?_
                    refine lv_aload_n hx hb dX6_readStatement_198 rfl (lv_at hl 0 rfl) ?_
                    refine lv_iconst (v := 1) hx hb dX6_readStatement_199 (by decide +kernel) ?_
                    refine dg_calli hS hA1 hA (va_runV (As := [.int 1]) (rest := []) F (c_rd_fail l g D o S 1 en n0 f_n0 (by omega) ke f_ke (by omega) (by omega) I H.size) (cwV 1 hts (bw_V wB_30 wB_31 wB_32 wB_24 wB_29) rfl rfl rfl (by decide +kernel) ⟨Nat.le_of_ble_eq_true rfl, Nat.le_of_ble_eq_true rfl⟩) (dg_preV sX_209 rfl K ST hP hS hA1 hA) rfl rfl hl.1 rfl (lv_room (Nat.le_of_ble_eq_true rfl)) dX6_readStatement_200 ⟨Nat.le_of_ble_eq_true rfl, Nat.le_of_ble_eq_true rfl⟩) (fun x_56 S_57 hw_57 H locs hP hS => ?_)
                    obtain ⟨I_57, m_57, w_57_0, -⟩ := hw_57
                    have M_57 := dg_sm.tr M_0 m_57 (dk_dq rfl) (dk_dq rfl)
                    have w_57_0 : 0 ≤ (x_56).toInt ∧ (x_56).toInt ≤ 0 := w_57_0
                    refine W.widen (k := 0) (n := 0) (Nat.le_of_ble_eq_true rfl) (Nat.le_of_ble_eq_true rfl) ?_
                    exact dg_iret hx hb hr hlocks (dk_znar2 (by omega)) hP hS ⟨I_57, M_57, (by omega), ⟨cx, ry, mi, pl, od, n0, sc, ((m_57.1 gd 0 _ (rX_0 gd hk_gd) (dk_dq rfl)).trans f_cx), ((m_57.1 gd 1 _ (rX_0 gd hk_gd) (dk_dq rfl)).trans f_ry), ((m_57.1 gd 6 _ (rX_0 gd hk_gd) (dk_dq rfl)).trans f_mi), ((m_57.1 gd 8 _ (rX_0 gd hk_gd) (dk_dq rfl)).trans f_pl), ((m_57.1 gd 11 _ (rX_0 gd hk_gd) (dk_dq rfl)).trans f_od), ((m_57.1 209 4 _ sX_209 (dk_dq rfl)).trans f_n0), ((m_57.1 209 7 _ sX_209 (dk_dq rfl)).trans f_sc), by omega, fun q9 => absurd q9 (by omega), (fun _ => by omega), fun _ => by rw [(m_57.2 (gd + 2) _ (rX_2 gd hk_gd) (dk_dq rfl)).1, hfm, (m_57.2 (gd + 5) _ (rX_5 gd hk_gd) (dk_dq rfl)).1, hfo, (m_57.2 (gd + 10) _ (rX_10 gd hk_gd) (dk_dq rfl)).1, hfr, (m_57.2 (gd + 11) _ (rX_11 gd hk_gd) (dk_dq rfl)).1, hfe]; exact y_ok.no (by omega) (by first | exact y_one_k (by omega) | exact y_one_0 (by have h8 := dk_clN a1; omega) (by omega) | exact y_one_no (by have h8 := dk_clN a1; omega) (by omega))⟩, (fun q9 => absurd q9 (by omega)), (Z1X.keep Z1 m_57 (dk_dq rfl) (dk_dq rfl) (dk_dq rfl)), (GOX.keep GO m_57 (dk_dq rfl) (dk_dq rfl)), (G9X.keep G9 m_57 (dk_dq rfl)), trivial⟩ dX6_readStatement_203
                  · as_aux_lemma =>
                      refine lv_tableIn (off := 116) (tgt := 180) hx hb dX6_readStatement_64 (by rw [jc_14]; decide) (by rw [jc_14]; decide) (by rw [jc_14]; decide +kernel) (dk_dq rfl) ?_
                      refine lv_aload_n hx hb dX6_readStatement_180 rfl (lv_at hl 0 rfl) ?_
                      refine lv_iconst (v := 0) hx hb dX6_readStatement_181 (by decide +kernel) ?_
                      have hz_58 : (0 : Int32).toInt = 0 := by decide +kernel
                      refine dg_calli hS hA1 hA (va_runV (As := [.int 0]) (rest := []) F (c_rd_readRule l g D o S 0 (by decide +kernel) en kd vl fr fe S0 d0 gd hk_gd f_gd n0 f_n0 (by omega) sc f_sc (by omega) ke f_ke (by omega) (by omega) hkd hvl (by omega) (by omega) hfr hfe hd0 GO G9 I H.size) (cwV 1 hts (bw_V wB_254 wB_255 wB_256 wB_24 wB_253) rfl rfl rfl (by decide +kernel) ⟨Nat.le_of_ble_eq_true rfl, Nat.le_of_ble_eq_true rfl⟩) (dg_preV sX_209 rfl K ST hP hS hA1 hA) rfl rfl hl.1 rfl (lv_room (Nat.le_of_ble_eq_true rfl)) dX6_readStatement_182 ⟨Nat.le_of_ble_eq_true rfl, Nat.le_of_ble_eq_true rfl⟩) (fun x_59 S_60 hw_60 H locs hP hS => ?_)
                      obtain ⟨I_60, m_60, w_60_0, w_60_1, w_60_2, w_60_3, w_60_4, w_60_5, w_60_6, -⟩ := hw_60
                      have M_60 := dg_sm.tr M_0 m_60 (dk_dq rfl) (dk_dq rfl)
                      have hz_61 : (0 : Int32).toInt = 0 := by decide +kernel
                      have w_60_0 : 0 ≤ (x_59).toInt ∧ (x_59).toInt ≤ 1 := w_60_0
                      replace w_60_1 : (x_59).toInt = 1 → ∃ c8 c9 : Int32, c8.toInt < c9.toInt ∧ S_60.2.1 (gd + 10) = upd fr ((0 : Int32) : Int32).toNatClampNeg c8 ∧ S_60.2.1 (gd + 11) = upd fe ((0 : Int32) : Int32).toNatClampNeg c9 := w_60_1
                      replace w_60_2 : m_hid ((x_59).toInt = 1 → q_as gd S S_60 sc (d_rule kd vl ((0 : Int32)).toInt ((n0 : Int32).toNatClampNeg + 1))) := w_60_2
                      replace w_60_3 : m_hid ((x_59).toInt = 1 → ∃ c9 : Int32, S_60.1 209 7 = .int c9 ∧ S_60.2.1 (gd + 10) = upd fr ((0 : Int32) : Int32).toNatClampNeg sc ∧ S_60.2.1 (gd + 11) = upd fe ((0 : Int32) : Int32).toNatClampNeg c9) := w_60_3
                      obtain ⟨y_62, y_63, f_y_62, f_y_63, w_60_4⟩ := w_60_4
                      have w_60_4 : ((y_62).toInt ≤ (en).toInt ∧ ((x_59).toInt = 1 → ((sc).toInt + 1 ≤ (y_63).toInt ∧ (y_63).toInt - (sc).toInt ≤ (y_62).toInt - (n0).toInt))) ∧ g_ans x_59 (if (fr ((0 : Int32) : Int32).toNatClampNeg).toInt < (fe ((0 : Int32) : Int32).toNatClampNeg).toInt then none else y_rule kd vl ((0 : Int32)).toInt ((n0 : Int32).toNatClampNeg + 1)) (y_62 : Int32).toNatClampNeg := w_60_4
                      have b_y_62 : 0 ≤ (y_62).toInt ∧ (y_62).toInt ≤ 1600 := dg_I.intb (lo := 0) (hi := 1600) I_60 sX_209 (by decide +kernel) f_y_62
                      have b_y_63 : 0 ≤ (y_63).toInt ∧ (y_63).toInt ≤ 1600 := dg_I.intb (lo := 0) (hi := 1600) I_60 sX_209 (by decide +kernel) f_y_63
                      have hL9 : y_ok x_59 (y_one kd vl (a1 : Int32).toNatClampNeg (y_gx cx ry fm mi pl fo od fr fe) (n0 : Int32).toNatClampNeg) (y_gx cx ry (S_60.2.1 (gd + 2)) mi pl (S_60.2.1 (gd + 5)) od (S_60.2.1 (gd + 10)) (S_60.2.1 (gd + 11))) (n0 : Int32).toNatClampNeg (y_62 : Int32).toNatClampNeg := by rw [(m_60.2 (gd + 2) _ (rX_2 gd hk_gd) (dk_dq rfl)).1, hfm, (m_60.2 (gd + 5) _ (rX_5 gd hk_gd) (dk_dq rfl)).1, hfo]; exact y_ok_r0 (by clear w_60_1; have h8 := dk_clN a1; omega) (by clear w_60_1; omega) (by clear w_60_1; omega) (by decide +kernel) w_60_4.2 w_60_1 (fun q8 => by clear w_60_1; have h7 := dk_clN y_62; have h8 := dk_clN n0; omega)
                      refine W.widen (k := 0) (n := 0) (Nat.le_of_ble_eq_true rfl) (Nat.le_of_ble_eq_true rfl) ?_
                      exact dg_iret hx hb hr hlocks (dk_znar2 (by omega)) hP hS ⟨I_60, M_60, (by omega), ⟨cx, ry, mi, pl, od, y_62, y_63, ((m_60.1 gd 0 _ (rX_0 gd hk_gd) (dk_dq rfl)).trans f_cx), ((m_60.1 gd 1 _ (rX_0 gd hk_gd) (dk_dq rfl)).trans f_ry), ((m_60.1 gd 6 _ (rX_0 gd hk_gd) (dk_dq rfl)).trans f_mi), ((m_60.1 gd 8 _ (rX_0 gd hk_gd) (dk_dq rfl)).trans f_pl), ((m_60.1 gd 11 _ (rX_0 gd hk_gd) (dk_dq rfl)).trans f_od), f_y_62, f_y_63, by omega, fun q9 => (by omega), (fun q9 => absurd q9 (by omega)), fun _ => hL9⟩, (fun q9 d9 z9 o9 => by clear w_60_1; obtain ⟨c9, g1, g2, g3⟩ := w_60_3.out (by omega); have q1 := w_60_2.out (by omega); rw [show (0 : Int32).toInt = (vl (n0 : Int32).toNatClampNeg).toInt - 12 from by have l9 : (0 : Int32).toInt = 0 := (by decide +kernel); omega] at q1; rw [k_st_r (by omega)]; exact kx.rule (n := 0) (G := d9.1) (K := d9.2) (o9 (by have h8 := dk_clN a1; omega)) m_60 (dk_dq rfl) f_sc q1 g1 (by rw [g2, hfr, show (0 : Int32).toNatClampNeg = 0 from by decide +kernel]) (by rw [g3, hfe, show (0 : Int32).toNatClampNeg = 0 from by decide +kernel]) (by omega)), (Z1X.keep Z1 m_60 (dk_dq rfl) (dk_dq rfl) (dk_dq rfl)), w_60_5, w_60_6, trivial⟩ dX6_readStatement_185
                  · as_aux_lemma =>
                      refine lv_tableIn (off := 122) (tgt := 186) hx hb dX6_readStatement_64 (by rw [jc_14]; decide) (by rw [jc_14]; decide) (by rw [jc_14]; decide +kernel) (dk_dq rfl) ?_
                      refine lv_aload_n hx hb dX6_readStatement_186 rfl (lv_at hl 0 rfl) ?_
                      refine lv_iconst (v := 1) hx hb dX6_readStatement_187 (by decide +kernel) ?_
                      have hz_64 : (1 : Int32).toInt = 1 := by decide +kernel
                      refine dg_calli hS hA1 hA (va_runV (As := [.int 1]) (rest := []) F (c_rd_readRule l g D o S 1 (by decide +kernel) en kd vl fr fe S0 d0 gd hk_gd f_gd n0 f_n0 (by omega) sc f_sc (by omega) ke f_ke (by omega) (by omega) hkd hvl (by omega) (by omega) hfr hfe hd0 GO G9 I H.size) (cwV 1 hts (bw_V wB_254 wB_255 wB_256 wB_24 wB_253) rfl rfl rfl (by decide +kernel) ⟨Nat.le_of_ble_eq_true rfl, Nat.le_of_ble_eq_true rfl⟩) (dg_preV sX_209 rfl K ST hP hS hA1 hA) rfl rfl hl.1 rfl (lv_room (Nat.le_of_ble_eq_true rfl)) dX6_readStatement_188 ⟨Nat.le_of_ble_eq_true rfl, Nat.le_of_ble_eq_true rfl⟩) (fun x_65 S_66 hw_66 H locs hP hS => ?_)
                      obtain ⟨I_66, m_66, w_66_0, w_66_1, w_66_2, w_66_3, w_66_4, w_66_5, w_66_6, -⟩ := hw_66
                      have M_66 := dg_sm.tr M_0 m_66 (dk_dq rfl) (dk_dq rfl)
                      have hz_67 : (1 : Int32).toInt = 1 := by decide +kernel
                      have w_66_0 : 0 ≤ (x_65).toInt ∧ (x_65).toInt ≤ 1 := w_66_0
                      replace w_66_1 : (x_65).toInt = 1 → ∃ c8 c9 : Int32, c8.toInt < c9.toInt ∧ S_66.2.1 (gd + 10) = upd fr ((1 : Int32) : Int32).toNatClampNeg c8 ∧ S_66.2.1 (gd + 11) = upd fe ((1 : Int32) : Int32).toNatClampNeg c9 := w_66_1
                      replace w_66_2 : m_hid ((x_65).toInt = 1 → q_as gd S S_66 sc (d_rule kd vl ((1 : Int32)).toInt ((n0 : Int32).toNatClampNeg + 1))) := w_66_2
                      replace w_66_3 : m_hid ((x_65).toInt = 1 → ∃ c9 : Int32, S_66.1 209 7 = .int c9 ∧ S_66.2.1 (gd + 10) = upd fr ((1 : Int32) : Int32).toNatClampNeg sc ∧ S_66.2.1 (gd + 11) = upd fe ((1 : Int32) : Int32).toNatClampNeg c9) := w_66_3
                      obtain ⟨y_68, y_69, f_y_68, f_y_69, w_66_4⟩ := w_66_4
                      have w_66_4 : ((y_68).toInt ≤ (en).toInt ∧ ((x_65).toInt = 1 → ((sc).toInt + 1 ≤ (y_69).toInt ∧ (y_69).toInt - (sc).toInt ≤ (y_68).toInt - (n0).toInt))) ∧ g_ans x_65 (if (fr ((1 : Int32) : Int32).toNatClampNeg).toInt < (fe ((1 : Int32) : Int32).toNatClampNeg).toInt then none else y_rule kd vl ((1 : Int32)).toInt ((n0 : Int32).toNatClampNeg + 1)) (y_68 : Int32).toNatClampNeg := w_66_4
                      have b_y_68 : 0 ≤ (y_68).toInt ∧ (y_68).toInt ≤ 1600 := dg_I.intb (lo := 0) (hi := 1600) I_66 sX_209 (by decide +kernel) f_y_68
                      have b_y_69 : 0 ≤ (y_69).toInt ∧ (y_69).toInt ≤ 1600 := dg_I.intb (lo := 0) (hi := 1600) I_66 sX_209 (by decide +kernel) f_y_69
                      have hL9 : y_ok x_65 (y_one kd vl (a1 : Int32).toNatClampNeg (y_gx cx ry fm mi pl fo od fr fe) (n0 : Int32).toNatClampNeg) (y_gx cx ry (S_66.2.1 (gd + 2)) mi pl (S_66.2.1 (gd + 5)) od (S_66.2.1 (gd + 10)) (S_66.2.1 (gd + 11))) (n0 : Int32).toNatClampNeg (y_68 : Int32).toNatClampNeg := by rw [(m_66.2 (gd + 2) _ (rX_2 gd hk_gd) (dk_dq rfl)).1, hfm, (m_66.2 (gd + 5) _ (rX_5 gd hk_gd) (dk_dq rfl)).1, hfo]; exact y_ok_r1 (by clear w_66_1; have h8 := dk_clN a1; omega) (by clear w_66_1; omega) (by clear w_66_1; omega) (by decide +kernel) w_66_4.2 w_66_1 (fun q8 => by clear w_66_1; have h7 := dk_clN y_68; have h8 := dk_clN n0; omega)
                      refine W.widen (k := 0) (n := 0) (Nat.le_of_ble_eq_true rfl) (Nat.le_of_ble_eq_true rfl) ?_
                      exact dg_iret hx hb hr hlocks (dk_znar2 (by omega)) hP hS ⟨I_66, M_66, (by omega), ⟨cx, ry, mi, pl, od, y_68, y_69, ((m_66.1 gd 0 _ (rX_0 gd hk_gd) (dk_dq rfl)).trans f_cx), ((m_66.1 gd 1 _ (rX_0 gd hk_gd) (dk_dq rfl)).trans f_ry), ((m_66.1 gd 6 _ (rX_0 gd hk_gd) (dk_dq rfl)).trans f_mi), ((m_66.1 gd 8 _ (rX_0 gd hk_gd) (dk_dq rfl)).trans f_pl), ((m_66.1 gd 11 _ (rX_0 gd hk_gd) (dk_dq rfl)).trans f_od), f_y_68, f_y_69, by omega, fun q9 => (by omega), (fun q9 => absurd q9 (by omega)), fun _ => hL9⟩, (fun q9 d9 z9 o9 => by clear w_66_1; obtain ⟨c9, g1, g2, g3⟩ := w_66_3.out (by omega); have q1 := w_66_2.out (by omega); rw [show (1 : Int32).toInt = (vl (n0 : Int32).toNatClampNeg).toInt - 12 from by have l9 : (1 : Int32).toInt = 1 := (by decide +kernel); omega] at q1; rw [k_st_r (by omega)]; exact kx.rule (n := 1) (G := d9.1) (K := d9.2) (o9 (by have h8 := dk_clN a1; omega)) m_66 (dk_dq rfl) f_sc q1 g1 (by rw [g2, hfr, show (1 : Int32).toNatClampNeg = 1 from by decide +kernel]) (by rw [g3, hfe, show (1 : Int32).toNatClampNeg = 1 from by decide +kernel]) (by omega)), (Z1X.keep Z1 m_66 (dk_dq rfl) (dk_dq rfl) (dk_dq rfl)), w_66_5, w_66_6, trivial⟩ dX6_readStatement_191
                  · as_aux_lemma =>
                      refine lv_tableIn (off := 128) (tgt := 192) hx hb dX6_readStatement_64 (by rw [jc_14]; decide) (by rw [jc_14]; decide) (by rw [jc_14]; decide +kernel) (dk_dq rfl) ?_
                      refine lv_aload_n hx hb dX6_readStatement_192 rfl (lv_at hl 0 rfl) ?_
                      refine lv_iconst (v := 2) hx hb dX6_readStatement_193 (by decide +kernel) ?_
                      have hz_70 : (2 : Int32).toInt = 2 := by decide +kernel
                      refine dg_calli hS hA1 hA (va_runV (As := [.int 2]) (rest := []) F (c_rd_readRule l g D o S 2 (by decide +kernel) en kd vl fr fe S0 d0 gd hk_gd f_gd n0 f_n0 (by omega) sc f_sc (by omega) ke f_ke (by omega) (by omega) hkd hvl (by omega) (by omega) hfr hfe hd0 GO G9 I H.size) (cwV 1 hts (bw_V wB_254 wB_255 wB_256 wB_24 wB_253) rfl rfl rfl (by decide +kernel) ⟨Nat.le_of_ble_eq_true rfl, Nat.le_of_ble_eq_true rfl⟩) (dg_preV sX_209 rfl K ST hP hS hA1 hA) rfl rfl hl.1 rfl (lv_room (Nat.le_of_ble_eq_true rfl)) dX6_readStatement_194 ⟨Nat.le_of_ble_eq_true rfl, Nat.le_of_ble_eq_true rfl⟩) (fun x_71 S_72 hw_72 H locs hP hS => ?_)
                      obtain ⟨I_72, m_72, w_72_0, w_72_1, w_72_2, w_72_3, w_72_4, w_72_5, w_72_6, -⟩ := hw_72
                      have M_72 := dg_sm.tr M_0 m_72 (dk_dq rfl) (dk_dq rfl)
                      have hz_73 : (2 : Int32).toInt = 2 := by decide +kernel
                      have w_72_0 : 0 ≤ (x_71).toInt ∧ (x_71).toInt ≤ 1 := w_72_0
                      replace w_72_1 : (x_71).toInt = 1 → ∃ c8 c9 : Int32, c8.toInt < c9.toInt ∧ S_72.2.1 (gd + 10) = upd fr ((2 : Int32) : Int32).toNatClampNeg c8 ∧ S_72.2.1 (gd + 11) = upd fe ((2 : Int32) : Int32).toNatClampNeg c9 := w_72_1
                      replace w_72_2 : m_hid ((x_71).toInt = 1 → q_as gd S S_72 sc (d_rule kd vl ((2 : Int32)).toInt ((n0 : Int32).toNatClampNeg + 1))) := w_72_2
                      replace w_72_3 : m_hid ((x_71).toInt = 1 → ∃ c9 : Int32, S_72.1 209 7 = .int c9 ∧ S_72.2.1 (gd + 10) = upd fr ((2 : Int32) : Int32).toNatClampNeg sc ∧ S_72.2.1 (gd + 11) = upd fe ((2 : Int32) : Int32).toNatClampNeg c9) := w_72_3
                      obtain ⟨y_74, y_75, f_y_74, f_y_75, w_72_4⟩ := w_72_4
                      have w_72_4 : ((y_74).toInt ≤ (en).toInt ∧ ((x_71).toInt = 1 → ((sc).toInt + 1 ≤ (y_75).toInt ∧ (y_75).toInt - (sc).toInt ≤ (y_74).toInt - (n0).toInt))) ∧ g_ans x_71 (if (fr ((2 : Int32) : Int32).toNatClampNeg).toInt < (fe ((2 : Int32) : Int32).toNatClampNeg).toInt then none else y_rule kd vl ((2 : Int32)).toInt ((n0 : Int32).toNatClampNeg + 1)) (y_74 : Int32).toNatClampNeg := w_72_4
                      have b_y_74 : 0 ≤ (y_74).toInt ∧ (y_74).toInt ≤ 1600 := dg_I.intb (lo := 0) (hi := 1600) I_72 sX_209 (by decide +kernel) f_y_74
                      have b_y_75 : 0 ≤ (y_75).toInt ∧ (y_75).toInt ≤ 1600 := dg_I.intb (lo := 0) (hi := 1600) I_72 sX_209 (by decide +kernel) f_y_75
                      have hL9 : y_ok x_71 (y_one kd vl (a1 : Int32).toNatClampNeg (y_gx cx ry fm mi pl fo od fr fe) (n0 : Int32).toNatClampNeg) (y_gx cx ry (S_72.2.1 (gd + 2)) mi pl (S_72.2.1 (gd + 5)) od (S_72.2.1 (gd + 10)) (S_72.2.1 (gd + 11))) (n0 : Int32).toNatClampNeg (y_74 : Int32).toNatClampNeg := by rw [(m_72.2 (gd + 2) _ (rX_2 gd hk_gd) (dk_dq rfl)).1, hfm, (m_72.2 (gd + 5) _ (rX_5 gd hk_gd) (dk_dq rfl)).1, hfo]; exact y_ok_r2 (by clear w_72_1; have h8 := dk_clN a1; omega) (by clear w_72_1; omega) (by clear w_72_1; omega) (by decide +kernel) w_72_4.2 w_72_1 (fun q8 => by clear w_72_1; have h7 := dk_clN y_74; have h8 := dk_clN n0; omega)
                      refine W.widen (k := 0) (n := 0) (Nat.le_of_ble_eq_true rfl) (Nat.le_of_ble_eq_true rfl) ?_
                      exact dg_iret hx hb hr hlocks (dk_znar2 (by omega)) hP hS ⟨I_72, M_72, (by omega), ⟨cx, ry, mi, pl, od, y_74, y_75, ((m_72.1 gd 0 _ (rX_0 gd hk_gd) (dk_dq rfl)).trans f_cx), ((m_72.1 gd 1 _ (rX_0 gd hk_gd) (dk_dq rfl)).trans f_ry), ((m_72.1 gd 6 _ (rX_0 gd hk_gd) (dk_dq rfl)).trans f_mi), ((m_72.1 gd 8 _ (rX_0 gd hk_gd) (dk_dq rfl)).trans f_pl), ((m_72.1 gd 11 _ (rX_0 gd hk_gd) (dk_dq rfl)).trans f_od), f_y_74, f_y_75, by omega, fun q9 => (by omega), (fun q9 => absurd q9 (by omega)), fun _ => hL9⟩, (fun q9 d9 z9 o9 => by clear w_72_1; obtain ⟨c9, g1, g2, g3⟩ := w_72_3.out (by omega); have q1 := w_72_2.out (by omega); rw [show (2 : Int32).toInt = (vl (n0 : Int32).toNatClampNeg).toInt - 12 from by have l9 : (2 : Int32).toInt = 2 := (by decide +kernel); omega] at q1; rw [k_st_r (by omega)]; exact kx.rule (n := 2) (G := d9.1) (K := d9.2) (o9 (by have h8 := dk_clN a1; omega)) m_72 (dk_dq rfl) f_sc q1 g1 (by rw [g2, hfr, show (2 : Int32).toNatClampNeg = 2 from by decide +kernel]) (by rw [g3, hfe, show (2 : Int32).toNatClampNeg = 2 from by decide +kernel]) (by omega)), (Z1X.keep Z1 m_72 (dk_dq rfl) (dk_dq rfl) (dk_dq rfl)), w_72_5, w_72_6, trivial⟩ dX6_readStatement_197
              · have jc_11 := dk_neqc (k := 0) (by decide +kernel) c_11
                have qw_8_1 : g_o kd vl 0 (n0 : Int32).toNatClampNeg = true := by have h9 := w_8_1.mp (by omega); rw [show (0 : Int32).toInt = 0 from by decide +kernel] at h9; exact h9
                have qlw_8_1 : (kd (n0 : Int32).toNatClampNeg).toInt = 1 ∧ (vl (n0 : Int32).toNatClampNeg).toInt = 0 := by have h8 := g_o_iff (kd := kd) (vl := vl) (c := 0) (k := (n0 : Int32).toNatClampNeg); rw [qw_8_1] at h8; simpa using h8
                refine lv_aload_n hx hb dX6_readStatement_46 rfl (lv_at hl 0 rfl) ?_
                refine lv_iconst (v := 1) hx hb dX6_readStatement_47 (by decide +kernel) ?_
                refine dg_calli hS hA1 hA (va_runV (As := [.int 1]) (rest := []) F (c_rd_fail l g D o S 1 en n0 f_n0 (by omega) ke f_ke (by omega) (by omega) I H.size) (cwV 1 hts (bw_V wB_30 wB_31 wB_32 wB_24 wB_29) rfl rfl rfl (by decide +kernel) ⟨Nat.le_of_ble_eq_true rfl, Nat.le_of_ble_eq_true rfl⟩) (dg_preV sX_209 rfl K ST hP hS hA1 hA) rfl rfl hl.1 rfl (lv_room (Nat.le_of_ble_eq_true rfl)) dX6_readStatement_48 ⟨Nat.le_of_ble_eq_true rfl, Nat.le_of_ble_eq_true rfl⟩) (fun x_76 S_77 hw_77 H locs hP hS => ?_)
                obtain ⟨I_77, m_77, w_77_0, -⟩ := hw_77
                have M_77 := dg_sm.tr M_0 m_77 (dk_dq rfl) (dk_dq rfl)
                have w_77_0 : 0 ≤ (x_76).toInt ∧ (x_76).toInt ≤ 0 := w_77_0
                refine W.widen (k := 0) (n := 0) (Nat.le_of_ble_eq_true rfl) (Nat.le_of_ble_eq_true rfl) ?_
                exact dg_iret hx hb hr hlocks (dk_znar2 (by omega)) hP hS ⟨I_77, M_77, (by omega), ⟨cx, ry, mi, pl, od, n0, sc, ((m_77.1 gd 0 _ (rX_0 gd hk_gd) (dk_dq rfl)).trans f_cx), ((m_77.1 gd 1 _ (rX_0 gd hk_gd) (dk_dq rfl)).trans f_ry), ((m_77.1 gd 6 _ (rX_0 gd hk_gd) (dk_dq rfl)).trans f_mi), ((m_77.1 gd 8 _ (rX_0 gd hk_gd) (dk_dq rfl)).trans f_pl), ((m_77.1 gd 11 _ (rX_0 gd hk_gd) (dk_dq rfl)).trans f_od), ((m_77.1 209 4 _ sX_209 (dk_dq rfl)).trans f_n0), ((m_77.1 209 7 _ sX_209 (dk_dq rfl)).trans f_sc), by omega, fun q9 => absurd q9 (by omega), (fun _ => by omega), fun _ => by rw [(m_77.2 (gd + 2) _ (rX_2 gd hk_gd) (dk_dq rfl)).1, hfm, (m_77.2 (gd + 5) _ (rX_5 gd hk_gd) (dk_dq rfl)).1, hfo, (m_77.2 (gd + 10) _ (rX_10 gd hk_gd) (dk_dq rfl)).1, hfr, (m_77.2 (gd + 11) _ (rX_11 gd hk_gd) (dk_dq rfl)).1, hfe]; exact y_ok.no (by omega) (by first | exact y_one_k (by omega) | exact y_one_0 (by have h8 := dk_clN a1; omega) (by omega) | exact y_one_no (by have h8 := dk_clN a1; omega) (by omega))⟩, (fun q9 => absurd q9 (by omega)), (Z1X.keep Z1 m_77 (dk_dq rfl) (dk_dq rfl) (dk_dq rfl)), (GOX.keep GO m_77 (dk_dq rfl) (dk_dq rfl)), (G9X.keep G9 m_77 (dk_dq rfl)), trivial⟩ dX6_readStatement_51
          · as_aux_lemma =>
              have jc_10 := dk_eqc (k := 0) (by decide +kernel) c_10
              refine lv_iconst (v := 1) hx hb dX6_readStatement_38 (by decide +kernel) ?_
              refine lv_goto (tgt := 43) hx hb dX6_readStatement_39 (dk_dq rfl) ?_
              refine lv_icmp_eq (tgt := 52) hx hb dX6_readStatement_43 (dk_dq rfl) (fun c_78 => ?_) (fun c_78 => ?_)
              · as_aux_lemma =>
                  have jc_78 := dk_eqc (k := 1) (by decide +kernel) c_78
                  have qw_8_1 : g_o kd vl 0 (n0 : Int32).toNatClampNeg = true := by have h9 := w_8_1.mp (by omega); rw [show (0 : Int32).toInt = 0 from by decide +kernel] at h9; exact h9
                  have qlw_8_1 : (kd (n0 : Int32).toNatClampNeg).toInt = 1 ∧ (vl (n0 : Int32).toNatClampNeg).toInt = 0 := by have h8 := g_o_iff (kd := kd) (vl := vl) (c := 0) (k := (n0 : Int32).toNatClampNeg); rw [qw_8_1] at h8; simpa using h8
                  refine lv_aload_n hx hb dX6_readStatement_52 rfl (lv_at hl 0 rfl) ?_
                  refine dg_get (C := RX6) (T := TX6) (N := 8) hx hb hts (fun w h => bw_mem (wU_X6 w h)) hown K hP sX_209 rfl 2 (dk_dq rfl) (hts _ (bw_mem wB_13)) (fun _ h9 => h9) (v := .ref (o + 210)) (show S.1 209 2 = .ref (o + 210) from dg_I.rel (d := 1) I sX_209 (by decide +kernel)) dX6_readStatement_53 ?_
                  refine dg_get (C := RX9) (T := TX9) (N := 5) hx hb hts (fun w h => bw_mem (wU_X9 w h)) hown K hP sX_210 rfl 2 (dk_dq rfl) (hts _ (bw_mem wB_16)) (fun _ h9 => h9) (v := .ref (o + 213)) (show S.1 210 2 = .ref (o + 213) from dg_I.rel (d := 3) I sX_210 (by decide +kernel)) dX6_readStatement_56 ?_
                  refine lv_aload_n hx hb dX6_readStatement_59 rfl (lv_at hl 0 rfl) ?_
                  refine dg_get (C := RX6) (T := TX6) (N := 8) hx hb hts (fun w h => bw_mem (wU_X6 w h)) hown K hP sX_209 rfl 4 (dk_dq rfl) (hts _ (bw_mem wB_15)) (fun _ h9 => h9) (v := .int n0) f_n0 dX6_readStatement_60 ?_
                  have hin_79 : vp_in n0 1601 := (dk_inv2 (by omega))
                  refine dg_iald hx hb K hP sX_213 hin_79 dX6_readStatement_63 (fun x_80 ex_80 => ?_)
                  have kx_80 : (vl (n0 : Int32).toNatClampNeg).toInt = (x_80).toInt := by rw [ex_80, hvl _ (by unfold Int32.toNatClampNeg; omega)]
                  rcases (show ((x_80).toInt < 0 ∨ 14 < (x_80).toInt) ∨ (x_80).toInt = 0 ∨ (x_80).toInt = 1 ∨ (x_80).toInt = 2 ∨ (x_80).toInt = 3 ∨ (x_80).toInt = 4 ∨ (x_80).toInt = 5 ∨ (x_80).toInt = 6 ∨ (x_80).toInt = 7 ∨ (x_80).toInt = 8 ∨ (x_80).toInt = 9 ∨ (x_80).toInt = 10 ∨ (x_80).toInt = 11 ∨ (x_80).toInt = 12 ∨ (x_80).toInt = 13 ∨ (x_80).toInt = 14 by omega) with jc_81 | jc_81 | jc_81 | jc_81 | jc_81 | jc_81 | jc_81 | jc_81 | jc_81 | jc_81 | jc_81 | jc_81 | jc_81 | jc_81 | jc_81 | jc_81
                  · refine lv_tableOut (tgt := 198) hx hb dX6_readStatement_64 jc_81 (dk_dq rfl) ?_
                    refine lv_aload_n hx hb dX6_readStatement_198 rfl (lv_at hl 0 rfl) ?_
                    refine lv_iconst (v := 1) hx hb dX6_readStatement_199 (by decide +kernel) ?_
                    refine dg_calli hS hA1 hA (va_runV (As := [.int 1]) (rest := []) F (c_rd_fail l g D o S 1 en n0 f_n0 (by omega) ke f_ke (by omega) (by omega) I H.size) (cwV 1 hts (bw_V wB_30 wB_31 wB_32 wB_24 wB_29) rfl rfl rfl (by decide +kernel) ⟨Nat.le_of_ble_eq_true rfl, Nat.le_of_ble_eq_true rfl⟩) (dg_preV sX_209 rfl K ST hP hS hA1 hA) rfl rfl hl.1 rfl (lv_room (Nat.le_of_ble_eq_true rfl)) dX6_readStatement_200 ⟨Nat.le_of_ble_eq_true rfl, Nat.le_of_ble_eq_true rfl⟩) (fun x_82 S_83 hw_83 H locs hP hS => ?_)
                    obtain ⟨I_83, m_83, w_83_0, -⟩ := hw_83
                    have M_83 := dg_sm.tr M_0 m_83 (dk_dq rfl) (dk_dq rfl)
                    have w_83_0 : 0 ≤ (x_82).toInt ∧ (x_82).toInt ≤ 0 := w_83_0
                    refine W.widen (k := 0) (n := 0) (Nat.le_of_ble_eq_true rfl) (Nat.le_of_ble_eq_true rfl) ?_
                    exact dg_iret hx hb hr hlocks (dk_znar2 (by omega)) hP hS ⟨I_83, M_83, (by omega), (by exfalso; omega), (fun q9 => absurd q9 (by omega)), (Z1X.keep Z1 m_83 (dk_dq rfl) (dk_dq rfl) (dk_dq rfl)), (GOX.keep GO m_83 (dk_dq rfl) (dk_dq rfl)), (G9X.keep G9 m_83 (dk_dq rfl)), trivial⟩ dX6_readStatement_203
                  · as_aux_lemma =>
                      refine lv_tableIn (off := 76) (tgt := 140) hx hb dX6_readStatement_64 (by rw [jc_81]; decide) (by rw [jc_81]; decide) (by rw [jc_81]; decide +kernel) (dk_dq rfl) ?_
                      refine lv_aload_n hx hb dX6_readStatement_140 rfl (lv_at hl 0 rfl) ?_
                      refine dg_calli hS hA1 hA (va_runV (As := []) (rest := []) F (c_rd_readSeam l g D o S en kd vl S0 d0 gd hk_gd f_gd n0 f_n0 (by omega) ke f_ke (by omega) (by omega) hkd hvl (g_o_ne qw_8_1) hd0 Z1 GO I H.size) (cwV 0 hts (bw_V wB_222 wB_223 wB_224 wB_24 wB_221) rfl rfl rfl (by decide +kernel) ⟨Nat.le_of_ble_eq_true rfl, Nat.le_of_ble_eq_true rfl⟩) (dg_preV sX_209 rfl K ST hP hS hA1 hA) rfl rfl hl.1 rfl (lv_room (Nat.le_of_ble_eq_true rfl)) dX6_readStatement_141 ⟨Nat.le_of_ble_eq_true rfl, Nat.le_of_ble_eq_true rfl⟩) (fun x_84 S_85 hw_85 H locs hP hS => ?_)
                      obtain ⟨I_85, m_85, w_85_0, w_85_1, w_85_2, w_85_3, w_85_4, w_85_5, w_85_6, -⟩ := hw_85
                      have M_85 := dg_sm.tr M_0 m_85 (dk_dq rfl) (dk_dq rfl)
                      have w_85_0 : 0 ≤ (x_84).toInt ∧ (x_84).toInt ≤ 1 := w_85_0
                      obtain ⟨y_86, f_y_86, w_85_1⟩ := w_85_1
                      have w_85_1 : (x_84).toInt = 1 → (y_86).toInt = (vl ((n0 : Int32).toNatClampNeg + 1)).toInt := w_85_1
                      have b_y_86 : 0 ≤ (y_86).toInt ∧ (y_86).toInt ≤ 7 := dg_I.intb (lo := 0) (hi := 7) I_85 (rX_0 gd hk_gd) (by decide +kernel) f_y_86
                      obtain ⟨y_87, f_y_87, w_85_2⟩ := w_85_2
                      have w_85_2 : (x_84).toInt = 1 → (y_87).toInt = (vl ((n0 : Int32).toNatClampNeg + 3)).toInt := w_85_2
                      have b_y_87 : 0 ≤ (y_87).toInt ∧ (y_87).toInt ≤ 7 := dg_I.intb (lo := 0) (hi := 7) I_85 (rX_0 gd hk_gd) (by decide +kernel) f_y_87
                      obtain ⟨y_88, f_y_88, w_85_3⟩ := w_85_3
                      have w_85_3 : (x_84).toInt = 1 → (y_88).toInt = 8 := w_85_3
                      have b_y_88 : (-1) ≤ (y_88).toInt ∧ (y_88).toInt ≤ 63 := dg_I.intb (lo := (-1)) (hi := 63) I_85 (rX_0 gd hk_gd) (by decide +kernel) f_y_88
                      obtain ⟨y_89, f_y_89, w_85_4⟩ := w_85_4
                      have w_85_4 : (y_89).toInt ≤ (en).toInt ∧ g_ans x_84 ((y_num kd vl 3 7 ((n0 : Int32).toNatClampNeg + 1)).bind fun k2 => (y_own kd vl 1 k2).bind (y_num kd vl 3 7)) (y_89 : Int32).toNatClampNeg := w_85_4
                      have b_y_89 : 0 ≤ (y_89).toInt ∧ (y_89).toInt ≤ 1600 := dg_I.intb (lo := 0) (hi := 1600) I_85 sX_209 (by decide +kernel) f_y_89
                      have hL9 : y_ok x_84 (y_one kd vl (a1 : Int32).toNatClampNeg (y_gx cx ry fm mi pl fo od fr fe) (n0 : Int32).toNatClampNeg) (y_gx y_86 y_87 (S_85.2.1 (gd + 2)) mi pl (S_85.2.1 (gd + 5)) od (S_85.2.1 (gd + 10)) (S_85.2.1 (gd + 11))) (n0 : Int32).toNatClampNeg (y_89 : Int32).toNatClampNeg := by rw [(m_85.2 (gd + 2) _ (rX_2 gd hk_gd) (dk_dq rfl)).1, hfm, (m_85.2 (gd + 5) _ (rX_5 gd hk_gd) (dk_dq rfl)).1, hfo, (m_85.2 (gd + 10) _ (rX_10 gd hk_gd) (dk_dq rfl)).1, hfr, (m_85.2 (gd + 11) _ (rX_11 gd hk_gd) (dk_dq rfl)).1, hfe]; exact y_ok_s (by have h8 := dk_clN a1; omega) (by omega) (by omega) w_85_4.2 w_85_1 w_85_2
                      refine W.widen (k := 0) (n := 0) (Nat.le_of_ble_eq_true rfl) (Nat.le_of_ble_eq_true rfl) ?_
                      exact dg_iret hx hb hr hlocks (dk_znar2 (by omega)) hP hS ⟨I_85, M_85, (by omega), ⟨y_86, y_87, mi, pl, od, y_89, sc, f_y_86, f_y_87, ((m_85.1 gd 6 _ (rX_0 gd hk_gd) (dk_dq rfl)).trans f_mi), ((m_85.1 gd 8 _ (rX_0 gd hk_gd) (dk_dq rfl)).trans f_pl), ((m_85.1 gd 11 _ (rX_0 gd hk_gd) (dk_dq rfl)).trans f_od), f_y_89, ((m_85.1 209 7 _ sX_209 (dk_dq rfl)).trans f_sc), by omega, fun q9 => (by have h7 := (hL9.1 q9).2; have h8 := dk_clN y_89; have h9 := dk_clN n0; omega), (fun q9 => absurd q9 (by omega)), fun _ => hL9⟩, (fun q9 d9 z9 o9 => by have e1 := w_85_1 (by omega); have e3 := w_85_2 (by omega); rw [k_st_0 (by omega), ← e1, ← e3]; exact kx0.seam (G := d9.1) (K := d9.2) (z9 (by have h8 := dk_clN a1; omega)) m_85 f_y_86 f_y_87 f_y_88 (w_85_3 (by omega))), w_85_5, w_85_6, (G9X.keep G9 m_85 (dk_dq rfl)), trivial⟩ dX6_readStatement_144
                  · refine lv_tableIn (off := 134) (tgt := 198) hx hb dX6_readStatement_64 (by rw [jc_81]; decide) (by rw [jc_81]; decide) (by rw [jc_81]; decide +kernel) (dk_dq rfl) ?_
                    refine lv_aload_n hx hb dX6_readStatement_198 rfl (lv_at hl 0 rfl) ?_
                    refine lv_iconst (v := 1) hx hb dX6_readStatement_199 (by decide +kernel) ?_
                    refine dg_calli hS hA1 hA (va_runV (As := [.int 1]) (rest := []) F (c_rd_fail l g D o S 1 en n0 f_n0 (by omega) ke f_ke (by omega) (by omega) I H.size) (cwV 1 hts (bw_V wB_30 wB_31 wB_32 wB_24 wB_29) rfl rfl rfl (by decide +kernel) ⟨Nat.le_of_ble_eq_true rfl, Nat.le_of_ble_eq_true rfl⟩) (dg_preV sX_209 rfl K ST hP hS hA1 hA) rfl rfl hl.1 rfl (lv_room (Nat.le_of_ble_eq_true rfl)) dX6_readStatement_200 ⟨Nat.le_of_ble_eq_true rfl, Nat.le_of_ble_eq_true rfl⟩) (fun x_90 S_91 hw_91 H locs hP hS => ?_)
                    obtain ⟨I_91, m_91, w_91_0, -⟩ := hw_91
                    have M_91 := dg_sm.tr M_0 m_91 (dk_dq rfl) (dk_dq rfl)
                    have w_91_0 : 0 ≤ (x_90).toInt ∧ (x_90).toInt ≤ 0 := w_91_0
                    refine W.widen (k := 0) (n := 0) (Nat.le_of_ble_eq_true rfl) (Nat.le_of_ble_eq_true rfl) ?_
                    exact dg_iret hx hb hr hlocks (dk_znar2 (by omega)) hP hS ⟨I_91, M_91, (by omega), (by exfalso; omega), (fun q9 => absurd q9 (by omega)), (Z1X.keep Z1 m_91 (dk_dq rfl) (dk_dq rfl) (dk_dq rfl)), (GOX.keep GO m_91 (dk_dq rfl) (dk_dq rfl)), (G9X.keep G9 m_91 (dk_dq rfl)), trivial⟩ dX6_readStatement_203
                  · refine lv_tableIn (off := 81) (tgt := 145) hx hb dX6_readStatement_64 (by rw [jc_81]; decide) (by rw [jc_81]; decide) (by rw [jc_81]; decide +kernel) (dk_dq rfl) ?_
                    refine lv_aload_n hx hb dX6_readStatement_145 rfl (lv_at hl 0 rfl) ?_
                    refine dg_calli hS hA1 hA (va_runV (As := []) (rest := []) F (c_rd_readShaft l g D o S en kd vl S0 d0 gd hk_gd f_gd n0 f_n0 (by omega) cx f_cx (by omega) ry f_ry (by omega) ke f_ke (by omega) (by omega) hkd hvl (g_o_ne qw_8_1) hd0 Z1 GO I H.size) (cwV 0 hts (bw_V wB_226 wB_227 wB_228 wB_24 wB_225) rfl rfl rfl (by decide +kernel) ⟨Nat.le_of_ble_eq_true rfl, Nat.le_of_ble_eq_true rfl⟩) (dg_preV sX_209 rfl K ST hP hS hA1 hA) rfl rfl hl.1 rfl (lv_room (Nat.le_of_ble_eq_true rfl)) dX6_readStatement_146 ⟨Nat.le_of_ble_eq_true rfl, Nat.le_of_ble_eq_true rfl⟩) (fun x_92 S_93 hw_93 H locs hP hS => ?_)
                    obtain ⟨I_93, m_93, w_93_0, w_93_1, w_93_2, w_93_3, w_93_4, -⟩ := hw_93
                    have M_93 := dg_sm.tr M_0 m_93 (dk_dq rfl) (dk_dq rfl)
                    have w_93_0 : 0 ≤ (x_92).toInt ∧ (x_92).toInt ≤ 1 := w_93_0
                    obtain ⟨y_94, f_y_94, w_93_1⟩ := w_93_1
                    have w_93_1 : (x_92).toInt = 1 → (y_94).toInt = (vl ((n0 : Int32).toNatClampNeg + 1)).toInt + 8 := w_93_1
                    have b_y_94 : (-1) ≤ (y_94).toInt ∧ (y_94).toInt ≤ 63 := dg_I.intb (lo := (-1)) (hi := 63) I_93 (rX_0 gd hk_gd) (by decide +kernel) f_y_94
                    obtain ⟨y_95, f_y_95, w_93_2⟩ := w_93_2
                    have w_93_2 : (y_95).toInt ≤ (en).toInt ∧ g_ans x_92 (y_num kd vl 0 ((cx).toInt - 1) ((n0 : Int32).toNatClampNeg + 1)) (y_95 : Int32).toNatClampNeg := w_93_2
                    have b_y_95 : 0 ≤ (y_95).toInt ∧ (y_95).toInt ≤ 1600 := dg_I.intb (lo := 0) (hi := 1600) I_93 sX_209 (by decide +kernel) f_y_95
                    refine W.widen (k := 0) (n := 0) (Nat.le_of_ble_eq_true rfl) (Nat.le_of_ble_eq_true rfl) ?_
                    exact dg_iret hx hb hr hlocks (dk_znar2 (by omega)) hP hS ⟨I_93, M_93, (by omega), (by exfalso; omega), (fun q9 d9 z9 o9 => by rw [k_st_2 (by omega)]; exact kx.shaft (G := d9.1) (K := d9.2) (o9 (by have h8 := dk_clN a1; omega)) m_93 f_y_94 (w_93_1 (by omega))), w_93_3, w_93_4, (G9X.keep G9 m_93 (dk_dq rfl)), trivial⟩ dX6_readStatement_149
                  · refine lv_tableIn (off := 86) (tgt := 150) hx hb dX6_readStatement_64 (by rw [jc_81]; decide) (by rw [jc_81]; decide) (by rw [jc_81]; decide +kernel) (dk_dq rfl) ?_
                    refine lv_aload_n hx hb dX6_readStatement_150 rfl (lv_at hl 0 rfl) ?_
                    refine dg_calli hS hA1 hA (va_runV (As := []) (rest := []) F (c_rd_readReach l g D o S en kd vl S0 d0 gd hk_gd f_gd n0 f_n0 (by omega) ke f_ke (by omega) (by omega) hkd hvl (g_o_ne qw_8_1) hd0 GO I H.size) (cwV 0 hts (bw_V wB_230 wB_231 wB_232 wB_24 wB_229) rfl rfl rfl (by decide +kernel) ⟨Nat.le_of_ble_eq_true rfl, Nat.le_of_ble_eq_true rfl⟩) (dg_preV sX_209 rfl K ST hP hS hA1 hA) rfl rfl hl.1 rfl (lv_room (Nat.le_of_ble_eq_true rfl)) dX6_readStatement_151 ⟨Nat.le_of_ble_eq_true rfl, Nat.le_of_ble_eq_true rfl⟩) (fun x_96 S_97 hw_97 H locs hP hS => ?_)
                    obtain ⟨I_97, m_97, w_97_0, w_97_1, w_97_2, w_97_3, -⟩ := hw_97
                    have M_97 := dg_sm.tr M_0 m_97 (dk_dq rfl) (dk_dq rfl)
                    have w_97_0 : 0 ≤ (x_96).toInt ∧ (x_96).toInt ≤ 1 := w_97_0
                    obtain ⟨y_98, f_y_98, w_97_1⟩ := w_97_1
                    have w_97_1 : (x_96).toInt = 1 → (y_98).toInt = (vl ((n0 : Int32).toNatClampNeg + 1)).toInt := w_97_1
                    obtain ⟨y_99, f_y_99, w_97_2⟩ := w_97_2
                    have w_97_2 : (y_99).toInt ≤ (en).toInt ∧ g_ans x_96 (y_num kd vl 0 20 ((n0 : Int32).toNatClampNeg + 1)) (y_99 : Int32).toNatClampNeg := w_97_2
                    have b_y_99 : 0 ≤ (y_99).toInt ∧ (y_99).toInt ≤ 1600 := dg_I.intb (lo := 0) (hi := 1600) I_97 sX_209 (by decide +kernel) f_y_99
                    refine W.widen (k := 0) (n := 0) (Nat.le_of_ble_eq_true rfl) (Nat.le_of_ble_eq_true rfl) ?_
                    exact dg_iret hx hb hr hlocks (dk_znar2 (by omega)) hP hS ⟨I_97, M_97, (by omega), (by exfalso; omega), (fun q9 d9 z9 o9 => by have e1 := w_97_1 (by omega); rw [k_st_3 (by omega), ← e1]; exact kx.reach (G := d9.1) (K := d9.2) (o9 (by have h8 := dk_clN a1; omega)) m_97 f_y_98), (Z1X.keep Z1 m_97 (dk_dq rfl) (dk_dq rfl) (dk_dq rfl)), w_97_3, (G9X.keep G9 m_97 (dk_dq rfl)), trivial⟩ dX6_readStatement_154
                  · refine lv_tableIn (off := 91) (tgt := 155) hx hb dX6_readStatement_64 (by rw [jc_81]; decide) (by rw [jc_81]; decide) (by rw [jc_81]; decide +kernel) (dk_dq rfl) ?_
                    refine lv_aload_n hx hb dX6_readStatement_155 rfl (lv_at hl 0 rfl) ?_
                    refine dg_calli hS hA1 hA (va_runV (As := []) (rest := []) F (c_rd_readQuake l g D o S en kd vl S0 d0 gd hk_gd f_gd n0 f_n0 (by omega) ke f_ke (by omega) (by omega) hkd hvl (g_o_ne qw_8_1) hd0 GO I H.size) (cwV 0 hts (bw_V wB_234 wB_235 wB_236 wB_24 wB_233) rfl rfl rfl (by decide +kernel) ⟨Nat.le_of_ble_eq_true rfl, Nat.le_of_ble_eq_true rfl⟩) (dg_preV sX_209 rfl K ST hP hS hA1 hA) rfl rfl hl.1 rfl (lv_room (Nat.le_of_ble_eq_true rfl)) dX6_readStatement_156 ⟨Nat.le_of_ble_eq_true rfl, Nat.le_of_ble_eq_true rfl⟩) (fun x_100 S_101 hw_101 H locs hP hS => ?_)
                    obtain ⟨I_101, m_101, w_101_0, w_101_1, w_101_2, w_101_3, -⟩ := hw_101
                    have M_101 := dg_sm.tr M_0 m_101 (dk_dq rfl) (dk_dq rfl)
                    have w_101_0 : 0 ≤ (x_100).toInt ∧ (x_100).toInt ≤ 1 := w_101_0
                    obtain ⟨y_102, f_y_102, w_101_1⟩ := w_101_1
                    have w_101_1 : (x_100).toInt = 1 → (y_102).toInt = (vl ((n0 : Int32).toNatClampNeg + 1)).toInt := w_101_1
                    obtain ⟨y_103, f_y_103, w_101_2⟩ := w_101_2
                    have w_101_2 : (y_103).toInt ≤ (en).toInt ∧ g_ans x_100 (y_num kd vl 0 100 ((n0 : Int32).toNatClampNeg + 1)) (y_103 : Int32).toNatClampNeg := w_101_2
                    have b_y_103 : 0 ≤ (y_103).toInt ∧ (y_103).toInt ≤ 1600 := dg_I.intb (lo := 0) (hi := 1600) I_101 sX_209 (by decide +kernel) f_y_103
                    refine W.widen (k := 0) (n := 0) (Nat.le_of_ble_eq_true rfl) (Nat.le_of_ble_eq_true rfl) ?_
                    exact dg_iret hx hb hr hlocks (dk_znar2 (by omega)) hP hS ⟨I_101, M_101, (by omega), (by exfalso; omega), (fun q9 d9 z9 o9 => by have e1 := w_101_1 (by omega); rw [k_st_4 (by omega), ← e1]; exact kx.quake (G := d9.1) (K := d9.2) (o9 (by have h8 := dk_clN a1; omega)) m_101 f_y_102), (Z1X.keep Z1 m_101 (dk_dq rfl) (dk_dq rfl) (dk_dq rfl)), w_101_3, (G9X.keep G9 m_101 (dk_dq rfl)), trivial⟩ dX6_readStatement_159
                  · refine lv_tableIn (off := 96) (tgt := 160) hx hb dX6_readStatement_64 (by rw [jc_81]; decide) (by rw [jc_81]; decide) (by rw [jc_81]; decide +kernel) (dk_dq rfl) ?_
                    refine lv_aload_n hx hb dX6_readStatement_160 rfl (lv_at hl 0 rfl) ?_
                    refine dg_calli hS hA1 hA (va_runV (As := []) (rest := []) F (c_rd_readGrade l g D o S en kd vl S0 d0 gd hk_gd f_gd n0 f_n0 (by omega) cx f_cx (by omega) ry f_ry (by omega) ke f_ke (by omega) (by omega) hkd hvl (g_o_ne qw_8_1) hd0 GO I H.size) (cwV 0 hts (bw_V wB_238 wB_239 wB_240 wB_24 wB_237) rfl rfl rfl (by decide +kernel) ⟨Nat.le_of_ble_eq_true rfl, Nat.le_of_ble_eq_true rfl⟩) (dg_preV sX_209 rfl K ST hP hS hA1 hA) rfl rfl hl.1 rfl (lv_room (Nat.le_of_ble_eq_true rfl)) dX6_readStatement_161 ⟨Nat.le_of_ble_eq_true rfl, Nat.le_of_ble_eq_true rfl⟩) (fun x_104 S_105 hw_105 H locs hP hS => ?_)
                    obtain ⟨I_105, m_105, w_105_0, w_105_1, w_105_2, w_105_3, -⟩ := hw_105
                    have M_105 := dg_sm.tr M_0 m_105 (dk_dq rfl) (dk_dq rfl)
                    have w_105_0 : 0 ≤ (x_104).toInt ∧ (x_104).toInt ≤ 1 := w_105_0
                    replace w_105_1 : m_hid ((x_104).toInt = 1 → ∃ (v9 : Int32) (i9 : Nat), v9.toInt = (vl ((n0 : Int32).toNatClampNeg + 3)).toInt ∧ (i9 : Int) = 8 * (vl ((n0 : Int32).toNatClampNeg + 2)).toInt + (vl ((n0 : Int32).toNatClampNeg + 1)).toInt + 8 ∧ 8 ≤ (i9 : Int) ∧ S_105.2.1 (gd + 1) = upd (S.2.1 (gd + 1)) i9 v9) := w_105_1
                    obtain ⟨y_106, f_y_106, w_105_2⟩ := w_105_2
                    have w_105_2 : (y_106).toInt ≤ (en).toInt ∧ g_ans x_104 ((y_cell kd vl ((cx).toInt, (ry).toInt) ((n0 : Int32).toNatClampNeg + 1)).bind (y_num kd vl 0 9)) (y_106 : Int32).toNatClampNeg := w_105_2
                    have b_y_106 : 0 ≤ (y_106).toInt ∧ (y_106).toInt ≤ 1600 := dg_I.intb (lo := 0) (hi := 1600) I_105 sX_209 (by decide +kernel) f_y_106
                    refine W.widen (k := 0) (n := 0) (Nat.le_of_ble_eq_true rfl) (Nat.le_of_ble_eq_true rfl) ?_
                    exact dg_iret hx hb hr hlocks (dk_znar2 (by omega)) hP hS ⟨I_105, M_105, (by omega), (by exfalso; omega), (fun q9 d9 z9 o9 => by obtain ⟨v9, i9, e1, e2, e4, e3⟩ := w_105_1.out (by omega); rw [k_st_5 (by omega), ← e1]; exact kx.grade (G := d9.1) (K := d9.2) (o9 (by have h8 := dk_clN a1; omega)) m_105 e3 (by omega)), (Z1X.keep Z1 m_105 (dk_dq rfl) (dk_dq rfl) (dk_dq rfl)), w_105_3, (G9X.keep G9 m_105 (dk_dq rfl)), trivial⟩ dX6_readStatement_164
                  · refine lv_tableIn (off := 101) (tgt := 165) hx hb dX6_readStatement_64 (by rw [jc_81]; decide) (by rw [jc_81]; decide) (by rw [jc_81]; decide +kernel) (dk_dq rfl) ?_
                    refine lv_aload_n hx hb dX6_readStatement_165 rfl (lv_at hl 0 rfl) ?_
                    refine dg_calli hS hA1 hA (va_runV (As := []) (rest := []) F (c_rd_readMiner l g D o S en kd vl fm fo S0 d0 gd hk_gd f_gd n0 f_n0 (by omega) mi f_mi (by omega) od f_od (by omega) ke f_ke (by omega) (by omega) hkd hvl (g_o_ne qw_8_1) hfm hfo hd0 GO I H.size) (cwV 0 hts (bw_V wB_242 wB_243 wB_244 wB_24 wB_241) rfl rfl rfl (by decide +kernel) ⟨Nat.le_of_ble_eq_true rfl, Nat.le_of_ble_eq_true rfl⟩) (dg_preV sX_209 rfl K ST hP hS hA1 hA) rfl rfl hl.1 rfl (lv_room (Nat.le_of_ble_eq_true rfl)) dX6_readStatement_166 ⟨Nat.le_of_ble_eq_true rfl, Nat.le_of_ble_eq_true rfl⟩) (fun x_107 S_108 hw_108 H locs hP hS => ?_)
                    obtain ⟨I_108, m_108, w_108_0, w_108_1, w_108_2, w_108_3, w_108_4, -⟩ := hw_108
                    have M_108 := dg_sm.tr M_0 m_108 (dk_dq rfl) (dk_dq rfl)
                    have w_108_0 : 0 ≤ (x_107).toInt ∧ (x_107).toInt ≤ 1 := w_108_0
                    obtain ⟨y_109, f_y_109, w_108_1⟩ := w_108_1
                    have w_108_1 : (x_107).toInt = 1 → (y_109).toInt = (mi).toInt + 1 := w_108_1
                    have b_y_109 : 0 ≤ (y_109).toInt ∧ (y_109).toInt ≤ 6 := dg_I.intb (lo := 0) (hi := 6) I_108 (rX_0 gd hk_gd) (by decide +kernel) f_y_109
                    replace w_108_2 : (x_107).toInt = 1 → ∃ v9 : Int32, v9.toInt = (vl ((n0 : Int32).toNatClampNeg + 1)).toInt ∧ S_108.2.1 (gd + 2) = upd fm (mi : Int32).toNatClampNeg v9 := w_108_2
                    obtain ⟨y_110, f_y_110, w_108_3⟩ := w_108_3
                    have w_108_3 : (y_110).toInt ≤ (en).toInt ∧ g_ans x_107 (if (mi).toInt = 6 then none else y_new kd vl (y_nm fm (mi : Int32).toNatClampNeg) (y_nm fo (od : Int32).toNatClampNeg) ((n0 : Int32).toNatClampNeg + 1)) (y_110 : Int32).toNatClampNeg := w_108_3
                    have b_y_110 : 0 ≤ (y_110).toInt ∧ (y_110).toInt ≤ 1600 := dg_I.intb (lo := 0) (hi := 1600) I_108 sX_209 (by decide +kernel) f_y_110
                    refine W.widen (k := 0) (n := 0) (Nat.le_of_ble_eq_true rfl) (Nat.le_of_ble_eq_true rfl) ?_
                    exact dg_iret hx hb hr hlocks (dk_znar2 (by omega)) hP hS ⟨I_108, M_108, (by omega), (by exfalso; omega), (fun q9 d9 z9 o9 => by clear w_108_2; have e1 := w_108_1 (by omega); have e2 := (zI_at f_mi).symm.trans (o9 (by have h8 := dk_clN a1; omega)).1.2.1.2.2.2.2.1; rw [k_st_6 (by omega)]; exact kx.miner (G := d9.1) (K := d9.2) (o9 (by have h8 := dk_clN a1; omega)) m_108 f_y_109 (by omega)), (Z1X.keep Z1 m_108 (dk_dq rfl) (dk_dq rfl) (dk_dq rfl)), w_108_4, (G9X.keep G9 m_108 (dk_dq rfl)), trivial⟩ dX6_readStatement_169
                  · refine lv_tableIn (off := 106) (tgt := 170) hx hb dX6_readStatement_64 (by rw [jc_81]; decide) (by rw [jc_81]; decide) (by rw [jc_81]; decide +kernel) (dk_dq rfl) ?_
                    refine lv_aload_n hx hb dX6_readStatement_170 rfl (lv_at hl 0 rfl) ?_
                    refine dg_calli hS hA1 hA (va_runV (As := []) (rest := []) F (c_rd_readDig l g D o S en kd vl fm S0 d0 gd hk_gd f_gd n0 f_n0 (by omega) cx f_cx (by omega) ry f_ry (by omega) mi f_mi (by omega) pl f_pl (by omega) ke f_ke (by omega) (by omega) hkd hvl (g_o_ne qw_8_1) hfm hd0 GO I H.size) (cwV 0 hts (bw_V wB_246 wB_247 wB_248 wB_24 wB_245) rfl rfl rfl (by decide +kernel) ⟨Nat.le_of_ble_eq_true rfl, Nat.le_of_ble_eq_true rfl⟩) (dg_preV sX_209 rfl K ST hP hS hA1 hA) rfl rfl hl.1 rfl (lv_room (Nat.le_of_ble_eq_true rfl)) dX6_readStatement_171 ⟨Nat.le_of_ble_eq_true rfl, Nat.le_of_ble_eq_true rfl⟩) (fun x_111 S_112 hw_112 H locs hP hS => ?_)
                    obtain ⟨I_112, m_112, w_112_0, w_112_1, w_112_2, w_112_3, w_112_4, -⟩ := hw_112
                    have M_112 := dg_sm.tr M_0 m_112 (dk_dq rfl) (dk_dq rfl)
                    have w_112_0 : 0 ≤ (x_111).toInt ∧ (x_111).toInt ≤ 1 := w_112_0
                    replace w_112_1 : m_hid ((x_111).toInt = 1 → ∃ v9 w9 : Int32, v9.toInt = z_ix (y_nm fm (mi : Int32).toNatClampNeg) (vl ((n0 : Int32).toNatClampNeg + 1)).toInt ∧ w9.toInt = 8 * (vl ((n0 : Int32).toNatClampNeg + 4)).toInt + (vl ((n0 : Int32).toNatClampNeg + 3)).toInt + 8 ∧ S_112.2.1 (gd + 3) = upd (S.2.1 (gd + 3)) (pl : Int32).toNatClampNeg v9 ∧ S_112.2.1 (gd + 4) = upd (S.2.1 (gd + 4)) (pl : Int32).toNatClampNeg w9) := w_112_1
                    obtain ⟨y_113, f_y_113, w_112_2⟩ := w_112_2
                    have w_112_2 : (x_111).toInt = 1 → (y_113).toInt = (pl).toInt + 1 := w_112_2
                    have b_y_113 : 0 ≤ (y_113).toInt ∧ (y_113).toInt ≤ 16 := dg_I.intb (lo := 0) (hi := 16) I_112 (rX_0 gd hk_gd) (by decide +kernel) f_y_113
                    obtain ⟨y_114, f_y_114, w_112_3⟩ := w_112_3
                    have w_112_3 : (y_114).toInt ≤ (en).toInt ∧ g_ans x_111 (if (pl).toInt = 16 then none else ((y_old kd vl (y_nm fm (mi : Int32).toNatClampNeg) ((n0 : Int32).toNatClampNeg + 1)).bind fun k1 => (y_own kd vl 8 k1).bind (y_cell kd vl ((cx).toInt, (ry).toInt)))) (y_114 : Int32).toNatClampNeg := w_112_3
                    have b_y_114 : 0 ≤ (y_114).toInt ∧ (y_114).toInt ≤ 1600 := dg_I.intb (lo := 0) (hi := 1600) I_112 sX_209 (by decide +kernel) f_y_114
                    refine W.widen (k := 0) (n := 0) (Nat.le_of_ble_eq_true rfl) (Nat.le_of_ble_eq_true rfl) ?_
                    exact dg_iret hx hb hr hlocks (dk_znar2 (by omega)) hP hS ⟨I_112, M_112, (by omega), (by exfalso; omega), (fun q9 d9 z9 o9 => by obtain ⟨v9, w9, e1, e2, e3, e4⟩ := w_112_1.out (by omega); rw [k_st_7 (by omega)]; exact kx.dig (G := d9.1) (K := d9.2) (o9 (by have h8 := dk_clN a1; omega)) m_112 f_y_113 f_pl (by omega) (w_112_2 (by omega)) e3 e4 e1 e2), (Z1X.keep Z1 m_112 (dk_dq rfl) (dk_dq rfl) (dk_dq rfl)), w_112_4, (G9X.keep G9 m_112 (dk_dq rfl)), trivial⟩ dX6_readStatement_174
                  · refine lv_tableIn (off := 134) (tgt := 198) hx hb dX6_readStatement_64 (by rw [jc_81]; decide) (by rw [jc_81]; decide) (by rw [jc_81]; decide +kernel) (dk_dq rfl) ?_
                    refine lv_aload_n hx hb dX6_readStatement_198 rfl (lv_at hl 0 rfl) ?_
                    refine lv_iconst (v := 1) hx hb dX6_readStatement_199 (by decide +kernel) ?_
                    refine dg_calli hS hA1 hA (va_runV (As := [.int 1]) (rest := []) F (c_rd_fail l g D o S 1 en n0 f_n0 (by omega) ke f_ke (by omega) (by omega) I H.size) (cwV 1 hts (bw_V wB_30 wB_31 wB_32 wB_24 wB_29) rfl rfl rfl (by decide +kernel) ⟨Nat.le_of_ble_eq_true rfl, Nat.le_of_ble_eq_true rfl⟩) (dg_preV sX_209 rfl K ST hP hS hA1 hA) rfl rfl hl.1 rfl (lv_room (Nat.le_of_ble_eq_true rfl)) dX6_readStatement_200 ⟨Nat.le_of_ble_eq_true rfl, Nat.le_of_ble_eq_true rfl⟩) (fun x_115 S_116 hw_116 H locs hP hS => ?_)
                    obtain ⟨I_116, m_116, w_116_0, -⟩ := hw_116
                    have M_116 := dg_sm.tr M_0 m_116 (dk_dq rfl) (dk_dq rfl)
                    have w_116_0 : 0 ≤ (x_115).toInt ∧ (x_115).toInt ≤ 0 := w_116_0
                    refine W.widen (k := 0) (n := 0) (Nat.le_of_ble_eq_true rfl) (Nat.le_of_ble_eq_true rfl) ?_
                    exact dg_iret hx hb hr hlocks (dk_znar2 (by omega)) hP hS ⟨I_116, M_116, (by omega), (by exfalso; omega), (fun q9 => absurd q9 (by omega)), (Z1X.keep Z1 m_116 (dk_dq rfl) (dk_dq rfl) (dk_dq rfl)), (GOX.keep GO m_116 (dk_dq rfl) (dk_dq rfl)), (G9X.keep G9 m_116 (dk_dq rfl)), trivial⟩ dX6_readStatement_203
                  · as_aux_lemma =>
                      refine lv_tableIn (off := 111) (tgt := 175) hx hb dX6_readStatement_64 (by rw [jc_81]; decide) (by rw [jc_81]; decide) (by rw [jc_81]; decide +kernel) (dk_dq rfl) ?_
                      refine lv_aload_n hx hb dX6_readStatement_175 rfl (lv_at hl 0 rfl) ?_
                      refine dg_calli hS hA1 hA (va_runV (As := []) (rest := []) F (c_rd_readOrder l g D o S en kd vl fm fo S0 d0 gd hk_gd f_gd n0 f_n0 (by omega) mi f_mi (by omega) od f_od (by omega) ke f_ke (by omega) (by omega) hkd hvl (g_o_ne qw_8_1) hfm hfo hd0 GO I H.size) (cwV 0 hts (bw_V wB_250 wB_251 wB_252 wB_24 wB_249) rfl rfl rfl (by decide +kernel) ⟨Nat.le_of_ble_eq_true rfl, Nat.le_of_ble_eq_true rfl⟩) (dg_preV sX_209 rfl K ST hP hS hA1 hA) rfl rfl hl.1 rfl (lv_room (Nat.le_of_ble_eq_true rfl)) dX6_readStatement_176 ⟨Nat.le_of_ble_eq_true rfl, Nat.le_of_ble_eq_true rfl⟩) (fun x_117 S_118 hw_118 H locs hP hS => ?_)
                      obtain ⟨I_118, m_118, w_118_0, w_118_1, w_118_2, w_118_3, w_118_4, w_118_5, -⟩ := hw_118
                      have M_118 := dg_sm.tr M_0 m_118 (dk_dq rfl) (dk_dq rfl)
                      have w_118_0 : 0 ≤ (x_117).toInt ∧ (x_117).toInt ≤ 1 := w_118_0
                      replace w_118_1 : m_hid ((x_117).toInt = 1 → ∃ u9 v9 w9 : Int32, u9.toInt = (vl ((n0 : Int32).toNatClampNeg + 3)).toInt ∧ v9.toInt = (vl ((n0 : Int32).toNatClampNeg + 5)).toInt ∧ w9.toInt = (vl ((n0 : Int32).toNatClampNeg + 7)).toInt ∧ S_118.2.1 (gd + 6) = upd (S.2.1 (gd + 6)) (od : Int32).toNatClampNeg u9 ∧ S_118.2.1 (gd + 7) = upd (S.2.1 (gd + 7)) (od : Int32).toNatClampNeg v9 ∧ S_118.2.1 (gd + 8) = upd (S.2.1 (gd + 8)) (od : Int32).toNatClampNeg w9) := w_118_1
                      obtain ⟨y_119, f_y_119, w_118_2⟩ := w_118_2
                      have w_118_2 : (x_117).toInt = 1 → (y_119).toInt = (od).toInt + 1 := w_118_2
                      have b_y_119 : 0 ≤ (y_119).toInt ∧ (y_119).toInt ≤ 5 := dg_I.intb (lo := 0) (hi := 5) I_118 (rX_0 gd hk_gd) (by decide +kernel) f_y_119
                      replace w_118_3 : (x_117).toInt = 1 → ∃ v9 : Int32, v9.toInt = (vl ((n0 : Int32).toNatClampNeg + 1)).toInt ∧ S_118.2.1 (gd + 5) = upd fo (od : Int32).toNatClampNeg v9 := w_118_3
                      obtain ⟨y_120, f_y_120, w_118_4⟩ := w_118_4
                      have w_118_4 : (y_120).toInt ≤ (en).toInt ∧ g_ans x_117 (if (od).toInt = 5 then none else ((y_new kd vl (y_nm fm (mi : Int32).toNatClampNeg) (y_nm fo (od : Int32).toNatClampNeg) ((n0 : Int32).toNatClampNeg + 1)).bind fun k1 => (y_own kd vl 5 k1).bind fun k2 => (y_num kd vl 0 9 k2).bind fun k3 => (y_own kd vl 10 k3).bind fun k4 => (y_num kd vl 1 9 k4).bind fun k5 => (y_own kd vl 11 k5).bind (y_num kd vl 0 999))) (y_120 : Int32).toNatClampNeg := w_118_4
                      have b_y_120 : 0 ≤ (y_120).toInt ∧ (y_120).toInt ≤ 1600 := dg_I.intb (lo := 0) (hi := 1600) I_118 sX_209 (by decide +kernel) f_y_120
                      refine W.widen (k := 0) (n := 0) (Nat.le_of_ble_eq_true rfl) (Nat.le_of_ble_eq_true rfl) ?_
                      exact dg_iret hx hb hr hlocks (dk_znar2 (by omega)) hP hS ⟨I_118, M_118, (by omega), (by exfalso; omega), (fun q9 d9 z9 o9 => by clear w_118_3; obtain ⟨u9, v9, w9, e1, e2, e3, e4, e5, e6⟩ := w_118_1.out (by omega); rw [k_st_9 (by omega), ← e1, ← e2, ← e3]; exact kx.order (G := d9.1) (K := d9.2) (o9 (by have h8 := dk_clN a1; omega)) m_118 f_y_119 f_od (by omega) (w_118_2 (by omega)) e4 e5 e6), (Z1X.keep Z1 m_118 (dk_dq rfl) (dk_dq rfl) (dk_dq rfl)), w_118_5, (G9X.keep G9 m_118 (dk_dq rfl)), trivial⟩ dX6_readStatement_179
                  · refine lv_tableIn (off := 134) (tgt := 198) hx hb dX6_readStatement_64 (by rw [jc_81]; decide) (by rw [jc_81]; decide) (by rw [jc_81]; decide +kernel) (dk_dq rfl) ?_
                    refine lv_aload_n hx hb dX6_readStatement_198 rfl (lv_at hl 0 rfl) ?_
                    refine lv_iconst (v := 1) hx hb dX6_readStatement_199 (by decide +kernel) ?_
                    refine dg_calli hS hA1 hA (va_runV (As := [.int 1]) (rest := []) F (c_rd_fail l g D o S 1 en n0 f_n0 (by omega) ke f_ke (by omega) (by omega) I H.size) (cwV 1 hts (bw_V wB_30 wB_31 wB_32 wB_24 wB_29) rfl rfl rfl (by decide +kernel) ⟨Nat.le_of_ble_eq_true rfl, Nat.le_of_ble_eq_true rfl⟩) (dg_preV sX_209 rfl K ST hP hS hA1 hA) rfl rfl hl.1 rfl (lv_room (Nat.le_of_ble_eq_true rfl)) dX6_readStatement_200 ⟨Nat.le_of_ble_eq_true rfl, Nat.le_of_ble_eq_true rfl⟩) (fun x_121 S_122 hw_122 H locs hP hS => ?_)
                    obtain ⟨I_122, m_122, w_122_0, -⟩ := hw_122
                    have M_122 := dg_sm.tr M_0 m_122 (dk_dq rfl) (dk_dq rfl)
                    have w_122_0 : 0 ≤ (x_121).toInt ∧ (x_121).toInt ≤ 0 := w_122_0
                    refine W.widen (k := 0) (n := 0) (Nat.le_of_ble_eq_true rfl) (Nat.le_of_ble_eq_true rfl) ?_
                    exact dg_iret hx hb hr hlocks (dk_znar2 (by omega)) hP hS ⟨I_122, M_122, (by omega), (by exfalso; omega), (fun q9 => absurd q9 (by omega)), (Z1X.keep Z1 m_122 (dk_dq rfl) (dk_dq rfl) (dk_dq rfl)), (GOX.keep GO m_122 (dk_dq rfl) (dk_dq rfl)), (G9X.keep G9 m_122 (dk_dq rfl)), trivial⟩ dX6_readStatement_203
                  · refine lv_tableIn (off := 134) (tgt := 198) hx hb dX6_readStatement_64 (by rw [jc_81]; decide) (by rw [jc_81]; decide) (by rw [jc_81]; decide +kernel) (dk_dq rfl) ?_
                    refine lv_aload_n hx hb dX6_readStatement_198 rfl (lv_at hl 0 rfl) ?_
                    refine lv_iconst (v := 1) hx hb dX6_readStatement_199 (by decide +kernel) ?_
                    refine dg_calli hS hA1 hA (va_runV (As := [.int 1]) (rest := []) F (c_rd_fail l g D o S 1 en n0 f_n0 (by omega) ke f_ke (by omega) (by omega) I H.size) (cwV 1 hts (bw_V wB_30 wB_31 wB_32 wB_24 wB_29) rfl rfl rfl (by decide +kernel) ⟨Nat.le_of_ble_eq_true rfl, Nat.le_of_ble_eq_true rfl⟩) (dg_preV sX_209 rfl K ST hP hS hA1 hA) rfl rfl hl.1 rfl (lv_room (Nat.le_of_ble_eq_true rfl)) dX6_readStatement_200 ⟨Nat.le_of_ble_eq_true rfl, Nat.le_of_ble_eq_true rfl⟩) (fun x_123 S_124 hw_124 H locs hP hS => ?_)
                    obtain ⟨I_124, m_124, w_124_0, -⟩ := hw_124
                    have M_124 := dg_sm.tr M_0 m_124 (dk_dq rfl) (dk_dq rfl)
                    have w_124_0 : 0 ≤ (x_123).toInt ∧ (x_123).toInt ≤ 0 := w_124_0
                    refine W.widen (k := 0) (n := 0) (Nat.le_of_ble_eq_true rfl) (Nat.le_of_ble_eq_true rfl) ?_
                    exact dg_iret hx hb hr hlocks (dk_znar2 (by omega)) hP hS ⟨I_124, M_124, (by omega), (by exfalso; omega), (fun q9 => absurd q9 (by omega)), (Z1X.keep Z1 m_124 (dk_dq rfl) (dk_dq rfl) (dk_dq rfl)), (GOX.keep GO m_124 (dk_dq rfl) (dk_dq rfl)), (G9X.keep G9 m_124 (dk_dq rfl)), trivial⟩ dX6_readStatement_203
                  · as_aux_lemma =>
                      refine lv_tableIn (off := 116) (tgt := 180) hx hb dX6_readStatement_64 (by rw [jc_81]; decide) (by rw [jc_81]; decide) (by rw [jc_81]; decide +kernel) (dk_dq rfl) ?_
                      refine lv_aload_n hx hb dX6_readStatement_180 rfl (lv_at hl 0 rfl) ?_
                      refine lv_iconst (v := 0) hx hb dX6_readStatement_181 (by decide +kernel) ?_
                      have hz_125 : (0 : Int32).toInt = 0 := by decide +kernel
                      refine dg_calli hS hA1 hA (va_runV (As := [.int 0]) (rest := []) F (c_rd_readRule l g D o S 0 (by decide +kernel) en kd vl fr fe S0 d0 gd hk_gd f_gd n0 f_n0 (by omega) sc f_sc (by omega) ke f_ke (by omega) (by omega) hkd hvl (by omega) (g_o_ne qw_8_1) hfr hfe hd0 GO G9 I H.size) (cwV 1 hts (bw_V wB_254 wB_255 wB_256 wB_24 wB_253) rfl rfl rfl (by decide +kernel) ⟨Nat.le_of_ble_eq_true rfl, Nat.le_of_ble_eq_true rfl⟩) (dg_preV sX_209 rfl K ST hP hS hA1 hA) rfl rfl hl.1 rfl (lv_room (Nat.le_of_ble_eq_true rfl)) dX6_readStatement_182 ⟨Nat.le_of_ble_eq_true rfl, Nat.le_of_ble_eq_true rfl⟩) (fun x_126 S_127 hw_127 H locs hP hS => ?_)
                      obtain ⟨I_127, m_127, w_127_0, w_127_1, w_127_2, w_127_3, w_127_4, w_127_5, w_127_6, -⟩ := hw_127
                      have M_127 := dg_sm.tr M_0 m_127 (dk_dq rfl) (dk_dq rfl)
                      have hz_128 : (0 : Int32).toInt = 0 := by decide +kernel
                      have w_127_0 : 0 ≤ (x_126).toInt ∧ (x_126).toInt ≤ 1 := w_127_0
                      replace w_127_1 : (x_126).toInt = 1 → ∃ c8 c9 : Int32, c8.toInt < c9.toInt ∧ S_127.2.1 (gd + 10) = upd fr ((0 : Int32) : Int32).toNatClampNeg c8 ∧ S_127.2.1 (gd + 11) = upd fe ((0 : Int32) : Int32).toNatClampNeg c9 := w_127_1
                      replace w_127_2 : m_hid ((x_126).toInt = 1 → q_as gd S S_127 sc (d_rule kd vl ((0 : Int32)).toInt ((n0 : Int32).toNatClampNeg + 1))) := w_127_2
                      replace w_127_3 : m_hid ((x_126).toInt = 1 → ∃ c9 : Int32, S_127.1 209 7 = .int c9 ∧ S_127.2.1 (gd + 10) = upd fr ((0 : Int32) : Int32).toNatClampNeg sc ∧ S_127.2.1 (gd + 11) = upd fe ((0 : Int32) : Int32).toNatClampNeg c9) := w_127_3
                      obtain ⟨y_129, y_130, f_y_129, f_y_130, w_127_4⟩ := w_127_4
                      have w_127_4 : ((y_129).toInt ≤ (en).toInt ∧ ((x_126).toInt = 1 → ((sc).toInt + 1 ≤ (y_130).toInt ∧ (y_130).toInt - (sc).toInt ≤ (y_129).toInt - (n0).toInt))) ∧ g_ans x_126 (if (fr ((0 : Int32) : Int32).toNatClampNeg).toInt < (fe ((0 : Int32) : Int32).toNatClampNeg).toInt then none else y_rule kd vl ((0 : Int32)).toInt ((n0 : Int32).toNatClampNeg + 1)) (y_129 : Int32).toNatClampNeg := w_127_4
                      have b_y_129 : 0 ≤ (y_129).toInt ∧ (y_129).toInt ≤ 1600 := dg_I.intb (lo := 0) (hi := 1600) I_127 sX_209 (by decide +kernel) f_y_129
                      have b_y_130 : 0 ≤ (y_130).toInt ∧ (y_130).toInt ≤ 1600 := dg_I.intb (lo := 0) (hi := 1600) I_127 sX_209 (by decide +kernel) f_y_130
                      refine W.widen (k := 0) (n := 0) (Nat.le_of_ble_eq_true rfl) (Nat.le_of_ble_eq_true rfl) ?_
                      exact dg_iret hx hb hr hlocks (dk_znar2 (by omega)) hP hS ⟨I_127, M_127, (by omega), (by exfalso; omega), (fun q9 d9 z9 o9 => by clear w_127_1; obtain ⟨c9, g1, g2, g3⟩ := w_127_3.out (by omega); have q1 := w_127_2.out (by omega); rw [show (0 : Int32).toInt = (vl (n0 : Int32).toNatClampNeg).toInt - 12 from by have l9 : (0 : Int32).toInt = 0 := (by decide +kernel); omega] at q1; rw [k_st_r (by omega)]; exact kx.rule (n := 0) (G := d9.1) (K := d9.2) (o9 (by have h8 := dk_clN a1; omega)) m_127 (dk_dq rfl) f_sc q1 g1 (by rw [g2, hfr, show (0 : Int32).toNatClampNeg = 0 from by decide +kernel]) (by rw [g3, hfe, show (0 : Int32).toNatClampNeg = 0 from by decide +kernel]) (by omega)), (Z1X.keep Z1 m_127 (dk_dq rfl) (dk_dq rfl) (dk_dq rfl)), w_127_5, w_127_6, trivial⟩ dX6_readStatement_185
                  · as_aux_lemma =>
                      refine lv_tableIn (off := 122) (tgt := 186) hx hb dX6_readStatement_64 (by rw [jc_81]; decide) (by rw [jc_81]; decide) (by rw [jc_81]; decide +kernel) (dk_dq rfl) ?_
                      refine lv_aload_n hx hb dX6_readStatement_186 rfl (lv_at hl 0 rfl) ?_
                      refine lv_iconst (v := 1) hx hb dX6_readStatement_187 (by decide +kernel) ?_
                      have hz_131 : (1 : Int32).toInt = 1 := by decide +kernel
                      refine dg_calli hS hA1 hA (va_runV (As := [.int 1]) (rest := []) F (c_rd_readRule l g D o S 1 (by decide +kernel) en kd vl fr fe S0 d0 gd hk_gd f_gd n0 f_n0 (by omega) sc f_sc (by omega) ke f_ke (by omega) (by omega) hkd hvl (by omega) (g_o_ne qw_8_1) hfr hfe hd0 GO G9 I H.size) (cwV 1 hts (bw_V wB_254 wB_255 wB_256 wB_24 wB_253) rfl rfl rfl (by decide +kernel) ⟨Nat.le_of_ble_eq_true rfl, Nat.le_of_ble_eq_true rfl⟩) (dg_preV sX_209 rfl K ST hP hS hA1 hA) rfl rfl hl.1 rfl (lv_room (Nat.le_of_ble_eq_true rfl)) dX6_readStatement_188 ⟨Nat.le_of_ble_eq_true rfl, Nat.le_of_ble_eq_true rfl⟩) (fun x_132 S_133 hw_133 H locs hP hS => ?_)
                      obtain ⟨I_133, m_133, w_133_0, w_133_1, w_133_2, w_133_3, w_133_4, w_133_5, w_133_6, -⟩ := hw_133
                      have M_133 := dg_sm.tr M_0 m_133 (dk_dq rfl) (dk_dq rfl)
                      have hz_134 : (1 : Int32).toInt = 1 := by decide +kernel
                      have w_133_0 : 0 ≤ (x_132).toInt ∧ (x_132).toInt ≤ 1 := w_133_0
                      replace w_133_1 : (x_132).toInt = 1 → ∃ c8 c9 : Int32, c8.toInt < c9.toInt ∧ S_133.2.1 (gd + 10) = upd fr ((1 : Int32) : Int32).toNatClampNeg c8 ∧ S_133.2.1 (gd + 11) = upd fe ((1 : Int32) : Int32).toNatClampNeg c9 := w_133_1
                      replace w_133_2 : m_hid ((x_132).toInt = 1 → q_as gd S S_133 sc (d_rule kd vl ((1 : Int32)).toInt ((n0 : Int32).toNatClampNeg + 1))) := w_133_2
                      replace w_133_3 : m_hid ((x_132).toInt = 1 → ∃ c9 : Int32, S_133.1 209 7 = .int c9 ∧ S_133.2.1 (gd + 10) = upd fr ((1 : Int32) : Int32).toNatClampNeg sc ∧ S_133.2.1 (gd + 11) = upd fe ((1 : Int32) : Int32).toNatClampNeg c9) := w_133_3
                      obtain ⟨y_135, y_136, f_y_135, f_y_136, w_133_4⟩ := w_133_4
                      have w_133_4 : ((y_135).toInt ≤ (en).toInt ∧ ((x_132).toInt = 1 → ((sc).toInt + 1 ≤ (y_136).toInt ∧ (y_136).toInt - (sc).toInt ≤ (y_135).toInt - (n0).toInt))) ∧ g_ans x_132 (if (fr ((1 : Int32) : Int32).toNatClampNeg).toInt < (fe ((1 : Int32) : Int32).toNatClampNeg).toInt then none else y_rule kd vl ((1 : Int32)).toInt ((n0 : Int32).toNatClampNeg + 1)) (y_135 : Int32).toNatClampNeg := w_133_4
                      have b_y_135 : 0 ≤ (y_135).toInt ∧ (y_135).toInt ≤ 1600 := dg_I.intb (lo := 0) (hi := 1600) I_133 sX_209 (by decide +kernel) f_y_135
                      have b_y_136 : 0 ≤ (y_136).toInt ∧ (y_136).toInt ≤ 1600 := dg_I.intb (lo := 0) (hi := 1600) I_133 sX_209 (by decide +kernel) f_y_136
                      refine W.widen (k := 0) (n := 0) (Nat.le_of_ble_eq_true rfl) (Nat.le_of_ble_eq_true rfl) ?_
                      exact dg_iret hx hb hr hlocks (dk_znar2 (by omega)) hP hS ⟨I_133, M_133, (by omega), (by exfalso; omega), (fun q9 d9 z9 o9 => by clear w_133_1; obtain ⟨c9, g1, g2, g3⟩ := w_133_3.out (by omega); have q1 := w_133_2.out (by omega); rw [show (1 : Int32).toInt = (vl (n0 : Int32).toNatClampNeg).toInt - 12 from by have l9 : (1 : Int32).toInt = 1 := (by decide +kernel); omega] at q1; rw [k_st_r (by omega)]; exact kx.rule (n := 1) (G := d9.1) (K := d9.2) (o9 (by have h8 := dk_clN a1; omega)) m_133 (dk_dq rfl) f_sc q1 g1 (by rw [g2, hfr, show (1 : Int32).toNatClampNeg = 1 from by decide +kernel]) (by rw [g3, hfe, show (1 : Int32).toNatClampNeg = 1 from by decide +kernel]) (by omega)), (Z1X.keep Z1 m_133 (dk_dq rfl) (dk_dq rfl) (dk_dq rfl)), w_133_5, w_133_6, trivial⟩ dX6_readStatement_191
                  · as_aux_lemma =>
                      refine lv_tableIn (off := 128) (tgt := 192) hx hb dX6_readStatement_64 (by rw [jc_81]; decide) (by rw [jc_81]; decide) (by rw [jc_81]; decide +kernel) (dk_dq rfl) ?_
                      refine lv_aload_n hx hb dX6_readStatement_192 rfl (lv_at hl 0 rfl) ?_
                      refine lv_iconst (v := 2) hx hb dX6_readStatement_193 (by decide +kernel) ?_
                      have hz_137 : (2 : Int32).toInt = 2 := by decide +kernel
                      refine dg_calli hS hA1 hA (va_runV (As := [.int 2]) (rest := []) F (c_rd_readRule l g D o S 2 (by decide +kernel) en kd vl fr fe S0 d0 gd hk_gd f_gd n0 f_n0 (by omega) sc f_sc (by omega) ke f_ke (by omega) (by omega) hkd hvl (by omega) (g_o_ne qw_8_1) hfr hfe hd0 GO G9 I H.size) (cwV 1 hts (bw_V wB_254 wB_255 wB_256 wB_24 wB_253) rfl rfl rfl (by decide +kernel) ⟨Nat.le_of_ble_eq_true rfl, Nat.le_of_ble_eq_true rfl⟩) (dg_preV sX_209 rfl K ST hP hS hA1 hA) rfl rfl hl.1 rfl (lv_room (Nat.le_of_ble_eq_true rfl)) dX6_readStatement_194 ⟨Nat.le_of_ble_eq_true rfl, Nat.le_of_ble_eq_true rfl⟩) (fun x_138 S_139 hw_139 H locs hP hS => ?_)
                      obtain ⟨I_139, m_139, w_139_0, w_139_1, w_139_2, w_139_3, w_139_4, w_139_5, w_139_6, -⟩ := hw_139
                      have M_139 := dg_sm.tr M_0 m_139 (dk_dq rfl) (dk_dq rfl)
                      have hz_140 : (2 : Int32).toInt = 2 := by decide +kernel
                      have w_139_0 : 0 ≤ (x_138).toInt ∧ (x_138).toInt ≤ 1 := w_139_0
                      replace w_139_1 : (x_138).toInt = 1 → ∃ c8 c9 : Int32, c8.toInt < c9.toInt ∧ S_139.2.1 (gd + 10) = upd fr ((2 : Int32) : Int32).toNatClampNeg c8 ∧ S_139.2.1 (gd + 11) = upd fe ((2 : Int32) : Int32).toNatClampNeg c9 := w_139_1
                      replace w_139_2 : m_hid ((x_138).toInt = 1 → q_as gd S S_139 sc (d_rule kd vl ((2 : Int32)).toInt ((n0 : Int32).toNatClampNeg + 1))) := w_139_2
                      replace w_139_3 : m_hid ((x_138).toInt = 1 → ∃ c9 : Int32, S_139.1 209 7 = .int c9 ∧ S_139.2.1 (gd + 10) = upd fr ((2 : Int32) : Int32).toNatClampNeg sc ∧ S_139.2.1 (gd + 11) = upd fe ((2 : Int32) : Int32).toNatClampNeg c9) := w_139_3
                      obtain ⟨y_141, y_142, f_y_141, f_y_142, w_139_4⟩ := w_139_4
                      have w_139_4 : ((y_141).toInt ≤ (en).toInt ∧ ((x_138).toInt = 1 → ((sc).toInt + 1 ≤ (y_142).toInt ∧ (y_142).toInt - (sc).toInt ≤ (y_141).toInt - (n0).toInt))) ∧ g_ans x_138 (if (fr ((2 : Int32) : Int32).toNatClampNeg).toInt < (fe ((2 : Int32) : Int32).toNatClampNeg).toInt then none else y_rule kd vl ((2 : Int32)).toInt ((n0 : Int32).toNatClampNeg + 1)) (y_141 : Int32).toNatClampNeg := w_139_4
                      have b_y_141 : 0 ≤ (y_141).toInt ∧ (y_141).toInt ≤ 1600 := dg_I.intb (lo := 0) (hi := 1600) I_139 sX_209 (by decide +kernel) f_y_141
                      have b_y_142 : 0 ≤ (y_142).toInt ∧ (y_142).toInt ≤ 1600 := dg_I.intb (lo := 0) (hi := 1600) I_139 sX_209 (by decide +kernel) f_y_142
                      refine W.widen (k := 0) (n := 0) (Nat.le_of_ble_eq_true rfl) (Nat.le_of_ble_eq_true rfl) ?_
                      exact dg_iret hx hb hr hlocks (dk_znar2 (by omega)) hP hS ⟨I_139, M_139, (by omega), (by exfalso; omega), (fun q9 d9 z9 o9 => by clear w_139_1; obtain ⟨c9, g1, g2, g3⟩ := w_139_3.out (by omega); have q1 := w_139_2.out (by omega); rw [show (2 : Int32).toInt = (vl (n0 : Int32).toNatClampNeg).toInt - 12 from by have l9 : (2 : Int32).toInt = 2 := (by decide +kernel); omega] at q1; rw [k_st_r (by omega)]; exact kx.rule (n := 2) (G := d9.1) (K := d9.2) (o9 (by have h8 := dk_clN a1; omega)) m_139 (dk_dq rfl) f_sc q1 g1 (by rw [g2, hfr, show (2 : Int32).toNatClampNeg = 2 from by decide +kernel]) (by rw [g3, hfe, show (2 : Int32).toNatClampNeg = 2 from by decide +kernel]) (by omega)), (Z1X.keep Z1 m_139 (dk_dq rfl) (dk_dq rfl) (dk_dq rfl)), w_139_5, w_139_6, trivial⟩ dX6_readStatement_197
              · have jc_78 := dk_neqc (k := 1) (by decide +kernel) c_78
                have qw_8_1 : g_o kd vl 0 (n0 : Int32).toNatClampNeg = false := by have h9 := g_iff_f w_8_1 (by omega); rw [show (0 : Int32).toInt = 0 from by decide +kernel] at h9; exact h9
                have qlw_8_1 : ¬ ((kd (n0 : Int32).toNatClampNeg).toInt = 1 ∧ (vl (n0 : Int32).toNatClampNeg).toInt = 0) := by have h8 := g_o_iff (kd := kd) (vl := vl) (c := 0) (k := (n0 : Int32).toNatClampNeg); rw [qw_8_1] at h8; simpa using h8
                refine lv_aload_n hx hb dX6_readStatement_46 rfl (lv_at hl 0 rfl) ?_
                refine lv_iconst (v := 1) hx hb dX6_readStatement_47 (by decide +kernel) ?_
                refine dg_calli hS hA1 hA (va_runV (As := [.int 1]) (rest := []) F (c_rd_fail l g D o S 1 en n0 f_n0 (by omega) ke f_ke (by omega) (by omega) I H.size) (cwV 1 hts (bw_V wB_30 wB_31 wB_32 wB_24 wB_29) rfl rfl rfl (by decide +kernel) ⟨Nat.le_of_ble_eq_true rfl, Nat.le_of_ble_eq_true rfl⟩) (dg_preV sX_209 rfl K ST hP hS hA1 hA) rfl rfl hl.1 rfl (lv_room (Nat.le_of_ble_eq_true rfl)) dX6_readStatement_48 ⟨Nat.le_of_ble_eq_true rfl, Nat.le_of_ble_eq_true rfl⟩) (fun x_143 S_144 hw_144 H locs hP hS => ?_)
                obtain ⟨I_144, m_144, w_144_0, -⟩ := hw_144
                have M_144 := dg_sm.tr M_0 m_144 (dk_dq rfl) (dk_dq rfl)
                have w_144_0 : 0 ≤ (x_143).toInt ∧ (x_143).toInt ≤ 0 := w_144_0
                refine W.widen (k := 0) (n := 0) (Nat.le_of_ble_eq_true rfl) (Nat.le_of_ble_eq_true rfl) ?_
                exact dg_iret hx hb hr hlocks (dk_znar2 (by omega)) hP hS ⟨I_144, M_144, (by omega), ⟨cx, ry, mi, pl, od, n0, sc, ((m_144.1 gd 0 _ (rX_0 gd hk_gd) (dk_dq rfl)).trans f_cx), ((m_144.1 gd 1 _ (rX_0 gd hk_gd) (dk_dq rfl)).trans f_ry), ((m_144.1 gd 6 _ (rX_0 gd hk_gd) (dk_dq rfl)).trans f_mi), ((m_144.1 gd 8 _ (rX_0 gd hk_gd) (dk_dq rfl)).trans f_pl), ((m_144.1 gd 11 _ (rX_0 gd hk_gd) (dk_dq rfl)).trans f_od), ((m_144.1 209 4 _ sX_209 (dk_dq rfl)).trans f_n0), ((m_144.1 209 7 _ sX_209 (dk_dq rfl)).trans f_sc), by omega, fun q9 => absurd q9 (by omega), (fun _ => by omega), fun _ => by rw [(m_144.2 (gd + 2) _ (rX_2 gd hk_gd) (dk_dq rfl)).1, hfm, (m_144.2 (gd + 5) _ (rX_5 gd hk_gd) (dk_dq rfl)).1, hfo, (m_144.2 (gd + 10) _ (rX_10 gd hk_gd) (dk_dq rfl)).1, hfr, (m_144.2 (gd + 11) _ (rX_11 gd hk_gd) (dk_dq rfl)).1, hfe]; exact y_ok.no (by omega) (by first | exact y_one_k (by omega) | exact y_one_0 (by have h8 := dk_clN a1; omega) (by omega) | exact y_one_no (by have h8 := dk_clN a1; omega) (by omega))⟩, (fun q9 => absurd q9 (by omega)), (Z1X.keep Z1 m_144 (dk_dq rfl) (dk_dq rfl) (dk_dq rfl)), (GOX.keep GO m_144 (dk_dq rfl) (dk_dq rfl)), (G9X.keep G9 m_144 (dk_dq rfl)), trivial⟩ dX6_readStatement_51
  · have jc_1 := dk_eqc (k := 80) (by decide +kernel) c_1
    refine lv_aload_n hx hb dX6_readStatement_6 rfl (lv_at hl 0 rfl) ?_
    refine lv_bipush (v := 6) hx hb dX6_readStatement_7 (by decide +kernel) ?_
    refine dg_calli hS hA1 hA (va_runV (As := [.int 6]) (rest := []) F (c_rd_fail l g D o S 6 en n0 f_n0 (by omega) ke f_ke (by omega) (by omega) I s.heap.size) (cwV 1 hts (bw_V wB_30 wB_31 wB_32 wB_24 wB_29) rfl rfl rfl (by decide +kernel) ⟨Nat.le_of_ble_eq_true rfl, Nat.le_of_ble_eq_true rfl⟩) (dg_preV sX_209 rfl K ST hP hS hA1 hA) rfl rfl hl.1 rfl (lv_room (Nat.le_of_ble_eq_true rfl)) dX6_readStatement_9 ⟨Nat.le_of_ble_eq_true rfl, Nat.le_of_ble_eq_true rfl⟩) (fun x_145 S_146 hw_146 H locs hP hS => ?_)
    obtain ⟨I_146, m_146, w_146_0, -⟩ := hw_146
    have M_146 := dg_sm.tr M_0 m_146 (dk_dq rfl) (dk_dq rfl)
    have w_146_0 : 0 ≤ (x_145).toInt ∧ (x_145).toInt ≤ 0 := w_146_0
    refine W.widen (k := 0) (n := 0) (Nat.le_of_ble_eq_true rfl) (Nat.le_of_ble_eq_true rfl) ?_
    exact dg_iret hx hb hr hlocks (dk_znar2 (by omega)) hP hS ⟨I_146, M_146, (by omega), ⟨cx, ry, mi, pl, od, n0, sc, ((m_146.1 gd 0 _ (rX_0 gd hk_gd) (dk_dq rfl)).trans f_cx), ((m_146.1 gd 1 _ (rX_0 gd hk_gd) (dk_dq rfl)).trans f_ry), ((m_146.1 gd 6 _ (rX_0 gd hk_gd) (dk_dq rfl)).trans f_mi), ((m_146.1 gd 8 _ (rX_0 gd hk_gd) (dk_dq rfl)).trans f_pl), ((m_146.1 gd 11 _ (rX_0 gd hk_gd) (dk_dq rfl)).trans f_od), ((m_146.1 209 4 _ sX_209 (dk_dq rfl)).trans f_n0), ((m_146.1 209 7 _ sX_209 (dk_dq rfl)).trans f_sc), by omega, fun q9 => absurd q9 (by omega), fun _ => by omega, fun q9 => absurd (by omega) q9⟩, (fun q9 => absurd q9 (by omega)), (Z1X.keep Z1 m_146 (dk_dq rfl) (dk_dq rfl) (dk_dq rfl)), (GOX.keep GO m_146 (dk_dq rfl) (dk_dq rfl)), (G9X.keep G9 m_146 (dk_dq rfl)), trivial⟩ dX6_readStatement_12
