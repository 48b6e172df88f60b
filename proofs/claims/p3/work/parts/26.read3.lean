/-! 26.read3.lean.txt -/
theorem dX2_clear_0 : decode cX2_clear 0 = .ok (.aload_n 0, 1) := by decide +kernel
theorem dX2_clear_1 : decode cX2_clear 1 = .ok (.iconst 0, 1) := by decide +kernel
theorem dX2_clear_2 : decode cX2_clear 2 = .ok (.putfield 49, 3) := by decide +kernel
theorem dX2_clear_5 : decode cX2_clear 5 = .ok (.aload_n 0, 1) := by decide +kernel
theorem dX2_clear_6 : decode cX2_clear 6 = .ok (.iconst 0, 1) := by decide +kernel
theorem dX2_clear_7 : decode cX2_clear 7 = .ok (.putfield 52, 3) := by decide +kernel
theorem dX2_clear_10 : decode cX2_clear 10 = .ok (.aload_n 0, 1) := by decide +kernel
theorem dX2_clear_11 : decode cX2_clear 11 = .ok (.iconst (-1), 1) := by decide +kernel
theorem dX2_clear_12 : decode cX2_clear 12 = .ok (.putfield 9, 3) := by decide +kernel
theorem dX2_clear_15 : decode cX2_clear 15 = .ok (.aload_n 0, 1) := by decide +kernel
theorem dX2_clear_16 : decode cX2_clear 16 = .ok (.iconst 3, 1) := by decide +kernel
theorem dX2_clear_17 : decode cX2_clear 17 = .ok (.putfield 55, 3) := by decide +kernel
theorem dX2_clear_20 : decode cX2_clear 20 = .ok (.aload_n 0, 1) := by decide +kernel
theorem dX2_clear_21 : decode cX2_clear 21 = .ok (.iconst 0, 1) := by decide +kernel
theorem dX2_clear_22 : decode cX2_clear 22 = .ok (.putfield 58, 3) := by decide +kernel
theorem dX2_clear_25 : decode cX2_clear 25 = .ok (.aload_n 0, 1) := by decide +kernel
theorem dX2_clear_26 : decode cX2_clear 26 = .ok (.getfield 15, 3) := by decide +kernel
theorem dX2_clear_29 : decode cX2_clear 29 = .ok (.iconst 5, 1) := by decide +kernel
theorem dX2_clear_30 : decode cX2_clear 30 = .ok (.invokestatic 61, 3) := by decide +kernel
theorem dX2_clear_33 : decode cX2_clear 33 = .ok (.aload_n 0, 1) := by decide +kernel
theorem dX2_clear_34 : decode cX2_clear 34 = .ok (.iconst 0, 1) := by decide +kernel
theorem dX2_clear_35 : decode cX2_clear 35 = .ok (.putfield 67, 3) := by decide +kernel
theorem dX2_clear_38 : decode cX2_clear 38 = .ok (.aload_n 0, 1) := by decide +kernel
theorem dX2_clear_39 : decode cX2_clear 39 = .ok (.iconst 0, 1) := by decide +kernel
theorem dX2_clear_40 : decode cX2_clear 40 = .ok (.putfield 70, 3) := by decide +kernel
theorem dX2_clear_43 : decode cX2_clear 43 = .ok (.aload_n 0, 1) := by decide +kernel
theorem dX2_clear_44 : decode cX2_clear 44 = .ok (.iconst 0, 1) := by decide +kernel
theorem dX2_clear_45 : decode cX2_clear 45 = .ok (.putfield 73, 3) := by decide +kernel
theorem dX2_clear_48 : decode cX2_clear 48 = .ok (.aload_n 0, 1) := by decide +kernel
theorem dX2_clear_49 : decode cX2_clear 49 = .ok (.getfield 43, 3) := by decide +kernel
theorem dX2_clear_52 : decode cX2_clear 52 = .ok (.iconst 0, 1) := by decide +kernel
theorem dX2_clear_53 : decode cX2_clear 53 = .ok (.invokestatic 61, 3) := by decide +kernel
theorem dX2_clear_56 : decode cX2_clear 56 = .ok (.aload_n 0, 1) := by decide +kernel
theorem dX2_clear_57 : decode cX2_clear 57 = .ok (.getfield 46, 3) := by decide +kernel
theorem dX2_clear_60 : decode cX2_clear 60 = .ok (.iconst 0, 1) := by decide +kernel
theorem dX2_clear_61 : decode cX2_clear 61 = .ok (.invokestatic 61, 3) := by decide +kernel
theorem dX2_clear_64 : decode cX2_clear 64 = .ok (.return_, 1) := by decide +kernel
theorem dX6_readStatement_0 : decode cX6_readStatement 0 = .ok (.iload_n 1, 1) := by decide +kernel
theorem dX6_readStatement_1 : decode cX6_readStatement 1 = .ok (.bipush 80, 2) := by decide +kernel
theorem dX6_readStatement_3 : decode cX6_readStatement 3 = .ok (.if_icmp .ne 10, 3) := by decide +kernel
theorem dX6_readStatement_6 : decode cX6_readStatement 6 = .ok (.aload_n 0, 1) := by decide +kernel
theorem dX6_readStatement_7 : decode cX6_readStatement 7 = .ok (.bipush 6, 2) := by decide +kernel
theorem dX6_readStatement_9 : decode cX6_readStatement 9 = .ok (.invokevirtual 55, 3) := by decide +kernel
theorem dX6_readStatement_12 : decode cX6_readStatement 12 = .ok (.ireturn, 1) := by decide +kernel
theorem dX6_readStatement_13 : decode cX6_readStatement 13 = .ok (.aload_n 0, 1) := by decide +kernel
theorem dX6_readStatement_14 : decode cX6_readStatement 14 = .ok (.getfield 18, 3) := by decide +kernel
theorem dX6_readStatement_17 : decode cX6_readStatement 17 = .ok (.getfield 44, 3) := by decide +kernel
theorem dX6_readStatement_20 : decode cX6_readStatement 20 = .ok (.aload_n 0, 1) := by decide +kernel
theorem dX6_readStatement_21 : decode cX6_readStatement 21 = .ok (.getfield 34, 3) := by decide +kernel
theorem dX6_readStatement_24 : decode cX6_readStatement 24 = .ok (.iaload, 1) := by decide +kernel
theorem dX6_readStatement_25 : decode cX6_readStatement 25 = .ok (.iconst 1, 1) := by decide +kernel
theorem dX6_readStatement_26 : decode cX6_readStatement 26 = .ok (.if_icmp .ne 20, 3) := by decide +kernel
theorem dX6_readStatement_29 : decode cX6_readStatement 29 = .ok (.aload_n 0, 1) := by decide +kernel
theorem dX6_readStatement_30 : decode cX6_readStatement 30 = .ok (.iconst 0, 1) := by decide +kernel
theorem dX6_readStatement_31 : decode cX6_readStatement 31 = .ok (.invokevirtual 58, 3) := by decide +kernel
theorem dX6_readStatement_34 : decode cX6_readStatement 34 = .ok (.iload_n 1, 1) := by decide +kernel
theorem dX6_readStatement_35 : decode cX6_readStatement 35 = .ok (.ifCond .ne 7, 3) := by decide +kernel
theorem dX6_readStatement_38 : decode cX6_readStatement 38 = .ok (.iconst 1, 1) := by decide +kernel
theorem dX6_readStatement_39 : decode cX6_readStatement 39 = .ok (.goto 4, 3) := by decide +kernel
theorem dX6_readStatement_42 : decode cX6_readStatement 42 = .ok (.iconst 0, 1) := by decide +kernel
theorem dX6_readStatement_43 : decode cX6_readStatement 43 = .ok (.if_icmp .eq 9, 3) := by decide +kernel
theorem dX6_readStatement_46 : decode cX6_readStatement 46 = .ok (.aload_n 0, 1) := by decide +kernel
theorem dX6_readStatement_47 : decode cX6_readStatement 47 = .ok (.iconst 1, 1) := by decide +kernel
theorem dX6_readStatement_48 : decode cX6_readStatement 48 = .ok (.invokevirtual 55, 3) := by decide +kernel
theorem dX6_readStatement_51 : decode cX6_readStatement 51 = .ok (.ireturn, 1) := by decide +kernel
theorem dX6_readStatement_52 : decode cX6_readStatement 52 = .ok (.aload_n 0, 1) := by decide +kernel
theorem dX6_readStatement_53 : decode cX6_readStatement 53 = .ok (.getfield 18, 3) := by decide +kernel
theorem dX6_readStatement_56 : decode cX6_readStatement 56 = .ok (.getfield 61, 3) := by decide +kernel
theorem dX6_readStatement_59 : decode cX6_readStatement 59 = .ok (.aload_n 0, 1) := by decide +kernel
theorem dX6_readStatement_60 : decode cX6_readStatement 60 = .ok (.getfield 34, 3) := by decide +kernel
theorem dX6_readStatement_63 : decode cX6_readStatement 63 = .ok (.iaload, 1) := by decide +kernel
theorem dX6_readStatement_64 : decode cX6_readStatement 64 = .ok (.tableswitch 134 0 14 #[76, 134, 81, 86, 91, 96, 101, 106, 134, 111, 134, 134, 116, 122, 128], 76) := by decide +kernel
theorem dX6_readStatement_140 : decode cX6_readStatement 140 = .ok (.aload_n 0, 1) := by decide +kernel
theorem dX6_readStatement_141 : decode cX6_readStatement 141 = .ok (.invokevirtual 64, 3) := by decide +kernel
theorem dX6_readStatement_144 : decode cX6_readStatement 144 = .ok (.ireturn, 1) := by decide +kernel
theorem dX6_readStatement_145 : decode cX6_readStatement 145 = .ok (.aload_n 0, 1) := by decide +kernel
theorem dX6_readStatement_146 : decode cX6_readStatement 146 = .ok (.invokevirtual 68, 3) := by decide +kernel
theorem dX6_readStatement_149 : decode cX6_readStatement 149 = .ok (.ireturn, 1) := by decide +kernel
theorem dX6_readStatement_150 : decode cX6_readStatement 150 = .ok (.aload_n 0, 1) := by decide +kernel
theorem dX6_readStatement_151 : decode cX6_readStatement 151 = .ok (.invokevirtual 71, 3) := by decide +kernel
theorem dX6_readStatement_154 : decode cX6_readStatement 154 = .ok (.ireturn, 1) := by decide +kernel
theorem dX6_readStatement_155 : decode cX6_readStatement 155 = .ok (.aload_n 0, 1) := by decide +kernel
theorem dX6_readStatement_156 : decode cX6_readStatement 156 = .ok (.invokevirtual 74, 3) := by decide +kernel
theorem dX6_readStatement_159 : decode cX6_readStatement 159 = .ok (.ireturn, 1) := by decide +kernel
theorem dX6_readStatement_160 : decode cX6_readStatement 160 = .ok (.aload_n 0, 1) := by decide +kernel
theorem dX6_readStatement_161 : decode cX6_readStatement 161 = .ok (.invokevirtual 77, 3) := by decide +kernel
theorem dX6_readStatement_164 : decode cX6_readStatement 164 = .ok (.ireturn, 1) := by decide +kernel
theorem dX6_readStatement_165 : decode cX6_readStatement 165 = .ok (.aload_n 0, 1) := by decide +kernel
theorem dX6_readStatement_166 : decode cX6_readStatement 166 = .ok (.invokevirtual 80, 3) := by decide +kernel
theorem dX6_readStatement_169 : decode cX6_readStatement 169 = .ok (.ireturn, 1) := by decide +kernel
theorem dX6_readStatement_170 : decode cX6_readStatement 170 = .ok (.aload_n 0, 1) := by decide +kernel
theorem dX6_readStatement_171 : decode cX6_readStatement 171 = .ok (.invokevirtual 83, 3) := by decide +kernel
theorem dX6_readStatement_174 : decode cX6_readStatement 174 = .ok (.ireturn, 1) := by decide +kernel
theorem dX6_readStatement_175 : decode cX6_readStatement 175 = .ok (.aload_n 0, 1) := by decide +kernel
theorem dX6_readStatement_176 : decode cX6_readStatement 176 = .ok (.invokevirtual 86, 3) := by decide +kernel
theorem dX6_readStatement_179 : decode cX6_readStatement 179 = .ok (.ireturn, 1) := by decide +kernel
theorem dX6_readStatement_180 : decode cX6_readStatement 180 = .ok (.aload_n 0, 1) := by decide +kernel
theorem dX6_readStatement_181 : decode cX6_readStatement 181 = .ok (.iconst 0, 1) := by decide +kernel
theorem dX6_readStatement_182 : decode cX6_readStatement 182 = .ok (.invokevirtual 89, 3) := by decide +kernel
theorem dX6_readStatement_185 : decode cX6_readStatement 185 = .ok (.ireturn, 1) := by decide +kernel
theorem dX6_readStatement_186 : decode cX6_readStatement 186 = .ok (.aload_n 0, 1) := by decide +kernel
theorem dX6_readStatement_187 : decode cX6_readStatement 187 = .ok (.iconst 1, 1) := by decide +kernel
theorem dX6_readStatement_188 : decode cX6_readStatement 188 = .ok (.invokevirtual 89, 3) := by decide +kernel
theorem dX6_readStatement_191 : decode cX6_readStatement 191 = .ok (.ireturn, 1) := by decide +kernel
theorem dX6_readStatement_192 : decode cX6_readStatement 192 = .ok (.aload_n 0, 1) := by decide +kernel
theorem dX6_readStatement_193 : decode cX6_readStatement 193 = .ok (.iconst 2, 1) := by decide +kernel
theorem dX6_readStatement_194 : decode cX6_readStatement 194 = .ok (.invokevirtual 89, 3) := by decide +kernel
theorem dX6_readStatement_197 : decode cX6_readStatement 197 = .ok (.ireturn, 1) := by decide +kernel
theorem dX6_readStatement_198 : decode cX6_readStatement 198 = .ok (.aload_n 0, 1) := by decide +kernel
theorem dX6_readStatement_199 : decode cX6_readStatement 199 = .ok (.iconst 1, 1) := by decide +kernel
theorem dX6_readStatement_200 : decode cX6_readStatement 200 = .ok (.invokevirtual 55, 3) := by decide +kernel
theorem dX6_readStatement_203 : decode cX6_readStatement 203 = .ok (.ireturn, 1) := by decide +kernel
theorem dX6_readRule_0 : decode cX6_readRule 0 = .ok (.aload_n 0, 1) := by decide +kernel
theorem dX6_readRule_1 : decode cX6_readRule 1 = .ok (.getfield 22, 3) := by decide +kernel
theorem dX6_readRule_4 : decode cX6_readRule 4 = .ok (.iload_n 1, 1) := by decide +kernel
theorem dX6_readRule_5 : decode cX6_readRule 5 = .ok (.invokevirtual 167, 3) := by decide +kernel
theorem dX6_readRule_8 : decode cX6_readRule 8 = .ok (.ifCond .eq 10, 3) := by decide +kernel
theorem dX6_readRule_11 : decode cX6_readRule 11 = .ok (.aload_n 0, 1) := by decide +kernel
theorem dX6_readRule_12 : decode cX6_readRule 12 = .ok (.bipush 6, 2) := by decide +kernel
theorem dX6_readRule_14 : decode cX6_readRule 14 = .ok (.invokevirtual 55, 3) := by decide +kernel
theorem dX6_readRule_17 : decode cX6_readRule 17 = .ok (.ireturn, 1) := by decide +kernel
theorem dX6_readRule_18 : decode cX6_readRule 18 = .ok (.aload_n 0, 1) := by decide +kernel
theorem dX6_readRule_19 : decode cX6_readRule 19 = .ok (.invokevirtual 92, 3) := by decide +kernel
theorem dX6_readRule_22 : decode cX6_readRule 22 = .ok (.aload_n 0, 1) := by decide +kernel
theorem dX6_readRule_23 : decode cX6_readRule 23 = .ok (.iload_n 1, 1) := by decide +kernel
theorem dX6_readRule_24 : decode cX6_readRule 24 = .ok (.putfield 170, 3) := by decide +kernel
theorem dX6_readRule_27 : decode cX6_readRule 27 = .ok (.aload_n 0, 1) := by decide +kernel
theorem dX6_readRule_28 : decode cX6_readRule 28 = .ok (.getfield 22, 3) := by decide +kernel
theorem dX6_readRule_31 : decode cX6_readRule 31 = .ok (.getfield 173, 3) := by decide +kernel
theorem dX6_readRule_34 : decode cX6_readRule 34 = .ok (.aload_n 0, 1) := by decide +kernel
theorem dX6_readRule_35 : decode cX6_readRule 35 = .ok (.getfield 170, 3) := by decide +kernel
theorem dX6_readRule_38 : decode cX6_readRule 38 = .ok (.aload_n 0, 1) := by decide +kernel
theorem dX6_readRule_39 : decode cX6_readRule 39 = .ok (.getfield 37, 3) := by decide +kernel
theorem dX6_readRule_42 : decode cX6_readRule 42 = .ok (.iastore, 1) := by decide +kernel
theorem dX6_readRule_43 : decode cX6_readRule 43 = .ok (.aload_n 0, 1) := by decide +kernel
theorem dX6_readRule_44 : decode cX6_readRule 44 = .ok (.getfield 170, 3) := by decide +kernel
theorem dX6_readRule_47 : decode cX6_readRule 47 = .ok (.iconst 1, 1) := by decide +kernel
theorem dX6_readRule_48 : decode cX6_readRule 48 = .ok (.if_icmp .ne 11, 3) := by decide +kernel
theorem dX6_readRule_51 : decode cX6_readRule 51 = .ok (.aload_n 0, 1) := by decide +kernel
theorem dX6_readRule_52 : decode cX6_readRule 52 = .ok (.iconst 0, 1) := by decide +kernel
theorem dX6_readRule_53 : decode cX6_readRule 53 = .ok (.invokevirtual 176, 3) := by decide +kernel
theorem dX6_readRule_56 : decode cX6_readRule 56 = .ok (.goto 8, 3) := by decide +kernel
theorem dX6_readRule_59 : decode cX6_readRule 59 = .ok (.aload_n 0, 1) := by decide +kernel
theorem dX6_readRule_60 : decode cX6_readRule 60 = .ok (.iconst 0, 1) := by decide +kernel
theorem dX6_readRule_61 : decode cX6_readRule 61 = .ok (.invokevirtual 179, 3) := by decide +kernel
theorem dX6_readRule_64 : decode cX6_readRule 64 = .ok (.istore_n 2, 1) := by decide +kernel
theorem dX6_readRule_65 : decode cX6_readRule 65 = .ok (.aload_n 0, 1) := by decide +kernel
theorem dX6_readRule_66 : decode cX6_readRule 66 = .ok (.getfield 22, 3) := by decide +kernel
theorem dX6_readRule_69 : decode cX6_readRule 69 = .ok (.getfield 182, 3) := by decide +kernel
theorem dX6_readRule_72 : decode cX6_readRule 72 = .ok (.aload_n 0, 1) := by decide +kernel
theorem dX6_readRule_73 : decode cX6_readRule 73 = .ok (.getfield 170, 3) := by decide +kernel
theorem dX6_readRule_76 : decode cX6_readRule 76 = .ok (.aload_n 0, 1) := by decide +kernel
theorem dX6_readRule_77 : decode cX6_readRule 77 = .ok (.getfield 37, 3) := by decide +kernel
theorem dX6_readRule_80 : decode cX6_readRule 80 = .ok (.iastore, 1) := by decide +kernel
theorem dX6_readRule_81 : decode cX6_readRule 81 = .ok (.iload_n 2, 1) := by decide +kernel
theorem dX6_readRule_82 : decode cX6_readRule 82 = .ok (.ireturn, 1) := by decide +kernel
theorem wB_812 : Cond.methodLink RX6 167 yX2_hasRule ∈ dgB := List.mem_filter.mpr ⟨tbl_4 _ (List.mem_of_getElem? (i := 39) (by decide +kernel)), by decide +kernel⟩
theorem wB_813 : Cond.fieldLink RX6 173 "DarkMine$Ground" "ruleFrom" "[I" ∈ dgB := List.mem_filter.mpr ⟨tbl_2 _ (List.mem_of_getElem? (i := 5) (by decide +kernel)), by decide +kernel⟩
theorem wB_814 : Cond.fieldLink RX6 182 "DarkMine$Ground" "ruleEnd" "[I" ∈ dgB := List.mem_filter.mpr ⟨tbl_2 _ (List.mem_of_getElem? (i := 8) (by decide +kernel)), by decide +kernel⟩
theorem wB_815 : Cond.code yX6_readSeam cX6_readSeam 2 (some .boolean) ∈ dgB := List.mem_filter.mpr ⟨tbl_3 _ (List.mem_of_getElem? (i := 209) rfl), rfl⟩
theorem wB_816 : Cond.methodLink RX6 64 yX6_readSeam ∈ dgB := List.mem_filter.mpr ⟨tbl_3 _ (List.mem_of_getElem? (i := 206) (by decide +kernel)), by decide +kernel⟩
theorem wB_817 : Cond.instanceMethod yX6_readSeam ∈ dgB := List.mem_filter.mpr ⟨tbl_3 _ (List.mem_of_getElem? (i := 208) (by decide +kernel)), by decide +kernel⟩
theorem wB_818 : Cond.selects RX6 yX6_readSeam yX6_readSeam ∈ dgB := List.mem_filter.mpr ⟨List.mem_of_getElem? (i := 9) (by decide +kernel), by decide +kernel⟩
theorem wB_819 : Cond.code yX6_readShaft cX6_readShaft 1 (some .boolean) ∈ dgB := List.mem_filter.mpr ⟨tbl_3 _ (List.mem_of_getElem? (i := 229) rfl), rfl⟩
theorem wB_820 : Cond.methodLink RX6 68 yX6_readShaft ∈ dgB := List.mem_filter.mpr ⟨tbl_3 _ (List.mem_of_getElem? (i := 226) (by decide +kernel)), by decide +kernel⟩
theorem wB_821 : Cond.instanceMethod yX6_readShaft ∈ dgB := List.mem_filter.mpr ⟨tbl_3 _ (List.mem_of_getElem? (i := 228) (by decide +kernel)), by decide +kernel⟩
theorem wB_822 : Cond.selects RX6 yX6_readShaft yX6_readShaft ∈ dgB := List.mem_filter.mpr ⟨List.mem_of_getElem? (i := 13) (by decide +kernel), by decide +kernel⟩
theorem wB_823 : Cond.code yX6_readReach cX6_readReach 1 (some .boolean) ∈ dgB := List.mem_filter.mpr ⟨tbl_3 _ (List.mem_of_getElem? (i := 233) rfl), rfl⟩
theorem wB_824 : Cond.methodLink RX6 71 yX6_readReach ∈ dgB := List.mem_filter.mpr ⟨tbl_3 _ (List.mem_of_getElem? (i := 230) (by decide +kernel)), by decide +kernel⟩
theorem wB_825 : Cond.instanceMethod yX6_readReach ∈ dgB := List.mem_filter.mpr ⟨tbl_3 _ (List.mem_of_getElem? (i := 232) (by decide +kernel)), by decide +kernel⟩
theorem wB_826 : Cond.selects RX6 yX6_readReach yX6_readReach ∈ dgB := List.mem_filter.mpr ⟨List.mem_of_getElem? (i := 14) (by decide +kernel), by decide +kernel⟩
theorem wB_827 : Cond.code yX6_readQuake cX6_readQuake 1 (some .boolean) ∈ dgB := List.mem_filter.mpr ⟨tbl_3 _ (List.mem_of_getElem? (i := 237) rfl), rfl⟩
theorem wB_828 : Cond.methodLink RX6 74 yX6_readQuake ∈ dgB := List.mem_filter.mpr ⟨tbl_3 _ (List.mem_of_getElem? (i := 234) (by decide +kernel)), by decide +kernel⟩
theorem wB_829 : Cond.instanceMethod yX6_readQuake ∈ dgB := List.mem_filter.mpr ⟨tbl_3 _ (List.mem_of_getElem? (i := 236) (by decide +kernel)), by decide +kernel⟩
theorem wB_830 : Cond.selects RX6 yX6_readQuake yX6_readQuake ∈ dgB := List.mem_filter.mpr ⟨List.mem_of_getElem? (i := 15) (by decide +kernel), by decide +kernel⟩
theorem wB_831 : Cond.code yX6_readGrade cX6_readGrade 2 (some .boolean) ∈ dgB := List.mem_filter.mpr ⟨tbl_4 _ (List.mem_of_getElem? (i := 1) rfl), rfl⟩
theorem wB_832 : Cond.methodLink RX6 77 yX6_readGrade ∈ dgB := List.mem_filter.mpr ⟨tbl_3 _ (List.mem_of_getElem? (i := 238) (by decide +kernel)), by decide +kernel⟩
theorem wB_833 : Cond.instanceMethod yX6_readGrade ∈ dgB := List.mem_filter.mpr ⟨tbl_4 _ (List.mem_of_getElem? (i := 0) (by decide +kernel)), by decide +kernel⟩
theorem wB_834 : Cond.selects RX6 yX6_readGrade yX6_readGrade ∈ dgB := List.mem_filter.mpr ⟨List.mem_of_getElem? (i := 16) (by decide +kernel), by decide +kernel⟩
theorem wB_835 : Cond.code yX6_readMiner cX6_readMiner 1 (some .boolean) ∈ dgB := List.mem_filter.mpr ⟨tbl_4 _ (List.mem_of_getElem? (i := 9) rfl), rfl⟩
theorem wB_836 : Cond.methodLink RX6 80 yX6_readMiner ∈ dgB := List.mem_filter.mpr ⟨tbl_4 _ (List.mem_of_getElem? (i := 6) (by decide +kernel)), by decide +kernel⟩
theorem wB_837 : Cond.instanceMethod yX6_readMiner ∈ dgB := List.mem_filter.mpr ⟨tbl_4 _ (List.mem_of_getElem? (i := 8) (by decide +kernel)), by decide +kernel⟩
theorem wB_838 : Cond.selects RX6 yX6_readMiner yX6_readMiner ∈ dgB := List.mem_filter.mpr ⟨List.mem_of_getElem? (i := 18) (by decide +kernel), by decide +kernel⟩
theorem wB_839 : Cond.code yX6_readDig cX6_readDig 3 (some .boolean) ∈ dgB := List.mem_filter.mpr ⟨tbl_4 _ (List.mem_of_getElem? (i := 25) rfl), rfl⟩
theorem wB_840 : Cond.methodLink RX6 83 yX6_readDig ∈ dgB := List.mem_filter.mpr ⟨tbl_4 _ (List.mem_of_getElem? (i := 22) (by decide +kernel)), by decide +kernel⟩
theorem wB_841 : Cond.instanceMethod yX6_readDig ∈ dgB := List.mem_filter.mpr ⟨tbl_4 _ (List.mem_of_getElem? (i := 24) (by decide +kernel)), by decide +kernel⟩
theorem wB_842 : Cond.selects RX6 yX6_readDig yX6_readDig ∈ dgB := List.mem_filter.mpr ⟨List.mem_of_getElem? (i := 20) (by decide +kernel), by decide +kernel⟩
theorem wB_843 : Cond.code yX6_readOrder cX6_readOrder 2 (some .boolean) ∈ dgB := List.mem_filter.mpr ⟨tbl_4 _ (List.mem_of_getElem? (i := 34) rfl), rfl⟩
theorem wB_844 : Cond.methodLink RX6 86 yX6_readOrder ∈ dgB := List.mem_filter.mpr ⟨tbl_4 _ (List.mem_of_getElem? (i := 31) (by decide +kernel)), by decide +kernel⟩
theorem wB_845 : Cond.instanceMethod yX6_readOrder ∈ dgB := List.mem_filter.mpr ⟨tbl_4 _ (List.mem_of_getElem? (i := 33) (by decide +kernel)), by decide +kernel⟩
theorem wB_846 : Cond.selects RX6 yX6_readOrder yX6_readOrder ∈ dgB := List.mem_filter.mpr ⟨List.mem_of_getElem? (i := 22) (by decide +kernel), by decide +kernel⟩
theorem wB_847 : Cond.code yX6_readRule cX6_readRule 3 (some .boolean) ∈ dgB := List.mem_filter.mpr ⟨tbl_4 _ (List.mem_of_getElem? (i := 38) rfl), rfl⟩
theorem wB_848 : Cond.methodLink RX6 89 yX6_readRule ∈ dgB := List.mem_filter.mpr ⟨tbl_4 _ (List.mem_of_getElem? (i := 35) (by decide +kernel)), by decide +kernel⟩
theorem wB_849 : Cond.instanceMethod yX6_readRule ∈ dgB := List.mem_filter.mpr ⟨tbl_4 _ (List.mem_of_getElem? (i := 37) (by decide +kernel)), by decide +kernel⟩
theorem wB_850 : Cond.selects RX6 yX6_readRule yX6_readRule ∈ dgB := List.mem_filter.mpr ⟨List.mem_of_getElem? (i := 23) (by decide +kernel), by decide +kernel⟩
theorem wB_851 : Cond.fieldLink RX2 9 "DarkMine$Ground" "shaftPlace" "I" ∈ dgB := List.mem_filter.mpr ⟨tbl_1 _ (List.mem_of_getElem? (i := 187) (by decide +kernel)), by decide +kernel⟩
theorem wB_852 : Cond.fieldLink RX2 55 "DarkMine$Ground" "reach" "I" ∈ dgB := List.mem_filter.mpr ⟨tbl_1 _ (List.mem_of_getElem? (i := 194) (by decide +kernel)), by decide +kernel⟩
theorem wB_853 : Cond.fieldLink RX2 58 "DarkMine$Ground" "quake" "I" ∈ dgB := List.mem_filter.mpr ⟨tbl_1 _ (List.mem_of_getElem? (i := 198) (by decide +kernel)), by decide +kernel⟩
theorem wB_854 : Cond.fieldLink RX2 15 "DarkMine$Ground" "grades" "[I" ∈ dgB := List.mem_filter.mpr ⟨tbl_1 _ (List.mem_of_getElem? (i := 202) (by decide +kernel)), by decide +kernel⟩
theorem wB_855 : Cond.methodLink RX2 61 yJ7_fill_53178 ∈ dgB := List.mem_filter.mpr ⟨tbl_3 _ (List.mem_of_getElem? (i := 120) (by decide +kernel)), by decide +kernel⟩
set_option maxHeartbeats 8000000 in
set_option maxRecDepth 100000 in
theorem c_rd_readRule (l : Launch) (g : Nat → ClassId) (D : va_G) (o : Nat) (S : dg_S) (a1 : Int32) (b_a1 : 0 ≤ (a1).toInt ∧ (a1).toInt ≤ 2) (en : Int32) (n0 : Int32) (f_n0 : S.1 209 4 = .int n0) (b_n0 : 0 ≤ (n0).toInt ∧ (n0).toInt ≤ 1600) (ke : Int32) (f_ke : S.2.1 211 (en : Int32).toNatClampNeg = ke) (b_ke : 0 ≤ (ke).toInt ∧ (ke).toInt ≤ 0) (hne : (n0).toInt ≤ (en).toInt ∧ (en).toInt ≤ 1600 ∧ 0 ≤ (en).toInt) (I : CX o S) (sz : Nat) : Met l yX6_readRule (bw yX6_readRule cX6_readRule 3 (some .boolean)) ({ frames := 68, cells := 0, slots := 0, locals := 1561 } : Room) (dk_Pc g D (dg_w g shX o rfX S) sz [.ref (o + 209), .int a1]) (va_Qi (fun (r : Int32) S' => CX o S' ∧ dg_sm shX [(31, 0), (31, 1), (31, 4), (31, 6), (31, 7)] [28, 29, 30] S S' ∧ (0 ≤ (r).toInt ∧ (r).toInt ≤ 1) ∧ (∃ y9 : Int32, S'.1 209 4 = .int y9 ∧ ((y9).toInt ≤ (en).toInt)) ∧ True) (dg_B g D shX o rfX) (dg_A o shX.length sz)) 0 0 (dg_A o shX.length sz) := by
  refine dg_met (cc := cX6_readRule) (maxL := 3) (ret := (some .boolean)) (by decide) rfl (Nat.le_of_ble_eq_true rfl) ?_
  intro p e s m args below meth c A hAe harg hx hb hr hml hts hown hlocks hin hP K hS hA1 hA ST hsz ls hl
  rw [← hAe]
  have F : CallFix p m c cX6_readRule 3 s args (bw yX6_readRule cX6_readRule 3 (some .boolean)) RX6 := ⟨hx, hb, hml, hown, hts⟩
  have hl : lv_has ls 3 [(0, .ref (o + 209)), (1, .int a1)] := hl
  have M_0 : dg_sm shX [(31, 0), (31, 1), (31, 4), (31, 6), (31, 7)] [28, 29, 30] S S := dg_sm.rf
  refine lv_aload_n hx hb dX6_readRule_0 rfl (lv_at hl 0 rfl) ?_
  obtain ⟨d_1, hk_d_1, f_d_1⟩ := dg_I.one (i := 209) (k := 3) (d := 0) I sX_209 (by decide +kernel)
  have hk_d_1 : rX d_1 := hk_d_1
  refine dg_get (C := RX6) (T := TX6) (N := 8) hx hb hts (fun w h => bw_mem (wU_X6 w h)) hown K hP sX_209 rfl 3 (by decide) (hts _ (bw_mem wB_698)) (fun _ h9 => h9) (v := .ref (o + d_1)) f_d_1 dX6_readRule_1 ?_
  refine lv_iload_n hx hb dX6_readRule_4 rfl (lv_at hl 1 rfl) ?_
  refine dg_calli hS hA1 hA (va_runV (As := [.int a1]) (rest := []) F (c_g_hasRule l g D o S d_1 hk_d_1 a1 (by omega) I s.heap.size) (cwV 1 hts (bw_V wB_812 wB_87 wB_88 wB_12 wB_85) rfl rfl rfl (by decide +kernel) ⟨Nat.le_of_ble_eq_true rfl, Nat.le_of_ble_eq_true rfl⟩) (dg_preV (rX_0 d_1 hk_d_1) rfl K ST hP hS hA1 hA) rfl rfl hl.1 rfl (lv_room (Nat.le_of_ble_eq_true rfl)) dX6_readRule_5 ⟨Nat.le_of_ble_eq_true rfl, Nat.le_of_ble_eq_true rfl⟩) (fun x_2 S_3 hw_3 H locs hP hS => ?_)
  rw [hw_3.1] at hP
  obtain ⟨hq_3, w_3_0, -⟩ := hw_3
  have w_3_0 : 0 ≤ (x_2).toInt ∧ (x_2).toInt ≤ 1 := w_3_0
  refine lv_if_eq (tgt := 18) hx hb dX6_readRule_8 (by decide) (fun c_4 => ?_) (fun c_4 => ?_)
  · have jc_4 := dk_eqc (k := 0) (by decide +kernel) c_4
    refine lv_aload_n hx hb dX6_readRule_18 rfl (lv_at hl 0 rfl) ?_
    refine dg_callv hS hA1 hA (va_runV (As := []) (rest := []) F (c_rd_pass l g D o S en n0 f_n0 (by omega) ke f_ke (by omega) (by omega) I H.size) (cwV 0 hts (bw_V wB_686 wB_687 wB_688 wB_684 wB_685) rfl rfl rfl (by decide +kernel) ⟨Nat.le_of_ble_eq_true rfl, Nat.le_of_ble_eq_true rfl⟩) (dg_preV sX_209 rfl K ST hP hS hA1 hA) rfl rfl hl.1 rfl (lv_room (Nat.le_of_ble_eq_true rfl)) dX6_readRule_19 ⟨Nat.le_of_ble_eq_true rfl, Nat.le_of_ble_eq_true rfl⟩) (fun S_5 hw_5 H locs hP hS => ?_)
    obtain ⟨I_5, m_5, w_5_0, -⟩ := hw_5
    have M_5 := dg_sm.tr M_0 m_5 (by decide) (by decide)
    obtain ⟨y_6, f_y_6, w_5_0⟩ := w_5_0
    have w_5_0 : (y_6).toInt ≤ (en).toInt := w_5_0
    have b_y_6 : 0 ≤ (y_6).toInt ∧ (y_6).toInt ≤ 1600 := dg_I.intb (lo := 0) (hi := 1600) I_5 sX_209 (by decide +kernel) f_y_6
    refine lv_aload_n hx hb dX6_readRule_22 rfl (lv_at hl 0 rfl) ?_
    refine lv_iload_n hx hb dX6_readRule_23 rfl (lv_at hl 1 rfl) ?_
    refine dg_put (ci := 6) (v := .int a1) (ty := tyX6 6) (C := RX6) (T := TX6) (N := 8) hx hb hts (fun w h => bw_mem (wU_X6 w h)) tyX6 tyX6_ok nmX6 hown K hP hS hA1 sX_209 rfl 6 (by decide) (hts _ (bw_mem wB_713)) (fun _ h9 => h9) rfl (by decide +kernel) rfl rfl dX6_readRule_24 (fun S_7 e_7 H locs hP hS => ?_)
    have I_7 := dg_I.uFi (lo := 0) (hi := 2) I_5 e_7 sX_209 (by decide +kernel) (show 0 ≤ (a1).toInt ∧ (a1).toInt ≤ 2 from (by omega))
    have M_7 := dg_sm.uF M_5 e_7 sX_209 (by decide)
    refine lv_aload_n hx hb dX6_readRule_27 rfl (lv_at hl 0 rfl) ?_
    refine dg_get (C := RX6) (T := TX6) (N := 8) hx hb hts (fun w h => bw_mem (wU_X6 w h)) hown K hP sX_209 rfl 3 (by decide) (hts _ (bw_mem wB_698)) (fun _ h9 => h9) (v := .ref (o + d_1)) (((dg_uF_ne e_7 (fun z => absurd z.2 (by decide))).trans (m_5.1 209 3 _ sX_209 (by decide))).trans f_d_1) dX6_readRule_28 ?_
    refine dg_get (C := RX2) (T := TX2) (N := 19) hx hb hts (fun w h => bw_mem (wU_X2 w h)) hown K hP (rX_0 d_1 hk_d_1) rfl 17 (by decide) (hts _ (bw_mem wB_813)) (fun _ h9 => h9) (v := .ref (o + (d_1 + 10))) (show S_7.1 d_1 17 = .ref (o + (d_1 + 10)) from dg_I.rel (d := 10) I_7 (rX_0 d_1 hk_d_1) (by decide +kernel)) dX6_readRule_31 ?_
    refine lv_aload_n hx hb dX6_readRule_34 rfl (lv_at hl 0 rfl) ?_
    refine dg_get (C := RX6) (T := TX6) (N := 8) hx hb hts (fun w h => bw_mem (wU_X6 w h)) hown K hP sX_209 rfl 6 (by decide) (hts _ (bw_mem wB_713)) (fun _ h9 => h9) (v := .int a1) (dg_uF_at e_7) dX6_readRule_35 ?_
    refine lv_aload_n hx hb dX6_readRule_38 rfl (lv_at hl 0 rfl) ?_
    obtain ⟨x_8, f_x_8, b_x_8⟩ := dg_I.int (i := 209) (k := 7) (lo := 0) (hi := 1600) I_7 sX_209 (by decide +kernel)
    refine dg_get (C := RX6) (T := TX6) (N := 8) hx hb hts (fun w h => bw_mem (wU_X6 w h)) hown K hP sX_209 rfl 7 (by decide) (hts _ (bw_mem wB_697)) (fun _ h9 => h9) (v := .int x_8) f_x_8 dX6_readRule_39 ?_
    have hin_9 : vp_in a1 3 := (dk_inv (by omega) (by omega))
    refine dg_iast hx hb K hP hS hA1 (rX_10 d_1 hk_d_1) hin_9 dX6_readRule_42 (fun S_10 e_10 H locs hP hS => ?_)
    have I_10 := dg_I.ufu (lo := 0) (hi := 1600) I_7 e_10 (rX_10 d_1 hk_d_1) (by decide +kernel) (show 0 ≤ (x_8).toInt ∧ (x_8).toInt ≤ 1600 from (by omega))
    have M_10 := dg_sm.uf M_7 e_10 (rX_10 d_1 hk_d_1) (by decide)
    refine lv_aload_n hx hb dX6_readRule_43 rfl (lv_at hl 0 rfl) ?_
    refine dg_get (C := RX6) (T := TX6) (N := 8) hx hb hts (fun w h => bw_mem (wU_X6 w h)) hown K hP sX_209 rfl 6 (by decide) (hts _ (bw_mem wB_713)) (fun _ h9 => h9) (v := .int a1) ((dg_uf_F e_10 209 6).trans (dg_uF_at e_7)) dX6_readRule_44 ?_
    refine lv_iconst (v := 1) hx hb dX6_readRule_47 (by decide +kernel) ?_
    have J_25 : ∀ (x_18 : Int32) (x_19 : Int32), (0 ≤ (x_18).toInt ∧ (x_18).toInt ≤ 1) → (0 ≤ (x_19).toInt ∧ (x_19).toInt ≤ 1600) → ((x_19).toInt ≤ (en).toInt) → ∀ S_24 : dg_S, CX o S_24 → dg_sm shX [(31, 0), (31, 1), (31, 4), (31, 6), (31, 7)] [28, 29, 30] S S_24 → S_24.1 209 6 = .int a1 → S_24.1 209 4 = .int x_19 → ∀ (H : Heap) (locs : List Loc), va_P D vwCl (dg_w g shX o rfX S_24) H → va_S A s.heap H locs → ∀ ls : Array Slot, lv_has ls 3 [(0, .ref (o + 209)), (1, .int a1)] → W p l e ({ frames := 68, cells := 0, slots := 0, locals := 1561 } : Room) s m args below meth c H locs 0 0 (MQ below (va_Qi (fun (r : Int32) S' => CX o S' ∧ dg_sm shX [(31, 0), (31, 1), (31, 4), (31, 6), (31, 7)] [28, 29, 30] S S' ∧ (0 ≤ (r).toInt ∧ (r).toInt ≤ 1) ∧ (∃ y9 : Int32, S'.1 209 4 = .int y9 ∧ ((y9).toInt ≤ (en).toInt)) ∧ True) (dg_B g D shX o rfX) A) args s 0 0 A) (F0 m 64 ls [.int x_18]) := by
      intro x_18 x_19 b_x_18 b_x_19 rel_0 S_24 I_24 M_24 ff_24_6_209 ff_24_4_209 H locs hP hS ls hl
      refine lv_istore_n (lv' := [(2, .int x_18), (0, .ref (o + 209)), (1, .int a1)]) hx hb dX6_readRule_64 rfl hl (by decide) rfl (fun ls hl => ?_)
      refine lv_aload_n hx hb dX6_readRule_65 rfl (lv_at hl 1 rfl) ?_
      refine dg_get (C := RX6) (T := TX6) (N := 8) hx hb hts (fun w h => bw_mem (wU_X6 w h)) hown K hP sX_209 rfl 3 (by decide) (hts _ (bw_mem wB_698)) (fun _ h9 => h9) (v := .ref (o + d_1)) ((M_24.1 209 3 _ sX_209 (by decide)).trans f_d_1) dX6_readRule_66 ?_
      refine dg_get (C := RX2) (T := TX2) (N := 19) hx hb hts (fun w h => bw_mem (wU_X2 w h)) hown K hP (rX_0 d_1 hk_d_1) rfl 18 (by decide) (hts _ (bw_mem wB_814)) (fun _ h9 => h9) (v := .ref (o + (d_1 + 11))) (show S_24.1 d_1 18 = .ref (o + (d_1 + 11)) from dg_I.rel (d := 11) I_24 (rX_0 d_1 hk_d_1) (by decide +kernel)) dX6_readRule_69 ?_
      refine lv_aload_n hx hb dX6_readRule_72 rfl (lv_at hl 1 rfl) ?_
      refine dg_get (C := RX6) (T := TX6) (N := 8) hx hb hts (fun w h => bw_mem (wU_X6 w h)) hown K hP sX_209 rfl 6 (by decide) (hts _ (bw_mem wB_713)) (fun _ h9 => h9) (v := .int a1) ff_24_6_209 dX6_readRule_73 ?_
      refine lv_aload_n hx hb dX6_readRule_76 rfl (lv_at hl 1 rfl) ?_
      obtain ⟨x_26, f_x_26, b_x_26⟩ := dg_I.int (i := 209) (k := 7) (lo := 0) (hi := 1600) I_24 sX_209 (by decide +kernel)
      refine dg_get (C := RX6) (T := TX6) (N := 8) hx hb hts (fun w h => bw_mem (wU_X6 w h)) hown K hP sX_209 rfl 7 (by decide) (hts _ (bw_mem wB_697)) (fun _ h9 => h9) (v := .int x_26) f_x_26 dX6_readRule_77 ?_
      have hin_27 : vp_in a1 3 := (dk_inv (by omega) (by omega))
      refine dg_iast hx hb K hP hS hA1 (rX_11 d_1 hk_d_1) hin_27 dX6_readRule_80 (fun S_28 e_28 H locs hP hS => ?_)
      have I_28 := dg_I.ufu (lo := 0) (hi := 1600) I_24 e_28 (rX_11 d_1 hk_d_1) (by decide +kernel) (show 0 ≤ (x_26).toInt ∧ (x_26).toInt ≤ 1600 from (by omega))
      have M_28 := dg_sm.uf M_24 e_28 (rX_11 d_1 hk_d_1) (by decide)
      refine lv_iload_n hx hb dX6_readRule_81 rfl (lv_at hl 0 rfl) ?_
      refine W.widen (k := 0) (n := 0) (Nat.le_of_ble_eq_true rfl) (Nat.le_of_ble_eq_true rfl) ?_
      exact dg_iret hx hb hr hlocks (dk_znar (by omega) (by omega)) hP hS ⟨I_28, M_28, (by omega), ⟨x_19, ((dg_uf_F e_28 209 4).trans ff_24_4_209), (by omega)⟩, trivial⟩ dX6_readRule_82
    refine lv_icmp_ne (tgt := 59) hx hb dX6_readRule_48 (by decide) (fun c_29 => ?_) (fun c_29 => ?_)
    · have jc_29 := dk_neqc (k := 1) (by decide +kernel) c_29
      refine lv_aload_n hx hb dX6_readRule_59 rfl (lv_at hl 0 rfl) ?_
      refine lv_iconst (v := 0) hx hb dX6_readRule_60 (by decide +kernel) ?_
      refine dg_calli hS hA1 hA (va_runV (As := [.int 0]) (rest := []) F (c_rd_readSum_0 l g D o S_10 en y_6 (((dg_uf_F e_10 209 4).trans (dg_uF_ne e_7 (fun z => absurd z.2 (by decide)))).trans f_y_6) (by omega) ke ((congrFun ((dg_uf_ne e_10 (fun z => by have h9 := sX_211; rw [z, (rX_10 d_1 hk_d_1)] at h9; cases h9)).trans ((dg_uF_f e_7 211).trans (m_5.2 211 _ sX_211 (by decide)).1)) _).trans f_ke) (by omega) (by omega) I_10 H.size) (cwV 1 hts (bw_V wB_785 wB_786 wB_787 wB_684 wB_784) rfl rfl rfl (by decide +kernel) ⟨Nat.le_of_ble_eq_true rfl, Nat.le_of_ble_eq_true rfl⟩) (dg_preV sX_209 rfl K ST hP hS hA1 hA) rfl rfl hl.1 rfl (lv_room (Nat.le_of_ble_eq_true rfl)) dX6_readRule_61 ⟨Nat.le_of_ble_eq_true rfl, Nat.le_of_ble_eq_true rfl⟩) (fun x_30 S_31 hw_31 H locs hP hS => ?_)
      obtain ⟨I_31, m_31, w_31_0, w_31_1, -⟩ := hw_31
      have M_31 := dg_sm.tr M_10 m_31 (by decide) (by decide)
      have w_31_0 : 0 ≤ (x_30).toInt ∧ (x_30).toInt ≤ 1 := w_31_0
      obtain ⟨y_32, f_y_32, w_31_1⟩ := w_31_1
      have w_31_1 : (y_32).toInt ≤ (en).toInt := w_31_1
      have b_y_32 : 0 ≤ (y_32).toInt ∧ (y_32).toInt ≤ 1600 := dg_I.intb (lo := 0) (hi := 1600) I_31 sX_209 (by decide +kernel) f_y_32
      exact J_25 x_30 y_32 (by omega) (by omega) (by omega) S_31 I_31 M_31 (((m_31.1 209 6 _ sX_209 (by decide)).trans (dg_uf_F e_10 209 6)).trans (dg_uF_at e_7)) f_y_32 _ _ hP hS _ (lv_sub hl [0, 1] rfl)
    · have jc_29 := dk_eqc (k := 1) (by decide +kernel) c_29
      refine lv_aload_n hx hb dX6_readRule_51 rfl (lv_at hl 0 rfl) ?_
      refine lv_iconst (v := 0) hx hb dX6_readRule_52 (by decide +kernel) ?_
      refine dg_calli hS hA1 hA (va_runV (As := [.int 0]) (rest := []) F (c_rd_readTest_0 l g D o S_10 en y_6 (((dg_uf_F e_10 209 4).trans (dg_uF_ne e_7 (fun z => absurd z.2 (by decide)))).trans f_y_6) (by omega) ke ((congrFun ((dg_uf_ne e_10 (fun z => by have h9 := sX_211; rw [z, (rX_10 d_1 hk_d_1)] at h9; cases h9)).trans ((dg_uF_f e_7 211).trans (m_5.2 211 _ sX_211 (by decide)).1)) _).trans f_ke) (by omega) (by omega) I_10 H.size) (cwV 1 hts (bw_V wB_805 wB_806 wB_807 wB_684 wB_804) rfl rfl rfl (by decide +kernel) ⟨Nat.le_of_ble_eq_true rfl, Nat.le_of_ble_eq_true rfl⟩) (dg_preV sX_209 rfl K ST hP hS hA1 hA) rfl rfl hl.1 rfl (lv_room (Nat.le_of_ble_eq_true rfl)) dX6_readRule_53 ⟨Nat.le_of_ble_eq_true rfl, Nat.le_of_ble_eq_true rfl⟩) (fun x_33 S_34 hw_34 H locs hP hS => ?_)
      obtain ⟨I_34, m_34, w_34_0, w_34_1, -⟩ := hw_34
      have M_34 := dg_sm.tr M_10 m_34 (by decide) (by decide)
      have w_34_0 : 0 ≤ (x_33).toInt ∧ (x_33).toInt ≤ 1 := w_34_0
      obtain ⟨y_35, f_y_35, w_34_1⟩ := w_34_1
      have w_34_1 : (y_35).toInt ≤ (en).toInt := w_34_1
      have b_y_35 : 0 ≤ (y_35).toInt ∧ (y_35).toInt ≤ 1600 := dg_I.intb (lo := 0) (hi := 1600) I_34 sX_209 (by decide +kernel) f_y_35
      refine lv_goto (tgt := 64) hx hb dX6_readRule_56 (by decide) ?_
      exact J_25 x_33 y_35 (by omega) (by omega) (by omega) S_34 I_34 M_34 (((m_34.1 209 6 _ sX_209 (by decide)).trans (dg_uf_F e_10 209 6)).trans (dg_uF_at e_7)) f_y_35 _ _ hP hS _ (lv_sub hl [0, 1] rfl)
  · have jc_4 := dk_neqc (k := 0) (by decide +kernel) c_4
    refine lv_aload_n hx hb dX6_readRule_11 rfl (lv_at hl 0 rfl) ?_
    refine lv_bipush (v := 6) hx hb dX6_readRule_12 (by decide +kernel) ?_
    refine dg_calli hS hA1 hA (va_runV (As := [.int 6]) (rest := []) F (c_rd_fail l g D o S 6 en n0 f_n0 (by omega) ke f_ke (by omega) (by omega) I H.size) (cwV 1 hts (bw_V wB_690 wB_691 wB_692 wB_684 wB_689) rfl rfl rfl (by decide +kernel) ⟨Nat.le_of_ble_eq_true rfl, Nat.le_of_ble_eq_true rfl⟩) (dg_preV sX_209 rfl K ST hP hS hA1 hA) rfl rfl hl.1 rfl (lv_room (Nat.le_of_ble_eq_true rfl)) dX6_readRule_14 ⟨Nat.le_of_ble_eq_true rfl, Nat.le_of_ble_eq_true rfl⟩) (fun x_36 S_37 hw_37 H locs hP hS => ?_)
    obtain ⟨I_37, m_37, w_37_0, -⟩ := hw_37
    have M_37 := dg_sm.tr M_0 m_37 (by decide) (by decide)
    have w_37_0 : 0 ≤ (x_36).toInt ∧ (x_36).toInt ≤ 0 := w_37_0
    refine W.widen (k := 0) (n := 0) (Nat.le_of_ble_eq_true rfl) (Nat.le_of_ble_eq_true rfl) ?_
    exact dg_iret hx hb hr hlocks (dk_znar (by omega) (by omega)) hP hS ⟨I_37, M_37, (by omega), ⟨n0, ((m_37.1 209 4 _ sX_209 (by decide)).trans f_n0), (by omega)⟩, trivial⟩ dX6_readRule_17
set_option maxHeartbeats 8000000 in
set_option maxRecDepth 100000 in
theorem c_rd_readStatement (l : Launch) (g : Nat → ClassId) (D : va_G) (o : Nat) (S : dg_S) (a1 : Int32) (b_a1 : 0 ≤ (a1).toInt ∧ (a1).toInt ≤ 80) (en : Int32) (n0 : Int32) (f_n0 : S.1 209 4 = .int n0) (b_n0 : 0 ≤ (n0).toInt ∧ (n0).toInt ≤ 1600) (ke : Int32) (f_ke : S.2.1 211 (en : Int32).toNatClampNeg = ke) (b_ke : 0 ≤ (ke).toInt ∧ (ke).toInt ≤ 0) (hne : (n0).toInt ≤ (en).toInt ∧ (en).toInt ≤ 1600 ∧ 0 ≤ (en).toInt) (Z1 : Z1X S) (I : CX o S) (sz : Nat) : Met l yX6_readStatement (bw yX6_readStatement cX6_readStatement 2 (some .boolean)) ({ frames := 69, cells := 0, slots := 0, locals := 1583 } : Room) (dk_Pc g D (dg_w g shX o rfX S) sz [.ref (o + 209), .int a1]) (va_Qi (fun (r : Int32) S' => CX o S' ∧ dg_sm shX [(19, 0), (19, 1), (19, 2), (19, 3), (19, 4), (19, 6), (19, 8), (19, 11), (31, 0), (31, 1), (31, 4), (31, 5), (31, 6), (31, 7)] [20, 21, 22, 23, 24, 25, 26, 27, 28, 29, 30] S S' ∧ (0 ≤ (r).toInt ∧ (r).toInt ≤ 1) ∧ (∃ y9 : Int32, S'.1 209 4 = .int y9 ∧ ((y9).toInt ≤ (en).toInt)) ∧ Z1X S' ∧ True) (dg_B g D shX o rfX) (dg_A o shX.length sz)) 0 0 (dg_A o shX.length sz) := by
  refine dg_met (cc := cX6_readStatement) (maxL := 2) (ret := (some .boolean)) (by decide) rfl (Nat.le_of_ble_eq_true rfl) ?_
  intro p e s m args below meth c A hAe harg hx hb hr hml hts hown hlocks hin hP K hS hA1 hA ST hsz ls hl
  rw [← hAe]
  have F : CallFix p m c cX6_readStatement 2 s args (bw yX6_readStatement cX6_readStatement 2 (some .boolean)) RX6 := ⟨hx, hb, hml, hown, hts⟩
  have hl : lv_has ls 2 [(0, .ref (o + 209)), (1, .int a1)] := hl
  have M_0 : dg_sm shX [(19, 0), (19, 1), (19, 2), (19, 3), (19, 4), (19, 6), (19, 8), (19, 11), (31, 0), (31, 1), (31, 4), (31, 5), (31, 6), (31, 7)] [20, 21, 22, 23, 24, 25, 26, 27, 28, 29, 30] S S := dg_sm.rf
  refine lv_iload_n hx hb dX6_readStatement_0 rfl (lv_at hl 1 rfl) ?_
  refine lv_bipush (v := 80) hx hb dX6_readStatement_1 (by decide +kernel) ?_
  refine lv_icmp_ne (tgt := 13) hx hb dX6_readStatement_3 (by decide) (fun c_1 => ?_) (fun c_1 => ?_)
  · have jc_1 := dk_neqc (k := 80) (by decide +kernel) c_1
    refine lv_aload_n hx hb dX6_readStatement_13 rfl (lv_at hl 0 rfl) ?_
    refine dg_get (C := RX6) (T := TX6) (N := 8) hx hb hts (fun w h => bw_mem (wU_X6 w h)) hown K hP sX_209 rfl 2 (by decide) (hts _ (bw_mem wB_673)) (fun _ h9 => h9) (v := .ref (o + 210)) (show S.1 209 2 = .ref (o + 210) from dg_I.rel (d := 1) I sX_209 (by decide +kernel)) dX6_readStatement_14 ?_
    refine dg_get (C := RX9) (T := TX9) (N := 5) hx hb hts (fun w h => bw_mem (wU_X9 w h)) hown K hP sX_210 rfl 0 (by decide) (hts _ (bw_mem wB_674)) (fun _ h9 => h9) (v := .ref (o + 211)) (show S.1 210 0 = .ref (o + 211) from dg_I.rel (d := 1) I sX_210 (by decide +kernel)) dX6_readStatement_17 ?_
    refine lv_aload_n hx hb dX6_readStatement_20 rfl (lv_at hl 0 rfl) ?_
    refine dg_get (C := RX6) (T := TX6) (N := 8) hx hb hts (fun w h => bw_mem (wU_X6 w h)) hown K hP sX_209 rfl 4 (by decide) (hts _ (bw_mem wB_675)) (fun _ h9 => h9) (v := .int n0) f_n0 dX6_readStatement_21 ?_
    have hin_2 : vp_in n0 1601 := (dk_inv (by omega) (by omega))
    refine dg_iald hx hb K hP sX_211 hin_2 dX6_readStatement_24 (fun x_3 ex_3 => ?_)
    have hs_x_3 : (n0 : Int32).toInt = (en).toInt → (x_3).toInt = (ke).toInt := fun h => by have h9 := Int32.toInt_inj.mp h; rw [ex_3, h9]; exact congrArg Int32.toInt f_ke
    refine lv_iconst (v := 1) hx hb dX6_readStatement_25 (by decide +kernel) ?_
    refine lv_icmp_ne (tgt := 46) hx hb dX6_readStatement_26 (by decide) (fun c_4 => ?_) (fun c_4 => ?_)
    · have jc_4 := dk_neqc (k := 1) (by decide +kernel) c_4
      refine lv_aload_n hx hb dX6_readStatement_46 rfl (lv_at hl 0 rfl) ?_
      refine lv_iconst (v := 1) hx hb dX6_readStatement_47 (by decide +kernel) ?_
      refine dg_calli hS hA1 hA (va_runV (As := [.int 1]) (rest := []) F (c_rd_fail l g D o S 1 en n0 f_n0 (by omega) ke f_ke (by omega) (by omega) I s.heap.size) (cwV 1 hts (bw_V wB_690 wB_691 wB_692 wB_684 wB_689) rfl rfl rfl (by decide +kernel) ⟨Nat.le_of_ble_eq_true rfl, Nat.le_of_ble_eq_true rfl⟩) (dg_preV sX_209 rfl K ST hP hS hA1 hA) rfl rfl hl.1 rfl (lv_room (Nat.le_of_ble_eq_true rfl)) dX6_readStatement_48 ⟨Nat.le_of_ble_eq_true rfl, Nat.le_of_ble_eq_true rfl⟩) (fun x_5 S_6 hw_6 H locs hP hS => ?_)
      obtain ⟨I_6, m_6, w_6_0, -⟩ := hw_6
      have M_6 := dg_sm.tr M_0 m_6 (by decide) (by decide)
      have w_6_0 : 0 ≤ (x_5).toInt ∧ (x_5).toInt ≤ 0 := w_6_0
      refine W.widen (k := 0) (n := 0) (Nat.le_of_ble_eq_true rfl) (Nat.le_of_ble_eq_true rfl) ?_
      exact dg_iret hx hb hr hlocks (dk_znar (by omega) (by omega)) hP hS ⟨I_6, M_6, (by omega), ⟨n0, ((m_6.1 209 4 _ sX_209 (by decide)).trans f_n0), (by omega)⟩, (Z1X.keep Z1 m_6 (by decide) (by decide) (by decide)), trivial⟩ dX6_readStatement_51
    · have jc_4 := dk_eqc (k := 1) (by decide +kernel) c_4
      refine lv_aload_n hx hb dX6_readStatement_29 rfl (lv_at hl 0 rfl) ?_
      refine lv_iconst (v := 0) hx hb dX6_readStatement_30 (by decide +kernel) ?_
      refine dg_calli hS hA1 hA (va_runV (As := [.int 0]) (rest := []) F (c_rd_isOwn l g D o S 0 en n0 f_n0 (by omega) ke f_ke (by omega) (by omega) I s.heap.size) (cwV 1 hts (bw_V wB_681 wB_682 wB_683 wB_684 wB_680) rfl rfl rfl (by decide +kernel) ⟨Nat.le_of_ble_eq_true rfl, Nat.le_of_ble_eq_true rfl⟩) (dg_preV sX_209 rfl K ST hP hS hA1 hA) rfl rfl hl.1 rfl (lv_room (Nat.le_of_ble_eq_true rfl)) dX6_readStatement_31 ⟨Nat.le_of_ble_eq_true rfl, Nat.le_of_ble_eq_true rfl⟩) (fun x_7 S_8 hw_8 H locs hP hS => ?_)
      rw [hw_8.1] at hP
      obtain ⟨hq_8, w_8_0, -⟩ := hw_8
      have w_8_0 : 0 ≤ (x_7).toInt ∧ (x_7).toInt ≤ 1 := w_8_0
      refine lv_iload_n hx hb dX6_readStatement_34 rfl (lv_at hl 1 rfl) ?_
      have J_66 : ∀ (x_10 : Int32), (0 ≤ (x_10).toInt ∧ (x_10).toInt ≤ 1) → ∀ (H : Heap) (locs : List Loc), va_P D vwCl (dg_w g shX o rfX S) H → va_S A s.heap H locs → ∀ ls : Array Slot, lv_has ls 2 [(0, .ref (o + 209)), (1, .int a1)] → W p l e ({ frames := 69, cells := 0, slots := 0, locals := 1583 } : Room) s m args below meth c H locs 0 0 (MQ below (va_Qi (fun (r : Int32) S' => CX o S' ∧ dg_sm shX [(19, 0), (19, 1), (19, 2), (19, 3), (19, 4), (19, 6), (19, 8), (19, 11), (31, 0), (31, 1), (31, 4), (31, 5), (31, 6), (31, 7)] [20, 21, 22, 23, 24, 25, 26, 27, 28, 29, 30] S S' ∧ (0 ≤ (r).toInt ∧ (r).toInt ≤ 1) ∧ (∃ y9 : Int32, S'.1 209 4 = .int y9 ∧ ((y9).toInt ≤ (en).toInt)) ∧ Z1X S' ∧ True) (dg_B g D shX o rfX) A) args s 0 0 A) (F0 m 43 ls [.int x_10, .int x_7]) := by
        intro x_10 b_x_10 H locs hP hS ls hl
        refine lv_icmp_eq (tgt := 52) hx hb dX6_readStatement_43 (by decide) (fun c_67 => ?_) (fun c_67 => ?_)
        · have jc_67 := dk_eqc (k := (x_10).toInt) rfl c_67
          refine lv_aload_n hx hb dX6_readStatement_52 rfl (lv_at hl 0 rfl) ?_
          refine dg_get (C := RX6) (T := TX6) (N := 8) hx hb hts (fun w h => bw_mem (wU_X6 w h)) hown K hP sX_209 rfl 2 (by decide) (hts _ (bw_mem wB_673)) (fun _ h9 => h9) (v := .ref (o + 210)) (show S.1 209 2 = .ref (o + 210) from dg_I.rel (d := 1) I sX_209 (by decide +kernel)) dX6_readStatement_53 ?_
          refine dg_get (C := RX9) (T := TX9) (N := 5) hx hb hts (fun w h => bw_mem (wU_X9 w h)) hown K hP sX_210 rfl 2 (by decide) (hts _ (bw_mem wB_676)) (fun _ h9 => h9) (v := .ref (o + 213)) (show S.1 210 2 = .ref (o + 213) from dg_I.rel (d := 3) I sX_210 (by decide +kernel)) dX6_readStatement_56 ?_
          refine lv_aload_n hx hb dX6_readStatement_59 rfl (lv_at hl 0 rfl) ?_
          refine dg_get (C := RX6) (T := TX6) (N := 8) hx hb hts (fun w h => bw_mem (wU_X6 w h)) hown K hP sX_209 rfl 4 (by decide) (hts _ (bw_mem wB_675)) (fun _ h9 => h9) (v := .int n0) f_n0 dX6_readStatement_60 ?_
          have hin_68 : vp_in n0 1601 := (dk_inv (by omega) (by omega))
          refine dg_iald hx hb K hP sX_213 hin_68 dX6_readStatement_63 (fun x_69 ex_69 => ?_)
          rcases (show ((x_69).toInt < 0 ∨ 14 < (x_69).toInt) ∨ (x_69).toInt = 0 ∨ (x_69).toInt = 1 ∨ (x_69).toInt = 2 ∨ (x_69).toInt = 3 ∨ (x_69).toInt = 4 ∨ (x_69).toInt = 5 ∨ (x_69).toInt = 6 ∨ (x_69).toInt = 7 ∨ (x_69).toInt = 8 ∨ (x_69).toInt = 9 ∨ (x_69).toInt = 10 ∨ (x_69).toInt = 11 ∨ (x_69).toInt = 12 ∨ (x_69).toInt = 13 ∨ (x_69).toInt = 14 by omega) with jc_70 | jc_70 | jc_70 | jc_70 | jc_70 | jc_70 | jc_70 | jc_70 | jc_70 | jc_70 | jc_70 | jc_70 | jc_70 | jc_70 | jc_70 | jc_70
          · refine lv_tableOut (tgt := 198) hx hb dX6_readStatement_64 jc_70 (by decide) ?_
            refine lv_aload_n hx hb dX6_readStatement_198 rfl (lv_at hl 0 rfl) ?_
            refine lv_iconst (v := 1) hx hb dX6_readStatement_199 (by decide +kernel) ?_
            refine dg_calli hS hA1 hA (va_runV (As := [.int 1]) (rest := []) F (c_rd_fail l g D o S 1 en n0 f_n0 (by omega) ke f_ke (by omega) (by omega) I H.size) (cwV 1 hts (bw_V wB_690 wB_691 wB_692 wB_684 wB_689) rfl rfl rfl (by decide +kernel) ⟨Nat.le_of_ble_eq_true rfl, Nat.le_of_ble_eq_true rfl⟩) (dg_preV sX_209 rfl K ST hP hS hA1 hA) rfl rfl hl.1 rfl (lv_room (Nat.le_of_ble_eq_true rfl)) dX6_readStatement_200 ⟨Nat.le_of_ble_eq_true rfl, Nat.le_of_ble_eq_true rfl⟩) (fun x_71 S_72 hw_72 H locs hP hS => ?_)
            obtain ⟨I_72, m_72, w_72_0, -⟩ := hw_72
            have M_72 := dg_sm.tr M_0 m_72 (by decide) (by decide)
            have w_72_0 : 0 ≤ (x_71).toInt ∧ (x_71).toInt ≤ 0 := w_72_0
            refine W.widen (k := 0) (n := 0) (Nat.le_of_ble_eq_true rfl) (Nat.le_of_ble_eq_true rfl) ?_
            exact dg_iret hx hb hr hlocks (dk_znar (by omega) (by omega)) hP hS ⟨I_72, M_72, (by omega), ⟨n0, ((m_72.1 209 4 _ sX_209 (by decide)).trans f_n0), (by omega)⟩, (Z1X.keep Z1 m_72 (by decide) (by decide) (by decide)), trivial⟩ dX6_readStatement_203
          · refine lv_tableIn (off := 76) (tgt := 140) hx hb dX6_readStatement_64 (by rw [jc_70]; decide) (by rw [jc_70]; decide) (by rw [jc_70]; decide +kernel) (by decide) ?_
            refine lv_aload_n hx hb dX6_readStatement_140 rfl (lv_at hl 0 rfl) ?_
            refine dg_calli hS hA1 hA (va_runV (As := []) (rest := []) F (c_rd_readSeam l g D o S en n0 f_n0 (by omega) ke f_ke (by omega) (by omega) Z1 I H.size) (cwV 0 hts (bw_V wB_816 wB_817 wB_818 wB_684 wB_815) rfl rfl rfl (by decide +kernel) ⟨Nat.le_of_ble_eq_true rfl, Nat.le_of_ble_eq_true rfl⟩) (dg_preV sX_209 rfl K ST hP hS hA1 hA) rfl rfl hl.1 rfl (lv_room (Nat.le_of_ble_eq_true rfl)) dX6_readStatement_141 ⟨Nat.le_of_ble_eq_true rfl, Nat.le_of_ble_eq_true rfl⟩) (fun x_73 S_74 hw_74 H locs hP hS => ?_)
            obtain ⟨I_74, m_74, w_74_0, w_74_1, w_74_2, -⟩ := hw_74
            have M_74 := dg_sm.tr M_0 m_74 (by decide) (by decide)
            have w_74_0 : 0 ≤ (x_73).toInt ∧ (x_73).toInt ≤ 1 := w_74_0
            obtain ⟨y_75, f_y_75, w_74_1⟩ := w_74_1
            have w_74_1 : (y_75).toInt ≤ (en).toInt := w_74_1
            have b_y_75 : 0 ≤ (y_75).toInt ∧ (y_75).toInt ≤ 1600 := dg_I.intb (lo := 0) (hi := 1600) I_74 sX_209 (by decide +kernel) f_y_75
            refine W.widen (k := 0) (n := 0) (Nat.le_of_ble_eq_true rfl) (Nat.le_of_ble_eq_true rfl) ?_
            exact dg_iret hx hb hr hlocks (dk_znar (by omega) (by omega)) hP hS ⟨I_74, M_74, (by omega), ⟨y_75, f_y_75, (by omega)⟩, w_74_2, trivial⟩ dX6_readStatement_144
          · refine lv_tableIn (off := 134) (tgt := 198) hx hb dX6_readStatement_64 (by rw [jc_70]; decide) (by rw [jc_70]; decide) (by rw [jc_70]; decide +kernel) (by decide) ?_
            refine lv_aload_n hx hb dX6_readStatement_198 rfl (lv_at hl 0 rfl) ?_
            refine lv_iconst (v := 1) hx hb dX6_readStatement_199 (by decide +kernel) ?_
            refine dg_calli hS hA1 hA (va_runV (As := [.int 1]) (rest := []) F (c_rd_fail l g D o S 1 en n0 f_n0 (by omega) ke f_ke (by omega) (by omega) I H.size) (cwV 1 hts (bw_V wB_690 wB_691 wB_692 wB_684 wB_689) rfl rfl rfl (by decide +kernel) ⟨Nat.le_of_ble_eq_true rfl, Nat.le_of_ble_eq_true rfl⟩) (dg_preV sX_209 rfl K ST hP hS hA1 hA) rfl rfl hl.1 rfl (lv_room (Nat.le_of_ble_eq_true rfl)) dX6_readStatement_200 ⟨Nat.le_of_ble_eq_true rfl, Nat.le_of_ble_eq_true rfl⟩) (fun x_76 S_77 hw_77 H locs hP hS => ?_)
            obtain ⟨I_77, m_77, w_77_0, -⟩ := hw_77
            have M_77 := dg_sm.tr M_0 m_77 (by decide) (by decide)
            have w_77_0 : 0 ≤ (x_76).toInt ∧ (x_76).toInt ≤ 0 := w_77_0
            refine W.widen (k := 0) (n := 0) (Nat.le_of_ble_eq_true rfl) (Nat.le_of_ble_eq_true rfl) ?_
            exact dg_iret hx hb hr hlocks (dk_znar (by omega) (by omega)) hP hS ⟨I_77, M_77, (by omega), ⟨n0, ((m_77.1 209 4 _ sX_209 (by decide)).trans f_n0), (by omega)⟩, (Z1X.keep Z1 m_77 (by decide) (by decide) (by decide)), trivial⟩ dX6_readStatement_203
          · refine lv_tableIn (off := 81) (tgt := 145) hx hb dX6_readStatement_64 (by rw [jc_70]; decide) (by rw [jc_70]; decide) (by rw [jc_70]; decide +kernel) (by decide) ?_
            refine lv_aload_n hx hb dX6_readStatement_145 rfl (lv_at hl 0 rfl) ?_
            refine dg_calli hS hA1 hA (va_runV (As := []) (rest := []) F (c_rd_readShaft l g D o S en n0 f_n0 (by omega) ke f_ke (by omega) (by omega) Z1 I H.size) (cwV 0 hts (bw_V wB_820 wB_821 wB_822 wB_684 wB_819) rfl rfl rfl (by decide +kernel) ⟨Nat.le_of_ble_eq_true rfl, Nat.le_of_ble_eq_true rfl⟩) (dg_preV sX_209 rfl K ST hP hS hA1 hA) rfl rfl hl.1 rfl (lv_room (Nat.le_of_ble_eq_true rfl)) dX6_readStatement_146 ⟨Nat.le_of_ble_eq_true rfl, Nat.le_of_ble_eq_true rfl⟩) (fun x_78 S_79 hw_79 H locs hP hS => ?_)
            obtain ⟨I_79, m_79, w_79_0, w_79_1, w_79_2, -⟩ := hw_79
            have M_79 := dg_sm.tr M_0 m_79 (by decide) (by decide)
            have w_79_0 : 0 ≤ (x_78).toInt ∧ (x_78).toInt ≤ 1 := w_79_0
            obtain ⟨y_80, f_y_80, w_79_1⟩ := w_79_1
            have w_79_1 : (y_80).toInt ≤ (en).toInt := w_79_1
            have b_y_80 : 0 ≤ (y_80).toInt ∧ (y_80).toInt ≤ 1600 := dg_I.intb (lo := 0) (hi := 1600) I_79 sX_209 (by decide +kernel) f_y_80
            refine W.widen (k := 0) (n := 0) (Nat.le_of_ble_eq_true rfl) (Nat.le_of_ble_eq_true rfl) ?_
            exact dg_iret hx hb hr hlocks (dk_znar (by omega) (by omega)) hP hS ⟨I_79, M_79, (by omega), ⟨y_80, f_y_80, (by omega)⟩, w_79_2, trivial⟩ dX6_readStatement_149
          · refine lv_tableIn (off := 86) (tgt := 150) hx hb dX6_readStatement_64 (by rw [jc_70]; decide) (by rw [jc_70]; decide) (by rw [jc_70]; decide +kernel) (by decide) ?_
            refine lv_aload_n hx hb dX6_readStatement_150 rfl (lv_at hl 0 rfl) ?_
            refine dg_calli hS hA1 hA (va_runV (As := []) (rest := []) F (c_rd_readReach l g D o S en n0 f_n0 (by omega) ke f_ke (by omega) (by omega) I H.size) (cwV 0 hts (bw_V wB_824 wB_825 wB_826 wB_684 wB_823) rfl rfl rfl (by decide +kernel) ⟨Nat.le_of_ble_eq_true rfl, Nat.le_of_ble_eq_true rfl⟩) (dg_preV sX_209 rfl K ST hP hS hA1 hA) rfl rfl hl.1 rfl (lv_room (Nat.le_of_ble_eq_true rfl)) dX6_readStatement_151 ⟨Nat.le_of_ble_eq_true rfl, Nat.le_of_ble_eq_true rfl⟩) (fun x_81 S_82 hw_82 H locs hP hS => ?_)
            obtain ⟨I_82, m_82, w_82_0, w_82_1, -⟩ := hw_82
            have M_82 := dg_sm.tr M_0 m_82 (by decide) (by decide)
            have w_82_0 : 0 ≤ (x_81).toInt ∧ (x_81).toInt ≤ 1 := w_82_0
            obtain ⟨y_83, f_y_83, w_82_1⟩ := w_82_1
            have w_82_1 : (y_83).toInt ≤ (en).toInt := w_82_1
            have b_y_83 : 0 ≤ (y_83).toInt ∧ (y_83).toInt ≤ 1600 := dg_I.intb (lo := 0) (hi := 1600) I_82 sX_209 (by decide +kernel) f_y_83
            refine W.widen (k := 0) (n := 0) (Nat.le_of_ble_eq_true rfl) (Nat.le_of_ble_eq_true rfl) ?_
            exact dg_iret hx hb hr hlocks (dk_znar (by omega) (by omega)) hP hS ⟨I_82, M_82, (by omega), ⟨y_83, f_y_83, (by omega)⟩, (Z1X.keep Z1 m_82 (by decide) (by decide) (by decide)), trivial⟩ dX6_readStatement_154
          · refine lv_tableIn (off := 91) (tgt := 155) hx hb dX6_readStatement_64 (by rw [jc_70]; decide) (by rw [jc_70]; decide) (by rw [jc_70]; decide +kernel) (by decide) ?_
            refine lv_aload_n hx hb dX6_readStatement_155 rfl (lv_at hl 0 rfl) ?_
            refine dg_calli hS hA1 hA (va_runV (As := []) (rest := []) F (c_rd_readQuake l g D o S en n0 f_n0 (by omega) ke f_ke (by omega) (by omega) I H.size) (cwV 0 hts (bw_V wB_828 wB_829 wB_830 wB_684 wB_827) rfl rfl rfl (by decide +kernel) ⟨Nat.le_of_ble_eq_true rfl, Nat.le_of_ble_eq_true rfl⟩) (dg_preV sX_209 rfl K ST hP hS hA1 hA) rfl rfl hl.1 rfl (lv_room (Nat.le_of_ble_eq_true rfl)) dX6_readStatement_156 ⟨Nat.le_of_ble_eq_true rfl, Nat.le_of_ble_eq_true rfl⟩) (fun x_84 S_85 hw_85 H locs hP hS => ?_)
            obtain ⟨I_85, m_85, w_85_0, w_85_1, -⟩ := hw_85
            have M_85 := dg_sm.tr M_0 m_85 (by decide) (by decide)
            have w_85_0 : 0 ≤ (x_84).toInt ∧ (x_84).toInt ≤ 1 := w_85_0
            obtain ⟨y_86, f_y_86, w_85_1⟩ := w_85_1
            have w_85_1 : (y_86).toInt ≤ (en).toInt := w_85_1
            have b_y_86 : 0 ≤ (y_86).toInt ∧ (y_86).toInt ≤ 1600 := dg_I.intb (lo := 0) (hi := 1600) I_85 sX_209 (by decide +kernel) f_y_86
            refine W.widen (k := 0) (n := 0) (Nat.le_of_ble_eq_true rfl) (Nat.le_of_ble_eq_true rfl) ?_
            exact dg_iret hx hb hr hlocks (dk_znar (by omega) (by omega)) hP hS ⟨I_85, M_85, (by omega), ⟨y_86, f_y_86, (by omega)⟩, (Z1X.keep Z1 m_85 (by decide) (by decide) (by decide)), trivial⟩ dX6_readStatement_159
          · refine lv_tableIn (off := 96) (tgt := 160) hx hb dX6_readStatement_64 (by rw [jc_70]; decide) (by rw [jc_70]; decide) (by rw [jc_70]; decide +kernel) (by decide) ?_
            refine lv_aload_n hx hb dX6_readStatement_160 rfl (lv_at hl 0 rfl) ?_
            refine dg_calli hS hA1 hA (va_runV (As := []) (rest := []) F (c_rd_readGrade l g D o S en n0 f_n0 (by omega) ke f_ke (by omega) (by omega) I H.size) (cwV 0 hts (bw_V wB_832 wB_833 wB_834 wB_684 wB_831) rfl rfl rfl (by decide +kernel) ⟨Nat.le_of_ble_eq_true rfl, Nat.le_of_ble_eq_true rfl⟩) (dg_preV sX_209 rfl K ST hP hS hA1 hA) rfl rfl hl.1 rfl (lv_room (Nat.le_of_ble_eq_true rfl)) dX6_readStatement_161 ⟨Nat.le_of_ble_eq_true rfl, Nat.le_of_ble_eq_true rfl⟩) (fun x_87 S_88 hw_88 H locs hP hS => ?_)
            obtain ⟨I_88, m_88, w_88_0, w_88_1, -⟩ := hw_88
            have M_88 := dg_sm.tr M_0 m_88 (by decide) (by decide)
            have w_88_0 : 0 ≤ (x_87).toInt ∧ (x_87).toInt ≤ 1 := w_88_0
            obtain ⟨y_89, f_y_89, w_88_1⟩ := w_88_1
            have w_88_1 : (y_89).toInt ≤ (en).toInt := w_88_1
            have b_y_89 : 0 ≤ (y_89).toInt ∧ (y_89).toInt ≤ 1600 := dg_I.intb (lo := 0) (hi := 1600) I_88 sX_209 (by decide +kernel) f_y_89
            refine W.widen (k := 0) (n := 0) (Nat.le_of_ble_eq_true rfl) (Nat.le_of_ble_eq_true rfl) ?_
            exact dg_iret hx hb hr hlocks (dk_znar (by omega) (by omega)) hP hS ⟨I_88, M_88, (by omega), ⟨y_89, f_y_89, (by omega)⟩, (Z1X.keep Z1 m_88 (by decide) (by decide) (by decide)), trivial⟩ dX6_readStatement_164
          · refine lv_tableIn (off := 101) (tgt := 165) hx hb dX6_readStatement_64 (by rw [jc_70]; decide) (by rw [jc_70]; decide) (by rw [jc_70]; decide +kernel) (by decide) ?_
            refine lv_aload_n hx hb dX6_readStatement_165 rfl (lv_at hl 0 rfl) ?_
            refine dg_calli hS hA1 hA (va_runV (As := []) (rest := []) F (c_rd_readMiner l g D o S en n0 f_n0 (by omega) ke f_ke (by omega) (by omega) I H.size) (cwV 0 hts (bw_V wB_836 wB_837 wB_838 wB_684 wB_835) rfl rfl rfl (by decide +kernel) ⟨Nat.le_of_ble_eq_true rfl, Nat.le_of_ble_eq_true rfl⟩) (dg_preV sX_209 rfl K ST hP hS hA1 hA) rfl rfl hl.1 rfl (lv_room (Nat.le_of_ble_eq_true rfl)) dX6_readStatement_166 ⟨Nat.le_of_ble_eq_true rfl, Nat.le_of_ble_eq_true rfl⟩) (fun x_90 S_91 hw_91 H locs hP hS => ?_)
            obtain ⟨I_91, m_91, w_91_0, w_91_1, -⟩ := hw_91
            have M_91 := dg_sm.tr M_0 m_91 (by decide) (by decide)
            have w_91_0 : 0 ≤ (x_90).toInt ∧ (x_90).toInt ≤ 1 := w_91_0
            obtain ⟨y_92, f_y_92, w_91_1⟩ := w_91_1
            have w_91_1 : (y_92).toInt ≤ (en).toInt := w_91_1
            have b_y_92 : 0 ≤ (y_92).toInt ∧ (y_92).toInt ≤ 1600 := dg_I.intb (lo := 0) (hi := 1600) I_91 sX_209 (by decide +kernel) f_y_92
            refine W.widen (k := 0) (n := 0) (Nat.le_of_ble_eq_true rfl) (Nat.le_of_ble_eq_true rfl) ?_
            exact dg_iret hx hb hr hlocks (dk_znar (by omega) (by omega)) hP hS ⟨I_91, M_91, (by omega), ⟨y_92, f_y_92, (by omega)⟩, (Z1X.keep Z1 m_91 (by decide) (by decide) (by decide)), trivial⟩ dX6_readStatement_169
          · refine lv_tableIn (off := 106) (tgt := 170) hx hb dX6_readStatement_64 (by rw [jc_70]; decide) (by rw [jc_70]; decide) (by rw [jc_70]; decide +kernel) (by decide) ?_
            refine lv_aload_n hx hb dX6_readStatement_170 rfl (lv_at hl 0 rfl) ?_
            refine dg_calli hS hA1 hA (va_runV (As := []) (rest := []) F (c_rd_readDig l g D o S en n0 f_n0 (by omega) ke f_ke (by omega) (by omega) I H.size) (cwV 0 hts (bw_V wB_840 wB_841 wB_842 wB_684 wB_839) rfl rfl rfl (by decide +kernel) ⟨Nat.le_of_ble_eq_true rfl, Nat.le_of_ble_eq_true rfl⟩) (dg_preV sX_209 rfl K ST hP hS hA1 hA) rfl rfl hl.1 rfl (lv_room (Nat.le_of_ble_eq_true rfl)) dX6_readStatement_171 ⟨Nat.le_of_ble_eq_true rfl, Nat.le_of_ble_eq_true rfl⟩) (fun x_93 S_94 hw_94 H locs hP hS => ?_)
            obtain ⟨I_94, m_94, w_94_0, w_94_1, -⟩ := hw_94
            have M_94 := dg_sm.tr M_0 m_94 (by decide) (by decide)
            have w_94_0 : 0 ≤ (x_93).toInt ∧ (x_93).toInt ≤ 1 := w_94_0
            obtain ⟨y_95, f_y_95, w_94_1⟩ := w_94_1
            have w_94_1 : (y_95).toInt ≤ (en).toInt := w_94_1
            have b_y_95 : 0 ≤ (y_95).toInt ∧ (y_95).toInt ≤ 1600 := dg_I.intb (lo := 0) (hi := 1600) I_94 sX_209 (by decide +kernel) f_y_95
            refine W.widen (k := 0) (n := 0) (Nat.le_of_ble_eq_true rfl) (Nat.le_of_ble_eq_true rfl) ?_
            exact dg_iret hx hb hr hlocks (dk_znar (by omega) (by omega)) hP hS ⟨I_94, M_94, (by omega), ⟨y_95, f_y_95, (by omega)⟩, (Z1X.keep Z1 m_94 (by decide) (by decide) (by decide)), trivial⟩ dX6_readStatement_174
          · refine lv_tableIn (off := 134) (tgt := 198) hx hb dX6_readStatement_64 (by rw [jc_70]; decide) (by rw [jc_70]; decide) (by rw [jc_70]; decide +kernel) (by decide) ?_
            refine lv_aload_n hx hb dX6_readStatement_198 rfl (lv_at hl 0 rfl) ?_
            refine lv_iconst (v := 1) hx hb dX6_readStatement_199 (by decide +kernel) ?_
            refine dg_calli hS hA1 hA (va_runV (As := [.int 1]) (rest := []) F (c_rd_fail l g D o S 1 en n0 f_n0 (by omega) ke f_ke (by omega) (by omega) I H.size) (cwV 1 hts (bw_V wB_690 wB_691 wB_692 wB_684 wB_689) rfl rfl rfl (by decide +kernel) ⟨Nat.le_of_ble_eq_true rfl, Nat.le_of_ble_eq_true rfl⟩) (dg_preV sX_209 rfl K ST hP hS hA1 hA) rfl rfl hl.1 rfl (lv_room (Nat.le_of_ble_eq_true rfl)) dX6_readStatement_200 ⟨Nat.le_of_ble_eq_true rfl, Nat.le_of_ble_eq_true rfl⟩) (fun x_96 S_97 hw_97 H locs hP hS => ?_)
            obtain ⟨I_97, m_97, w_97_0, -⟩ := hw_97
            have M_97 := dg_sm.tr M_0 m_97 (by decide) (by decide)
            have w_97_0 : 0 ≤ (x_96).toInt ∧ (x_96).toInt ≤ 0 := w_97_0
            refine W.widen (k := 0) (n := 0) (Nat.le_of_ble_eq_true rfl) (Nat.le_of_ble_eq_true rfl) ?_
            exact dg_iret hx hb hr hlocks (dk_znar (by omega) (by omega)) hP hS ⟨I_97, M_97, (by omega), ⟨n0, ((m_97.1 209 4 _ sX_209 (by decide)).trans f_n0), (by omega)⟩, (Z1X.keep Z1 m_97 (by decide) (by decide) (by decide)), trivial⟩ dX6_readStatement_203
          · refine lv_tableIn (off := 111) (tgt := 175) hx hb dX6_readStatement_64 (by rw [jc_70]; decide) (by rw [jc_70]; decide) (by rw [jc_70]; decide +kernel) (by decide) ?_
            refine lv_aload_n hx hb dX6_readStatement_175 rfl (lv_at hl 0 rfl) ?_
            refine dg_calli hS hA1 hA (va_runV (As := []) (rest := []) F (c_rd_readOrder l g D o S en n0 f_n0 (by omega) ke f_ke (by omega) (by omega) I H.size) (cwV 0 hts (bw_V wB_844 wB_845 wB_846 wB_684 wB_843) rfl rfl rfl (by decide +kernel) ⟨Nat.le_of_ble_eq_true rfl, Nat.le_of_ble_eq_true rfl⟩) (dg_preV sX_209 rfl K ST hP hS hA1 hA) rfl rfl hl.1 rfl (lv_room (Nat.le_of_ble_eq_true rfl)) dX6_readStatement_176 ⟨Nat.le_of_ble_eq_true rfl, Nat.le_of_ble_eq_true rfl⟩) (fun x_98 S_99 hw_99 H locs hP hS => ?_)
            obtain ⟨I_99, m_99, w_99_0, w_99_1, -⟩ := hw_99
            have M_99 := dg_sm.tr M_0 m_99 (by decide) (by decide)
            have w_99_0 : 0 ≤ (x_98).toInt ∧ (x_98).toInt ≤ 1 := w_99_0
            obtain ⟨y_100, f_y_100, w_99_1⟩ := w_99_1
            have w_99_1 : (y_100).toInt ≤ (en).toInt := w_99_1
            have b_y_100 : 0 ≤ (y_100).toInt ∧ (y_100).toInt ≤ 1600 := dg_I.intb (lo := 0) (hi := 1600) I_99 sX_209 (by decide +kernel) f_y_100
            refine W.widen (k := 0) (n := 0) (Nat.le_of_ble_eq_true rfl) (Nat.le_of_ble_eq_true rfl) ?_
            exact dg_iret hx hb hr hlocks (dk_znar (by omega) (by omega)) hP hS ⟨I_99, M_99, (by omega), ⟨y_100, f_y_100, (by omega)⟩, (Z1X.keep Z1 m_99 (by decide) (by decide) (by decide)), trivial⟩ dX6_readStatement_179
          · refine lv_tableIn (off := 134) (tgt := 198) hx hb dX6_readStatement_64 (by rw [jc_70]; decide) (by rw [jc_70]; decide) (by rw [jc_70]; decide +kernel) (by decide) ?_
            refine lv_aload_n hx hb dX6_readStatement_198 rfl (lv_at hl 0 rfl) ?_
            refine lv_iconst (v := 1) hx hb dX6_readStatement_199 (by decide +kernel) ?_
            refine dg_calli hS hA1 hA (va_runV (As := [.int 1]) (rest := []) F (c_rd_fail l g D o S 1 en n0 f_n0 (by omega) ke f_ke (by omega) (by omega) I H.size) (cwV 1 hts (bw_V wB_690 wB_691 wB_692 wB_684 wB_689) rfl rfl rfl (by decide +kernel) ⟨Nat.le_of_ble_eq_true rfl, Nat.le_of_ble_eq_true rfl⟩) (dg_preV sX_209 rfl K ST hP hS hA1 hA) rfl rfl hl.1 rfl (lv_room (Nat.le_of_ble_eq_true rfl)) dX6_readStatement_200 ⟨Nat.le_of_ble_eq_true rfl, Nat.le_of_ble_eq_true rfl⟩) (fun x_101 S_102 hw_102 H locs hP hS => ?_)
            obtain ⟨I_102, m_102, w_102_0, -⟩ := hw_102
            have M_102 := dg_sm.tr M_0 m_102 (by decide) (by decide)
            have w_102_0 : 0 ≤ (x_101).toInt ∧ (x_101).toInt ≤ 0 := w_102_0
            refine W.widen (k := 0) (n := 0) (Nat.le_of_ble_eq_true rfl) (Nat.le_of_ble_eq_true rfl) ?_
            exact dg_iret hx hb hr hlocks (dk_znar (by omega) (by omega)) hP hS ⟨I_102, M_102, (by omega), ⟨n0, ((m_102.1 209 4 _ sX_209 (by decide)).trans f_n0), (by omega)⟩, (Z1X.keep Z1 m_102 (by decide) (by decide) (by decide)), trivial⟩ dX6_readStatement_203
          · refine lv_tableIn (off := 134) (tgt := 198) hx hb dX6_readStatement_64 (by rw [jc_70]; decide) (by rw [jc_70]; decide) (by rw [jc_70]; decide +kernel) (by decide) ?_
            refine lv_aload_n hx hb dX6_readStatement_198 rfl (lv_at hl 0 rfl) ?_
            refine lv_iconst (v := 1) hx hb dX6_readStatement_199 (by decide +kernel) ?_
            refine dg_calli hS hA1 hA (va_runV (As := [.int 1]) (rest := []) F (c_rd_fail l g D o S 1 en n0 f_n0 (by omega) ke f_ke (by omega) (by omega) I H.size) (cwV 1 hts (bw_V wB_690 wB_691 wB_692 wB_684 wB_689) rfl rfl rfl (by decide +kernel) ⟨Nat.le_of_ble_eq_true rfl, Nat.le_of_ble_eq_true rfl⟩) (dg_preV sX_209 rfl K ST hP hS hA1 hA) rfl rfl hl.1 rfl (lv_room (Nat.le_of_ble_eq_true rfl)) dX6_readStatement_200 ⟨Nat.le_of_ble_eq_true rfl, Nat.le_of_ble_eq_true rfl⟩) (fun x_103 S_104 hw_104 H locs hP hS => ?_)
            obtain ⟨I_104, m_104, w_104_0, -⟩ := hw_104
            have M_104 := dg_sm.tr M_0 m_104 (by decide) (by decide)
            have w_104_0 : 0 ≤ (x_103).toInt ∧ (x_103).toInt ≤ 0 := w_104_0
            refine W.widen (k := 0) (n := 0) (Nat.le_of_ble_eq_true rfl) (Nat.le_of_ble_eq_true rfl) ?_
            exact dg_iret hx hb hr hlocks (dk_znar (by omega) (by omega)) hP hS ⟨I_104, M_104, (by omega), ⟨n0, ((m_104.1 209 4 _ sX_209 (by decide)).trans f_n0), (by omega)⟩, (Z1X.keep Z1 m_104 (by decide) (by decide) (by decide)), trivial⟩ dX6_readStatement_203
          · refine lv_tableIn (off := 116) (tgt := 180) hx hb dX6_readStatement_64 (by rw [jc_70]; decide) (by rw [jc_70]; decide) (by rw [jc_70]; decide +kernel) (by decide) ?_
            refine lv_aload_n hx hb dX6_readStatement_180 rfl (lv_at hl 0 rfl) ?_
            refine lv_iconst (v := 0) hx hb dX6_readStatement_181 (by decide +kernel) ?_
            have hz_105 : (0 : Int32).toInt = 0 := by decide +kernel
            refine dg_calli hS hA1 hA (va_runV (As := [.int 0]) (rest := []) F (c_rd_readRule l g D o S 0 (by decide +kernel) en n0 f_n0 (by omega) ke f_ke (by omega) (by omega) I H.size) (cwV 1 hts (bw_V wB_848 wB_849 wB_850 wB_684 wB_847) rfl rfl rfl (by decide +kernel) ⟨Nat.le_of_ble_eq_true rfl, Nat.le_of_ble_eq_true rfl⟩) (dg_preV sX_209 rfl K ST hP hS hA1 hA) rfl rfl hl.1 rfl (lv_room (Nat.le_of_ble_eq_true rfl)) dX6_readStatement_182 ⟨Nat.le_of_ble_eq_true rfl, Nat.le_of_ble_eq_true rfl⟩) (fun x_106 S_107 hw_107 H locs hP hS => ?_)
            obtain ⟨I_107, m_107, w_107_0, w_107_1, -⟩ := hw_107
            have M_107 := dg_sm.tr M_0 m_107 (by decide) (by decide)
            have hz_108 : (0 : Int32).toInt = 0 := by decide +kernel
            have w_107_0 : 0 ≤ (x_106).toInt ∧ (x_106).toInt ≤ 1 := w_107_0
            obtain ⟨y_109, f_y_109, w_107_1⟩ := w_107_1
            have w_107_1 : (y_109).toInt ≤ (en).toInt := w_107_1
            have b_y_109 : 0 ≤ (y_109).toInt ∧ (y_109).toInt ≤ 1600 := dg_I.intb (lo := 0) (hi := 1600) I_107 sX_209 (by decide +kernel) f_y_109
            refine W.widen (k := 0) (n := 0) (Nat.le_of_ble_eq_true rfl) (Nat.le_of_ble_eq_true rfl) ?_
            exact dg_iret hx hb hr hlocks (dk_znar (by omega) (by omega)) hP hS ⟨I_107, M_107, (by omega), ⟨y_109, f_y_109, (by omega)⟩, (Z1X.keep Z1 m_107 (by decide) (by decide) (by decide)), trivial⟩ dX6_readStatement_185
          · refine lv_tableIn (off := 122) (tgt := 186) hx hb dX6_readStatement_64 (by rw [jc_70]; decide) (by rw [jc_70]; decide) (by rw [jc_70]; decide +kernel) (by decide) ?_
            refine lv_aload_n hx hb dX6_readStatement_186 rfl (lv_at hl 0 rfl) ?_
            refine lv_iconst (v := 1) hx hb dX6_readStatement_187 (by decide +kernel) ?_
            have hz_110 : (1 : Int32).toInt = 1 := by decide +kernel
            refine dg_calli hS hA1 hA (va_runV (As := [.int 1]) (rest := []) F (c_rd_readRule l g D o S 1 (by decide +kernel) en n0 f_n0 (by omega) ke f_ke (by omega) (by omega) I H.size) (cwV 1 hts (bw_V wB_848 wB_849 wB_850 wB_684 wB_847) rfl rfl rfl (by decide +kernel) ⟨Nat.le_of_ble_eq_true rfl, Nat.le_of_ble_eq_true rfl⟩) (dg_preV sX_209 rfl K ST hP hS hA1 hA) rfl rfl hl.1 rfl (lv_room (Nat.le_of_ble_eq_true rfl)) dX6_readStatement_188 ⟨Nat.le_of_ble_eq_true rfl, Nat.le_of_ble_eq_true rfl⟩) (fun x_111 S_112 hw_112 H locs hP hS => ?_)
            obtain ⟨I_112, m_112, w_112_0, w_112_1, -⟩ := hw_112
            have M_112 := dg_sm.tr M_0 m_112 (by decide) (by decide)
            have hz_113 : (1 : Int32).toInt = 1 := by decide +kernel
            have w_112_0 : 0 ≤ (x_111).toInt ∧ (x_111).toInt ≤ 1 := w_112_0
            obtain ⟨y_114, f_y_114, w_112_1⟩ := w_112_1
            have w_112_1 : (y_114).toInt ≤ (en).toInt := w_112_1
            have b_y_114 : 0 ≤ (y_114).toInt ∧ (y_114).toInt ≤ 1600 := dg_I.intb (lo := 0) (hi := 1600) I_112 sX_209 (by decide +kernel) f_y_114
            refine W.widen (k := 0) (n := 0) (Nat.le_of_ble_eq_true rfl) (Nat.le_of_ble_eq_true rfl) ?_
            exact dg_iret hx hb hr hlocks (dk_znar (by omega) (by omega)) hP hS ⟨I_112, M_112, (by omega), ⟨y_114, f_y_114, (by omega)⟩, (Z1X.keep Z1 m_112 (by decide) (by decide) (by decide)), trivial⟩ dX6_readStatement_191
          · refine lv_tableIn (off := 128) (tgt := 192) hx hb dX6_readStatement_64 (by rw [jc_70]; decide) (by rw [jc_70]; decide) (by rw [jc_70]; decide +kernel) (by decide) ?_
            refine lv_aload_n hx hb dX6_readStatement_192 rfl (lv_at hl 0 rfl) ?_
            refine lv_iconst (v := 2) hx hb dX6_readStatement_193 (by decide +kernel) ?_
            have hz_115 : (2 : Int32).toInt = 2 := by decide +kernel
            refine dg_calli hS hA1 hA (va_runV (As := [.int 2]) (rest := []) F (c_rd_readRule l g D o S 2 (by decide +kernel) en n0 f_n0 (by omega) ke f_ke (by omega) (by omega) I H.size) (cwV 1 hts (bw_V wB_848 wB_849 wB_850 wB_684 wB_847) rfl rfl rfl (by decide +kernel) ⟨Nat.le_of_ble_eq_true rfl, Nat.le_of_ble_eq_true rfl⟩) (dg_preV sX_209 rfl K ST hP hS hA1 hA) rfl rfl hl.1 rfl (lv_room (Nat.le_of_ble_eq_true rfl)) dX6_readStatement_194 ⟨Nat.le_of_ble_eq_true rfl, Nat.le_of_ble_eq_true rfl⟩) (fun x_116 S_117 hw_117 H locs hP hS => ?_)
            obtain ⟨I_117, m_117, w_117_0, w_117_1, -⟩ := hw_117
            have M_117 := dg_sm.tr M_0 m_117 (by decide) (by decide)
            have hz_118 : (2 : Int32).toInt = 2 := by decide +kernel
            have w_117_0 : 0 ≤ (x_116).toInt ∧ (x_116).toInt ≤ 1 := w_117_0
            obtain ⟨y_119, f_y_119, w_117_1⟩ := w_117_1
            have w_117_1 : (y_119).toInt ≤ (en).toInt := w_117_1
            have b_y_119 : 0 ≤ (y_119).toInt ∧ (y_119).toInt ≤ 1600 := dg_I.intb (lo := 0) (hi := 1600) I_117 sX_209 (by decide +kernel) f_y_119
            refine W.widen (k := 0) (n := 0) (Nat.le_of_ble_eq_true rfl) (Nat.le_of_ble_eq_true rfl) ?_
            exact dg_iret hx hb hr hlocks (dk_znar (by omega) (by omega)) hP hS ⟨I_117, M_117, (by omega), ⟨y_119, f_y_119, (by omega)⟩, (Z1X.keep Z1 m_117 (by decide) (by decide) (by decide)), trivial⟩ dX6_readStatement_197
        · have jc_67 := dk_neqc (k := (x_10).toInt) rfl c_67
          refine lv_aload_n hx hb dX6_readStatement_46 rfl (lv_at hl 0 rfl) ?_
          refine lv_iconst (v := 1) hx hb dX6_readStatement_47 (by decide +kernel) ?_
          refine dg_calli hS hA1 hA (va_runV (As := [.int 1]) (rest := []) F (c_rd_fail l g D o S 1 en n0 f_n0 (by omega) ke f_ke (by omega) (by omega) I H.size) (cwV 1 hts (bw_V wB_690 wB_691 wB_692 wB_684 wB_689) rfl rfl rfl (by decide +kernel) ⟨Nat.le_of_ble_eq_true rfl, Nat.le_of_ble_eq_true rfl⟩) (dg_preV sX_209 rfl K ST hP hS hA1 hA) rfl rfl hl.1 rfl (lv_room (Nat.le_of_ble_eq_true rfl)) dX6_readStatement_48 ⟨Nat.le_of_ble_eq_true rfl, Nat.le_of_ble_eq_true rfl⟩) (fun x_120 S_121 hw_121 H locs hP hS => ?_)
          obtain ⟨I_121, m_121, w_121_0, -⟩ := hw_121
          have M_121 := dg_sm.tr M_0 m_121 (by decide) (by decide)
          have w_121_0 : 0 ≤ (x_120).toInt ∧ (x_120).toInt ≤ 0 := w_121_0
          refine W.widen (k := 0) (n := 0) (Nat.le_of_ble_eq_true rfl) (Nat.le_of_ble_eq_true rfl) ?_
          exact dg_iret hx hb hr hlocks (dk_znar (by omega) (by omega)) hP hS ⟨I_121, M_121, (by omega), ⟨n0, ((m_121.1 209 4 _ sX_209 (by decide)).trans f_n0), (by omega)⟩, (Z1X.keep Z1 m_121 (by decide) (by decide) (by decide)), trivial⟩ dX6_readStatement_51
      refine lv_if_ne (tgt := 42) hx hb dX6_readStatement_35 (by decide) (fun c_122 => ?_) (fun c_122 => ?_)
      · have jc_122 := dk_neqc (k := 0) (by decide +kernel) c_122
        refine lv_iconst (v := 0) hx hb dX6_readStatement_42 (by decide +kernel) ?_
        have hz_123 : (0 : Int32).toInt = 0 := by decide +kernel
        exact J_66 0 (by decide +kernel) _ _ hP hS _ (lv_sub hl [0, 1] rfl)
      · have jc_122 := dk_eqc (k := 0) (by decide +kernel) c_122
        refine lv_iconst (v := 1) hx hb dX6_readStatement_38 (by decide +kernel) ?_
        refine lv_goto (tgt := 43) hx hb dX6_readStatement_39 (by decide) ?_
        have hz_124 : (1 : Int32).toInt = 1 := by decide +kernel
        exact J_66 1 (by decide +kernel) _ _ hP hS _ (lv_sub hl [0, 1] rfl)
  · have jc_1 := dk_eqc (k := 80) (by decide +kernel) c_1
    refine lv_aload_n hx hb dX6_readStatement_6 rfl (lv_at hl 0 rfl) ?_
    refine lv_bipush (v := 6) hx hb dX6_readStatement_7 (by decide +kernel) ?_
    refine dg_calli hS hA1 hA (va_runV (As := [.int 6]) (rest := []) F (c_rd_fail l g D o S 6 en n0 f_n0 (by omega) ke f_ke (by omega) (by omega) I s.heap.size) (cwV 1 hts (bw_V wB_690 wB_691 wB_692 wB_684 wB_689) rfl rfl rfl (by decide +kernel) ⟨Nat.le_of_ble_eq_true rfl, Nat.le_of_ble_eq_true rfl⟩) (dg_preV sX_209 rfl K ST hP hS hA1 hA) rfl rfl hl.1 rfl (lv_room (Nat.le_of_ble_eq_true rfl)) dX6_readStatement_9 ⟨Nat.le_of_ble_eq_true rfl, Nat.le_of_ble_eq_true rfl⟩) (fun x_125 S_126 hw_126 H locs hP hS => ?_)
    obtain ⟨I_126, m_126, w_126_0, -⟩ := hw_126
    have M_126 := dg_sm.tr M_0 m_126 (by decide) (by decide)
    have w_126_0 : 0 ≤ (x_125).toInt ∧ (x_125).toInt ≤ 0 := w_126_0
    refine W.widen (k := 0) (n := 0) (Nat.le_of_ble_eq_true rfl) (Nat.le_of_ble_eq_true rfl) ?_
    exact dg_iret hx hb hr hlocks (dk_znar (by omega) (by omega)) hP hS ⟨I_126, M_126, (by omega), ⟨n0, ((m_126.1 209 4 _ sX_209 (by decide)).trans f_n0), (by omega)⟩, (Z1X.keep Z1 m_126 (by decide) (by decide) (by decide)), trivial⟩ dX6_readStatement_12
set_option maxHeartbeats 8000000 in
set_option maxRecDepth 100000 in
theorem c_g_clear (l : Launch) (g : Nat → ClassId) (D : va_G) (o : Nat) (S : dg_S) (gr : Nat) (hk_gr : rX gr) (Z1 : Z1X S) (I : CX o S) (sz : Nat) : Met l yX2_clear (bw yX2_clear cX2_clear 1 none) ({ frames := 2, cells := 0, slots := 0, locals := 55 } : Room) (dk_Pc g D (dg_w g shX o rfX S) sz [.ref (o + gr)]) (va_Qv (fun S' => CX o S' ∧ dg_sm shX [(19, 0), (19, 1), (19, 2), (19, 3), (19, 4), (19, 6), (19, 8), (19, 11)] [20, 29, 30] S S' ∧ Z1X S' ∧ True) (dg_B g D shX o rfX) (dg_A o shX.length sz)) 0 0 (dg_A o shX.length sz) := by
  refine dg_met (cc := cX2_clear) (maxL := 1) (ret := none) (by decide) rfl (Nat.le_of_ble_eq_true rfl) ?_
  intro p e s m args below meth c A hAe harg hx hb hr hml hts hown hlocks hin hP K hS hA1 hA ST hsz ls hl
  rw [← hAe]
  have F : CallFix p m c cX2_clear 1 s args (bw yX2_clear cX2_clear 1 none) RX2 := ⟨hx, hb, hml, hown, hts⟩
  have hl : lv_has ls 1 [(0, .ref (o + gr))] := hl
  have M_0 : dg_sm shX [(19, 0), (19, 1), (19, 2), (19, 3), (19, 4), (19, 6), (19, 8), (19, 11)] [20, 29, 30] S S := dg_sm.rf
  refine lv_aload_n hx hb dX2_clear_0 rfl (lv_at hl 0 rfl) ?_
  refine lv_iconst (v := 0) hx hb dX2_clear_1 (by decide +kernel) ?_
  have hz_1 : (0 : Int32).toInt = 0 := by decide +kernel
  refine dg_put (ci := 2) (v := .int 0) (ty := tyX2 0) (C := RX2) (T := TX2) (N := 19) hx hb hts (fun w h => bw_mem (wU_X2 w h)) tyX2 tyX2_ok nmX2 hown K hP hS hA1 (rX_0 gr hk_gr) rfl 0 (by decide) (hts _ (bw_mem wB_0)) (fun _ h9 => h9) rfl (by decide +kernel) rfl rfl dX2_clear_2 (fun S_2 e_2 H locs hP hS => ?_)
  have I_2 := dg_I.uFi (lo := 0) (hi := 7) I e_2 (rX_0 gr hk_gr) (by decide +kernel) (show 0 ≤ ((0 : Int32)).toInt ∧ ((0 : Int32)).toInt ≤ 7 from (by decide +kernel))
  have M_2 := dg_sm.uF M_0 e_2 (rX_0 gr hk_gr) (by decide)
  have Z1_2 := Z1X.cols0 Z1 e_2
  refine lv_aload_n hx hb dX2_clear_5 rfl (lv_at hl 0 rfl) ?_
  refine lv_iconst (v := 0) hx hb dX2_clear_6 (by decide +kernel) ?_
  have hz_3 : (0 : Int32).toInt = 0 := by decide +kernel
  refine dg_put (ci := 2) (v := .int 0) (ty := tyX2 1) (C := RX2) (T := TX2) (N := 19) hx hb hts (fun w h => bw_mem (wU_X2 w h)) tyX2 tyX2_ok nmX2 hown K hP hS hA1 (rX_0 gr hk_gr) rfl 1 (by decide) (hts _ (bw_mem wB_4)) (fun _ h9 => h9) rfl (by decide +kernel) rfl rfl dX2_clear_7 (fun S_4 e_4 H locs hP hS => ?_)
  have I_4 := dg_I.uFi (lo := 0) (hi := 7) I_2 e_4 (rX_0 gr hk_gr) (by decide +kernel) (show 0 ≤ ((0 : Int32)).toInt ∧ ((0 : Int32)).toInt ≤ 7 from (by decide +kernel))
  have M_4 := dg_sm.uF M_2 e_4 (rX_0 gr hk_gr) (by decide)
  have Z1_4 := Z1X.put0 Z1_2 e_4 (by decide) (dg_uF_at e_2)
  refine lv_aload_n hx hb dX2_clear_10 rfl (lv_at hl 0 rfl) ?_
  refine lv_iconst (v := (-1)) hx hb dX2_clear_11 (by decide +kernel) ?_
  have hz_5 : (-1 : Int32).toInt = (-1) := by decide +kernel
  refine dg_put (ci := 2) (v := .int (-1)) (ty := tyX2 2) (C := RX2) (T := TX2) (N := 19) hx hb hts (fun w h => bw_mem (wU_X2 w h)) tyX2 tyX2_ok nmX2 hown K hP hS hA1 (rX_0 gr hk_gr) rfl 2 (by decide) (hts _ (bw_mem wB_851)) (fun _ h9 => h9) rfl (by decide +kernel) rfl rfl dX2_clear_12 (fun S_6 e_6 H locs hP hS => ?_)
  have I_6 := dg_I.uFi (lo := (-1)) (hi := 63) I_4 e_6 (rX_0 gr hk_gr) (by decide +kernel) (show (-1) ≤ ((-1 : Int32)).toInt ∧ ((-1 : Int32)).toInt ≤ 63 from (by decide +kernel))
  have M_6 := dg_sm.uF M_4 e_6 (rX_0 gr hk_gr) (by decide)
  have Z1_6 := Z1X.put0 Z1_4 e_6 (by decide) ((dg_uF_ne e_4 (fun z => absurd z.2 (by decide))).trans (dg_uF_at e_2))
  refine lv_aload_n hx hb dX2_clear_15 rfl (lv_at hl 0 rfl) ?_
  refine lv_iconst (v := 3) hx hb dX2_clear_16 (by decide +kernel) ?_
  have hz_7 : (3 : Int32).toInt = 3 := by decide +kernel
  refine dg_put (ci := 2) (v := .int 3) (ty := tyX2 3) (C := RX2) (T := TX2) (N := 19) hx hb hts (fun w h => bw_mem (wU_X2 w h)) tyX2 tyX2_ok nmX2 hown K hP hS hA1 (rX_0 gr hk_gr) rfl 3 (by decide) (hts _ (bw_mem wB_852)) (fun _ h9 => h9) rfl (by decide +kernel) rfl rfl dX2_clear_17 (fun S_8 e_8 H locs hP hS => ?_)
  have I_8 := dg_I.uFi (lo := (-2147483648)) (hi := 2147483647) I_6 e_8 (rX_0 gr hk_gr) (by decide +kernel) (show (-2147483648) ≤ ((3 : Int32)).toInt ∧ ((3 : Int32)).toInt ≤ 2147483647 from (by decide +kernel))
  have M_8 := dg_sm.uF M_6 e_8 (rX_0 gr hk_gr) (by decide)
  refine lv_aload_n hx hb dX2_clear_20 rfl (lv_at hl 0 rfl) ?_
  refine lv_iconst (v := 0) hx hb dX2_clear_21 (by decide +kernel) ?_
  have hz_9 : (0 : Int32).toInt = 0 := by decide +kernel
  refine dg_put (ci := 2) (v := .int 0) (ty := tyX2 4) (C := RX2) (T := TX2) (N := 19) hx hb hts (fun w h => bw_mem (wU_X2 w h)) tyX2 tyX2_ok nmX2 hown K hP hS hA1 (rX_0 gr hk_gr) rfl 4 (by decide) (hts _ (bw_mem wB_853)) (fun _ h9 => h9) rfl (by decide +kernel) rfl rfl dX2_clear_22 (fun S_10 e_10 H locs hP hS => ?_)
  have I_10 := dg_I.uFi (lo := (-2147483648)) (hi := 2147483647) I_8 e_10 (rX_0 gr hk_gr) (by decide +kernel) (show (-2147483648) ≤ ((0 : Int32)).toInt ∧ ((0 : Int32)).toInt ≤ 2147483647 from (by decide +kernel))
  have M_10 := dg_sm.uF M_8 e_10 (rX_0 gr hk_gr) (by decide)
  refine lv_aload_n hx hb dX2_clear_25 rfl (lv_at hl 0 rfl) ?_
  refine dg_get (C := RX2) (T := TX2) (N := 19) hx hb hts (fun w h => bw_mem (wU_X2 w h)) hown K hP (rX_0 gr hk_gr) rfl 5 (by decide) (hts _ (bw_mem wB_854)) (fun _ h9 => h9) (v := .ref (o + (gr + 1))) (show S_10.1 gr 5 = .ref (o + (gr + 1)) from dg_I.rel (d := 1) I_10 (rX_0 gr hk_gr) (by decide +kernel)) dX2_clear_26 ?_
  refine lv_iconst (v := 5) hx hb dX2_clear_29 (by decide +kernel) ?_
  have hz_11 : (5 : Int32).toInt = 5 := by decide +kernel
  refine dg_callv hS hA1 hA (va_runS (As := [.ref (o + (gr + 1)), .int 5]) (rest := []) F (c_fill l g D S_10 (rX_1 gr hk_gr) (by decide) 5 H.size) (va_cwS 2 hts (bw_S wB_855 wB_50 wB_51 wB_52) rfl rfl rfl (by decide +kernel) ⟨Nat.le_of_ble_eq_true rfl, Nat.le_of_ble_eq_true rfl⟩) (dg_preS K ST hP hS hA1 hA) rfl rfl hl.1 rfl (lv_room (Nat.le_of_ble_eq_true rfl)) dX2_clear_30 ⟨Nat.le_of_ble_eq_true rfl, Nat.le_of_ble_eq_true rfl⟩) (fun S_12 hw_12 H locs hP hS => ?_)
  obtain ⟨r_12, e_12, hr_12⟩ := hw_12
  have I_12 := dg_I.uffi (lo := 0) (hi := 9) I_10 e_12 (rX_1 gr hk_gr) (by decide +kernel) hr_12 (show 0 ≤ ((5 : Int32)).toInt ∧ ((5 : Int32)).toInt ≤ 9 from (by decide +kernel))
  have M_12 := dg_sm.uf M_10 e_12 (rX_1 gr hk_gr) (by decide)
  refine lv_aload_n hx hb dX2_clear_33 rfl (lv_at hl 0 rfl) ?_
  refine lv_iconst (v := 0) hx hb dX2_clear_34 (by decide +kernel) ?_
  have hz_13 : (0 : Int32).toInt = 0 := by decide +kernel
  refine dg_put (ci := 2) (v := .int 0) (ty := tyX2 6) (C := RX2) (T := TX2) (N := 19) hx hb hts (fun w h => bw_mem (wU_X2 w h)) tyX2 tyX2_ok nmX2 hown K hP hS hA1 (rX_0 gr hk_gr) rfl 6 (by decide) (hts _ (bw_mem wB_1)) (fun _ h9 => h9) rfl (by decide +kernel) rfl rfl dX2_clear_35 (fun S_14 e_14 H locs hP hS => ?_)
  have I_14 := dg_I.uFi (lo := 0) (hi := 6) I_12 e_14 (rX_0 gr hk_gr) (by decide +kernel) (show 0 ≤ ((0 : Int32)).toInt ∧ ((0 : Int32)).toInt ≤ 6 from (by decide +kernel))
  have M_14 := dg_sm.uF M_12 e_14 (rX_0 gr hk_gr) (by decide)
  refine lv_aload_n hx hb dX2_clear_38 rfl (lv_at hl 0 rfl) ?_
  refine lv_iconst (v := 0) hx hb dX2_clear_39 (by decide +kernel) ?_
  have hz_15 : (0 : Int32).toInt = 0 := by decide +kernel
  refine dg_put (ci := 2) (v := .int 0) (ty := tyX2 8) (C := RX2) (T := TX2) (N := 19) hx hb hts (fun w h => bw_mem (wU_X2 w h)) tyX2 tyX2_ok nmX2 hown K hP hS hA1 (rX_0 gr hk_gr) rfl 8 (by decide) (hts _ (bw_mem wB_2)) (fun _ h9 => h9) rfl (by decide +kernel) rfl rfl dX2_clear_40 (fun S_16 e_16 H locs hP hS => ?_)
  have I_16 := dg_I.uFi (lo := 0) (hi := 16) I_14 e_16 (rX_0 gr hk_gr) (by decide +kernel) (show 0 ≤ ((0 : Int32)).toInt ∧ ((0 : Int32)).toInt ≤ 16 from (by decide +kernel))
  have M_16 := dg_sm.uF M_14 e_16 (rX_0 gr hk_gr) (by decide)
  refine lv_aload_n hx hb dX2_clear_43 rfl (lv_at hl 0 rfl) ?_
  refine lv_iconst (v := 0) hx hb dX2_clear_44 (by decide +kernel) ?_
  have hz_17 : (0 : Int32).toInt = 0 := by decide +kernel
  refine dg_put (ci := 2) (v := .int 0) (ty := tyX2 11) (C := RX2) (T := TX2) (N := 19) hx hb hts (fun w h => bw_mem (wU_X2 w h)) tyX2 tyX2_ok nmX2 hown K hP hS hA1 (rX_0 gr hk_gr) rfl 11 (by decide) (hts _ (bw_mem wB_3)) (fun _ h9 => h9) rfl (by decide +kernel) rfl rfl dX2_clear_45 (fun S_18 e_18 H locs hP hS => ?_)
  have I_18 := dg_I.uFi (lo := 0) (hi := 5) I_16 e_18 (rX_0 gr hk_gr) (by decide +kernel) (show 0 ≤ ((0 : Int32)).toInt ∧ ((0 : Int32)).toInt ≤ 5 from (by decide +kernel))
  have M_18 := dg_sm.uF M_16 e_18 (rX_0 gr hk_gr) (by decide)
  refine lv_aload_n hx hb dX2_clear_48 rfl (lv_at hl 0 rfl) ?_
  refine dg_get (C := RX2) (T := TX2) (N := 19) hx hb hts (fun w h => bw_mem (wU_X2 w h)) hown K hP (rX_0 gr hk_gr) rfl 17 (by decide) (hts _ (bw_mem wB_6)) (fun _ h9 => h9) (v := .ref (o + (gr + 10))) (show S_18.1 gr 17 = .ref (o + (gr + 10)) from dg_I.rel (d := 10) I_18 (rX_0 gr hk_gr) (by decide +kernel)) dX2_clear_49 ?_
  refine lv_iconst (v := 0) hx hb dX2_clear_52 (by decide +kernel) ?_
  have hz_19 : (0 : Int32).toInt = 0 := by decide +kernel
  refine dg_callv hS hA1 hA (va_runS (As := [.ref (o + (gr + 10)), .int 0]) (rest := []) F (c_fill l g D S_18 (rX_10 gr hk_gr) (by decide) 0 H.size) (va_cwS 2 hts (bw_S wB_855 wB_50 wB_51 wB_52) rfl rfl rfl (by decide +kernel) ⟨Nat.le_of_ble_eq_true rfl, Nat.le_of_ble_eq_true rfl⟩) (dg_preS K ST hP hS hA1 hA) rfl rfl hl.1 rfl (lv_room (Nat.le_of_ble_eq_true rfl)) dX2_clear_53 ⟨Nat.le_of_ble_eq_true rfl, Nat.le_of_ble_eq_true rfl⟩) (fun S_20 hw_20 H locs hP hS => ?_)
  obtain ⟨r_20, e_20, hr_20⟩ := hw_20
  have I_20 := dg_I.uffi (lo := 0) (hi := 1600) I_18 e_20 (rX_10 gr hk_gr) (by decide +kernel) hr_20 (show 0 ≤ ((0 : Int32)).toInt ∧ ((0 : Int32)).toInt ≤ 1600 from (by decide +kernel))
  have M_20 := dg_sm.uf M_18 e_20 (rX_10 gr hk_gr) (by decide)
  refine lv_aload_n hx hb dX2_clear_56 rfl (lv_at hl 0 rfl) ?_
  refine dg_get (C := RX2) (T := TX2) (N := 19) hx hb hts (fun w h => bw_mem (wU_X2 w h)) hown K hP (rX_0 gr hk_gr) rfl 18 (by decide) (hts _ (bw_mem wB_5)) (fun _ h9 => h9) (v := .ref (o + (gr + 11))) (show S_20.1 gr 18 = .ref (o + (gr + 11)) from dg_I.rel (d := 11) I_20 (rX_0 gr hk_gr) (by decide +kernel)) dX2_clear_57 ?_
  refine lv_iconst (v := 0) hx hb dX2_clear_60 (by decide +kernel) ?_
  have hz_21 : (0 : Int32).toInt = 0 := by decide +kernel
  refine dg_callv hS hA1 hA (va_runS (As := [.ref (o + (gr + 11)), .int 0]) (rest := []) F (c_fill l g D S_20 (rX_11 gr hk_gr) (by decide) 0 H.size) (va_cwS 2 hts (bw_S wB_855 wB_50 wB_51 wB_52) rfl rfl rfl (by decide +kernel) ⟨Nat.le_of_ble_eq_true rfl, Nat.le_of_ble_eq_true rfl⟩) (dg_preS K ST hP hS hA1 hA) rfl rfl hl.1 rfl (lv_room (Nat.le_of_ble_eq_true rfl)) dX2_clear_61 ⟨Nat.le_of_ble_eq_true rfl, Nat.le_of_ble_eq_true rfl⟩) (fun S_22 hw_22 H locs hP hS => ?_)
  obtain ⟨r_22, e_22, hr_22⟩ := hw_22
  have I_22 := dg_I.uffi (lo := 0) (hi := 1600) I_20 e_22 (rX_11 gr hk_gr) (by decide +kernel) hr_22 (show 0 ≤ ((0 : Int32)).toInt ∧ ((0 : Int32)).toInt ≤ 1600 from (by decide +kernel))
  have M_22 := dg_sm.uf M_20 e_22 (rX_11 gr hk_gr) (by decide)
  refine W.widen (k := 0) (n := 0) (Nat.le_of_ble_eq_true rfl) (Nat.le_of_ble_eq_true rfl) ?_
  exact dg_vret hx hb hr hlocks hP hS ⟨I_22, M_22, (Z1X.keep (Z1X.keep (Z1X.keep (Z1X.keep (Z1X.keep (Z1X.keep (Z1X.keep (Z1X.keep Z1_6 (dg_sm.uF (WF := [(19, 3)]) (WA := []) dg_sm.rf e_8 (rX_0 gr hk_gr) (by decide)) (by decide) (by decide) (by decide)) (dg_sm.uF (WF := [(19, 4)]) (WA := []) dg_sm.rf e_10 (rX_0 gr hk_gr) (by decide)) (by decide) (by decide) (by decide)) (dg_sm.uf (WF := []) (WA := [20]) dg_sm.rf e_12 (rX_1 gr hk_gr) (by decide)) (by decide) (by decide) (by decide)) (dg_sm.uF (WF := [(19, 6)]) (WA := []) dg_sm.rf e_14 (rX_0 gr hk_gr) (by decide)) (by decide) (by decide) (by decide)) (dg_sm.uF (WF := [(19, 8)]) (WA := []) dg_sm.rf e_16 (rX_0 gr hk_gr) (by decide)) (by decide) (by decide) (by decide)) (dg_sm.uF (WF := [(19, 11)]) (WA := []) dg_sm.rf e_18 (rX_0 gr hk_gr) (by decide)) (by decide) (by decide) (by decide)) (dg_sm.uf (WF := []) (WA := [29]) dg_sm.rf e_20 (rX_10 gr hk_gr) (by decide)) (by decide) (by decide) (by decide)) (dg_sm.uf (WF := []) (WA := [30]) dg_sm.rf e_22 (rX_11 gr hk_gr) (by decide)) (by decide) (by decide) (by decide)), trivial⟩ dX2_clear_64
