/-! 27.mine.lean.txt -/
theorem dX2_clear_0 : decode cX2_clear 0 = .ok (.aload_n 0, 1) := dk_o42 (by decide +kernel)
theorem dX2_clear_1 : decode cX2_clear 1 = .ok (.iconst 0, 1) := dk_o3 (by decide +kernel)
theorem dX2_clear_2 : decode cX2_clear 2 = .ok (.putfield 49, 3) := dk_o181 (by decide +kernel)
theorem dX2_clear_5 : decode cX2_clear 5 = .ok (.aload_n 0, 1) := dk_o42 (by decide +kernel)
theorem dX2_clear_6 : decode cX2_clear 6 = .ok (.iconst 0, 1) := dk_o3 (by decide +kernel)
theorem dX2_clear_7 : decode cX2_clear 7 = .ok (.putfield 52, 3) := dk_o181 (by decide +kernel)
theorem dX2_clear_10 : decode cX2_clear 10 = .ok (.aload_n 0, 1) := dk_o42 (by decide +kernel)
theorem dX2_clear_11 : decode cX2_clear 11 = .ok (.iconst (-1), 1) := dk_o2 (by decide +kernel)
theorem dX2_clear_12 : decode cX2_clear 12 = .ok (.putfield 9, 3) := dk_o181 (by decide +kernel)
theorem dX2_clear_15 : decode cX2_clear 15 = .ok (.aload_n 0, 1) := dk_o42 (by decide +kernel)
theorem dX2_clear_16 : decode cX2_clear 16 = .ok (.iconst 3, 1) := dk_o6 (by decide +kernel)
theorem dX2_clear_17 : decode cX2_clear 17 = .ok (.putfield 55, 3) := dk_o181 (by decide +kernel)
theorem dX2_clear_20 : decode cX2_clear 20 = .ok (.aload_n 0, 1) := dk_o42 (by decide +kernel)
theorem dX2_clear_21 : decode cX2_clear 21 = .ok (.iconst 0, 1) := dk_o3 (by decide +kernel)
theorem dX2_clear_22 : decode cX2_clear 22 = .ok (.putfield 58, 3) := dk_o181 (by decide +kernel)
theorem dX2_clear_25 : decode cX2_clear 25 = .ok (.aload_n 0, 1) := dk_o42 (by decide +kernel)
theorem dX2_clear_26 : decode cX2_clear 26 = .ok (.getfield 15, 3) := dk_o180 (by decide +kernel)
theorem dX2_clear_29 : decode cX2_clear 29 = .ok (.iconst 5, 1) := dk_o8 (by decide +kernel)
theorem dX2_clear_30 : decode cX2_clear 30 = .ok (.invokestatic 61, 3) := dk_o184 (by decide +kernel)
theorem dX2_clear_33 : decode cX2_clear 33 = .ok (.aload_n 0, 1) := dk_o42 (by decide +kernel)
theorem dX2_clear_34 : decode cX2_clear 34 = .ok (.iconst 0, 1) := dk_o3 (by decide +kernel)
theorem dX2_clear_35 : decode cX2_clear 35 = .ok (.putfield 67, 3) := dk_o181 (by decide +kernel)
theorem dX2_clear_38 : decode cX2_clear 38 = .ok (.aload_n 0, 1) := dk_o42 (by decide +kernel)
theorem dX2_clear_39 : decode cX2_clear 39 = .ok (.iconst 0, 1) := dk_o3 (by decide +kernel)
theorem dX2_clear_40 : decode cX2_clear 40 = .ok (.putfield 70, 3) := dk_o181 (by decide +kernel)
theorem dX2_clear_43 : decode cX2_clear 43 = .ok (.aload_n 0, 1) := dk_o42 (by decide +kernel)
theorem dX2_clear_44 : decode cX2_clear 44 = .ok (.iconst 0, 1) := dk_o3 (by decide +kernel)
theorem dX2_clear_45 : decode cX2_clear 45 = .ok (.putfield 73, 3) := dk_o181 (by decide +kernel)
theorem dX2_clear_48 : decode cX2_clear 48 = .ok (.aload_n 0, 1) := dk_o42 (by decide +kernel)
theorem dX2_clear_49 : decode cX2_clear 49 = .ok (.getfield 43, 3) := dk_o180 (by decide +kernel)
theorem dX2_clear_52 : decode cX2_clear 52 = .ok (.iconst 0, 1) := dk_o3 (by decide +kernel)
theorem dX2_clear_53 : decode cX2_clear 53 = .ok (.invokestatic 61, 3) := dk_o184 (by decide +kernel)
theorem dX2_clear_56 : decode cX2_clear 56 = .ok (.aload_n 0, 1) := dk_o42 (by decide +kernel)
theorem dX2_clear_57 : decode cX2_clear 57 = .ok (.getfield 46, 3) := dk_o180 (by decide +kernel)
theorem dX2_clear_60 : decode cX2_clear 60 = .ok (.iconst 0, 1) := dk_o3 (by decide +kernel)
theorem dX2_clear_61 : decode cX2_clear 61 = .ok (.invokestatic 61, 3) := dk_o184 (by decide +kernel)
theorem dX2_clear_64 : decode cX2_clear 64 = .ok (.return_, 1) := dk_o177 (by decide +kernel)
theorem dX6_read_0 : decode cX6_read 0 = .ok (.aload_n 0, 1) := dk_o42 (by decide +kernel)
theorem dX6_read_1 : decode cX6_read 1 = .ok (.aload_n 2, 1) := dk_o44 (by decide +kernel)
theorem dX6_read_2 : decode cX6_read 2 = .ok (.putfield 22, 3) := dk_o181 (by decide +kernel)
theorem dX6_read_5 : decode cX6_read 5 = .ok (.aload_n 0, 1) := dk_o42 (by decide +kernel)
theorem dX6_read_6 : decode cX6_read 6 = .ok (.getfield 22, 3) := dk_o180 (by decide +kernel)
theorem dX6_read_9 : decode cX6_read 9 = .ok (.invokevirtual 26, 3) := dk_o182 (by decide +kernel)
theorem dX6_read_12 : decode cX6_read 12 = .ok (.aload_n 0, 1) := dk_o42 (by decide +kernel)
theorem dX6_read_13 : decode cX6_read 13 = .ok (.iconst 0, 1) := dk_o3 (by decide +kernel)
theorem dX6_read_14 : decode cX6_read 14 = .ok (.putfield 31, 3) := dk_o181 (by decide +kernel)
theorem dX6_read_17 : decode cX6_read 17 = .ok (.aload_n 0, 1) := dk_o42 (by decide +kernel)
theorem dX6_read_18 : decode cX6_read 18 = .ok (.iconst (-1), 1) := dk_o2 (by decide +kernel)
theorem dX6_read_19 : decode cX6_read 19 = .ok (.putfield 9, 3) := dk_o181 (by decide +kernel)
theorem dX6_read_22 : decode cX6_read 22 = .ok (.aload_n 0, 1) := dk_o42 (by decide +kernel)
theorem dX6_read_23 : decode cX6_read 23 = .ok (.iconst 0, 1) := dk_o3 (by decide +kernel)
theorem dX6_read_24 : decode cX6_read 24 = .ok (.putfield 34, 3) := dk_o181 (by decide +kernel)
theorem dX6_read_27 : decode cX6_read 27 = .ok (.aload_n 0, 1) := dk_o42 (by decide +kernel)
theorem dX6_read_28 : decode cX6_read 28 = .ok (.iconst 0, 1) := dk_o3 (by decide +kernel)
theorem dX6_read_29 : decode cX6_read 29 = .ok (.putfield 37, 3) := dk_o181 (by decide +kernel)
theorem dX6_read_32 : decode cX6_read 32 = .ok (.aload_n 0, 1) := dk_o42 (by decide +kernel)
theorem dX6_read_33 : decode cX6_read 33 = .ok (.getfield 18, 3) := dk_o180 (by decide +kernel)
theorem dX6_read_36 : decode cX6_read 36 = .ok (.aload_n 1, 1) := dk_o43 (by decide +kernel)
theorem dX6_read_37 : decode cX6_read 37 = .ok (.invokevirtual 40, 3) := dk_o182 (by decide +kernel)
theorem dX6_read_40 : decode cX6_read 40 = .ok (.iconst 0, 1) := dk_o3 (by decide +kernel)
theorem dX6_read_41 : decode cX6_read 41 = .ok (.istore_n 3, 1) := dk_o62 (by decide +kernel)
theorem dX6_read_42 : decode cX6_read 42 = .ok (.iload_n 3, 1) := dk_o29 (by decide +kernel)
theorem dX6_read_43 : decode cX6_read 43 = .ok (.bipush 80, 2) := dk_o16 (by decide +kernel)
theorem dX6_read_45 : decode cX6_read 45 = .ok (.if_icmp .gt 49, 3) := dk_o163 (by decide +kernel)
theorem dX6_read_48 : decode cX6_read 48 = .ok (.iload_n 3, 1) := dk_o29 (by decide +kernel)
theorem dX6_read_49 : decode cX6_read 49 = .ok (.ifCond .le 20, 3) := dk_o158 (by decide +kernel)
theorem dX6_read_52 : decode cX6_read 52 = .ok (.aload_n 0, 1) := dk_o42 (by decide +kernel)
theorem dX6_read_53 : decode cX6_read 53 = .ok (.getfield 18, 3) := dk_o180 (by decide +kernel)
theorem dX6_read_56 : decode cX6_read 56 = .ok (.getfield 44, 3) := dk_o180 (by decide +kernel)
theorem dX6_read_59 : decode cX6_read 59 = .ok (.aload_n 0, 1) := dk_o42 (by decide +kernel)
theorem dX6_read_60 : decode cX6_read 60 = .ok (.getfield 34, 3) := dk_o180 (by decide +kernel)
theorem dX6_read_63 : decode cX6_read 63 = .ok (.iaload, 1) := dk_o46 (by decide +kernel)
theorem dX6_read_64 : decode cX6_read 64 = .ok (.ifCond .ne 5, 3) := dk_o154 (by decide +kernel)
theorem dX6_read_67 : decode cX6_read 67 = .ok (.iload_n 3, 1) := dk_o29 (by decide +kernel)
theorem dX6_read_68 : decode cX6_read 68 = .ok (.ireturn, 1) := dk_o172 (by decide +kernel)
theorem dX6_read_69 : decode cX6_read 69 = .ok (.aload_n 0, 1) := dk_o42 (by decide +kernel)
theorem dX6_read_70 : decode cX6_read 70 = .ok (.iload_n 3, 1) := dk_o29 (by decide +kernel)
theorem dX6_read_71 : decode cX6_read 71 = .ok (.invokevirtual 48, 3) := dk_o182 (by decide +kernel)
theorem dX6_read_74 : decode cX6_read 74 = .ok (.ifCond .eq 12, 3) := dk_o153 (by decide +kernel)
theorem dX6_read_77 : decode cX6_read 77 = .ok (.aload_n 0, 1) := dk_o42 (by decide +kernel)
theorem dX6_read_78 : decode cX6_read 78 = .ok (.bipush 59, 2) := dk_o16 (by decide +kernel)
theorem dX6_read_80 : decode cX6_read 80 = .ok (.invokevirtual 52, 3) := dk_o182 (by decide +kernel)
theorem dX6_read_83 : decode cX6_read 83 = .ok (.ifCond .ne 5, 3) := dk_o154 (by decide +kernel)
theorem dX6_read_86 : decode cX6_read 86 = .ok (.iconst (-1), 1) := dk_o2 (by decide +kernel)
theorem dX6_read_87 : decode cX6_read 87 = .ok (.ireturn, 1) := dk_o172 (by decide +kernel)
theorem dX6_read_88 : decode cX6_read 88 = .ok (.iinc 3 1, 3) := dk_o132 (by decide +kernel)
theorem dX6_read_91 : decode cX6_read 91 = .ok (.goto (-49), 3) := dk_o167 (by decide +kernel)
theorem dX6_read_94 : decode cX6_read 94 = .ok (.iconst (-1), 1) := dk_o2 (by decide +kernel)
theorem dX6_read_95 : decode cX6_read 95 = .ok (.ireturn, 1) := dk_o172 (by decide +kernel)
theorem wB_257 : Cond.fieldLink RX2 9 "DarkMine$Ground" "shaftPlace" "I" ∈ dgB := List.mem_filter.mpr ⟨tbl_1 _ (List.mem_of_getElem? (i := 187) (by decide +kernel)), by decide +kernel⟩
theorem wB_258 : Cond.fieldLink RX2 55 "DarkMine$Ground" "reach" "I" ∈ dgB := List.mem_filter.mpr ⟨tbl_1 _ (List.mem_of_getElem? (i := 194) (by decide +kernel)), by decide +kernel⟩
theorem wB_259 : Cond.fieldLink RX2 58 "DarkMine$Ground" "quake" "I" ∈ dgB := List.mem_filter.mpr ⟨tbl_1 _ (List.mem_of_getElem? (i := 198) (by decide +kernel)), by decide +kernel⟩
theorem wB_260 : Cond.fieldLink RX2 15 "DarkMine$Ground" "grades" "[I" ∈ dgB := List.mem_filter.mpr ⟨tbl_1 _ (List.mem_of_getElem? (i := 202) (by decide +kernel)), by decide +kernel⟩
theorem wB_261 : Cond.methodLink RX2 61 yJ7_fill_53178 ∈ dgB := List.mem_filter.mpr ⟨tbl_3 _ (List.mem_of_getElem? (i := 120) (by decide +kernel)), by decide +kernel⟩
theorem wB_262 : Cond.static yJ7_fill_53178 ∈ dgB := List.mem_filter.mpr ⟨tbl_3 _ (List.mem_of_getElem? (i := 39) (by decide +kernel)), by decide +kernel⟩
theorem wB_263 : Cond.initialized RJ7 ∈ dgB := List.mem_filter.mpr ⟨tbl_1 _ (List.mem_of_getElem? (i := 13) (by decide +kernel)), by decide +kernel⟩
theorem wB_264 : Cond.code yJ7_fill_53178 cJ7_fill_53178 4 none ∈ dgB := List.mem_filter.mpr ⟨tbl_3 _ (List.mem_of_getElem? (i := 40) rfl), rfl⟩
theorem wB_265 : Cond.fieldLink RX2 70 "DarkMine$Ground" "planRows" "I" ∈ dgB := List.mem_filter.mpr ⟨tbl_1 _ (List.mem_of_getElem? (i := 212) (by decide +kernel)), by decide +kernel⟩
theorem wB_266 : Cond.code yX2_clear cX2_clear 1 none ∈ dgB := List.mem_filter.mpr ⟨tbl_3 _ (List.mem_of_getElem? (i := 119) rfl), rfl⟩
theorem wB_267 : Cond.methodLink RX6 26 yX2_clear ∈ dgB := List.mem_filter.mpr ⟨tbl_3 _ (List.mem_of_getElem? (i := 116) (by decide +kernel)), by decide +kernel⟩
theorem wB_268 : Cond.instanceMethod yX2_clear ∈ dgB := List.mem_filter.mpr ⟨tbl_3 _ (List.mem_of_getElem? (i := 117) (by decide +kernel)), by decide +kernel⟩
theorem wB_269 : Cond.selects RX2 yX2_clear yX2_clear ∈ dgB := List.mem_filter.mpr ⟨tbl_3 _ (List.mem_of_getElem? (i := 118) (by decide +kernel)), by decide +kernel⟩
theorem wB_270 : Cond.code yX9_split cX9_split 5 none ∈ dgB := List.mem_filter.mpr ⟨tbl_3 _ (List.mem_of_getElem? (i := 124) rfl), rfl⟩
theorem wB_271 : Cond.methodLink RX6 40 yX9_split ∈ dgB := List.mem_filter.mpr ⟨tbl_3 _ (List.mem_of_getElem? (i := 121) (by decide +kernel)), by decide +kernel⟩
theorem wB_272 : Cond.instanceMethod yX9_split ∈ dgB := List.mem_filter.mpr ⟨tbl_3 _ (List.mem_of_getElem? (i := 122) (by decide +kernel)), by decide +kernel⟩
theorem wB_273 : Cond.selects RX9 yX9_split yX9_split ∈ dgB := List.mem_filter.mpr ⟨tbl_3 _ (List.mem_of_getElem? (i := 123) (by decide +kernel)), by decide +kernel⟩
theorem wB_274 : Cond.code yX6_readStatement cX6_readStatement 2 (some .boolean) ∈ dgB := List.mem_filter.mpr ⟨tbl_3 _ (List.mem_of_getElem? (i := 197) rfl), rfl⟩
theorem wB_275 : Cond.methodLink RX6 48 yX6_readStatement ∈ dgB := List.mem_filter.mpr ⟨tbl_3 _ (List.mem_of_getElem? (i := 194) (by decide +kernel)), by decide +kernel⟩
theorem wB_276 : Cond.instanceMethod yX6_readStatement ∈ dgB := List.mem_filter.mpr ⟨tbl_3 _ (List.mem_of_getElem? (i := 196) (by decide +kernel)), by decide +kernel⟩
theorem wB_277 : Cond.selects RX6 yX6_readStatement yX6_readStatement ∈ dgB := List.mem_filter.mpr ⟨List.mem_of_getElem? (i := 6) (by decide +kernel), by decide +kernel⟩
theorem wB_278 : Cond.fieldLink RX11 61 "DarkMine" "reader" "LDarkMine$Reader;" ∈ dgB := List.mem_filter.mpr ⟨tbl_3 _ (List.mem_of_getElem? (i := 56) (by decide +kernel)), by decide +kernel⟩
theorem wB_279 : Cond.fieldLink RX11 10 "DarkMine" "tape" "LDarkMine$Tape;" ∈ dgB := List.mem_filter.mpr ⟨tbl_3 _ (List.mem_of_getElem? (i := 48) (by decide +kernel)), by decide +kernel⟩
theorem wB_280 : Cond.fieldLink RX11 53 "DarkMine" "spareGround" "LDarkMine$Ground;" ∈ dgB := List.mem_filter.mpr ⟨tbl_3 _ (List.mem_of_getElem? (i := 55) (by decide +kernel)), by decide +kernel⟩
theorem wB_281 : Cond.code yX6_read cX6_read 4 (some .int) ∈ dgB := List.mem_filter.mpr ⟨tbl_3 _ (List.mem_of_getElem? (i := 115) rfl), rfl⟩
theorem wB_282 : Cond.methodLink RX11 112 yX6_read ∈ dgB := List.mem_filter.mpr ⟨tbl_3 _ (List.mem_of_getElem? (i := 112) (by decide +kernel)), by decide +kernel⟩
theorem wB_283 : Cond.instanceMethod yX6_read ∈ dgB := List.mem_filter.mpr ⟨tbl_3 _ (List.mem_of_getElem? (i := 113) (by decide +kernel)), by decide +kernel⟩
theorem wB_284 : Cond.selects RX6 yX6_read yX6_read ∈ dgB := List.mem_filter.mpr ⟨tbl_3 _ (List.mem_of_getElem? (i := 114) (by decide +kernel)), by decide +kernel⟩
theorem wB_285 : Cond.fieldLink RX11 97 "DarkMine$Tape" "length" "I" ∈ dgB := List.mem_filter.mpr ⟨tbl_1 _ (List.mem_of_getElem? (i := 40) (by decide +kernel)), by decide +kernel⟩
theorem wB_286 : Cond.fieldLink RX11 49 "DarkMine" "ground" "LDarkMine$Ground;" ∈ dgB := List.mem_filter.mpr ⟨tbl_3 _ (List.mem_of_getElem? (i := 54) (by decide +kernel)), by decide +kernel⟩
theorem wB_287 : Cond.fieldLink RX11 19 "DarkMine" "pit" "LDarkMine$Pit;" ∈ dgB := List.mem_filter.mpr ⟨tbl_3 _ (List.mem_of_getElem? (i := 49) (by decide +kernel)), by decide +kernel⟩
set_option maxHeartbeats 8000000 in
set_option maxRecDepth 100000 in
theorem c_g_clear (l : Launch) (g : Nat → ClassId) (D : va_G) (o : Nat) (S : dg_S) (gr : Nat) (hk_gr : rX gr) (S0 : dg_S) (d0 : Nat) (hd0 : d0 ≠ gr) (Z1 : Z1X S) (GO : GOX S0 d0 S) (I : CX o S) (sz : Nat) : Met l yX2_clear (bw yX2_clear cX2_clear 1 none) ({ frames := 2, cells := 0, slots := 0, locals := 55 } : Room) (dk_Pc g D (dg_w g shX o rfX S) sz [.ref (o + gr)]) (va_Qv (fun S' => CX o S' ∧ dg_sm shX [(19, 0), (19, 1), (19, 2), (19, 3), (19, 4), (19, 6), (19, 8), (19, 11)] [20, 29, 30] S S' ∧ (∃ y9 : Int32, S'.1 gr 0 = .int y9 ∧ ((y9).toInt = 0)) ∧ (∃ y9 : Int32, S'.1 gr 1 = .int y9 ∧ ((y9).toInt = 0)) ∧ (∃ y9 : Int32, S'.1 gr 6 = .int y9 ∧ ((y9).toInt = 0)) ∧ (∃ y9 : Int32, S'.1 gr 8 = .int y9 ∧ ((y9).toInt = 0)) ∧ (∃ y9 : Int32, S'.1 gr 11 = .int y9 ∧ ((y9).toInt = 0)) ∧ (∀ j9 : Nat, j9 < 3 → (S'.2.1 (gr + 10) j9).toInt = 0) ∧ (∀ j9 : Nat, j9 < 3 → (S'.2.1 (gr + 11) j9).toInt = 0) ∧ (∃ y9 : Int32, S'.1 gr 3 = .int y9 ∧ ((y9).toInt = 3)) ∧ (∃ y9 : Int32, S'.1 gr 4 = .int y9 ∧ ((y9).toInt = 0)) ∧ (∀ j9 : Nat, j9 < 72 → (S'.2.1 (gr + 1) j9).toInt = 5) ∧ Z1X S' ∧ GOX S0 d0 S' ∧ True) (dg_B g D shX o rfX) (dg_A o shX.length sz)) 0 0 (dg_A o shX.length sz) := by
  refine dg_met (cc := cX2_clear) (maxL := 1) (ret := none) (dk_dq rfl) rfl (Nat.le_of_ble_eq_true rfl) ?_
  intro p e s m args below meth c A hAe harg hx hb hr hml hts hown hlocks hin hP K hS hA1 hA ST hsz ls hl
  rw [← hAe]
  have F : CallFix p m c cX2_clear 1 s args (bw yX2_clear cX2_clear 1 none) RX2 := ⟨hx, hb, hml, hown, hts⟩
  have hl : lv_has ls 1 [(0, .ref (o + gr))] := hl
  have M_0 : dg_sm shX [(19, 0), (19, 1), (19, 2), (19, 3), (19, 4), (19, 6), (19, 8), (19, 11)] [20, 29, 30] S S := dg_sm.rf
  refine lv_aload_n hx hb dX2_clear_0 rfl (lv_at hl 0 rfl) ?_
  refine lv_iconst (v := 0) hx hb dX2_clear_1 (by decide +kernel) ?_
  have hz_1 : (0 : Int32).toInt = 0 := by decide +kernel
  refine dg_put (ci := 2) (v := .int 0) (ty := tyX2 0) (C := RX2) (T := TX2) (N := 19) hx hb hts (fun w h => bw_mem (wU_X2 w h)) tyX2 tyX2_ok nmX2 hown K hP hS hA1 (rX_0 gr hk_gr) rfl 0 (dk_dq rfl) (hts _ (bw_mem wB_0)) (fun _ h9 => h9) rfl (by decide +kernel) rfl rfl dX2_clear_2 (fun S_2 e_2 H locs hP hS => ?_)
  have I_2 := dg_I.uFi (lo := 0) (hi := 7) I e_2 (rX_0 gr hk_gr) (by decide +kernel) (show 0 ≤ ((0 : Int32)).toInt ∧ ((0 : Int32)).toInt ≤ 7 from (by decide +kernel))
  have M_2 := dg_sm.uF M_0 e_2 (rX_0 gr hk_gr) (dk_dq rfl)
  have GO_2 := GOX.uF GO hd0 e_2
  have Z1_2 := Z1X.cols0 Z1 e_2
  refine lv_aload_n hx hb dX2_clear_5 rfl (lv_at hl 0 rfl) ?_
  refine lv_iconst (v := 0) hx hb dX2_clear_6 (by decide +kernel) ?_
  have hz_3 : (0 : Int32).toInt = 0 := by decide +kernel
  refine dg_put (ci := 2) (v := .int 0) (ty := tyX2 1) (C := RX2) (T := TX2) (N := 19) hx hb hts (fun w h => bw_mem (wU_X2 w h)) tyX2 tyX2_ok nmX2 hown K hP hS hA1 (rX_0 gr hk_gr) rfl 1 (dk_dq rfl) (hts _ (bw_mem wB_1)) (fun _ h9 => h9) rfl (by decide +kernel) rfl rfl dX2_clear_7 (fun S_4 e_4 H locs hP hS => ?_)
  have I_4 := dg_I.uFi (lo := 0) (hi := 7) I_2 e_4 (rX_0 gr hk_gr) (by decide +kernel) (show 0 ≤ ((0 : Int32)).toInt ∧ ((0 : Int32)).toInt ≤ 7 from (by decide +kernel))
  have M_4 := dg_sm.uF M_2 e_4 (rX_0 gr hk_gr) (dk_dq rfl)
  have GO_4 := GOX.uF GO_2 hd0 e_4
  have Z1_4 := Z1X.put0 Z1_2 e_4 (dk_dq rfl) (dg_uF_at e_2)
  refine lv_aload_n hx hb dX2_clear_10 rfl (lv_at hl 0 rfl) ?_
  refine lv_iconst (v := (-1)) hx hb dX2_clear_11 (by decide +kernel) ?_
  have hz_5 : (-1 : Int32).toInt = (-1) := by decide +kernel
  refine dg_put (ci := 2) (v := .int (-1)) (ty := tyX2 2) (C := RX2) (T := TX2) (N := 19) hx hb hts (fun w h => bw_mem (wU_X2 w h)) tyX2 tyX2_ok nmX2 hown K hP hS hA1 (rX_0 gr hk_gr) rfl 2 (dk_dq rfl) (hts _ (bw_mem wB_257)) (fun _ h9 => h9) rfl (by decide +kernel) rfl rfl dX2_clear_12 (fun S_6 e_6 H locs hP hS => ?_)
  have I_6 := dg_I.uFi (lo := (-1)) (hi := 63) I_4 e_6 (rX_0 gr hk_gr) (by decide +kernel) (show (-1) ≤ ((-1 : Int32)).toInt ∧ ((-1 : Int32)).toInt ≤ 63 from (by decide +kernel))
  have M_6 := dg_sm.uF M_4 e_6 (rX_0 gr hk_gr) (dk_dq rfl)
  have GO_6 := GOX.uF GO_4 hd0 e_6
  have Z1_6 := Z1X.put0 Z1_4 e_6 (dk_dq rfl) ((dg_uF_ne e_4 (fun z => absurd z.2 (dk_dq rfl))).trans (dg_uF_at e_2))
  refine lv_aload_n hx hb dX2_clear_15 rfl (lv_at hl 0 rfl) ?_
  refine lv_iconst (v := 3) hx hb dX2_clear_16 (by decide +kernel) ?_
  have hz_7 : (3 : Int32).toInt = 3 := by decide +kernel
  refine dg_put (ci := 2) (v := .int 3) (ty := tyX2 3) (C := RX2) (T := TX2) (N := 19) hx hb hts (fun w h => bw_mem (wU_X2 w h)) tyX2 tyX2_ok nmX2 hown K hP hS hA1 (rX_0 gr hk_gr) rfl 3 (dk_dq rfl) (hts _ (bw_mem wB_258)) (fun _ h9 => h9) rfl (by decide +kernel) rfl rfl dX2_clear_17 (fun S_8 e_8 H locs hP hS => ?_)
  have I_8 := dg_I.uFi (lo := (-2147483648)) (hi := 2147483647) I_6 e_8 (rX_0 gr hk_gr) (by decide +kernel) (show (-2147483648) ≤ ((3 : Int32)).toInt ∧ ((3 : Int32)).toInt ≤ 2147483647 from (by decide +kernel))
  have M_8 := dg_sm.uF M_6 e_8 (rX_0 gr hk_gr) (dk_dq rfl)
  have GO_8 := GOX.uF GO_6 hd0 e_8
  refine lv_aload_n hx hb dX2_clear_20 rfl (lv_at hl 0 rfl) ?_
  refine lv_iconst (v := 0) hx hb dX2_clear_21 (by decide +kernel) ?_
  have hz_9 : (0 : Int32).toInt = 0 := by decide +kernel
  as_aux_lemma =>
    refine dg_put (ci := 2) (v := .int 0) (ty := tyX2 4) (C := RX2) (T := TX2) (N := 19) hx hb hts (fun w h => bw_mem (wU_X2 w h)) tyX2 tyX2_ok nmX2 hown K hP hS hA1 (rX_0 gr hk_gr) rfl 4 (dk_dq rfl) (hts _ (bw_mem wB_259)) (fun _ h9 => h9) rfl (by decide +kernel) rfl rfl dX2_clear_22 (fun S_10 e_10 H locs hP hS => ?_)
    have I_10 := dg_I.uFi (lo := (-2147483648)) (hi := 2147483647) I_8 e_10 (rX_0 gr hk_gr) (by decide +kernel) (show (-2147483648) ≤ ((0 : Int32)).toInt ∧ ((0 : Int32)).toInt ≤ 2147483647 from (by decide +kernel))
    have M_10 := dg_sm.uF M_8 e_10 (rX_0 gr hk_gr) (dk_dq rfl)
    have GO_10 := GOX.uF GO_8 hd0 e_10
    refine lv_aload_n hx hb dX2_clear_25 rfl (lv_at hl 0 rfl) ?_
    refine dg_get (C := RX2) (T := TX2) (N := 19) hx hb hts (fun w h => bw_mem (wU_X2 w h)) hown K hP (rX_0 gr hk_gr) rfl 5 (dk_dq rfl) (hts _ (bw_mem wB_260)) (fun _ h9 => h9) (v := .ref (o + (gr + 1))) (show S_10.1 gr 5 = .ref (o + (gr + 1)) from dg_I.rel (d := 1) I_10 (rX_0 gr hk_gr) (by decide +kernel)) dX2_clear_26 ?_
    refine lv_iconst (v := 5) hx hb dX2_clear_29 (by decide +kernel) ?_
    have hz_11 : (5 : Int32).toInt = 5 := by decide +kernel
    refine dg_callv hS hA1 hA (va_runS (As := [.ref (o + (gr + 1)), .int 5]) (rest := []) F (c_fill l g D S_10 (rX_1 gr hk_gr) (dk_dq rfl) 5 H.size) (va_cwS 2 hts (bw_S wB_261 wB_262 wB_263 wB_264) rfl rfl rfl (by decide +kernel) ⟨Nat.le_of_ble_eq_true rfl, Nat.le_of_ble_eq_true rfl⟩) (dg_preS K ST hP hS hA1 hA) rfl rfl hl.1 rfl (lv_room (Nat.le_of_ble_eq_true rfl)) dX2_clear_30 ⟨Nat.le_of_ble_eq_true rfl, Nat.le_of_ble_eq_true rfl⟩) (fun S_12 hw_12 H locs hP hS => ?_)
    obtain ⟨r_12, e_12, hr_12⟩ := hw_12
    have I_12 := dg_I.uffi (lo := 0) (hi := 9) I_10 e_12 (rX_1 gr hk_gr) (by decide +kernel) hr_12 (show 0 ≤ ((5 : Int32)).toInt ∧ ((5 : Int32)).toInt ≤ 9 from (by decide +kernel))
    have M_12 := dg_sm.uf M_10 e_12 (rX_1 gr hk_gr) (dk_dq rfl)
    have GO_12 := GOX.uf GO_10 hk_gr hd0 (i := 1) (dk_dq rfl) e_12
    refine lv_aload_n hx hb dX2_clear_33 rfl (lv_at hl 0 rfl) ?_
    refine lv_iconst (v := 0) hx hb dX2_clear_34 (by decide +kernel) ?_
    have hz_13 : (0 : Int32).toInt = 0 := by decide +kernel
    refine dg_put (ci := 2) (v := .int 0) (ty := tyX2 6) (C := RX2) (T := TX2) (N := 19) hx hb hts (fun w h => bw_mem (wU_X2 w h)) tyX2 tyX2_ok nmX2 hown K hP hS hA1 (rX_0 gr hk_gr) rfl 6 (dk_dq rfl) (hts _ (bw_mem wB_2)) (fun _ h9 => h9) rfl (by decide +kernel) rfl rfl dX2_clear_35 (fun S_14 e_14 H locs hP hS => ?_)
    have I_14 := dg_I.uFi (lo := 0) (hi := 6) I_12 e_14 (rX_0 gr hk_gr) (by decide +kernel) (show 0 ≤ ((0 : Int32)).toInt ∧ ((0 : Int32)).toInt ≤ 6 from (by decide +kernel))
    have M_14 := dg_sm.uF M_12 e_14 (rX_0 gr hk_gr) (dk_dq rfl)
    have GO_14 := GOX.uF GO_12 hd0 e_14
    refine lv_aload_n hx hb dX2_clear_38 rfl (lv_at hl 0 rfl) ?_
    refine lv_iconst (v := 0) hx hb dX2_clear_39 (by decide +kernel) ?_
    have hz_15 : (0 : Int32).toInt = 0 := by decide +kernel
    refine dg_put (ci := 2) (v := .int 0) (ty := tyX2 8) (C := RX2) (T := TX2) (N := 19) hx hb hts (fun w h => bw_mem (wU_X2 w h)) tyX2 tyX2_ok nmX2 hown K hP hS hA1 (rX_0 gr hk_gr) rfl 8 (dk_dq rfl) (hts _ (bw_mem wB_265)) (fun _ h9 => h9) rfl (by decide +kernel) rfl rfl dX2_clear_40 (fun S_16 e_16 H locs hP hS => ?_)
    have I_16 := dg_I.uFi (lo := 0) (hi := 16) I_14 e_16 (rX_0 gr hk_gr) (by decide +kernel) (show 0 ≤ ((0 : Int32)).toInt ∧ ((0 : Int32)).toInt ≤ 16 from (by decide +kernel))
    have M_16 := dg_sm.uF M_14 e_16 (rX_0 gr hk_gr) (dk_dq rfl)
    have GO_16 := GOX.uF GO_14 hd0 e_16
    refine lv_aload_n hx hb dX2_clear_43 rfl (lv_at hl 0 rfl) ?_
    refine lv_iconst (v := 0) hx hb dX2_clear_44 (by decide +kernel) ?_
    have hz_17 : (0 : Int32).toInt = 0 := by decide +kernel
    refine dg_put (ci := 2) (v := .int 0) (ty := tyX2 11) (C := RX2) (T := TX2) (N := 19) hx hb hts (fun w h => bw_mem (wU_X2 w h)) tyX2 tyX2_ok nmX2 hown K hP hS hA1 (rX_0 gr hk_gr) rfl 11 (dk_dq rfl) (hts _ (bw_mem wB_4)) (fun _ h9 => h9) rfl (by decide +kernel) rfl rfl dX2_clear_45 (fun S_18 e_18 H locs hP hS => ?_)
    have I_18 := dg_I.uFi (lo := 0) (hi := 5) I_16 e_18 (rX_0 gr hk_gr) (by decide +kernel) (show 0 ≤ ((0 : Int32)).toInt ∧ ((0 : Int32)).toInt ≤ 5 from (by decide +kernel))
    have M_18 := dg_sm.uF M_16 e_18 (rX_0 gr hk_gr) (dk_dq rfl)
    have GO_18 := GOX.uF GO_16 hd0 e_18
    refine lv_aload_n hx hb dX2_clear_48 rfl (lv_at hl 0 rfl) ?_
    refine dg_get (C := RX2) (T := TX2) (N := 19) hx hb hts (fun w h => bw_mem (wU_X2 w h)) hown K hP (rX_0 gr hk_gr) rfl 17 (dk_dq rfl) (hts _ (bw_mem wB_12)) (fun _ h9 => h9) (v := .ref (o + (gr + 10))) (show S_18.1 gr 17 = .ref (o + (gr + 10)) from dg_I.rel (d := 10) I_18 (rX_0 gr hk_gr) (by decide +kernel)) dX2_clear_49 ?_
    refine lv_iconst (v := 0) hx hb dX2_clear_52 (by decide +kernel) ?_
    have hz_19 : (0 : Int32).toInt = 0 := by decide +kernel
    refine dg_callv hS hA1 hA (va_runS (As := [.ref (o + (gr + 10)), .int 0]) (rest := []) F (c_fill l g D S_18 (rX_10 gr hk_gr) (dk_dq rfl) 0 H.size) (va_cwS 2 hts (bw_S wB_261 wB_262 wB_263 wB_264) rfl rfl rfl (by decide +kernel) ⟨Nat.le_of_ble_eq_true rfl, Nat.le_of_ble_eq_true rfl⟩) (dg_preS K ST hP hS hA1 hA) rfl rfl hl.1 rfl (lv_room (Nat.le_of_ble_eq_true rfl)) dX2_clear_53 ⟨Nat.le_of_ble_eq_true rfl, Nat.le_of_ble_eq_true rfl⟩) (fun S_20 hw_20 H locs hP hS => ?_)
    obtain ⟨r_20, e_20, hr_20⟩ := hw_20
    have I_20 := dg_I.uffi (lo := 0) (hi := 1600) I_18 e_20 (rX_10 gr hk_gr) (by decide +kernel) hr_20 (show 0 ≤ ((0 : Int32)).toInt ∧ ((0 : Int32)).toInt ≤ 1600 from (by decide +kernel))
    have M_20 := dg_sm.uf M_18 e_20 (rX_10 gr hk_gr) (dk_dq rfl)
    have GO_20 := GOX.uf GO_18 hk_gr hd0 (i := 10) (dk_dq rfl) e_20
    as_aux_lemma =>
      refine lv_aload_n hx hb dX2_clear_56 rfl (lv_at hl 0 rfl) ?_
      refine dg_get (C := RX2) (T := TX2) (N := 19) hx hb hts (fun w h => bw_mem (wU_X2 w h)) hown K hP (rX_0 gr hk_gr) rfl 18 (dk_dq rfl) (hts _ (bw_mem wB_11)) (fun _ h9 => h9) (v := .ref (o + (gr + 11))) (show S_20.1 gr 18 = .ref (o + (gr + 11)) from dg_I.rel (d := 11) I_20 (rX_0 gr hk_gr) (by decide +kernel)) dX2_clear_57 ?_
      refine lv_iconst (v := 0) hx hb dX2_clear_60 (by decide +kernel) ?_
      have hz_21 : (0 : Int32).toInt = 0 := by decide +kernel
      refine dg_callv hS hA1 hA (va_runS (As := [.ref (o + (gr + 11)), .int 0]) (rest := []) F (c_fill l g D S_20 (rX_11 gr hk_gr) (dk_dq rfl) 0 H.size) (va_cwS 2 hts (bw_S wB_261 wB_262 wB_263 wB_264) rfl rfl rfl (by decide +kernel) ⟨Nat.le_of_ble_eq_true rfl, Nat.le_of_ble_eq_true rfl⟩) (dg_preS K ST hP hS hA1 hA) rfl rfl hl.1 rfl (lv_room (Nat.le_of_ble_eq_true rfl)) dX2_clear_61 ⟨Nat.le_of_ble_eq_true rfl, Nat.le_of_ble_eq_true rfl⟩) (fun S_22 hw_22 H locs hP hS => ?_)
      obtain ⟨r_22, e_22, hr_22⟩ := hw_22
      have I_22 := dg_I.uffi (lo := 0) (hi := 1600) I_20 e_22 (rX_11 gr hk_gr) (by decide +kernel) hr_22 (show 0 ≤ ((0 : Int32)).toInt ∧ ((0 : Int32)).toInt ≤ 1600 from (by decide +kernel))
      have M_22 := dg_sm.uf M_20 e_22 (rX_11 gr hk_gr) (dk_dq rfl)
      have GO_22 := GOX.uf GO_20 hk_gr hd0 (i := 11) (dk_dq rfl) e_22
      have hz_23 : (0 : Int32).toInt = 0 := by decide +kernel
      have hz_24 : (0 : Int32).toInt = 0 := by decide +kernel
      have hz_25 : (0 : Int32).toInt = 0 := by decide +kernel
      have hz_26 : (0 : Int32).toInt = 0 := by decide +kernel
      have hz_27 : (0 : Int32).toInt = 0 := by decide +kernel
      have hz_28 : (3 : Int32).toInt = 3 := by decide +kernel
      have hz_29 : (0 : Int32).toInt = 0 := by decide +kernel
      refine W.widen (k := 0) (n := 0) (Nat.le_of_ble_eq_true rfl) (Nat.le_of_ble_eq_true rfl) ?_
      exact dg_vret hx hb hr hlocks hP hS ⟨I_22, M_22, ⟨0, (((dg_uf_F e_22 gr 0).trans ((dg_uf_F e_20 gr 0).trans ((dg_uF_ne e_18 (fun z => absurd z.2 (dk_dq rfl))).trans ((dg_uF_ne e_16 (fun z => absurd z.2 (dk_dq rfl))).trans ((dg_uF_ne e_14 (fun z => absurd z.2 (dk_dq rfl))).trans ((dg_uf_F e_12 gr 0).trans ((dg_uF_ne e_10 (fun z => absurd z.2 (dk_dq rfl))).trans ((dg_uF_ne e_8 (fun z => absurd z.2 (dk_dq rfl))).trans ((dg_uF_ne e_6 (fun z => absurd z.2 (dk_dq rfl))).trans (dg_uF_ne e_4 (fun z => absurd z.2 (dk_dq rfl)))))))))))).trans (dg_uF_at e_2)), (by omega)⟩, ⟨0, (((dg_uf_F e_22 gr 1).trans ((dg_uf_F e_20 gr 1).trans ((dg_uF_ne e_18 (fun z => absurd z.2 (dk_dq rfl))).trans ((dg_uF_ne e_16 (fun z => absurd z.2 (dk_dq rfl))).trans ((dg_uF_ne e_14 (fun z => absurd z.2 (dk_dq rfl))).trans ((dg_uf_F e_12 gr 1).trans ((dg_uF_ne e_10 (fun z => absurd z.2 (dk_dq rfl))).trans ((dg_uF_ne e_8 (fun z => absurd z.2 (dk_dq rfl))).trans (dg_uF_ne e_6 (fun z => absurd z.2 (dk_dq rfl))))))))))).trans (dg_uF_at e_4)), (by omega)⟩, ⟨0, (((dg_uf_F e_22 gr 6).trans ((dg_uf_F e_20 gr 6).trans ((dg_uF_ne e_18 (fun z => absurd z.2 (dk_dq rfl))).trans (dg_uF_ne e_16 (fun z => absurd z.2 (dk_dq rfl)))))).trans (dg_uF_at e_14)), (by omega)⟩, ⟨0, (((dg_uf_F e_22 gr 8).trans ((dg_uf_F e_20 gr 8).trans (dg_uF_ne e_18 (fun z => absurd z.2 (dk_dq rfl))))).trans (dg_uF_at e_16)), (by omega)⟩, ⟨0, (((dg_uf_F e_22 gr 11).trans (dg_uf_F e_20 gr 11)).trans (dg_uF_at e_18)), (by omega)⟩, (fun j9 h9 => by rw [(dg_uf_ne e_22 (by omega)), dg_uf_at e_20, hr_20 j9 h9]; decide +kernel), (fun j9 h9 => by rw [dg_uf_at e_22, hr_22 j9 h9]; decide +kernel), ⟨3, (((dg_uf_F e_22 gr 3).trans ((dg_uf_F e_20 gr 3).trans ((dg_uF_ne e_18 (fun z => absurd z.2 (dk_dq rfl))).trans ((dg_uF_ne e_16 (fun z => absurd z.2 (dk_dq rfl))).trans ((dg_uF_ne e_14 (fun z => absurd z.2 (dk_dq rfl))).trans ((dg_uf_F e_12 gr 3).trans (dg_uF_ne e_10 (fun z => absurd z.2 (dk_dq rfl))))))))).trans (dg_uF_at e_8)), (by omega)⟩, ⟨0, (((dg_uf_F e_22 gr 4).trans ((dg_uf_F e_20 gr 4).trans ((dg_uF_ne e_18 (fun z => absurd z.2 (dk_dq rfl))).trans ((dg_uF_ne e_16 (fun z => absurd z.2 (dk_dq rfl))).trans ((dg_uF_ne e_14 (fun z => absurd z.2 (dk_dq rfl))).trans (dg_uf_F e_12 gr 4)))))).trans (dg_uF_at e_10)), (by omega)⟩, (fun j9 h9 => by rw [((dg_uf_ne e_22 (by omega)).trans ((dg_uf_ne e_20 (by omega)).trans ((dg_uF_f e_18 (gr + 1)).trans ((dg_uF_f e_16 (gr + 1)).trans (dg_uF_f e_14 (gr + 1)))))), dg_uf_at e_12, hr_12 j9 h9]; decide +kernel), (Z1X.keep (Z1X.keep (Z1X.keep (Z1X.keep (Z1X.keep (Z1X.keep (Z1X.keep (Z1X.keep Z1_6 (dg_sm.uF (WF := [(19, 3)]) (WA := []) dg_sm.rf e_8 (rX_0 gr hk_gr) (dk_dq rfl)) (dk_dq rfl) (dk_dq rfl) (dk_dq rfl)) (dg_sm.uF (WF := [(19, 4)]) (WA := []) dg_sm.rf e_10 (rX_0 gr hk_gr) (dk_dq rfl)) (dk_dq rfl) (dk_dq rfl) (dk_dq rfl)) (dg_sm.uf (WF := []) (WA := [20]) dg_sm.rf e_12 (rX_1 gr hk_gr) (dk_dq rfl)) (dk_dq rfl) (dk_dq rfl) (dk_dq rfl)) (dg_sm.uF (WF := [(19, 6)]) (WA := []) dg_sm.rf e_14 (rX_0 gr hk_gr) (dk_dq rfl)) (dk_dq rfl) (dk_dq rfl) (dk_dq rfl)) (dg_sm.uF (WF := [(19, 8)]) (WA := []) dg_sm.rf e_16 (rX_0 gr hk_gr) (dk_dq rfl)) (dk_dq rfl) (dk_dq rfl) (dk_dq rfl)) (dg_sm.uF (WF := [(19, 11)]) (WA := []) dg_sm.rf e_18 (rX_0 gr hk_gr) (dk_dq rfl)) (dk_dq rfl) (dk_dq rfl) (dk_dq rfl)) (dg_sm.uf (WF := []) (WA := [29]) dg_sm.rf e_20 (rX_10 gr hk_gr) (dk_dq rfl)) (dk_dq rfl) (dk_dq rfl) (dk_dq rfl)) (dg_sm.uf (WF := []) (WA := [30]) dg_sm.rf e_22 (rX_11 gr hk_gr) (dk_dq rfl)) (dk_dq rfl) (dk_dq rfl) (dk_dq rfl)), GO_22, trivial⟩ dX2_clear_64
set_option maxHeartbeats 8000000 in
set_option maxRecDepth 100000 in
theorem c_rd_read (l : Launch) (g : Nat → ClassId) (D : va_G) (o : Nat) (S : dg_S) (gr : Nat) (hk_gr : rX gr) (tb : Nat → Int32) (S0 : dg_S) (d0 : Nat) (le : Int32) (f_le : S.1 1 1 = .int le) (b_le : 0 ≤ (le).toInt ∧ (le).toInt ≤ 1600) (htb : S.2.1 2 = tb) (hd0 : d0 ≠ gr) (Z1 : Z1X S) (GO : GOX S0 d0 S) (G9 : G9X S0 d0 S) (I : CX o S) (sz : Nat) : Met l yX6_read (bw yX6_read cX6_read 4 (some .int)) ({ frames := 70, cells := 0, slots := 0, locals := 1604 } : Room) (dk_Pc g D (dg_w g shX o rfX S) sz [.ref (o + 209), .ref (o + 1), .ref (o + gr)]) (va_Qi (fun (r : Int32) S' => CX o S' ∧ dg_sm shX [(19, 0), (19, 1), (19, 2), (19, 3), (19, 4), (19, 6), (19, 8), (19, 11), (31, 0), (31, 1), (31, 3), (31, 4), (31, 5), (31, 6), (31, 7), (32, 3), (32, 4)] [20, 21, 22, 23, 24, 25, 26, 27, 28, 29, 30, 33, 34, 35] S S' ∧ ((-1) ≤ (r).toInt ∧ (r).toInt ≤ 80) ∧ (((r).toInt = -1 → y_mine (T_kd tb (le : Int32).toNatClampNeg) (T_vl tb (le : Int32).toNatClampNeg) = none) ∧ ((r).toInt ≠ -1 → ∃ cx9 ry9 mi9 pl9 od9 : Int32, S'.1 gr 0 = .int cx9 ∧ S'.1 gr 1 = .int ry9 ∧ S'.1 gr 6 = .int mi9 ∧ S'.1 gr 8 = .int pl9 ∧ S'.1 gr 11 = .int od9 ∧ y_mine (T_kd tb (le : Int32).toNatClampNeg) (T_vl tb (le : Int32).toNatClampNeg) = some ((r : Int32).toNatClampNeg, (y_gx cx9 ry9 (S'.2.1 (gr + 2)) mi9 pl9 (S'.2.1 (gr + 5)) od9 (S'.2.1 (gr + 10)) (S'.2.1 (gr + 11)))))) ∧ ((r).toInt ≠ -1 → kx (z_all (T_kd tb (le : Int32).toNatClampNeg) (T_vl tb (le : Int32).toNatClampNeg) (k_st (T_kd tb (le : Int32).toNatClampNeg) (T_vl tb (le : Int32).toNatClampNeg)) k_0) S' gr) ∧ Z1X S' ∧ GOX S0 d0 S' ∧ G9X S0 d0 S' ∧ True) (dg_B g D shX o rfX) (dg_A o shX.length sz)) 0 0 (dg_A o shX.length sz) := by
  refine dg_met (cc := cX6_read) (maxL := 4) (ret := (some .int)) (dk_dq rfl) rfl (Nat.le_of_ble_eq_true rfl) ?_
  intro p e s m args below meth c A hAe harg hx hb hr hml hts hown hlocks hin hP K hS hA1 hA ST hsz ls hl
  rw [← hAe]
  have F : CallFix p m c cX6_read 4 s args (bw yX6_read cX6_read 4 (some .int)) RX6 := ⟨hx, hb, hml, hown, hts⟩
  have hl : lv_has ls 4 [(0, .ref (o + 209)), (1, .ref (o + 1)), (2, .ref (o + gr))] := hl
  have M_0 : dg_sm shX [(19, 0), (19, 1), (19, 2), (19, 3), (19, 4), (19, 6), (19, 8), (19, 11), (31, 0), (31, 1), (31, 3), (31, 4), (31, 5), (31, 6), (31, 7), (32, 3), (32, 4)] [20, 21, 22, 23, 24, 25, 26, 27, 28, 29, 30, 33, 34, 35] S S := dg_sm.rf
  refine lv_aload_n hx hb dX6_read_0 rfl (lv_at hl 0 rfl) ?_
  refine lv_aload_n hx hb dX6_read_1 rfl (lv_at hl 2 rfl) ?_
  refine dg_put (ci := 6) (v := .ref (o + gr)) (ty := tyX6 3) (C := RX6) (T := TX6) (N := 8) hx hb hts (fun w h => bw_mem (wU_X6 w h)) tyX6 tyX6_ok nmX6 hown K hP hS hA1 sX_209 rfl 3 (dk_dq rfl) (hts _ (bw_mem wB_38)) (fun _ h9 => h9) rfl (by decide +kernel) rfl rfl dX6_read_2 (fun S_1 e_1 H locs hP hS => ?_)
  have I_1 := dg_I.uFo (j := gr) (d := 0) I e_1 sX_209 (by decide +kernel) hk_gr
  have M_1 := dg_sm.uF M_0 e_1 sX_209 (dk_dq rfl)
  refine lv_aload_n hx hb dX6_read_5 rfl (lv_at hl 0 rfl) ?_
  refine dg_get (C := RX6) (T := TX6) (N := 8) hx hb hts (fun w h => bw_mem (wU_X6 w h)) hown K hP sX_209 rfl 3 (dk_dq rfl) (hts _ (bw_mem wB_38)) (fun _ h9 => h9) (v := .ref (o + gr)) (dg_uF_at e_1) dX6_read_6 ?_
  refine dg_callv hS hA1 hA (va_runV (As := []) (rest := []) F (c_g_clear l g D o S_1 gr hk_gr S0 d0 hd0 (Z1X.keep Z1 (dg_sm.uF (WF := [(31, 3)]) (WA := []) dg_sm.rf e_1 sX_209 (dk_dq rfl)) (dk_dq rfl) (dk_dq rfl) (dk_dq rfl)) (GOX.keep GO (dg_sm.uF (WF := [(31, 3)]) (WA := []) dg_sm.rf e_1 sX_209 (dk_dq rfl)) (dk_dq rfl) (dk_dq rfl)) I_1 H.size) (cwV 0 hts (bw_V wB_267 wB_268 wB_269 wB_9 wB_266) rfl rfl rfl (by decide +kernel) ⟨Nat.le_of_ble_eq_true rfl, Nat.le_of_ble_eq_true rfl⟩) (dg_preV (rX_0 gr hk_gr) rfl K ST hP hS hA1 hA) rfl rfl hl.1 rfl (lv_room (Nat.le_of_ble_eq_true rfl)) dX6_read_9 ⟨Nat.le_of_ble_eq_true rfl, Nat.le_of_ble_eq_true rfl⟩) (fun S_2 hw_2 H locs hP hS => ?_)
  obtain ⟨I_2, m_2, w_2_0, w_2_1, w_2_2, w_2_3, w_2_4, w_2_5, w_2_6, w_2_7, w_2_8, w_2_9, w_2_10, w_2_11, -⟩ := hw_2
  have M_2 := dg_sm.tr M_1 m_2 (dk_dq rfl) (dk_dq rfl)
  obtain ⟨y_3, f_y_3, w_2_0⟩ := w_2_0
  have w_2_0 : (y_3).toInt = 0 := w_2_0
  have b_y_3 : 0 ≤ (y_3).toInt ∧ (y_3).toInt ≤ 7 := dg_I.intb (lo := 0) (hi := 7) I_2 (rX_0 gr hk_gr) (by decide +kernel) f_y_3
  obtain ⟨y_4, f_y_4, w_2_1⟩ := w_2_1
  have w_2_1 : (y_4).toInt = 0 := w_2_1
  have b_y_4 : 0 ≤ (y_4).toInt ∧ (y_4).toInt ≤ 7 := dg_I.intb (lo := 0) (hi := 7) I_2 (rX_0 gr hk_gr) (by decide +kernel) f_y_4
  obtain ⟨y_5, f_y_5, w_2_2⟩ := w_2_2
  have w_2_2 : (y_5).toInt = 0 := w_2_2
  have b_y_5 : 0 ≤ (y_5).toInt ∧ (y_5).toInt ≤ 6 := dg_I.intb (lo := 0) (hi := 6) I_2 (rX_0 gr hk_gr) (by decide +kernel) f_y_5
  obtain ⟨y_6, f_y_6, w_2_3⟩ := w_2_3
  have w_2_3 : (y_6).toInt = 0 := w_2_3
  have b_y_6 : 0 ≤ (y_6).toInt ∧ (y_6).toInt ≤ 16 := dg_I.intb (lo := 0) (hi := 16) I_2 (rX_0 gr hk_gr) (by decide +kernel) f_y_6
  obtain ⟨y_7, f_y_7, w_2_4⟩ := w_2_4
  have w_2_4 : (y_7).toInt = 0 := w_2_4
  have b_y_7 : 0 ≤ (y_7).toInt ∧ (y_7).toInt ≤ 5 := dg_I.intb (lo := 0) (hi := 5) I_2 (rX_0 gr hk_gr) (by decide +kernel) f_y_7
  replace w_2_5 : ∀ j9 : Nat, j9 < 3 → (S_2.2.1 (gr + 10) j9).toInt = 0 := w_2_5
  replace w_2_6 : ∀ j9 : Nat, j9 < 3 → (S_2.2.1 (gr + 11) j9).toInt = 0 := w_2_6
  obtain ⟨y_8, f_y_8, w_2_7⟩ := w_2_7
  have w_2_7 : (y_8).toInt = 3 := w_2_7
  obtain ⟨y_9, f_y_9, w_2_8⟩ := w_2_8
  have w_2_8 : (y_9).toInt = 0 := w_2_8
  replace w_2_9 : ∀ j9 : Nat, j9 < 72 → (S_2.2.1 (gr + 1) j9).toInt = 5 := w_2_9
  refine lv_aload_n hx hb dX6_read_12 rfl (lv_at hl 0 rfl) ?_
  refine lv_iconst (v := 0) hx hb dX6_read_13 (by decide +kernel) ?_
  have hz_10 : (0 : Int32).toInt = 0 := by decide +kernel
  as_aux_lemma =>
    refine dg_put (ci := 6) (v := .int 0) (ty := tyX6 0) (C := RX6) (T := TX6) (N := 8) hx hb hts (fun w h => bw_mem (wU_X6 w h)) tyX6 tyX6_ok nmX6 hown K hP hS hA1 sX_209 rfl 0 (dk_dq rfl) (hts _ (bw_mem wB_17)) (fun _ h9 => h9) rfl (by decide +kernel) rfl rfl dX6_read_14 (fun S_11 e_11 H locs hP hS => ?_)
    have I_11 := dg_I.uFi (lo := (-2147483648)) (hi := 2147483647) I_2 e_11 sX_209 (by decide +kernel) (show (-2147483648) ≤ ((0 : Int32)).toInt ∧ ((0 : Int32)).toInt ≤ 2147483647 from (by decide +kernel))
    have M_11 := dg_sm.uF M_2 e_11 sX_209 (dk_dq rfl)
    refine lv_aload_n hx hb dX6_read_17 rfl (lv_at hl 0 rfl) ?_
    refine lv_iconst (v := (-1)) hx hb dX6_read_18 (by decide +kernel) ?_
    have hz_12 : (-1 : Int32).toInt = (-1) := by decide +kernel
    refine dg_put (ci := 6) (v := .int (-1)) (ty := tyX6 1) (C := RX6) (T := TX6) (N := 8) hx hb hts (fun w h => bw_mem (wU_X6 w h)) tyX6 tyX6_ok nmX6 hown K hP hS hA1 sX_209 rfl 1 (dk_dq rfl) (hts _ (bw_mem wB_19)) (fun _ h9 => h9) rfl (by decide +kernel) rfl rfl dX6_read_19 (fun S_13 e_13 H locs hP hS => ?_)
    have I_13 := dg_I.uFi (lo := (-2147483648)) (hi := 2147483647) I_11 e_13 sX_209 (by decide +kernel) (show (-2147483648) ≤ ((-1 : Int32)).toInt ∧ ((-1 : Int32)).toInt ≤ 2147483647 from (by decide +kernel))
    have M_13 := dg_sm.uF M_11 e_13 sX_209 (dk_dq rfl)
    refine lv_aload_n hx hb dX6_read_22 rfl (lv_at hl 0 rfl) ?_
    refine lv_iconst (v := 0) hx hb dX6_read_23 (by decide +kernel) ?_
    have hz_14 : (0 : Int32).toInt = 0 := by decide +kernel
    refine dg_put (ci := 6) (v := .int 0) (ty := tyX6 4) (C := RX6) (T := TX6) (N := 8) hx hb hts (fun w h => bw_mem (wU_X6 w h)) tyX6 tyX6_ok nmX6 hown K hP hS hA1 sX_209 rfl 4 (dk_dq rfl) (hts _ (bw_mem wB_15)) (fun _ h9 => h9) rfl (by decide +kernel) rfl rfl dX6_read_24 (fun S_15 e_15 H locs hP hS => ?_)
    have I_15 := dg_I.uFi (lo := 0) (hi := 1600) I_13 e_15 sX_209 (by decide +kernel) (show 0 ≤ ((0 : Int32)).toInt ∧ ((0 : Int32)).toInt ≤ 1600 from (by decide +kernel))
    have M_15 := dg_sm.uF M_13 e_15 sX_209 (dk_dq rfl)
    refine lv_aload_n hx hb dX6_read_27 rfl (lv_at hl 0 rfl) ?_
    refine lv_iconst (v := 0) hx hb dX6_read_28 (by decide +kernel) ?_
    have hz_16 : (0 : Int32).toInt = 0 := by decide +kernel
    refine dg_put (ci := 6) (v := .int 0) (ty := tyX6 7) (C := RX6) (T := TX6) (N := 8) hx hb hts (fun w h => bw_mem (wU_X6 w h)) tyX6 tyX6_ok nmX6 hown K hP hS hA1 sX_209 rfl 7 (dk_dq rfl) (hts _ (bw_mem wB_37)) (fun _ h9 => h9) rfl (by decide +kernel) rfl rfl dX6_read_29 (fun S_17 e_17 H locs hP hS => ?_)
    have I_17 := dg_I.uFi (lo := 0) (hi := 1600) I_15 e_17 sX_209 (by decide +kernel) (show 0 ≤ ((0 : Int32)).toInt ∧ ((0 : Int32)).toInt ≤ 1600 from (by decide +kernel))
    have M_17 := dg_sm.uF M_15 e_17 sX_209 (dk_dq rfl)
    refine lv_aload_n hx hb dX6_read_32 rfl (lv_at hl 0 rfl) ?_
    refine dg_get (C := RX6) (T := TX6) (N := 8) hx hb hts (fun w h => bw_mem (wU_X6 w h)) hown K hP sX_209 rfl 2 (dk_dq rfl) (hts _ (bw_mem wB_13)) (fun _ h9 => h9) (v := .ref (o + 210)) (show S_17.1 209 2 = .ref (o + 210) from dg_I.rel (d := 1) I_17 sX_209 (by decide +kernel)) dX6_read_33 ?_
    refine lv_aload_n hx hb dX6_read_36 rfl (lv_at hl 1 rfl) ?_
    refine dg_callv hS hA1 hA (va_runV (As := [.ref (o + 1)]) (rest := []) F (c_v_split l g D o S_17 tb le (((dg_uF_ne e_17 (fun z => absurd z.2 (dk_dq rfl))).trans ((dg_uF_ne e_15 (fun z => absurd z.2 (dk_dq rfl))).trans ((dg_uF_ne e_13 (fun z => absurd z.1 (dk_dq rfl))).trans ((dg_uF_ne e_11 (fun z => absurd z.2 (dk_dq rfl))).trans ((m_2.1 1 1 _ sX_1 (dk_dq rfl)).trans (dg_uF_ne e_1 (fun z => absurd z.2 (dk_dq rfl)))))))).trans f_le) (by omega) (((dg_uF_f e_17 2).trans ((dg_uF_f e_15 2).trans ((dg_uF_f e_13 2).trans ((dg_uF_f e_11 2).trans ((m_2.2 2 _ sX_2 (dk_dq rfl)).1.trans (dg_uF_f e_1 2)))))).trans htb) I_17 H.size) (cwV 1 hts (bw_V wB_271 wB_272 wB_273 wB_188 wB_270) rfl rfl rfl (by decide +kernel) ⟨Nat.le_of_ble_eq_true rfl, Nat.le_of_ble_eq_true rfl⟩) (dg_preV sX_210 rfl K ST hP hS hA1 hA) rfl rfl hl.1 rfl (lv_room (Nat.le_of_ble_eq_true rfl)) dX6_read_37 ⟨Nat.le_of_ble_eq_true rfl, Nat.le_of_ble_eq_true rfl⟩) (fun S_18 hw_18 H locs hP hS => ?_)
    obtain ⟨I_18, m_18, w_18_0, -⟩ := hw_18
    have M_18 := dg_sm.tr M_17 m_18 (dk_dq rfl) (dk_dq rfl)
    replace w_18_0 : ∃ e9 : Int32, 0 ≤ e9.toInt ∧ e9.toInt ≤ 1600 ∧ (∀ k9 : Nat, k9 ≤ e9.toNatClampNeg → S_18.2.1 211 k9 = T_kd tb (le : Int32).toNatClampNeg k9) ∧ (∀ k9 : Nat, k9 ≤ e9.toNatClampNeg → S_18.2.1 213 k9 = T_vl tb (le : Int32).toNatClampNeg k9) ∧ (S_18.2.1 211 e9.toNatClampNeg).toInt = 0 := w_18_0
    obtain ⟨en, he0, he1, heK, heV, he2⟩ := w_18_0
    obtain ⟨kd, vl, eK9, eV9⟩ : ∃ kd vl : Nat → Int32, T_kd tb (le : Int32).toNatClampNeg = kd ∧ T_vl tb (le : Int32).toNatClampNeg = vl := ⟨_, _, rfl, rfl⟩
    rw [eK9] at heK
    rw [eV9] at heV
    obtain ⟨ke, f_ke⟩ : ∃ k, S_18.2.1 211 (en : Int32).toNatClampNeg = k := ⟨_, rfl⟩
    rw [f_ke] at he2
    have b_ke : 0 ≤ (ke).toInt ∧ (ke).toInt ≤ 0 := by omega
    refine lv_iconst (v := 0) hx hb dX6_read_40 (by decide +kernel) ?_
    refine lv_istore_n (lv' := [(3, .int 0), (0, .ref (o + 209)), (1, .ref (o + 1)), (2, .ref (o + gr))]) hx hb dX6_read_41 rfl hl (dk_dq rfl) rfl (fun ls hl => ?_)
    have L_116 : ∀ (n : Nat) (x_107 : Int32) (x_108 : Int32) (x_109 : Int32) (x_110 : Int32) (x_111 : Int32) (x_112 : Int32) (x_113 : Int32) (x_114 : Int32), (0 ≤ (x_107).toInt ∧ (x_107).toInt ≤ 81) → (0 ≤ (x_108).toInt ∧ (x_108).toInt ≤ 1600) → (0 ≤ (x_109).toInt ∧ (x_109).toInt ≤ 7) → (0 ≤ (x_110).toInt ∧ (x_110).toInt ≤ 7) → (0 ≤ (x_111).toInt ∧ (x_111).toInt ≤ 6) → (0 ≤ (x_112).toInt ∧ (x_112).toInt ≤ 16) → (0 ≤ (x_113).toInt ∧ (x_113).toInt ≤ 5) → (0 ≤ (x_114).toInt ∧ (x_114).toInt ≤ 1600) → ((x_108).toInt ≤ (en).toInt) → ((82 - (x_107).toInt).toNat < n) → ∀ S_115 : dg_S, CX o S_115 → dg_sm shX [(19, 0), (19, 1), (19, 2), (19, 3), (19, 4), (19, 6), (19, 8), (19, 11), (31, 0), (31, 1), (31, 3), (31, 4), (31, 5), (31, 6), (31, 7), (32, 3), (32, 4)] [20, 21, 22, 23, 24, 25, 26, 27, 28, 29, 30, 33, 34, 35] S S_115 → S_115.1 209 4 = .int x_108 → S_115.1 gr 0 = .int x_109 → S_115.1 gr 1 = .int x_110 → S_115.1 gr 6 = .int x_111 → S_115.1 gr 8 = .int x_112 → S_115.1 gr 11 = .int x_113 → S_115.1 209 7 = .int x_114 → ∀ rw_115_0 : Int32, S_115.2.1 211 (en : Int32).toNatClampNeg = rw_115_0 → (0 ≤ (rw_115_0).toInt ∧ (rw_115_0).toInt ≤ 0) → Z1X S_115 → GOX S0 d0 S_115 → G9X S0 d0 S_115 → ((x_114).toInt ≤ (x_108).toInt) → (y_at kd vl (x_107 : Int32).toNatClampNeg (y_gx x_109 x_110 (S_115.2.1 (gr + 2)) x_111 x_112 (S_115.2.1 (gr + 5)) x_113 (S_115.2.1 (gr + 10)) (S_115.2.1 (gr + 11))) (x_108 : Int32).toNatClampNeg) → (∀ k9 : Nat, k9 ≤ (en : Int32).toNatClampNeg → S_115.2.1 211 k9 = kd k9) → (∀ k9 : Nat, k9 ≤ (en : Int32).toNatClampNeg → S_115.2.1 213 k9 = vl k9) → (S_115.1 209 3 = .ref (o + gr)) → (m_hid (KAT kd vl (x_107 : Int32).toNatClampNeg (y_gx x_109 x_110 (S_115.2.1 (gr + 2)) x_111 x_112 (S_115.2.1 (gr + 5)) x_113 (S_115.2.1 (gr + 10)) (S_115.2.1 (gr + 11))) (x_108 : Int32).toNatClampNeg S_115 gr)) → ∀ (H : Heap) (locs : List Loc), va_P D vwCl (dg_w g shX o rfX S_115) H → va_S A s.heap H locs → ∀ ls : Array Slot, lv_has ls 4 [(3, .int x_107), (0, .ref (o + 209)), (1, .ref (o + 1)), (2, .ref (o + gr))] → W p l e ({ frames := 70, cells := 0, slots := 0, locals := 1604 } : Room) s m args below meth c H locs 0 0 (MQ below (va_Qi (fun (r : Int32) S' => CX o S' ∧ dg_sm shX [(19, 0), (19, 1), (19, 2), (19, 3), (19, 4), (19, 6), (19, 8), (19, 11), (31, 0), (31, 1), (31, 3), (31, 4), (31, 5), (31, 6), (31, 7), (32, 3), (32, 4)] [20, 21, 22, 23, 24, 25, 26, 27, 28, 29, 30, 33, 34, 35] S S' ∧ ((-1) ≤ (r).toInt ∧ (r).toInt ≤ 80) ∧ (((r).toInt = -1 → y_mine (T_kd tb (le : Int32).toNatClampNeg) (T_vl tb (le : Int32).toNatClampNeg) = none) ∧ ((r).toInt ≠ -1 → ∃ cx9 ry9 mi9 pl9 od9 : Int32, S'.1 gr 0 = .int cx9 ∧ S'.1 gr 1 = .int ry9 ∧ S'.1 gr 6 = .int mi9 ∧ S'.1 gr 8 = .int pl9 ∧ S'.1 gr 11 = .int od9 ∧ y_mine (T_kd tb (le : Int32).toNatClampNeg) (T_vl tb (le : Int32).toNatClampNeg) = some ((r : Int32).toNatClampNeg, (y_gx cx9 ry9 (S'.2.1 (gr + 2)) mi9 pl9 (S'.2.1 (gr + 5)) od9 (S'.2.1 (gr + 10)) (S'.2.1 (gr + 11)))))) ∧ ((r).toInt ≠ -1 → kx (z_all (T_kd tb (le : Int32).toNatClampNeg) (T_vl tb (le : Int32).toNatClampNeg) (k_st (T_kd tb (le : Int32).toNatClampNeg) (T_vl tb (le : Int32).toNatClampNeg)) k_0) S' gr) ∧ Z1X S' ∧ GOX S0 d0 S' ∧ G9X S0 d0 S' ∧ True) (dg_B g D shX o rfX) A) args s 0 0 A) (F0 m 42 ls []) := by
      as_aux_lemma =>
        intro n
        induction n with
        | zero =>
          intro x_107 x_108 x_109 x_110 x_111 x_112 x_113 x_114 b_x_107 b_x_108 b_x_109 b_x_110 b_x_111 b_x_112 b_x_113 b_x_114 rel_0 hmu S_115 I_115 M_115 ff_115_4_209 ff_115_0_gr ff_115_1_gr ff_115_6_gr ff_115_8_gr ff_115_11_gr ff_115_7_209 rw_115_0 frw_115_0 brw_115_0 Z1_115 GO_115 G9_115 srel_115_0 srel_115_1 srel_115_2 srel_115_3 srel_115_4 srel_115_5 H locs hP hS ls hl
          omega
        | succ n ih =>
          as_aux_lemma =>
            intro x_107 x_108 x_109 x_110 x_111 x_112 x_113 x_114 b_x_107 b_x_108 b_x_109 b_x_110 b_x_111 b_x_112 b_x_113 b_x_114 rel_0 hmu S_115 I_115 M_115 ff_115_4_209 ff_115_0_gr ff_115_1_gr ff_115_6_gr ff_115_8_gr ff_115_11_gr ff_115_7_209 rw_115_0 frw_115_0 brw_115_0 Z1_115 GO_115 G9_115 srel_115_0 srel_115_1 srel_115_2 srel_115_3 srel_115_4 srel_115_5 H locs hP hS ls hl
            refine lv_iload_n hx hb dX6_read_42 rfl (lv_at hl 0 rfl) ?_
            refine lv_bipush (v := 80) hx hb dX6_read_43 (by decide +kernel) ?_
            refine lv_icmp_gt (tgt := 94) hx hb dX6_read_45 (dk_dq rfl) (fun c_117 => ?_) (fun c_117 => ?_)
            · have jc_117 := dk_gtc (k := 80) (by decide +kernel) c_117
              refine lv_iconst (v := (-1)) hx hb dX6_read_94 (by decide +kernel) ?_
              have hz_118 : (-1 : Int32).toInt = (-1) := by decide +kernel
              have hz_119 : (-1 : Int32).toInt = (-1) := by decide +kernel
              have hz_120 : (-1 : Int32).toInt = (-1) := by decide +kernel
              refine W.widen (k := 0) (n := 0) (Nat.le_of_ble_eq_true rfl) (Nat.le_of_ble_eq_true rfl) ?_
              exact dg_iret hx hb hr hlocks rfl hP hS ⟨I_115, M_115, (by decide +kernel), (by exfalso; have h8 := srel_115_1.1; have h9 := dk_clN x_107; omega), (fun q9 => absurd (by first | decide +kernel | omega) q9), Z1_115, GO_115, G9_115, trivial⟩ dX6_read_95
            · as_aux_lemma =>
                have jc_117 := dk_ngtc (k := 80) (by decide +kernel) c_117
                refine lv_iload_n hx hb dX6_read_48 rfl (lv_at hl 0 rfl) ?_
                refine lv_if_le (tgt := 69) hx hb dX6_read_49 (dk_dq rfl) (fun c_121 => ?_) (fun c_121 => ?_)
                · as_aux_lemma =>
                    have jc_121 := dk_lec (k := 0) (by decide +kernel) c_121
                    refine lv_aload_n hx hb dX6_read_69 rfl (lv_at hl 1 rfl) ?_
                    refine lv_iload_n hx hb dX6_read_70 rfl (lv_at hl 0 rfl) ?_
                    refine dg_calli hS hA1 hA (va_runV (As := [.int x_107]) (rest := []) F (c_rd_readStatement l g D o S_115 x_107 (by omega) en kd vl ((S_115.2.1 (gr + 2))) ((S_115.2.1 (gr + 5))) ((S_115.2.1 (gr + 10))) ((S_115.2.1 (gr + 11))) S0 d0 gr hk_gr srel_115_4 x_108 ff_115_4_209 (by omega) x_114 ff_115_7_209 (by omega) x_109 ff_115_0_gr (by omega) x_110 ff_115_1_gr (by omega) x_111 ff_115_6_gr (by omega) x_112 ff_115_8_gr (by omega) x_113 ff_115_11_gr (by omega) rw_115_0 frw_115_0 (by omega) (by omega) srel_115_2 srel_115_3 (by omega) rfl rfl rfl rfl hd0 Z1_115 GO_115 G9_115 I_115 H.size) (cwV 1 hts (bw_V wB_275 wB_276 wB_277 wB_24 wB_274) rfl rfl rfl (by decide +kernel) ⟨Nat.le_of_ble_eq_true rfl, Nat.le_of_ble_eq_true rfl⟩) (dg_preV sX_209 rfl K ST hP hS hA1 hA) rfl rfl hl.1 rfl (lv_room (Nat.le_of_ble_eq_true rfl)) dX6_read_71 ⟨Nat.le_of_ble_eq_true rfl, Nat.le_of_ble_eq_true rfl⟩) (fun x_122 S_123 hw_123 H locs hP hS => ?_)
                    obtain ⟨I_123, m_123, w_123_0, w_123_1, w_123_2, w_123_3, w_123_4, w_123_5, -⟩ := hw_123
                    have M_123 := dg_sm.tr M_115 m_123 (dk_dq rfl) (dk_dq rfl)
                    have w_123_0 : 0 ≤ (x_122).toInt ∧ (x_122).toInt ≤ 1 := w_123_0
                    replace w_123_1 : ∃ cx9 ry9 mi9 pl9 od9 n9 s9 : Int32, S_123.1 gr 0 = .int cx9 ∧ S_123.1 gr 1 = .int ry9 ∧ S_123.1 gr 6 = .int mi9 ∧ S_123.1 gr 8 = .int pl9 ∧ S_123.1 gr 11 = .int od9 ∧ S_123.1 209 4 = .int n9 ∧ S_123.1 209 7 = .int s9 ∧ n9.toInt ≤ (en).toInt ∧ ((x_122).toInt = 1 → s9.toInt ≤ n9.toInt) ∧ ((x_107).toInt = 80 → (x_122).toInt = 0) ∧ ((x_107).toInt ≠ 80 → y_ok x_122 (y_one kd vl (x_107 : Int32).toNatClampNeg (y_gx x_109 x_110 (S_115.2.1 (gr + 2)) x_111 x_112 (S_115.2.1 (gr + 5)) x_113 (S_115.2.1 (gr + 10)) (S_115.2.1 (gr + 11))) (x_108 : Int32).toNatClampNeg) (y_gx cx9 ry9 (S_123.2.1 (gr + 2)) mi9 pl9 (S_123.2.1 (gr + 5)) od9 (S_123.2.1 (gr + 10)) (S_123.2.1 (gr + 11))) (x_108 : Int32).toNatClampNeg (n9 : Int32).toNatClampNeg) := w_123_1
                    obtain ⟨y_124, y_125, y_126, y_127, y_128, y_129, y_130, f_y_124, f_y_125, f_y_126, f_y_127, f_y_128, f_y_129, f_y_130, hn_x_122, hs_x_122, h8_x_122, hy_x_122⟩ := w_123_1
                    have b_y_124 : 0 ≤ (y_124).toInt ∧ (y_124).toInt ≤ 7 := dg_I.intb (lo := 0) (hi := 7) I_123 (rX_0 gr hk_gr) (by decide +kernel) f_y_124
                    have b_y_125 : 0 ≤ (y_125).toInt ∧ (y_125).toInt ≤ 7 := dg_I.intb (lo := 0) (hi := 7) I_123 (rX_0 gr hk_gr) (by decide +kernel) f_y_125
                    have b_y_126 : 0 ≤ (y_126).toInt ∧ (y_126).toInt ≤ 6 := dg_I.intb (lo := 0) (hi := 6) I_123 (rX_0 gr hk_gr) (by decide +kernel) f_y_126
                    have b_y_127 : 0 ≤ (y_127).toInt ∧ (y_127).toInt ≤ 16 := dg_I.intb (lo := 0) (hi := 16) I_123 (rX_0 gr hk_gr) (by decide +kernel) f_y_127
                    have b_y_128 : 0 ≤ (y_128).toInt ∧ (y_128).toInt ≤ 5 := dg_I.intb (lo := 0) (hi := 5) I_123 (rX_0 gr hk_gr) (by decide +kernel) f_y_128
                    have b_y_129 : 0 ≤ (y_129).toInt ∧ (y_129).toInt ≤ 1600 := dg_I.intb (lo := 0) (hi := 1600) I_123 sX_209 (by decide +kernel) f_y_129
                    have b_y_130 : 0 ≤ (y_130).toInt ∧ (y_130).toInt ≤ 1600 := dg_I.intb (lo := 0) (hi := 1600) I_123 sX_209 (by decide +kernel) f_y_130
                    replace w_123_2 : (x_122).toInt = 1 → KST kd vl (x_107 : Int32).toNatClampNeg (y_gx x_109 x_110 (S_115.2.1 (gr + 2)) x_111 x_112 (S_115.2.1 (gr + 5)) x_113 (S_115.2.1 (gr + 10)) (S_115.2.1 (gr + 11))) (x_108 : Int32).toNatClampNeg S_115 S_123 gr := w_123_2
                    refine lv_if_eq (tgt := 86) hx hb dX6_read_74 (dk_dq rfl) (fun c_131 => ?_) (fun c_131 => ?_)
                    · have jc_131 := dk_eqc (k := 0) (by decide +kernel) c_131
                      refine lv_iconst (v := (-1)) hx hb dX6_read_86 (by decide +kernel) ?_
                      have hz_132 : (-1 : Int32).toInt = (-1) := by decide +kernel
                      have hz_133 : (-1 : Int32).toInt = (-1) := by decide +kernel
                      have hz_134 : (-1 : Int32).toInt = (-1) := by decide +kernel
                      refine W.widen (k := 0) (n := 0) (Nat.le_of_ble_eq_true rfl) (Nat.le_of_ble_eq_true rfl) ?_
                      exact dg_iret hx hb hr hlocks rfl hP hS ⟨I_123, M_123, (by decide +kernel), ⟨fun _ => by rw [eK9, eV9]; by_cases q80 : (x_107).toInt = 80; exact srel_115_1.full (by have h8 := dk_clN x_107; omega) (by have h8 := dk_clN x_107; omega); exact srel_115_1.bad (by have h8 := dk_clN x_107; omega) (by have h8 := dk_clN x_107; omega) ((hy_x_122 q80).2 (by omega)), fun q9 => absurd (by decide +kernel) q9⟩, (fun q9 => absurd (by first | decide +kernel | omega) q9), w_123_3, w_123_4, w_123_5, trivial⟩ dX6_read_87
                    · as_aux_lemma =>
                        have jc_131 := dk_neqc (k := 0) (by decide +kernel) c_131
                        refine lv_aload_n hx hb dX6_read_77 rfl (lv_at hl 1 rfl) ?_
                        refine lv_bipush (v := 59) hx hb dX6_read_78 (by decide +kernel) ?_
                        refine dg_calli hS hA1 hA (va_runV (As := [.int 59]) (rest := []) F (c_rd_takeSign l g D o S_123 59 en kd vl y_129 f_y_129 (by omega) rw_115_0 ((congrFun (m_123.2 211 _ sX_211 (dk_dq rfl)).1 _).trans frw_115_0) (by omega) (by omega) (fun k9 h9 => (congrFun (m_123.2 211 _ sX_211 (dk_dq rfl)).1 k9).trans (srel_115_2 k9 h9)) (fun k9 h9 => (congrFun (m_123.2 213 _ sX_213 (dk_dq rfl)).1 k9).trans (srel_115_3 k9 h9)) I_123 H.size) (cwV 1 hts (bw_V wB_152 wB_153 wB_154 wB_24 wB_151) rfl rfl rfl (by decide +kernel) ⟨Nat.le_of_ble_eq_true rfl, Nat.le_of_ble_eq_true rfl⟩) (dg_preV sX_209 rfl K ST hP hS hA1 hA) rfl rfl hl.1 rfl (lv_room (Nat.le_of_ble_eq_true rfl)) dX6_read_80 ⟨Nat.le_of_ble_eq_true rfl, Nat.le_of_ble_eq_true rfl⟩) (fun x_135 S_136 hw_136 H locs hP hS => ?_)
                        obtain ⟨I_136, m_136, w_136_0, w_136_1, -⟩ := hw_136
                        have M_136 := dg_sm.tr M_123 m_136 (dk_dq rfl) (dk_dq rfl)
                        have hz_137 : (59 : Int32).toInt = 59 := by decide +kernel
                        have w_136_0 : 0 ≤ (x_135).toInt ∧ (x_135).toInt ≤ 1 := w_136_0
                        obtain ⟨y_138, f_y_138, w_136_1⟩ := w_136_1
                        have w_136_1 : (y_138).toInt ≤ (en).toInt ∧ g_ans x_135 (g_tk kd vl ((59 : Int32)).toInt (y_129 : Int32).toNatClampNeg) (y_138 : Int32).toNatClampNeg := w_136_1
                        have b_y_138 : 0 ≤ (y_138).toInt ∧ (y_138).toInt ≤ 1600 := dg_I.intb (lo := 0) (hi := 1600) I_136 sX_209 (by decide +kernel) f_y_138
                        refine lv_if_ne (tgt := 88) hx hb dX6_read_83 (dk_dq rfl) (fun c_139 => ?_) (fun c_139 => ?_)
                        · have jc_139 := dk_neqc (k := 0) (by decide +kernel) c_139
                          obtain ⟨x_140, ex_140⟩ : ∃ z, z = x_107 + 1 := ⟨_, rfl⟩
                          have jx_140 : (x_140).toInt = (x_107).toInt + 1 := by rw [ex_140]; exact dk_addT2 rfl (by decide +kernel) (by omega)
                          refine lv_iinc (v := x_140) (lv' := [(3, .int x_140), (0, .ref (o + 209)), (1, .ref (o + 1)), (2, .ref (o + gr))]) hx hb dX6_read_88 hl (k := 0) rfl (by rw [ex_140]; rfl) (dk_dq rfl) rfl (fun ls hl => ?_)
                          refine lv_goto (tgt := 42) hx hb dX6_read_91 (dk_dq rfl) ?_
                          exact ih x_140 y_138 y_124 y_125 y_126 y_127 y_128 y_130 (by omega) (by omega) (by omega) (by omega) (by omega) (by omega) (by omega) (by omega) (by omega) (by first | exact mu_lt hmu (by omega) (by omega) | omega) S_136 I_136 M_136 f_y_138 ((m_136.1 gr 0 _ (rX_0 gr hk_gr) (dk_dq rfl)).trans f_y_124) ((m_136.1 gr 1 _ (rX_0 gr hk_gr) (dk_dq rfl)).trans f_y_125) ((m_136.1 gr 6 _ (rX_0 gr hk_gr) (dk_dq rfl)).trans f_y_126) ((m_136.1 gr 8 _ (rX_0 gr hk_gr) (dk_dq rfl)).trans f_y_127) ((m_136.1 gr 11 _ (rX_0 gr hk_gr) (dk_dq rfl)).trans f_y_128) ((m_136.1 209 7 _ sX_209 (dk_dq rfl)).trans f_y_130) rw_115_0 ((congrFun ((m_136.2 211 _ sX_211 (dk_dq rfl)).1.trans (m_123.2 211 _ sX_211 (dk_dq rfl)).1) _).trans frw_115_0) (by omega) (Z1X.keep w_123_3 m_136 (dk_dq rfl) (dk_dq rfl) (dk_dq rfl)) (GOX.keep w_123_4 m_136 (dk_dq rfl) (dk_dq rfl)) (G9X.keep w_123_5 m_136 (dk_dq rfl)) (by have h7 := (g_tk_some (w_136_1.2.1 (by omega))).2; have h8 := dk_clN y_138; have h9 := dk_clN y_129; omega) (by rw [(m_136.2 (gr + 2) _ (rX_2 gr hk_gr) (dk_dq rfl)).1, (m_136.2 (gr + 5) _ (rX_5 gr hk_gr) (dk_dq rfl)).1, (m_136.2 (gr + 10) _ (rX_10 gr hk_gr) (dk_dq rfl)).1, (m_136.2 (gr + 11) _ (rX_11 gr hk_gr) (dk_dq rfl)).1]; exact y_at.next srel_115_1 (by have h8 := dk_clN x_107; omega) (by have h8 := dk_clN x_107; omega) ((hy_x_122 (by omega)).1 (by omega)).1 (w_136_1.2.1 (by omega)) (by have h8 := dk_clN x_107; have h9 := dk_clN x_140; omega)) (fun k9 h9 => (congrFun ((m_136.2 211 _ sX_211 (dk_dq rfl)).1.trans (m_123.2 211 _ sX_211 (dk_dq rfl)).1) k9).trans (srel_115_2 k9 h9)) (fun k9 h9 => (congrFun ((m_136.2 213 _ sX_213 (dk_dq rfl)).1.trans (m_123.2 213 _ sX_213 (dk_dq rfl)).1) k9).trans (srel_115_3 k9 h9)) (((m_136.1 209 3 _ sX_209 (dk_dq rfl)).trans (m_123.1 209 3 _ sX_209 (dk_dq rfl))).trans srel_115_4) (m_hid.mk (by rw [(m_136.2 (gr + 2) _ (rX_2 gr hk_gr) (dk_dq rfl)).1, (m_136.2 (gr + 5) _ (rX_5 gr hk_gr) (dk_dq rfl)).1, (m_136.2 (gr + 10) _ (rX_10 gr hk_gr) (dk_dq rfl)).1, (m_136.2 (gr + 11) _ (rX_11 gr hk_gr) (dk_dq rfl)).1]; exact (KAT.keep (KAT.next srel_115_5.out (by have h8 := dk_clN x_107; omega) (by have h8 := dk_clN x_107; omega) ((hy_x_122 (by omega)).1 (by omega)).1 (w_136_1.2.1 (by omega)) (by have h8 := dk_clN x_107; have h9 := dk_clN x_140; omega) (w_123_2 (by omega))) m_136 (by intro n9 h9; simp at h9) (dk_dq rfl) (by intro r9 h7 h8 h9; simp at h9 <;> omega)))) _ _ hP hS _ (lv_sub hl [0, 1, 2, 3] rfl)
                        · have jc_139 := dk_eqc (k := 0) (by decide +kernel) c_139
                          refine lv_iconst (v := (-1)) hx hb dX6_read_86 (by decide +kernel) ?_
                          have hz_141 : (-1 : Int32).toInt = (-1) := by decide +kernel
                          have hz_142 : (-1 : Int32).toInt = (-1) := by decide +kernel
                          have hz_143 : (-1 : Int32).toInt = (-1) := by decide +kernel
                          refine W.widen (k := 0) (n := 0) (Nat.le_of_ble_eq_true rfl) (Nat.le_of_ble_eq_true rfl) ?_
                          exact dg_iret hx hb hr hlocks rfl hP hS ⟨I_136, M_136, (by decide +kernel), ⟨fun _ => by rw [eK9, eV9]; exact srel_115_1.opn (by have h8 := dk_clN x_107; omega) (by have h8 := dk_clN x_107; omega) ((hy_x_122 (by omega)).1 (by omega)).1 (w_136_1.2.2 (by omega)), fun q9 => absurd (by decide +kernel) q9⟩, (fun q9 => absurd (by first | decide +kernel | omega) q9), (Z1X.keep w_123_3 m_136 (dk_dq rfl) (dk_dq rfl) (dk_dq rfl)), (GOX.keep w_123_4 m_136 (dk_dq rfl) (dk_dq rfl)), (G9X.keep w_123_5 m_136 (dk_dq rfl)), trivial⟩ dX6_read_87
                · as_aux_lemma =>
                    have jc_121 := dk_nlec (k := 0) (by decide +kernel) c_121
                    refine lv_aload_n hx hb dX6_read_52 rfl (lv_at hl 1 rfl) ?_
                    refine dg_get (C := RX6) (T := TX6) (N := 8) hx hb hts (fun w h => bw_mem (wU_X6 w h)) hown K hP sX_209 rfl 2 (dk_dq rfl) (hts _ (bw_mem wB_13)) (fun _ h9 => h9) (v := .ref (o + 210)) (show S_115.1 209 2 = .ref (o + 210) from dg_I.rel (d := 1) I_115 sX_209 (by decide +kernel)) dX6_read_53 ?_
                    refine dg_get (C := RX9) (T := TX9) (N := 5) hx hb hts (fun w h => bw_mem (wU_X9 w h)) hown K hP sX_210 rfl 0 (dk_dq rfl) (hts _ (bw_mem wB_14)) (fun _ h9 => h9) (v := .ref (o + 211)) (show S_115.1 210 0 = .ref (o + 211) from dg_I.rel (d := 1) I_115 sX_210 (by decide +kernel)) dX6_read_56 ?_
                    refine lv_aload_n hx hb dX6_read_59 rfl (lv_at hl 1 rfl) ?_
                    refine dg_get (C := RX6) (T := TX6) (N := 8) hx hb hts (fun w h => bw_mem (wU_X6 w h)) hown K hP sX_209 rfl 4 (dk_dq rfl) (hts _ (bw_mem wB_15)) (fun _ h9 => h9) (v := .int x_108) ff_115_4_209 dX6_read_60 ?_
                    have hin_144 : vp_in x_108 1601 := (dk_inv2 (by omega))
                    refine dg_iald hx hb K hP sX_211 hin_144 dX6_read_63 (fun x_145 ex_145 => ?_)
                    have hs_x_145 : (x_108 : Int32).toInt = (en).toInt → (x_145).toInt = (rw_115_0).toInt := fun h => by have h9 := Int32.toInt_inj.mp h; rw [ex_145, h9]; exact congrArg Int32.toInt frw_115_0
                    have kx_145 : (kd (x_108 : Int32).toNatClampNeg).toInt = (x_145).toInt := by rw [ex_145, srel_115_2 _ (by unfold Int32.toNatClampNeg; omega)]
                    refine lv_if_ne (tgt := 69) hx hb dX6_read_64 (dk_dq rfl) (fun c_146 => ?_) (fun c_146 => ?_)
                    · as_aux_lemma =>
                        have jc_146 := dk_neqc (k := 0) (by decide +kernel) c_146
                        refine lv_aload_n hx hb dX6_read_69 rfl (lv_at hl 1 rfl) ?_
                        refine lv_iload_n hx hb dX6_read_70 rfl (lv_at hl 0 rfl) ?_
                        refine dg_calli hS hA1 hA (va_runV (As := [.int x_107]) (rest := []) F (c_rd_readStatement l g D o S_115 x_107 (by omega) en kd vl ((S_115.2.1 (gr + 2))) ((S_115.2.1 (gr + 5))) ((S_115.2.1 (gr + 10))) ((S_115.2.1 (gr + 11))) S0 d0 gr hk_gr srel_115_4 x_108 ff_115_4_209 (by omega) x_114 ff_115_7_209 (by omega) x_109 ff_115_0_gr (by omega) x_110 ff_115_1_gr (by omega) x_111 ff_115_6_gr (by omega) x_112 ff_115_8_gr (by omega) x_113 ff_115_11_gr (by omega) rw_115_0 frw_115_0 (by omega) (by omega) srel_115_2 srel_115_3 (by omega) rfl rfl rfl rfl hd0 Z1_115 GO_115 G9_115 I_115 H.size) (cwV 1 hts (bw_V wB_275 wB_276 wB_277 wB_24 wB_274) rfl rfl rfl (by decide +kernel) ⟨Nat.le_of_ble_eq_true rfl, Nat.le_of_ble_eq_true rfl⟩) (dg_preV sX_209 rfl K ST hP hS hA1 hA) rfl rfl hl.1 rfl (lv_room (Nat.le_of_ble_eq_true rfl)) dX6_read_71 ⟨Nat.le_of_ble_eq_true rfl, Nat.le_of_ble_eq_true rfl⟩) (fun x_147 S_148 hw_148 H locs hP hS => ?_)
                        obtain ⟨I_148, m_148, w_148_0, w_148_1, w_148_2, w_148_3, w_148_4, w_148_5, -⟩ := hw_148
                        have M_148 := dg_sm.tr M_115 m_148 (dk_dq rfl) (dk_dq rfl)
                        have w_148_0 : 0 ≤ (x_147).toInt ∧ (x_147).toInt ≤ 1 := w_148_0
                        replace w_148_1 : ∃ cx9 ry9 mi9 pl9 od9 n9 s9 : Int32, S_148.1 gr 0 = .int cx9 ∧ S_148.1 gr 1 = .int ry9 ∧ S_148.1 gr 6 = .int mi9 ∧ S_148.1 gr 8 = .int pl9 ∧ S_148.1 gr 11 = .int od9 ∧ S_148.1 209 4 = .int n9 ∧ S_148.1 209 7 = .int s9 ∧ n9.toInt ≤ (en).toInt ∧ ((x_147).toInt = 1 → s9.toInt ≤ n9.toInt) ∧ ((x_107).toInt = 80 → (x_147).toInt = 0) ∧ ((x_107).toInt ≠ 80 → y_ok x_147 (y_one kd vl (x_107 : Int32).toNatClampNeg (y_gx x_109 x_110 (S_115.2.1 (gr + 2)) x_111 x_112 (S_115.2.1 (gr + 5)) x_113 (S_115.2.1 (gr + 10)) (S_115.2.1 (gr + 11))) (x_108 : Int32).toNatClampNeg) (y_gx cx9 ry9 (S_148.2.1 (gr + 2)) mi9 pl9 (S_148.2.1 (gr + 5)) od9 (S_148.2.1 (gr + 10)) (S_148.2.1 (gr + 11))) (x_108 : Int32).toNatClampNeg (n9 : Int32).toNatClampNeg) := w_148_1
                        obtain ⟨y_149, y_150, y_151, y_152, y_153, y_154, y_155, f_y_149, f_y_150, f_y_151, f_y_152, f_y_153, f_y_154, f_y_155, hn_x_147, hs_x_147, h8_x_147, hy_x_147⟩ := w_148_1
                        have b_y_149 : 0 ≤ (y_149).toInt ∧ (y_149).toInt ≤ 7 := dg_I.intb (lo := 0) (hi := 7) I_148 (rX_0 gr hk_gr) (by decide +kernel) f_y_149
                        have b_y_150 : 0 ≤ (y_150).toInt ∧ (y_150).toInt ≤ 7 := dg_I.intb (lo := 0) (hi := 7) I_148 (rX_0 gr hk_gr) (by decide +kernel) f_y_150
                        have b_y_151 : 0 ≤ (y_151).toInt ∧ (y_151).toInt ≤ 6 := dg_I.intb (lo := 0) (hi := 6) I_148 (rX_0 gr hk_gr) (by decide +kernel) f_y_151
                        have b_y_152 : 0 ≤ (y_152).toInt ∧ (y_152).toInt ≤ 16 := dg_I.intb (lo := 0) (hi := 16) I_148 (rX_0 gr hk_gr) (by decide +kernel) f_y_152
                        have b_y_153 : 0 ≤ (y_153).toInt ∧ (y_153).toInt ≤ 5 := dg_I.intb (lo := 0) (hi := 5) I_148 (rX_0 gr hk_gr) (by decide +kernel) f_y_153
                        have b_y_154 : 0 ≤ (y_154).toInt ∧ (y_154).toInt ≤ 1600 := dg_I.intb (lo := 0) (hi := 1600) I_148 sX_209 (by decide +kernel) f_y_154
                        have b_y_155 : 0 ≤ (y_155).toInt ∧ (y_155).toInt ≤ 1600 := dg_I.intb (lo := 0) (hi := 1600) I_148 sX_209 (by decide +kernel) f_y_155
                        replace w_148_2 : (x_147).toInt = 1 → KST kd vl (x_107 : Int32).toNatClampNeg (y_gx x_109 x_110 (S_115.2.1 (gr + 2)) x_111 x_112 (S_115.2.1 (gr + 5)) x_113 (S_115.2.1 (gr + 10)) (S_115.2.1 (gr + 11))) (x_108 : Int32).toNatClampNeg S_115 S_148 gr := w_148_2
                        refine lv_if_eq (tgt := 86) hx hb dX6_read_74 (dk_dq rfl) (fun c_156 => ?_) (fun c_156 => ?_)
                        · have jc_156 := dk_eqc (k := 0) (by decide +kernel) c_156
                          refine lv_iconst (v := (-1)) hx hb dX6_read_86 (by decide +kernel) ?_
                          have hz_157 : (-1 : Int32).toInt = (-1) := by decide +kernel
                          have hz_158 : (-1 : Int32).toInt = (-1) := by decide +kernel
                          have hz_159 : (-1 : Int32).toInt = (-1) := by decide +kernel
                          refine W.widen (k := 0) (n := 0) (Nat.le_of_ble_eq_true rfl) (Nat.le_of_ble_eq_true rfl) ?_
                          exact dg_iret hx hb hr hlocks rfl hP hS ⟨I_148, M_148, (by decide +kernel), ⟨fun _ => by rw [eK9, eV9]; by_cases q80 : (x_107).toInt = 80; exact srel_115_1.full (by have h8 := dk_clN x_107; omega) (by have h8 := dk_clN x_107; omega); exact srel_115_1.bad (by have h8 := dk_clN x_107; omega) (by have h8 := dk_clN x_107; omega) ((hy_x_147 q80).2 (by omega)), fun q9 => absurd (by decide +kernel) q9⟩, (fun q9 => absurd (by first | decide +kernel | omega) q9), w_148_3, w_148_4, w_148_5, trivial⟩ dX6_read_87
                        · as_aux_lemma =>
                            have jc_156 := dk_neqc (k := 0) (by decide +kernel) c_156
                            refine lv_aload_n hx hb dX6_read_77 rfl (lv_at hl 1 rfl) ?_
                            refine lv_bipush (v := 59) hx hb dX6_read_78 (by decide +kernel) ?_
                            refine dg_calli hS hA1 hA (va_runV (As := [.int 59]) (rest := []) F (c_rd_takeSign l g D o S_148 59 en kd vl y_154 f_y_154 (by omega) rw_115_0 ((congrFun (m_148.2 211 _ sX_211 (dk_dq rfl)).1 _).trans frw_115_0) (by omega) (by omega) (fun k9 h9 => (congrFun (m_148.2 211 _ sX_211 (dk_dq rfl)).1 k9).trans (srel_115_2 k9 h9)) (fun k9 h9 => (congrFun (m_148.2 213 _ sX_213 (dk_dq rfl)).1 k9).trans (srel_115_3 k9 h9)) I_148 H.size) (cwV 1 hts (bw_V wB_152 wB_153 wB_154 wB_24 wB_151) rfl rfl rfl (by decide +kernel) ⟨Nat.le_of_ble_eq_true rfl, Nat.le_of_ble_eq_true rfl⟩) (dg_preV sX_209 rfl K ST hP hS hA1 hA) rfl rfl hl.1 rfl (lv_room (Nat.le_of_ble_eq_true rfl)) dX6_read_80 ⟨Nat.le_of_ble_eq_true rfl, Nat.le_of_ble_eq_true rfl⟩) (fun x_160 S_161 hw_161 H locs hP hS => ?_)
                            obtain ⟨I_161, m_161, w_161_0, w_161_1, -⟩ := hw_161
                            have M_161 := dg_sm.tr M_148 m_161 (dk_dq rfl) (dk_dq rfl)
                            have hz_162 : (59 : Int32).toInt = 59 := by decide +kernel
                            have w_161_0 : 0 ≤ (x_160).toInt ∧ (x_160).toInt ≤ 1 := w_161_0
                            obtain ⟨y_163, f_y_163, w_161_1⟩ := w_161_1
                            have w_161_1 : (y_163).toInt ≤ (en).toInt ∧ g_ans x_160 (g_tk kd vl ((59 : Int32)).toInt (y_154 : Int32).toNatClampNeg) (y_163 : Int32).toNatClampNeg := w_161_1
                            have b_y_163 : 0 ≤ (y_163).toInt ∧ (y_163).toInt ≤ 1600 := dg_I.intb (lo := 0) (hi := 1600) I_161 sX_209 (by decide +kernel) f_y_163
                            refine lv_if_ne (tgt := 88) hx hb dX6_read_83 (dk_dq rfl) (fun c_164 => ?_) (fun c_164 => ?_)
                            · have jc_164 := dk_neqc (k := 0) (by decide +kernel) c_164
                              obtain ⟨x_165, ex_165⟩ : ∃ z, z = x_107 + 1 := ⟨_, rfl⟩
                              have jx_165 : (x_165).toInt = (x_107).toInt + 1 := by rw [ex_165]; exact dk_addT2 rfl (by decide +kernel) (by omega)
                              refine lv_iinc (v := x_165) (lv' := [(3, .int x_165), (0, .ref (o + 209)), (1, .ref (o + 1)), (2, .ref (o + gr))]) hx hb dX6_read_88 hl (k := 0) rfl (by rw [ex_165]; rfl) (dk_dq rfl) rfl (fun ls hl => ?_)
                              refine lv_goto (tgt := 42) hx hb dX6_read_91 (dk_dq rfl) ?_
                              exact ih x_165 y_163 y_149 y_150 y_151 y_152 y_153 y_155 (by omega) (by omega) (by omega) (by omega) (by omega) (by omega) (by omega) (by omega) (by omega) (by first | exact mu_lt hmu (by omega) (by omega) | omega) S_161 I_161 M_161 f_y_163 ((m_161.1 gr 0 _ (rX_0 gr hk_gr) (dk_dq rfl)).trans f_y_149) ((m_161.1 gr 1 _ (rX_0 gr hk_gr) (dk_dq rfl)).trans f_y_150) ((m_161.1 gr 6 _ (rX_0 gr hk_gr) (dk_dq rfl)).trans f_y_151) ((m_161.1 gr 8 _ (rX_0 gr hk_gr) (dk_dq rfl)).trans f_y_152) ((m_161.1 gr 11 _ (rX_0 gr hk_gr) (dk_dq rfl)).trans f_y_153) ((m_161.1 209 7 _ sX_209 (dk_dq rfl)).trans f_y_155) rw_115_0 ((congrFun ((m_161.2 211 _ sX_211 (dk_dq rfl)).1.trans (m_148.2 211 _ sX_211 (dk_dq rfl)).1) _).trans frw_115_0) (by omega) (Z1X.keep w_148_3 m_161 (dk_dq rfl) (dk_dq rfl) (dk_dq rfl)) (GOX.keep w_148_4 m_161 (dk_dq rfl) (dk_dq rfl)) (G9X.keep w_148_5 m_161 (dk_dq rfl)) (by have h7 := (g_tk_some (w_161_1.2.1 (by omega))).2; have h8 := dk_clN y_163; have h9 := dk_clN y_154; omega) (by rw [(m_161.2 (gr + 2) _ (rX_2 gr hk_gr) (dk_dq rfl)).1, (m_161.2 (gr + 5) _ (rX_5 gr hk_gr) (dk_dq rfl)).1, (m_161.2 (gr + 10) _ (rX_10 gr hk_gr) (dk_dq rfl)).1, (m_161.2 (gr + 11) _ (rX_11 gr hk_gr) (dk_dq rfl)).1]; exact y_at.next srel_115_1 (by have h8 := dk_clN x_107; omega) (by have h8 := dk_clN x_107; omega) ((hy_x_147 (by omega)).1 (by omega)).1 (w_161_1.2.1 (by omega)) (by have h8 := dk_clN x_107; have h9 := dk_clN x_165; omega)) (fun k9 h9 => (congrFun ((m_161.2 211 _ sX_211 (dk_dq rfl)).1.trans (m_148.2 211 _ sX_211 (dk_dq rfl)).1) k9).trans (srel_115_2 k9 h9)) (fun k9 h9 => (congrFun ((m_161.2 213 _ sX_213 (dk_dq rfl)).1.trans (m_148.2 213 _ sX_213 (dk_dq rfl)).1) k9).trans (srel_115_3 k9 h9)) (((m_161.1 209 3 _ sX_209 (dk_dq rfl)).trans (m_148.1 209 3 _ sX_209 (dk_dq rfl))).trans srel_115_4) (m_hid.mk (by rw [(m_161.2 (gr + 2) _ (rX_2 gr hk_gr) (dk_dq rfl)).1, (m_161.2 (gr + 5) _ (rX_5 gr hk_gr) (dk_dq rfl)).1, (m_161.2 (gr + 10) _ (rX_10 gr hk_gr) (dk_dq rfl)).1, (m_161.2 (gr + 11) _ (rX_11 gr hk_gr) (dk_dq rfl)).1]; exact (KAT.keep (KAT.next srel_115_5.out (by have h8 := dk_clN x_107; omega) (by have h8 := dk_clN x_107; omega) ((hy_x_147 (by omega)).1 (by omega)).1 (w_161_1.2.1 (by omega)) (by have h8 := dk_clN x_107; have h9 := dk_clN x_165; omega) (w_148_2 (by omega))) m_161 (by intro n9 h9; simp at h9) (dk_dq rfl) (by intro r9 h7 h8 h9; simp at h9 <;> omega)))) _ _ hP hS _ (lv_sub hl [0, 1, 2, 3] rfl)
                            · have jc_164 := dk_eqc (k := 0) (by decide +kernel) c_164
                              refine lv_iconst (v := (-1)) hx hb dX6_read_86 (by decide +kernel) ?_
                              have hz_166 : (-1 : Int32).toInt = (-1) := by decide +kernel
                              have hz_167 : (-1 : Int32).toInt = (-1) := by decide +kernel
                              have hz_168 : (-1 : Int32).toInt = (-1) := by decide +kernel
                              refine W.widen (k := 0) (n := 0) (Nat.le_of_ble_eq_true rfl) (Nat.le_of_ble_eq_true rfl) ?_
                              exact dg_iret hx hb hr hlocks rfl hP hS ⟨I_161, M_161, (by decide +kernel), ⟨fun _ => by rw [eK9, eV9]; exact srel_115_1.opn (by have h8 := dk_clN x_107; omega) (by have h8 := dk_clN x_107; omega) ((hy_x_147 (by omega)).1 (by omega)).1 (w_161_1.2.2 (by omega)), fun q9 => absurd (by decide +kernel) q9⟩, (fun q9 => absurd (by first | decide +kernel | omega) q9), (Z1X.keep w_148_3 m_161 (dk_dq rfl) (dk_dq rfl) (dk_dq rfl)), (GOX.keep w_148_4 m_161 (dk_dq rfl) (dk_dq rfl)), (G9X.keep w_148_5 m_161 (dk_dq rfl)), trivial⟩ dX6_read_87
                    · have jc_146 := dk_eqc (k := 0) (by decide +kernel) c_146
                      refine lv_iload_n hx hb dX6_read_67 rfl (lv_at hl 0 rfl) ?_
                      refine W.widen (k := 0) (n := 0) (Nat.le_of_ble_eq_true rfl) (Nat.le_of_ble_eq_true rfl) ?_
                      exact dg_iret hx hb hr hlocks rfl hP hS ⟨I_115, M_115, (by omega), ⟨fun q9 => absurd q9 (by omega), fun _ => ⟨x_109, x_110, x_111, x_112, x_113, ff_115_0_gr, ff_115_1_gr, ff_115_6_gr, ff_115_8_gr, ff_115_11_gr, by rw [eK9, eV9]; exact srel_115_1.done (by have h8 := dk_clN x_107; omega) (by omega)⟩⟩, (fun _ => by rw [eK9, eV9]; exact (srel_115_5.out.done (by have h8 := dk_clN x_107; omega) (by omega))), Z1_115, GO_115, G9_115, trivial⟩ dX6_read_68
    have hz_169 : (0 : Int32).toInt = 0 := by decide +kernel
    have hz_170 : (0 : Int32).toInt = 0 := by decide +kernel
    have hz_171 : (0 : Int32).toInt = 0 := by decide +kernel
    have hz_172 : (0 : Int32).toInt = 0 := by decide +kernel
    have hz_173 : (0 : Int32).toInt = 0 := by decide +kernel
    have hz_174 : (0 : Int32).toInt = 0 := by decide +kernel
    have hz_175 : (0 : Int32).toInt = 0 := by decide +kernel
    have hz_176 : (0 : Int32).toInt = 0 := by decide +kernel
    have hz_177 : (0 : Int32).toInt = 0 := by decide +kernel
    exact L_116 ((82 - ((0 : Int32)).toInt).toNat + 1) 0 0 y_3 y_4 y_5 y_6 y_7 0 (by decide +kernel) (by decide +kernel) (by omega) (by omega) (by omega) (by omega) (by omega) (by decide +kernel) (by omega) (by first | exact mu_lt hmu (by omega) (by omega) | omega) S_18 I_18 M_18 (((m_18.1 209 4 _ sX_209 (dk_dq rfl)).trans (dg_uF_ne e_17 (fun z => absurd z.2 (dk_dq rfl)))).trans (dg_uF_at e_15)) (((m_18.1 gr 0 _ (rX_0 gr hk_gr) (dk_dq rfl)).trans ((dg_uF_ne e_17 (fun z => absurd z.2 (dk_dq rfl))).trans ((dg_uF_ne e_15 (fun z => absurd z.2 (dk_dq rfl))).trans ((dg_uF_ne e_13 (fun z => absurd z.2 (dk_dq rfl))).trans (dg_uF_ne e_11 (fun z => by have h9 := (rX_0 gr hk_gr); rw [z.1, sX_209] at h9; cases h9)))))).trans f_y_3) (((m_18.1 gr 1 _ (rX_0 gr hk_gr) (dk_dq rfl)).trans ((dg_uF_ne e_17 (fun z => absurd z.2 (dk_dq rfl))).trans ((dg_uF_ne e_15 (fun z => absurd z.2 (dk_dq rfl))).trans ((dg_uF_ne e_13 (fun z => by have h9 := (rX_0 gr hk_gr); rw [z.1, sX_209] at h9; cases h9)).trans (dg_uF_ne e_11 (fun z => absurd z.2 (dk_dq rfl))))))).trans f_y_4) (((m_18.1 gr 6 _ (rX_0 gr hk_gr) (dk_dq rfl)).trans ((dg_uF_ne e_17 (fun z => absurd z.2 (dk_dq rfl))).trans ((dg_uF_ne e_15 (fun z => absurd z.2 (dk_dq rfl))).trans ((dg_uF_ne e_13 (fun z => absurd z.2 (dk_dq rfl))).trans (dg_uF_ne e_11 (fun z => absurd z.2 (dk_dq rfl))))))).trans f_y_5) (((m_18.1 gr 8 _ (rX_0 gr hk_gr) (dk_dq rfl)).trans ((dg_uF_ne e_17 (fun z => absurd z.2 (dk_dq rfl))).trans ((dg_uF_ne e_15 (fun z => absurd z.2 (dk_dq rfl))).trans ((dg_uF_ne e_13 (fun z => absurd z.2 (dk_dq rfl))).trans (dg_uF_ne e_11 (fun z => absurd z.2 (dk_dq rfl))))))).trans f_y_6) (((m_18.1 gr 11 _ (rX_0 gr hk_gr) (dk_dq rfl)).trans ((dg_uF_ne e_17 (fun z => absurd z.2 (dk_dq rfl))).trans ((dg_uF_ne e_15 (fun z => absurd z.2 (dk_dq rfl))).trans ((dg_uF_ne e_13 (fun z => absurd z.2 (dk_dq rfl))).trans (dg_uF_ne e_11 (fun z => absurd z.2 (dk_dq rfl))))))).trans f_y_7) ((m_18.1 209 7 _ sX_209 (dk_dq rfl)).trans (dg_uF_at e_17)) ke f_ke (by omega) (Z1X.keep (Z1X.keep (Z1X.keep (Z1X.keep (Z1X.keep w_2_10 (dg_sm.uF (WF := [(31, 0)]) (WA := []) dg_sm.rf e_11 sX_209 (dk_dq rfl)) (dk_dq rfl) (dk_dq rfl) (dk_dq rfl)) (dg_sm.uF (WF := [(31, 1)]) (WA := []) dg_sm.rf e_13 sX_209 (dk_dq rfl)) (dk_dq rfl) (dk_dq rfl) (dk_dq rfl)) (dg_sm.uF (WF := [(31, 4)]) (WA := []) dg_sm.rf e_15 sX_209 (dk_dq rfl)) (dk_dq rfl) (dk_dq rfl) (dk_dq rfl)) (dg_sm.uF (WF := [(31, 7)]) (WA := []) dg_sm.rf e_17 sX_209 (dk_dq rfl)) (dk_dq rfl) (dk_dq rfl) (dk_dq rfl)) m_18 (dk_dq rfl) (dk_dq rfl) (dk_dq rfl)) (GOX.keep (GOX.keep (GOX.keep (GOX.keep (GOX.keep w_2_11 (dg_sm.uF (WF := [(31, 0)]) (WA := []) dg_sm.rf e_11 sX_209 (dk_dq rfl)) (dk_dq rfl) (dk_dq rfl)) (dg_sm.uF (WF := [(31, 1)]) (WA := []) dg_sm.rf e_13 sX_209 (dk_dq rfl)) (dk_dq rfl) (dk_dq rfl)) (dg_sm.uF (WF := [(31, 4)]) (WA := []) dg_sm.rf e_15 sX_209 (dk_dq rfl)) (dk_dq rfl) (dk_dq rfl)) (dg_sm.uF (WF := [(31, 7)]) (WA := []) dg_sm.rf e_17 sX_209 (dk_dq rfl)) (dk_dq rfl) (dk_dq rfl)) m_18 (dk_dq rfl) (dk_dq rfl)) (G9X.keep (G9X.keep (G9X.keep (G9X.keep (G9X.keep (G9X.keep (G9X.keep G9 (dg_sm.uF (WF := [(31, 3)]) (WA := []) dg_sm.rf e_1 sX_209 (dk_dq rfl)) (dk_dq rfl)) m_2 (dk_dq rfl)) (dg_sm.uF (WF := [(31, 0)]) (WA := []) dg_sm.rf e_11 sX_209 (dk_dq rfl)) (dk_dq rfl)) (dg_sm.uF (WF := [(31, 1)]) (WA := []) dg_sm.rf e_13 sX_209 (dk_dq rfl)) (dk_dq rfl)) (dg_sm.uF (WF := [(31, 4)]) (WA := []) dg_sm.rf e_15 sX_209 (dk_dq rfl)) (dk_dq rfl)) (dg_sm.uF (WF := [(31, 7)]) (WA := []) dg_sm.rf e_17 sX_209 (dk_dq rfl)) (dk_dq rfl)) m_18 (dk_dq rfl)) (by omega) (y_at.start (by omega) (by omega) (by omega) (by omega) (by omega) (fun j9 h9 => by rw [((m_18.2 (gr + 10) _ (rX_10 gr hk_gr) (dk_dq rfl)).1.trans ((dg_uF_f e_17 (gr + 10)).trans ((dg_uF_f e_15 (gr + 10)).trans ((dg_uF_f e_13 (gr + 10)).trans (dg_uF_f e_11 (gr + 10))))))]; exact w_2_5 j9 h9) (fun j9 h9 => by rw [((m_18.2 (gr + 11) _ (rX_11 gr hk_gr) (dk_dq rfl)).1.trans ((dg_uF_f e_17 (gr + 11)).trans ((dg_uF_f e_15 (gr + 11)).trans ((dg_uF_f e_13 (gr + 11)).trans (dg_uF_f e_11 (gr + 11))))))]; exact w_2_6 j9 h9) (by decide +kernel) (by decide +kernel)) heK heV (((m_18.1 209 3 _ sX_209 (dk_dq rfl)).trans ((dg_uF_ne e_17 (fun z => absurd z.2 (dk_dq rfl))).trans ((dg_uF_ne e_15 (fun z => absurd z.2 (dk_dq rfl))).trans ((dg_uF_ne e_13 (fun z => absurd z.2 (dk_dq rfl))).trans ((dg_uF_ne e_11 (fun z => absurd z.2 (dk_dq rfl))).trans (m_2.1 209 3 _ sX_209 (dk_dq rfl))))))).trans (dg_uF_at e_1)) (m_hid.mk (KAT.start (by omega) (by omega) (by omega) (by omega) (by omega) (fun j9 h9 => by rw [((m_18.2 (gr + 10) _ (rX_10 gr hk_gr) (dk_dq rfl)).1.trans ((dg_uF_f e_17 (gr + 10)).trans ((dg_uF_f e_15 (gr + 10)).trans ((dg_uF_f e_13 (gr + 10)).trans (dg_uF_f e_11 (gr + 10))))))]; exact w_2_5 j9 h9) (fun j9 h9 => by rw [((m_18.2 (gr + 11) _ (rX_11 gr hk_gr) (dk_dq rfl)).1.trans ((dg_uF_f e_17 (gr + 11)).trans ((dg_uF_f e_15 (gr + 11)).trans ((dg_uF_f e_13 (gr + 11)).trans (dg_uF_f e_11 (gr + 11))))))]; exact w_2_6 j9 h9) (by decide +kernel) (by decide +kernel) (kx0.keep (kx0.start hk_gr (by rw [zI_at (((dg_uF_ne e_17 (fun z => absurd z.2 (dk_dq rfl))).trans ((dg_uF_ne e_15 (fun z => absurd z.2 (dk_dq rfl))).trans ((dg_uF_ne e_13 (fun z => absurd z.2 (dk_dq rfl))).trans (dg_uF_ne e_11 (fun z => by have h9 := (rX_0 gr hk_gr); rw [z.1, sX_209] at h9; cases h9))))).trans f_y_3)]; omega) (by rw [zI_at (((dg_uF_ne e_17 (fun z => absurd z.2 (dk_dq rfl))).trans ((dg_uF_ne e_15 (fun z => absurd z.2 (dk_dq rfl))).trans ((dg_uF_ne e_13 (fun z => by have h9 := (rX_0 gr hk_gr); rw [z.1, sX_209] at h9; cases h9)).trans (dg_uF_ne e_11 (fun z => absurd z.2 (dk_dq rfl)))))).trans f_y_4)]; omega) (by rw [zI_at (((dg_uF_ne e_17 (fun z => absurd z.2 (dk_dq rfl))).trans ((dg_uF_ne e_15 (fun z => absurd z.2 (dk_dq rfl))).trans ((dg_uF_ne e_13 (fun z => absurd z.2 (dk_dq rfl))).trans (dg_uF_ne e_11 (fun z => absurd z.2 (dk_dq rfl)))))).trans f_y_8)]; omega) (by rw [zI_at (((dg_uF_ne e_17 (fun z => absurd z.2 (dk_dq rfl))).trans ((dg_uF_ne e_15 (fun z => by have h9 := (rX_0 gr hk_gr); rw [z.1, sX_209] at h9; cases h9)).trans ((dg_uF_ne e_13 (fun z => absurd z.2 (dk_dq rfl))).trans (dg_uF_ne e_11 (fun z => absurd z.2 (dk_dq rfl)))))).trans f_y_9)]; omega) (by rw [zI_at (((dg_uF_ne e_17 (fun z => absurd z.2 (dk_dq rfl))).trans ((dg_uF_ne e_15 (fun z => absurd z.2 (dk_dq rfl))).trans ((dg_uF_ne e_13 (fun z => absurd z.2 (dk_dq rfl))).trans (dg_uF_ne e_11 (fun z => absurd z.2 (dk_dq rfl)))))).trans f_y_5)]; omega) (by rw [zI_at (((dg_uF_ne e_17 (fun z => absurd z.2 (dk_dq rfl))).trans ((dg_uF_ne e_15 (fun z => absurd z.2 (dk_dq rfl))).trans ((dg_uF_ne e_13 (fun z => absurd z.2 (dk_dq rfl))).trans (dg_uF_ne e_11 (fun z => absurd z.2 (dk_dq rfl)))))).trans f_y_6)]; omega) (by rw [zI_at (((dg_uF_ne e_17 (fun z => absurd z.2 (dk_dq rfl))).trans ((dg_uF_ne e_15 (fun z => absurd z.2 (dk_dq rfl))).trans ((dg_uF_ne e_13 (fun z => absurd z.2 (dk_dq rfl))).trans (dg_uF_ne e_11 (fun z => absurd z.2 (dk_dq rfl)))))).trans f_y_7)]; omega) (fun j9 h9 => by rw [((dg_uF_f e_17 (gr + 1)).trans ((dg_uF_f e_15 (gr + 1)).trans ((dg_uF_f e_13 (gr + 1)).trans (dg_uF_f e_11 (gr + 1)))))]; exact w_2_9 j9 h9) (fun j9 h9 => by rw [((dg_uF_f e_17 (gr + 10)).trans ((dg_uF_f e_15 (gr + 10)).trans ((dg_uF_f e_13 (gr + 10)).trans (dg_uF_f e_11 (gr + 10)))))]; exact w_2_5 j9 h9) (fun j9 h9 => by rw [((dg_uF_f e_17 (gr + 11)).trans ((dg_uF_f e_15 (gr + 11)).trans ((dg_uF_f e_13 (gr + 11)).trans (dg_uF_f e_11 (gr + 11)))))]; exact w_2_6 j9 h9) (by rw [zI_at (dg_uF_at e_17)]; decide +kernel)) m_18 (by intro n9 h9; simp at h9) (dk_dq rfl) (by intro r9 h7 h8 h9; simp at h9 <;> omega)))) _ _ hP hS _ (lv_sub hl [0, 1, 2, 3] rfl)
