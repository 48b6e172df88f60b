/-! 07.ctors2.lean.txt -/
def wsX0_init : List Cond := .code yX0_init cX0_init 3 none :: ([.methodLink RX0 3 objectInit, .instanceMethod objectInit, .code objectInit ⟨#[0xb1]⟩ 1 none, .arrayClass .int, .fieldLink RX0 9 "DarkMine$Feeling" "rows" "[I", .classLink RX0 15 RX5, .fieldLink RX0 17 "DarkMine$Feeling" "pits" "[LDarkMine$Pit;", .fieldLink RX0 21 "DarkMine$Feeling" "tally" "[I", .fieldLink RX0 24 "DarkMine$Feeling" "tellingShifts" "I", .fieldLink RX0 28 "DarkMine$Feeling" "tellingPlace" "I", .fieldLink RX0 31 "DarkMine$Feeling" "tellingLeft" "I", .fieldLink RX0 34 "DarkMine$Feeling" "works" "LDarkMine$Works;", .instantiable RX5 8, .initialized RX5, .instanceMethod yX5_init, .code yX5_init cX5_init 1 none, .methodLink RX5 3 objectInit, .fieldLink RX5 9 "DarkMine$Pit" "cells" "[I", .fieldLink RX5 15 "DarkMine$Pit" "hurts" "[I", .fieldLink RX5 18 "DarkMine$Pit" "planMiners" "[I", .fieldLink RX5 21 "DarkMine$Pit" "planPlaces" "[I", .fieldLink RX5 24 "DarkMine$Pit" "sold" "[I", .fieldLink RX5 27 "DarkMine$Pit" "tubCounts" "[I"] ++ wsX00 ++ wsX50)
def wsX3_init : List Cond := .code yX3_init cX3_init 2 none :: ([.methodLink RX3 3 objectInit, .instanceMethod objectInit, .code objectInit ⟨#[0xb1]⟩ 1 none, .arrayClass .int, .fieldLink RX3 9 "DarkMine$History" "keptParts" "[I", .classLink RX3 15 RX5, .fieldLink RX3 17 "DarkMine$History" "pits" "[LDarkMine$Pit;", .classLink RX3 21 "[[I", .fieldLink RX3 23 "DarkMine$History" "keptAhead" "[[I", .fieldLink RX3 26 "DarkMine$History" "keptCountAhead" "[I", .instantiable RX5 8, .initialized RX5, .instanceMethod yX5_init, .code yX5_init cX5_init 1 none, .methodLink RX5 3 objectInit, .fieldLink RX5 9 "DarkMine$Pit" "cells" "[I", .fieldLink RX5 15 "DarkMine$Pit" "hurts" "[I", .fieldLink RX5 18 "DarkMine$Pit" "planMiners" "[I", .fieldLink RX5 21 "DarkMine$Pit" "planPlaces" "[I", .fieldLink RX5 24 "DarkMine$Pit" "sold" "[I", .fieldLink RX5 27 "DarkMine$Pit" "tubCounts" "[I"] ++ wsX30 ++ wsX50)
set_option maxRecDepth 20000 in
theorem ggX0_init_X5_init : GoodIn wsX0_init wsX5_init := goodIn_r _ [16, 17, 2, 3, 4, 18, 19, 20, 21, 22, 23, 33, 34, 35, 36, 37, 38, 39, 40] (by decide +kernel) (by decide +kernel)
set_option maxRecDepth 20000 in
theorem gX0_init_X5_init_n38 : GoodIn wsX0_init (wsX5_init) := ggX0_init_X5_init
theorem dX0_init_0 : decode cX0_init 0 = .ok (.aload_n 0, 1) := by decide +kernel
theorem dX0_init_1 : decode cX0_init 1 = .ok (.invokespecial 3, 3) := by decide +kernel
theorem dX0_init_4 : decode cX0_init 4 = .ok (.aload_n 0, 1) := by decide +kernel
theorem dX0_init_5 : decode cX0_init 5 = .ok (.bipush 64, 2) := by decide +kernel
theorem dX0_init_7 : decode cX0_init 7 = .ok (.newarray .int, 2) := by decide +kernel
theorem dX0_init_9 : decode cX0_init 9 = .ok (.putfield 9, 3) := by decide +kernel
theorem dX0_init_12 : decode cX0_init 12 = .ok (.aload_n 0, 1) := by decide +kernel
theorem dX0_init_13 : decode cX0_init 13 = .ok (.bipush 21, 2) := by decide +kernel
theorem dX0_init_15 : decode cX0_init 15 = .ok (.anewarray 15, 3) := by decide +kernel
theorem dX0_init_18 : decode cX0_init 18 = .ok (.putfield 17, 3) := by decide +kernel
theorem dX0_init_21 : decode cX0_init 21 = .ok (.aload_n 0, 1) := by decide +kernel
theorem dX0_init_22 : decode cX0_init 22 = .ok (.bipush 11, 2) := by decide +kernel
theorem dX0_init_24 : decode cX0_init 24 = .ok (.newarray .int, 2) := by decide +kernel
theorem dX0_init_26 : decode cX0_init 26 = .ok (.putfield 21, 3) := by decide +kernel
theorem dX0_init_29 : decode cX0_init 29 = .ok (.aload_n 0, 1) := by decide +kernel
theorem dX0_init_30 : decode cX0_init 30 = .ok (.iconst (-1), 1) := by decide +kernel
theorem dX0_init_31 : decode cX0_init 31 = .ok (.putfield 24, 3) := by decide +kernel
theorem dX0_init_34 : decode cX0_init 34 = .ok (.aload_n 0, 1) := by decide +kernel
theorem dX0_init_35 : decode cX0_init 35 = .ok (.iconst (-1), 1) := by decide +kernel
theorem dX0_init_36 : decode cX0_init 36 = .ok (.putfield 28, 3) := by decide +kernel
theorem dX0_init_39 : decode cX0_init 39 = .ok (.aload_n 0, 1) := by decide +kernel
theorem dX0_init_40 : decode cX0_init 40 = .ok (.iconst (-1), 1) := by decide +kernel
theorem dX0_init_41 : decode cX0_init 41 = .ok (.putfield 31, 3) := by decide +kernel
theorem dX0_init_44 : decode cX0_init 44 = .ok (.aload_n 0, 1) := by decide +kernel
theorem dX0_init_45 : decode cX0_init 45 = .ok (.aload_n 1, 1) := by decide +kernel
theorem dX0_init_46 : decode cX0_init 46 = .ok (.putfield 34, 3) := by decide +kernel
theorem dX0_init_49 : decode cX0_init 49 = .ok (.iconst 0, 1) := by decide +kernel
theorem dX0_init_50 : decode cX0_init 50 = .ok (.istore_n 2, 1) := by decide +kernel
theorem dX0_init_51 : decode cX0_init 51 = .ok (.iload_n 2, 1) := by decide +kernel
theorem dX0_init_52 : decode cX0_init 52 = .ok (.bipush 21, 2) := by decide +kernel
theorem dX0_init_54 : decode cX0_init 54 = .ok (.if_icmp .ge 22, 3) := by decide +kernel
theorem dX0_init_57 : decode cX0_init 57 = .ok (.aload_n 0, 1) := by decide +kernel
theorem dX0_init_58 : decode cX0_init 58 = .ok (.getfield 17, 3) := by decide +kernel
theorem dX0_init_61 : decode cX0_init 61 = .ok (.iload_n 2, 1) := by decide +kernel
theorem dX0_init_62 : decode cX0_init 62 = .ok (.new 15, 3) := by decide +kernel
theorem dX0_init_65 : decode cX0_init 65 = .ok (.dup, 1) := by decide +kernel
theorem dX0_init_66 : decode cX0_init 66 = .ok (.invokespecial 38, 3) := by decide +kernel
theorem dX0_init_69 : decode cX0_init 69 = .ok (.aastore, 1) := by decide +kernel
theorem dX0_init_70 : decode cX0_init 70 = .ok (.iinc 2 1, 3) := by decide +kernel
theorem dX0_init_73 : decode cX0_init 73 = .ok (.goto (-22), 3) := by decide +kernel
theorem dX0_init_76 : decode cX0_init 76 = .ok (.return_, 1) := by decide +kernel
set_option maxRecDepth 20000 in
theorem ggX3_init_X5_init : GoodIn wsX3_init wsX5_init := goodIn_r _ [14, 15, 2, 3, 4, 16, 17, 18, 19, 20, 21, 29, 30, 31, 32, 33, 34, 35, 36] (by decide +kernel) (by decide +kernel)
set_option maxRecDepth 20000 in
theorem gX3_init_X5_init_n29 : GoodIn wsX3_init (wsX5_init) := ggX3_init_X5_init
theorem dX3_init_0 : decode cX3_init 0 = .ok (.aload_n 0, 1) := by decide +kernel
theorem dX3_init_1 : decode cX3_init 1 = .ok (.invokespecial 3, 3) := by decide +kernel
theorem dX3_init_4 : decode cX3_init 4 = .ok (.aload_n 0, 1) := by decide +kernel
theorem dX3_init_5 : decode cX3_init 5 = .ok (.sipush 160, 3) := by decide +kernel
theorem dX3_init_8 : decode cX3_init 8 = .ok (.newarray .int, 2) := by decide +kernel
theorem dX3_init_10 : decode cX3_init 10 = .ok (.putfield 9, 3) := by decide +kernel
theorem dX3_init_13 : decode cX3_init 13 = .ok (.aload_n 0, 1) := by decide +kernel
theorem dX3_init_14 : decode cX3_init 14 = .ok (.bipush 20, 2) := by decide +kernel
theorem dX3_init_16 : decode cX3_init 16 = .ok (.anewarray 15, 3) := by decide +kernel
theorem dX3_init_19 : decode cX3_init 19 = .ok (.putfield 17, 3) := by decide +kernel
theorem dX3_init_22 : decode cX3_init 22 = .ok (.aload_n 0, 1) := by decide +kernel
theorem dX3_init_23 : decode cX3_init 23 = .ok (.bipush 20, 2) := by decide +kernel
theorem dX3_init_25 : decode cX3_init 25 = .ok (.sipush 160, 3) := by decide +kernel
theorem dX3_init_28 : decode cX3_init 28 = .ok (.multianewarray 21 2, 4) := by decide +kernel
theorem dX3_init_32 : decode cX3_init 32 = .ok (.putfield 23, 3) := by decide +kernel
theorem dX3_init_35 : decode cX3_init 35 = .ok (.aload_n 0, 1) := by decide +kernel
theorem dX3_init_36 : decode cX3_init 36 = .ok (.bipush 20, 2) := by decide +kernel
theorem dX3_init_38 : decode cX3_init 38 = .ok (.newarray .int, 2) := by decide +kernel
theorem dX3_init_40 : decode cX3_init 40 = .ok (.putfield 26, 3) := by decide +kernel
theorem dX3_init_43 : decode cX3_init 43 = .ok (.iconst 0, 1) := by decide +kernel
theorem dX3_init_44 : decode cX3_init 44 = .ok (.istore_n 1, 1) := by decide +kernel
theorem dX3_init_45 : decode cX3_init 45 = .ok (.iload_n 1, 1) := by decide +kernel
theorem dX3_init_46 : decode cX3_init 46 = .ok (.bipush 20, 2) := by decide +kernel
theorem dX3_init_48 : decode cX3_init 48 = .ok (.if_icmp .ge 22, 3) := by decide +kernel
theorem dX3_init_51 : decode cX3_init 51 = .ok (.aload_n 0, 1) := by decide +kernel
theorem dX3_init_52 : decode cX3_init 52 = .ok (.getfield 17, 3) := by decide +kernel
theorem dX3_init_55 : decode cX3_init 55 = .ok (.iload_n 1, 1) := by decide +kernel
theorem dX3_init_56 : decode cX3_init 56 = .ok (.new 15, 3) := by decide +kernel
theorem dX3_init_59 : decode cX3_init 59 = .ok (.dup, 1) := by decide +kernel
theorem dX3_init_60 : decode cX3_init 60 = .ok (.invokespecial 29, 3) := by decide +kernel
theorem dX3_init_63 : decode cX3_init 63 = .ok (.aastore, 1) := by decide +kernel
theorem dX3_init_64 : decode cX3_init 64 = .ok (.iinc 1 1, 3) := by decide +kernel
theorem dX3_init_67 : decode cX3_init 67 = .ok (.goto (-22), 3) := by decide +kernel
theorem dX3_init_70 : decode cX3_init 70 = .ok (.return_, 1) := by decide +kernel
set_option maxHeartbeats 8000000 in
set_option maxRecDepth 100000 in
theorem c_history_init (l : Launch) (g : Nat → ClassId) (D : va_G) (h0 : Nat) (sz : Nat) : Met l yX3_init wsX3_init ({ frames := 2, cells := 164, slots := 6080, locals := 52 } : Room) (dk_Pc g D [(h0, .inr (3, [.null, .int 0, .int 0, .int 0, .null, .null, .null]))] sz [.ref h0]) (va_Qv (fun (_ : Nat × Nat × Nat × Nat) => True) (dk_B D (va_A [(h0, .inr (3, [.null, .int 0, .int 0, .int 0, .null, .null, .null]))] sz) (fun (u : Nat × Nat × Nat × Nat) => [(h0, .inr (3, [.ref u.1, .int 0, .int 0, .int 0, .ref u.2.1, .ref u.2.2.1, .ref u.2.2.2]))])) (va_A [(h0, .inr (3, [.null, .int 0, .int 0, .int 0, .null, .null, .null]))] sz)) 164 6080 (va_A [(h0, .inr (3, [.null, .int 0, .int 0, .int 0, .null, .null, .null]))] sz) := by
  refine dk_met (cc := cX3_init) (maxL := 2) (ret := none) (by decide) rfl (Nat.le_of_ble_eq_true rfl) ?_
  intro p e s m args below meth c harg hx hb hr hml hts hown hlocks hin hP K hD hS hA hsz ls hl
  subst hsz
  generalize va_A [(h0, .inr (3, [.null, .int 0, .int 0, .int 0, .null, .null, .null]))] s.heap.size = A at hD hS hA ⊢
  have F : CallFix p m c cX3_init 2 s args wsX3_init RX3 := ⟨hx, hb, hml, hown, hts⟩
  have hl : lv_has ls 2 [(0, .ref h0)] := hl
  have iX3 : ∀ w ∈ wsX30, w ∈ wsX3_init := fun _ h => List.mem_cons_of_mem _ (List.mem_append_left _ (List.mem_append_right _ h))
  have iX5 : ∀ w ∈ wsX50, w ∈ wsX3_init := fun _ h => List.mem_cons_of_mem _ (List.mem_append_right _ h)
  refine lv_aload_n hx hb dX3_init_0 rfl (lv_at hl 0 rfl) ?_
  refine W.objInit hx hb hown (hts (.methodLink RX3 3 objectInit) (by decide +kernel)) (hts (.instanceMethod objectInit) (by decide +kernel)) (hts _ (List.mem_of_getElem? (i := 3) rfl)) rfl (by rw [hml]; exact hl.1) rfl dX3_init_1 (Nat.le_of_ble_eq_true rfl) (Nat.le_of_ble_eq_true rfl) ?_
  refine W.eq (g2 := F0 m 4 ls []) rfl ?_
  refine lv_aload_n hx hb dX3_init_4 rfl (lv_at hl 0 rfl) ?_
  refine lv_sipush (v := 160) hx hb dX3_init_5 (by decide +kernel) ?_
  refine dk_newa hx hb 0 rfl rfl (hts (.arrayClass .int) (by decide +kernel)) K hP hD hS hA (a0 := (160, .inl (fun _ => 0))) (fun _ => vp_cell_i _ _ _) (by decide +kernel) (N' := 160) (by decide +kernel) (Nat.le_of_ble_eq_true rfl) (Nat.le_of_ble_eq_true rfl) (Nat.le_of_ble_eq_true rfl) dX3_init_8 (fun q_1 H hP hD hS => ?_)
  have hP : va_P D vwCl [(h0, .inr (3, [.null, .int 0, .int 0, .int 0, .null, .null, .null])), (q_1, .inl (g 0, 160, .inl (fun _ => 0)))] H := hP
  have hD : va_D A [(h0, .inr (3, [.null, .int 0, .int 0, .int 0, .null, .null, .null])), (q_1, .inl (g 0, 160, .inl (fun _ => 0)))] := hD
  refine W.widen (k := 1) (n := 160) (by omega) (by omega) ?_
  refine va_putF (D := D) (ci := 3) (v := .ref q_1) (ty := tyX3 0) (C := RX3) (T := TX3) (N := 7) hx hb hts iX3 tyX3 tyX3_ok nmX3 hown K.1 hP hD hS 0 rfl rfl 0 (by decide) (hts (.fieldLink RX3 9 "DarkMine$History" "keptParts" "[I") (by decide +kernel)) (fun _ h9 => h9) rfl hin rfl (by decide +kernel) rfl rfl (Nat.le_of_ble_eq_true rfl) dX3_init_10 (fun H locs hP hD hS => ?_)
  have hP : va_P D vwCl [(h0, .inr (3, [.ref q_1, .int 0, .int 0, .int 0, .null, .null, .null])), (q_1, .inl (g 0, 160, .inl (fun _ => 0)))] H := hP
  have hD : va_D A [(h0, .inr (3, [.ref q_1, .int 0, .int 0, .int 0, .null, .null, .null])), (q_1, .inl (g 0, 160, .inl (fun _ => 0)))] := hD
  refine lv_aload_n hx hb dX3_init_13 rfl (lv_at hl 0 rfl) ?_
  refine lv_bipush (v := 20) hx hb dX3_init_14 (by decide +kernel) ?_
  refine va_newq hx hb hown (hts (.classLink RX3 15 "DarkMine$Pit") (by decide +kernel)) K.2.2.1 K.1 hP hD hS hA (N' := 20) (by decide +kernel) (by decide +kernel) (Nat.le_of_ble_eq_true rfl) (Nat.le_of_ble_eq_true rfl) (Nat.le_of_ble_eq_true rfl) dX3_init_16 (fun q_2 cA_3 H KQ hP hD hS => ?_)
  have hP : va_P D vwCl [(h0, .inr (3, [.ref q_1, .int 0, .int 0, .int 0, .null, .null, .null])), (q_1, .inl (g 0, 160, .inl (fun _ => 0))), (q_2, .inl (cA_3, 20, .inr (.inr (.inr (.inr (fun _ => none))))))] H := hP
  have hD : va_D A [(h0, .inr (3, [.ref q_1, .int 0, .int 0, .int 0, .null, .null, .null])), (q_1, .inl (g 0, 160, .inl (fun _ => 0))), (q_2, .inl (cA_3, 20, .inr (.inr (.inr (.inr (fun _ => none))))))] := hD
  refine W.widen (k := 2) (n := 180) (by omega) (by omega) ?_
  refine va_putF (D := D) (ci := 3) (v := .ref q_2) (ty := tyX3 4) (C := RX3) (T := TX3) (N := 7) hx hb hts iX3 tyX3 tyX3_ok nmX3 hown K.1 hP hD hS 0 rfl rfl 4 (by decide) (hts (.fieldLink RX3 17 "DarkMine$History" "pits" "[LDarkMine$Pit;") (by decide +kernel)) (fun _ h9 => h9) rfl hin rfl (by decide +kernel) rfl rfl (Nat.le_of_ble_eq_true rfl) dX3_init_19 (fun H locs hP hD hS => ?_)
  have hP : va_P D vwCl [(h0, .inr (3, [.ref q_1, .int 0, .int 0, .int 0, .ref q_2, .null, .null])), (q_1, .inl (g 0, 160, .inl (fun _ => 0))), (q_2, .inl (cA_3, 20, .inr (.inr (.inr (.inr (fun _ => none))))))] H := hP
  have hD : va_D A [(h0, .inr (3, [.ref q_1, .int 0, .int 0, .int 0, .ref q_2, .null, .null])), (q_1, .inl (g 0, 160, .inl (fun _ => 0))), (q_2, .inl (cA_3, 20, .inr (.inr (.inr (.inr (fun _ => none))))))] := hD
  refine lv_aload_n hx hb dX3_init_22 rfl (lv_at hl 0 rfl) ?_
  refine lv_bipush (v := 20) hx hb dX3_init_23 (by decide +kernel) ?_
  refine lv_sipush (v := 160) hx hb dX3_init_25 (by decide +kernel) ?_
  refine dk_mna hx hb hown (hts (.classLink RX3 21 "[[I") (by decide +kernel)) (hts (.arrayClass .int) (by decide +kernel)) K hP hD hS hA (N' := 20) (K' := 160) (by decide +kernel) (by decide +kernel) (by decide +kernel) (by decide +kernel) (Nat.le_of_ble_eq_true rfl) (Nat.le_of_ble_eq_true rfl) (Nat.le_of_ble_eq_true rfl) (Nat.le_of_ble_eq_true rfl) dX3_init_28 (fun q_4 H hP hD hS => ?_)
  refine W.widen (k := 23) (n := 3400) (by omega) (by omega) ?_
  refine va_putF (D := D) (ci := 3) (v := .ref q_4) (ty := tyX3 5) (C := RX3) (T := TX3) (N := 7) hx hb hts iX3 tyX3 tyX3_ok nmX3 hown K.1 hP hD hS 0 rfl rfl 5 (by decide) (hts (.fieldLink RX3 23 "DarkMine$History" "keptAhead" "[[I") (by decide +kernel)) (fun _ h9 => h9) rfl hin rfl (by decide +kernel) rfl rfl (Nat.le_of_ble_eq_true rfl) dX3_init_32 (fun H locs hP hD hS => ?_)
  have hP : va_P D vwCl [(h0, .inr (3, [.ref q_1, .int 0, .int 0, .int 0, .ref q_2, .ref q_4, .null])), (q_1, .inl (g 0, 160, .inl (fun _ => 0))), (q_2, .inl (cA_3, 20, .inr (.inr (.inr (.inr (fun _ => none))))))] H := hP
  have hD : va_D A [(h0, .inr (3, [.ref q_1, .int 0, .int 0, .int 0, .ref q_2, .ref q_4, .null])), (q_1, .inl (g 0, 160, .inl (fun _ => 0))), (q_2, .inl (cA_3, 20, .inr (.inr (.inr (.inr (fun _ => none))))))] := hD
  refine lv_aload_n hx hb dX3_init_35 rfl (lv_at hl 0 rfl) ?_
  refine lv_bipush (v := 20) hx hb dX3_init_36 (by decide +kernel) ?_
  refine dk_newa hx hb 0 rfl rfl (hts (.arrayClass .int) (by decide +kernel)) K hP hD hS hA (a0 := (20, .inl (fun _ => 0))) (fun _ => vp_cell_i _ _ _) (by decide +kernel) (N' := 20) (by decide +kernel) (Nat.le_of_ble_eq_true rfl) (Nat.le_of_ble_eq_true rfl) (Nat.le_of_ble_eq_true rfl) dX3_init_38 (fun q_5 H hP hD hS => ?_)
  have hP : va_P D vwCl [(h0, .inr (3, [.ref q_1, .int 0, .int 0, .int 0, .ref q_2, .ref q_4, .null])), (q_1, .inl (g 0, 160, .inl (fun _ => 0))), (q_2, .inl (cA_3, 20, .inr (.inr (.inr (.inr (fun _ => none)))))), (q_5, .inl (g 0, 20, .inl (fun _ => 0)))] H := hP
  have hD : va_D A [(h0, .inr (3, [.ref q_1, .int 0, .int 0, .int 0, .ref q_2, .ref q_4, .null])), (q_1, .inl (g 0, 160, .inl (fun _ => 0))), (q_2, .inl (cA_3, 20, .inr (.inr (.inr (.inr (fun _ => none)))))), (q_5, .inl (g 0, 20, .inl (fun _ => 0)))] := hD
  refine W.widen (k := 24) (n := 3420) (by omega) (by omega) ?_
  refine va_putF (D := D) (ci := 3) (v := .ref q_5) (ty := tyX3 6) (C := RX3) (T := TX3) (N := 7) hx hb hts iX3 tyX3 tyX3_ok nmX3 hown K.1 hP hD hS 0 rfl rfl 6 (by decide) (hts (.fieldLink RX3 26 "DarkMine$History" "keptCountAhead" "[I") (by decide +kernel)) (fun _ h9 => h9) rfl hin rfl (by decide +kernel) rfl rfl (Nat.le_of_ble_eq_true rfl) dX3_init_40 (fun H locs hP hD hS => ?_)
  have hP : va_P D vwCl [(h0, .inr (3, [.ref q_1, .int 0, .int 0, .int 0, .ref q_2, .ref q_4, .ref q_5])), (q_1, .inl (g 0, 160, .inl (fun _ => 0))), (q_2, .inl (cA_3, 20, .inr (.inr (.inr (.inr (fun _ => none)))))), (q_5, .inl (g 0, 20, .inl (fun _ => 0)))] H := hP
  have hD : va_D A [(h0, .inr (3, [.ref q_1, .int 0, .int 0, .int 0, .ref q_2, .ref q_4, .ref q_5])), (q_1, .inl (g 0, 160, .inl (fun _ => 0))), (q_2, .inl (cA_3, 20, .inr (.inr (.inr (.inr (fun _ => none)))))), (q_5, .inl (g 0, 20, .inl (fun _ => 0)))] := hD
  refine lv_iconst (v := 0) hx hb dX3_init_43 (by decide +kernel) ?_
  refine lv_istore_n (lv' := [(1, .int 0), (0, .ref h0)]) hx hb dX3_init_44 rfl hl (by decide) rfl (fun ls hl => ?_)
  have loop_7 : ∀ (n i_6 : Nat), i_6 + n = 20 → ∀ (f_8 : Nat → Option Nat) (H : Heap) (locs : List Loc), va_P D vwCl [(h0, .inr (3, [.ref q_1, .int 0, .int 0, .int 0, .ref q_2, .ref q_4, .ref q_5])), (q_1, .inl (g 0, 160, .inl (fun _ => 0))), (q_2, .inl (cA_3, 20, .inr (.inr (.inr (.inr f_8))))), (q_5, .inl (g 0, 20, .inl (fun _ => 0)))] H → va_D A [(h0, .inr (3, [.ref q_1, .int 0, .int 0, .int 0, .ref q_2, .ref q_4, .ref q_5])), (q_1, .inl (g 0, 160, .inl (fun _ => 0))), (q_2, .inl (cA_3, 20, .inr (.inr (.inr (.inr f_8))))), (q_5, .inl (g 0, 20, .inl (fun _ => 0)))] → va_S A s.heap H locs → ∀ ls : Array Slot, lv_has ls 2 [(1, .int (nI i_6)), (0, .ref h0)] → W p l e ({ frames := 2, cells := 164, slots := 6080, locals := 52 } : Room) s m args below meth c H locs (24 + 7 * i_6) (3420 + 133 * i_6) (MQ below (va_Qv (fun (_ : Nat × Nat × Nat × Nat) => True) (dk_B D A (fun (u : Nat × Nat × Nat × Nat) => [(h0, .inr (3, [.ref u.1, .int 0, .int 0, .int 0, .ref u.2.1, .ref u.2.2.1, .ref u.2.2.2]))])) A) args s 164 6080 A) (F0 m 45 ls []) := by
    intro n
    induction n with
    | zero =>
      intro i_6 hi f_8 H locs hP hD hS ls hl
      obtain rfl : i_6 = 20 := by omega
      have hl : lv_has ls 2 [(1, .int 20), (0, .ref h0)] := hl
      refine W.widen (k := 164) (n := 6080) (by omega) (by omega) ?_
      refine lv_iload_n hx hb dX3_init_45 rfl (lv_at hl 0 rfl) ?_
      refine lv_bipush (v := 20) hx hb dX3_init_46 (by decide +kernel) ?_
      refine lv_icmp_ge (tgt := 70) hx hb dX3_init_48 (by decide) (fun _ => ?_) (fun c => absurd (by decide +kernel) c)
      refine W.widen (k := 164) (n := 6080) (Nat.le_of_ble_eq_true rfl) (Nat.le_of_ble_eq_true rfl) ?_
      exact dk_vret hx hb hr hlocks hP hD hS ⟨q_1, q_2, q_4, q_5⟩ [0] rfl (by decide) trivial dX3_init_70
    | succ n ih =>
      intro i_6 hi f_8 H locs hP hD hS ls hl
      refine lv_iload_n hx hb dX3_init_45 rfl (lv_at hl 0 rfl) ?_
      refine lv_bipush (v := 20) hx hb dX3_init_46 (by decide +kernel) ?_
      refine lv_icmp_ge (tgt := 70) hx hb dX3_init_48 (by decide) (fun c => absurd c (nI_ge (a := i_6) (b := 20) (by omega) (by omega))) (fun _ => ?_)
      refine lv_aload_n hx hb dX3_init_51 rfl (lv_at hl 1 rfl) ?_
      refine va_get (C := RX3) (T := TX3) (N := 7) hx hb hts iX3 hown K.1 hP 0 rfl rfl 4 (by decide) (hts (.fieldLink RX3 17 "DarkMine$History" "pits" "[LDarkMine$Pit;") (by decide +kernel)) (fun _ h9 => h9) (v := .ref q_2) rfl dX3_init_52 ?_
      refine lv_iload_n hx hb dX3_init_55 rfl (lv_at hl 0 rfl) ?_
      refine va_new (ci := 5) (fs := [.int 0, .int 0, .null, .null, .null, .null, .null, .null]) (C := RX5) (T := TX5) (N := 8) hx hb hts iX5 tyX5 tyX5_ok hown (hts (.classLink RX3 15 RX5) (by decide +kernel)) (hts (.instantiable RX5 8) (by decide +kernel)) (hts (.initialized RX5) (by decide +kernel)) K.1 hP hD hS hA rfl (fun j hj => by rcases (show j = 0 ∨ j = 1 ∨ j = 2 ∨ j = 3 ∨ j = 4 ∨ j = 5 ∨ j = 6 ∨ j = 7 by omega) with rfl | rfl | rfl | rfl | rfl | rfl | rfl | rfl <;> rfl) (by show _ ≤ 164; omega) (by show _ ≤ 6080; omega) dX3_init_56 (fun q_9 H hP hD hS => ?_)
      have hP : va_P D vwCl [(h0, .inr (3, [.ref q_1, .int 0, .int 0, .int 0, .ref q_2, .ref q_4, .ref q_5])), (q_1, .inl (g 0, 160, .inl (fun _ => 0))), (q_2, .inl (cA_3, 20, .inr (.inr (.inr (.inr f_8))))), (q_5, .inl (g 0, 20, .inl (fun _ => 0))), (q_9, .inr (5, [.int 0, .int 0, .null, .null, .null, .null, .null, .null]))] H := hP
      have hD : va_D A [(h0, .inr (3, [.ref q_1, .int 0, .int 0, .int 0, .ref q_2, .ref q_4, .ref q_5])), (q_1, .inl (g 0, 160, .inl (fun _ => 0))), (q_2, .inl (cA_3, 20, .inr (.inr (.inr (.inr f_8))))), (q_5, .inl (g 0, 20, .inl (fun _ => 0))), (q_9, .inr (5, [.int 0, .int 0, .null, .null, .null, .null, .null, .null]))] := hD
      refine W.widen (k := 25 + 7 * i_6) (n := 3428 + 133 * i_6) (by omega) (by omega) ?_
      refine lv_dup hx hb dX3_init_59 rfl ?_
      refine dk_backv hP hD hS hA (wr := [(h0, .inr (3, [.ref q_1, .int 0, .int 0, .int 0, .ref q_2, .ref q_4, .ref q_5])), (q_1, .inl (g 0, 160, .inl (fun _ => 0))), (q_2, .inl (cA_3, 20, .inr (.inr (.inr (.inr f_8))))), (q_5, .inl (g 0, 20, .inl (fun _ => 0)))]) [4] [0, 1, 2, 3] rfl rfl (by decide) (by decide) (va_runIN (As := []) (rest := [.ref q_9, .int (nI i_6), .ref q_2]) F (c_pit_init l g D q_9 H.size) ⟨va_cnB 0 hts gX3_init_X5_init_n29 rfl rfl rfl (K.2.1 _ (List.mem_of_getElem? (i := 2) rfl)) (hts (.initialized RX5) (by decide +kernel)) (by decide +kernel) ⟨Nat.le_of_ble_eq_true rfl, Nat.le_of_ble_eq_true rfl⟩, rfl, hts (.instanceMethod yX5_init) (by decide +kernel)⟩ (dk_preS K hP hD [4] rfl (by decide)) rfl rfl hl.1 rfl (lv_room (Nat.le_of_ble_eq_true rfl)) dX3_init_60 ⟨(by show _ ≤ 164; omega), (by show _ ≤ 6080; omega)⟩) (fun u H locs hw hP hD hS => ?_)
      obtain ⟨r_10, r_11, r_12, r_13, r_14, r_15⟩ := u
      have hP : va_P D vwCl [(h0, .inr (3, [.ref q_1, .int 0, .int 0, .int 0, .ref q_2, .ref q_4, .ref q_5])), (q_1, .inl (g 0, 160, .inl (fun _ => 0))), (q_2, .inl (cA_3, 20, .inr (.inr (.inr (.inr f_8))))), (q_5, .inl (g 0, 20, .inl (fun _ => 0))), (q_9, .inr (5, [.int 0, .int 0, .ref r_10, .ref r_11, .ref r_12, .ref r_13, .ref r_14, .ref r_15])), (r_10, .inl (g 0, 72, .inl (fun _ => 0))), (r_11, .inl (g 0, 6, .inl (fun _ => 0))), (r_12, .inl (g 0, 16, .inl (fun _ => 0))), (r_13, .inl (g 0, 16, .inl (fun _ => 0))), (r_14, .inl (g 0, 5, .inl (fun _ => 0))), (r_15, .inl (g 0, 10, .inl (fun _ => 0)))] H := hP
      have hD : va_D A [(h0, .inr (3, [.ref q_1, .int 0, .int 0, .int 0, .ref q_2, .ref q_4, .ref q_5])), (q_1, .inl (g 0, 160, .inl (fun _ => 0))), (q_2, .inl (cA_3, 20, .inr (.inr (.inr (.inr f_8))))), (q_5, .inl (g 0, 20, .inl (fun _ => 0))), (q_9, .inr (5, [.int 0, .int 0, .ref r_10, .ref r_11, .ref r_12, .ref r_13, .ref r_14, .ref r_15])), (r_10, .inl (g 0, 72, .inl (fun _ => 0))), (r_11, .inl (g 0, 6, .inl (fun _ => 0))), (r_12, .inl (g 0, 16, .inl (fun _ => 0))), (r_13, .inl (g 0, 16, .inl (fun _ => 0))), (r_14, .inl (g 0, 5, .inl (fun _ => 0))), (r_15, .inl (g 0, 10, .inl (fun _ => 0)))] := hD
      refine W.widen (k := 31 + 7 * i_6) (n := 3553 + 133 * i_6) (by omega) (by omega) ?_
      refine va_astq hx hb KQ hP hD hS 2 3 4 5 rfl rfl rfl rfl (vp_in_nI (by omega) (by omega)) dX3_init_63 (fun H locs hP hD hS => ?_)
      have hP : va_P D vwCl [(h0, .inr (3, [.ref q_1, .int 0, .int 0, .int 0, .ref q_2, .ref q_4, .ref q_5])), (q_1, .inl (g 0, 160, .inl (fun _ => 0))), (q_2, .inl (cA_3, 20, .inr (.inr (.inr (.inr (va_up f_8 (nI i_6 : Int32).toNatClampNeg (some q_9))))))), (q_5, .inl (g 0, 20, .inl (fun _ => 0))), (q_9, .inr (5, [.int 0, .int 0, .ref r_10, .ref r_11, .ref r_12, .ref r_13, .ref r_14, .ref r_15])), (r_10, .inl (g 0, 72, .inl (fun _ => 0))), (r_11, .inl (g 0, 6, .inl (fun _ => 0))), (r_12, .inl (g 0, 16, .inl (fun _ => 0))), (r_13, .inl (g 0, 16, .inl (fun _ => 0))), (r_14, .inl (g 0, 5, .inl (fun _ => 0))), (r_15, .inl (g 0, 10, .inl (fun _ => 0)))] H := hP
      have hD : va_D A [(h0, .inr (3, [.ref q_1, .int 0, .int 0, .int 0, .ref q_2, .ref q_4, .ref q_5])), (q_1, .inl (g 0, 160, .inl (fun _ => 0))), (q_2, .inl (cA_3, 20, .inr (.inr (.inr (.inr (va_up f_8 (nI i_6 : Int32).toNatClampNeg (some q_9))))))), (q_5, .inl (g 0, 20, .inl (fun _ => 0))), (q_9, .inr (5, [.int 0, .int 0, .ref r_10, .ref r_11, .ref r_12, .ref r_13, .ref r_14, .ref r_15])), (r_10, .inl (g 0, 72, .inl (fun _ => 0))), (r_11, .inl (g 0, 6, .inl (fun _ => 0))), (r_12, .inl (g 0, 16, .inl (fun _ => 0))), (r_13, .inl (g 0, 16, .inl (fun _ => 0))), (r_14, .inl (g 0, 5, .inl (fun _ => 0))), (r_15, .inl (g 0, 10, .inl (fun _ => 0)))] := hD
      generalize va_up f_8 (nI i_6 : Int32).toNatClampNeg (some q_9) = f_16 at hP hD
      refine lv_iinc (v := (nI (i_6 + 1))) (lv' := [(1, .int (nI (i_6 + 1))), (0, .ref h0)]) hx hb dX3_init_64 hl (k := 0) rfl (dk_addc (b := 1) rfl) (by decide) rfl (fun ls hl => ?_)
      refine lv_goto (tgt := 45) hx hb dX3_init_67 (by decide) ?_
      have hP := hP.sub (ws' := [(h0, .inr (3, [.ref q_1, .int 0, .int 0, .int 0, .ref q_2, .ref q_4, .ref q_5])), (q_1, .inl (g 0, 160, .inl (fun _ => 0))), (q_2, .inl (cA_3, 20, .inr (.inr (.inr (.inr f_16))))), (q_5, .inl (g 0, 20, .inl (fun _ => 0)))]) [0, 1, 2, 3] rfl
      have hD := hD.sub (ws' := [(h0, .inr (3, [.ref q_1, .int 0, .int 0, .int 0, .ref q_2, .ref q_4, .ref q_5])), (q_1, .inl (g 0, 160, .inl (fun _ => 0))), (q_2, .inl (cA_3, 20, .inr (.inr (.inr (.inr f_16))))), (q_5, .inl (g 0, 20, .inl (fun _ => 0)))]) [0, 1, 2, 3] (by decide) rfl
      refine W.widen (k := 24 + 7 * (i_6 + 1)) (n := 3420 + 133 * (i_6 + 1)) (by omega) (by omega) ?_
      exact ih (i_6 + 1) (by omega) f_16 _ _ hP hD hS _ (lv_sub hl [0, 1] rfl)
  exact loop_7 20 0 rfl (fun _ => none) _ _ hP hD hS _ (lv_sub hl [0, 1] rfl)
set_option maxHeartbeats 8000000 in
set_option maxRecDepth 100000 in
theorem c_feeling_init (l : Launch) (g : Nat → ClassId) (D : va_G) (h0 : Nat) (w0 : Nat) (sz : Nat) : Met l yX0_init wsX0_init ({ frames := 2, cells := 150, slots := 2889, locals := 52 } : Room) (dk_Pc g D [(h0, .inr (0, [.null, .null, .null, .null, .int 0, .int 0, .int 0, .int 0, .int 0]))] sz [.ref h0, .ref w0]) (va_Qv (fun (_ : Nat × Nat × Nat) => True) (dk_B D (va_A [(h0, .inr (0, [.null, .null, .null, .null, .int 0, .int 0, .int 0, .int 0, .int 0]))] sz) (fun (u : Nat × Nat × Nat) => [(h0, .inr (0, [.ref w0, .ref u.1, .ref u.2.1, .ref u.2.2, .int 0, .int 0, .int (-1), .int (-1), .int (-1)]))])) (va_A [(h0, .inr (0, [.null, .null, .null, .null, .int 0, .int 0, .int 0, .int 0, .int 0]))] sz)) 150 2889 (va_A [(h0, .inr (0, [.null, .null, .null, .null, .int 0, .int 0, .int 0, .int 0, .int 0]))] sz) := by
  refine dk_met (cc := cX0_init) (maxL := 3) (ret := none) (by decide) rfl (Nat.le_of_ble_eq_true rfl) ?_
  intro p e s m args below meth c harg hx hb hr hml hts hown hlocks hin hP K hD hS hA hsz ls hl
  subst hsz
  generalize va_A [(h0, .inr (0, [.null, .null, .null, .null, .int 0, .int 0, .int 0, .int 0, .int 0]))] s.heap.size = A at hD hS hA ⊢
  have F : CallFix p m c cX0_init 3 s args wsX0_init RX0 := ⟨hx, hb, hml, hown, hts⟩
  have hl : lv_has ls 3 [(0, .ref h0), (1, .ref w0)] := hl
  have iX0 : ∀ w ∈ wsX00, w ∈ wsX0_init := fun _ h => List.mem_cons_of_mem _ (List.mem_append_left _ (List.mem_append_right _ h))
  have iX5 : ∀ w ∈ wsX50, w ∈ wsX0_init := fun _ h => List.mem_cons_of_mem _ (List.mem_append_right _ h)
  refine lv_aload_n hx hb dX0_init_0 rfl (lv_at hl 0 rfl) ?_
  refine W.objInit hx hb hown (hts (.methodLink RX0 3 objectInit) (by decide +kernel)) (hts (.instanceMethod objectInit) (by decide +kernel)) (hts _ (List.mem_of_getElem? (i := 3) rfl)) rfl (by rw [hml]; exact hl.1) rfl dX0_init_1 (Nat.le_of_ble_eq_true rfl) (Nat.le_of_ble_eq_true rfl) ?_
  refine W.eq (g2 := F0 m 4 ls []) rfl ?_
  refine lv_aload_n hx hb dX0_init_4 rfl (lv_at hl 0 rfl) ?_
  refine lv_bipush (v := 64) hx hb dX0_init_5 (by decide +kernel) ?_
  refine dk_newa hx hb 0 rfl rfl (hts (.arrayClass .int) (by decide +kernel)) K hP hD hS hA (a0 := (64, .inl (fun _ => 0))) (fun _ => vp_cell_i _ _ _) (by decide +kernel) (N' := 64) (by decide +kernel) (Nat.le_of_ble_eq_true rfl) (Nat.le_of_ble_eq_true rfl) (Nat.le_of_ble_eq_true rfl) dX0_init_7 (fun q_1 H hP hD hS => ?_)
  have hP : va_P D vwCl [(h0, .inr (0, [.null, .null, .null, .null, .int 0, .int 0, .int 0, .int 0, .int 0])), (q_1, .inl (g 0, 64, .inl (fun _ => 0)))] H := hP
  have hD : va_D A [(h0, .inr (0, [.null, .null, .null, .null, .int 0, .int 0, .int 0, .int 0, .int 0])), (q_1, .inl (g 0, 64, .inl (fun _ => 0)))] := hD
  refine W.widen (k := 1) (n := 64) (by omega) (by omega) ?_
  refine va_putF (D := D) (ci := 0) (v := .ref q_1) (ty := tyX0 1) (C := RX0) (T := TX0) (N := 9) hx hb hts iX0 tyX0 tyX0_ok nmX0 hown K.1 hP hD hS 0 rfl rfl 1 (by decide) (hts (.fieldLink RX0 9 "DarkMine$Feeling" "rows" "[I") (by decide +kernel)) (fun _ h9 => h9) rfl hin rfl (by decide +kernel) rfl rfl (Nat.le_of_ble_eq_true rfl) dX0_init_9 (fun H locs hP hD hS => ?_)
  have hP : va_P D vwCl [(h0, .inr (0, [.null, .ref q_1, .null, .null, .int 0, .int 0, .int 0, .int 0, .int 0])), (q_1, .inl (g 0, 64, .inl (fun _ => 0)))] H := hP
  have hD : va_D A [(h0, .inr (0, [.null, .ref q_1, .null, .null, .int 0, .int 0, .int 0, .int 0, .int 0])), (q_1, .inl (g 0, 64, .inl (fun _ => 0)))] := hD
  refine lv_aload_n hx hb dX0_init_12 rfl (lv_at hl 0 rfl) ?_
  refine lv_bipush (v := 21) hx hb dX0_init_13 (by decide +kernel) ?_
  refine va_newq hx hb hown (hts (.classLink RX0 15 "DarkMine$Pit") (by decide +kernel)) K.2.2.1 K.1 hP hD hS hA (N' := 21) (by decide +kernel) (by decide +kernel) (Nat.le_of_ble_eq_true rfl) (Nat.le_of_ble_eq_true rfl) (Nat.le_of_ble_eq_true rfl) dX0_init_15 (fun q_2 cA_3 H KQ hP hD hS => ?_)
  have hP : va_P D vwCl [(h0, .inr (0, [.null, .ref q_1, .null, .null, .int 0, .int 0, .int 0, .int 0, .int 0])), (q_1, .inl (g 0, 64, .inl (fun _ => 0))), (q_2, .inl (cA_3, 21, .inr (.inr (.inr (.inr (fun _ => none))))))] H := hP
  have hD : va_D A [(h0, .inr (0, [.null, .ref q_1, .null, .null, .int 0, .int 0, .int 0, .int 0, .int 0])), (q_1, .inl (g 0, 64, .inl (fun _ => 0))), (q_2, .inl (cA_3, 21, .inr (.inr (.inr (.inr (fun _ => none))))))] := hD
  refine W.widen (k := 2) (n := 85) (by omega) (by omega) ?_
  refine va_putF (D := D) (ci := 0) (v := .ref q_2) (ty := tyX0 2) (C := RX0) (T := TX0) (N := 9) hx hb hts iX0 tyX0 tyX0_ok nmX0 hown K.1 hP hD hS 0 rfl rfl 2 (by decide) (hts (.fieldLink RX0 17 "DarkMine$Feeling" "pits" "[LDarkMine$Pit;") (by decide +kernel)) (fun _ h9 => h9) rfl hin rfl (by decide +kernel) rfl rfl (Nat.le_of_ble_eq_true rfl) dX0_init_18 (fun H locs hP hD hS => ?_)
  have hP : va_P D vwCl [(h0, .inr (0, [.null, .ref q_1, .ref q_2, .null, .int 0, .int 0, .int 0, .int 0, .int 0])), (q_1, .inl (g 0, 64, .inl (fun _ => 0))), (q_2, .inl (cA_3, 21, .inr (.inr (.inr (.inr (fun _ => none))))))] H := hP
  have hD : va_D A [(h0, .inr (0, [.null, .ref q_1, .ref q_2, .null, .int 0, .int 0, .int 0, .int 0, .int 0])), (q_1, .inl (g 0, 64, .inl (fun _ => 0))), (q_2, .inl (cA_3, 21, .inr (.inr (.inr (.inr (fun _ => none))))))] := hD
  refine lv_aload_n hx hb dX0_init_21 rfl (lv_at hl 0 rfl) ?_
  refine lv_bipush (v := 11) hx hb dX0_init_22 (by decide +kernel) ?_
  refine dk_newa hx hb 0 rfl rfl (hts (.arrayClass .int) (by decide +kernel)) K hP hD hS hA (a0 := (11, .inl (fun _ => 0))) (fun _ => vp_cell_i _ _ _) (by decide +kernel) (N' := 11) (by decide +kernel) (Nat.le_of_ble_eq_true rfl) (Nat.le_of_ble_eq_true rfl) (Nat.le_of_ble_eq_true rfl) dX0_init_24 (fun q_4 H hP hD hS => ?_)
  have hP : va_P D vwCl [(h0, .inr (0, [.null, .ref q_1, .ref q_2, .null, .int 0, .int 0, .int 0, .int 0, .int 0])), (q_1, .inl (g 0, 64, .inl (fun _ => 0))), (q_2, .inl (cA_3, 21, .inr (.inr (.inr (.inr (fun _ => none)))))), (q_4, .inl (g 0, 11, .inl (fun _ => 0)))] H := hP
  have hD : va_D A [(h0, .inr (0, [.null, .ref q_1, .ref q_2, .null, .int 0, .int 0, .int 0, .int 0, .int 0])), (q_1, .inl (g 0, 64, .inl (fun _ => 0))), (q_2, .inl (cA_3, 21, .inr (.inr (.inr (.inr (fun _ => none)))))), (q_4, .inl (g 0, 11, .inl (fun _ => 0)))] := hD
  refine W.widen (k := 3) (n := 96) (by omega) (by omega) ?_
  refine va_putF (D := D) (ci := 0) (v := .ref q_4) (ty := tyX0 3) (C := RX0) (T := TX0) (N := 9) hx hb hts iX0 tyX0 tyX0_ok nmX0 hown K.1 hP hD hS 0 rfl rfl 3 (by decide) (hts (.fieldLink RX0 21 "DarkMine$Feeling" "tally" "[I") (by decide +kernel)) (fun _ h9 => h9) rfl hin rfl (by decide +kernel) rfl rfl (Nat.le_of_ble_eq_true rfl) dX0_init_26 (fun H locs hP hD hS => ?_)
  have hP : va_P D vwCl [(h0, .inr (0, [.null, .ref q_1, .ref q_2, .ref q_4, .int 0, .int 0, .int 0, .int 0, .int 0])), (q_1, .inl (g 0, 64, .inl (fun _ => 0))), (q_2, .inl (cA_3, 21, .inr (.inr (.inr (.inr (fun _ => none)))))), (q_4, .inl (g 0, 11, .inl (fun _ => 0)))] H := hP
  have hD : va_D A [(h0, .inr (0, [.null, .ref q_1, .ref q_2, .ref q_4, .int 0, .int 0, .int 0, .int 0, .int 0])), (q_1, .inl (g 0, 64, .inl (fun _ => 0))), (q_2, .inl (cA_3, 21, .inr (.inr (.inr (.inr (fun _ => none)))))), (q_4, .inl (g 0, 11, .inl (fun _ => 0)))] := hD
  refine lv_aload_n hx hb dX0_init_29 rfl (lv_at hl 0 rfl) ?_
  refine lv_iconst (v := (-1)) hx hb dX0_init_30 (by decide +kernel) ?_
  refine va_put (D := D) (ci := 0) (v := .int (-1)) (ty := tyX0 6) (C := RX0) (T := TX0) (N := 9) hx hb hts iX0 tyX0 tyX0_ok nmX0 hown K.1 hP hD hS 0 rfl rfl 6 (by decide) (hts (.fieldLink RX0 24 "DarkMine$Feeling" "tellingShifts" "I") (by decide +kernel)) (fun _ h9 => h9) rfl (by decide +kernel) rfl rfl (Nat.le_of_ble_eq_true rfl) dX0_init_31 (fun H locs hP hD hS => ?_)
  have hP : va_P D vwCl [(h0, .inr (0, [.null, .ref q_1, .ref q_2, .ref q_4, .int 0, .int 0, .int (-1), .int 0, .int 0])), (q_1, .inl (g 0, 64, .inl (fun _ => 0))), (q_2, .inl (cA_3, 21, .inr (.inr (.inr (.inr (fun _ => none)))))), (q_4, .inl (g 0, 11, .inl (fun _ => 0)))] H := hP
  have hD : va_D A [(h0, .inr (0, [.null, .ref q_1, .ref q_2, .ref q_4, .int 0, .int 0, .int (-1), .int 0, .int 0])), (q_1, .inl (g 0, 64, .inl (fun _ => 0))), (q_2, .inl (cA_3, 21, .inr (.inr (.inr (.inr (fun _ => none)))))), (q_4, .inl (g 0, 11, .inl (fun _ => 0)))] := hD
  refine lv_aload_n hx hb dX0_init_34 rfl (lv_at hl 0 rfl) ?_
  refine lv_iconst (v := (-1)) hx hb dX0_init_35 (by decide +kernel) ?_
  refine va_put (D := D) (ci := 0) (v := .int (-1)) (ty := tyX0 7) (C := RX0) (T := TX0) (N := 9) hx hb hts iX0 tyX0 tyX0_ok nmX0 hown K.1 hP hD hS 0 rfl rfl 7 (by decide) (hts (.fieldLink RX0 28 "DarkMine$Feeling" "tellingPlace" "I") (by decide +kernel)) (fun _ h9 => h9) rfl (by decide +kernel) rfl rfl (Nat.le_of_ble_eq_true rfl) dX0_init_36 (fun H locs hP hD hS => ?_)
  have hP : va_P D vwCl [(h0, .inr (0, [.null, .ref q_1, .ref q_2, .ref q_4, .int 0, .int 0, .int (-1), .int (-1), .int 0])), (q_1, .inl (g 0, 64, .inl (fun _ => 0))), (q_2, .inl (cA_3, 21, .inr (.inr (.inr (.inr (fun _ => none)))))), (q_4, .inl (g 0, 11, .inl (fun _ => 0)))] H := hP
  have hD : va_D A [(h0, .inr (0, [.null, .ref q_1, .ref q_2, .ref q_4, .int 0, .int 0, .int (-1), .int (-1), .int 0])), (q_1, .inl (g 0, 64, .inl (fun _ => 0))), (q_2, .inl (cA_3, 21, .inr (.inr (.inr (.inr (fun _ => none)))))), (q_4, .inl (g 0, 11, .inl (fun _ => 0)))] := hD
  refine lv_aload_n hx hb dX0_init_39 rfl (lv_at hl 0 rfl) ?_
  refine lv_iconst (v := (-1)) hx hb dX0_init_40 (by decide +kernel) ?_
  refine va_put (D := D) (ci := 0) (v := .int (-1)) (ty := tyX0 8) (C := RX0) (T := TX0) (N := 9) hx hb hts iX0 tyX0 tyX0_ok nmX0 hown K.1 hP hD hS 0 rfl rfl 8 (by decide) (hts (.fieldLink RX0 31 "DarkMine$Feeling" "tellingLeft" "I") (by decide +kernel)) (fun _ h9 => h9) rfl (by decide +kernel) rfl rfl (Nat.le_of_ble_eq_true rfl) dX0_init_41 (fun H locs hP hD hS => ?_)
  have hP : va_P D vwCl [(h0, .inr (0, [.null, .ref q_1, .ref q_2, .ref q_4, .int 0, .int 0, .int (-1), .int (-1), .int (-1)])), (q_1, .inl (g 0, 64, .inl (fun _ => 0))), (q_2, .inl (cA_3, 21, .inr (.inr (.inr (.inr (fun _ => none)))))), (q_4, .inl (g 0, 11, .inl (fun _ => 0)))] H := hP
  have hD : va_D A [(h0, .inr (0, [.null, .ref q_1, .ref q_2, .ref q_4, .int 0, .int 0, .int (-1), .int (-1), .int (-1)])), (q_1, .inl (g 0, 64, .inl (fun _ => 0))), (q_2, .inl (cA_3, 21, .inr (.inr (.inr (.inr (fun _ => none)))))), (q_4, .inl (g 0, 11, .inl (fun _ => 0)))] := hD
  refine lv_aload_n hx hb dX0_init_44 rfl (lv_at hl 0 rfl) ?_
  refine lv_aload_n hx hb dX0_init_45 rfl (lv_at hl 1 rfl) ?_
  refine va_putF (D := D) (ci := 0) (v := .ref w0) (ty := tyX0 0) (C := RX0) (T := TX0) (N := 9) hx hb hts iX0 tyX0 tyX0_ok nmX0 hown K.1 hP hD hS 0 rfl rfl 0 (by decide) (hts (.fieldLink RX0 34 "DarkMine$Feeling" "works" "LDarkMine$Works;") (by decide +kernel)) (fun _ h9 => h9) rfl hin rfl (by decide +kernel) rfl rfl (Nat.le_of_ble_eq_true rfl) dX0_init_46 (fun H locs hP hD hS => ?_)
  have hP : va_P D vwCl [(h0, .inr (0, [.ref w0, .ref q_1, .ref q_2, .ref q_4, .int 0, .int 0, .int (-1), .int (-1), .int (-1)])), (q_1, .inl (g 0, 64, .inl (fun _ => 0))), (q_2, .inl (cA_3, 21, .inr (.inr (.inr (.inr (fun _ => none)))))), (q_4, .inl (g 0, 11, .inl (fun _ => 0)))] H := hP
  have hD : va_D A [(h0, .inr (0, [.ref w0, .ref q_1, .ref q_2, .ref q_4, .int 0, .int 0, .int (-1), .int (-1), .int (-1)])), (q_1, .inl (g 0, 64, .inl (fun _ => 0))), (q_2, .inl (cA_3, 21, .inr (.inr (.inr (.inr (fun _ => none)))))), (q_4, .inl (g 0, 11, .inl (fun _ => 0)))] := hD
  refine lv_iconst (v := 0) hx hb dX0_init_49 (by decide +kernel) ?_
  refine lv_istore_n (lv' := [(2, .int 0), (0, .ref h0), (1, .ref w0)]) hx hb dX0_init_50 rfl hl (by decide) rfl (fun ls hl => ?_)
  have loop_6 : ∀ (n i_5 : Nat), i_5 + n = 21 → ∀ (f_7 : Nat → Option Nat) (H : Heap) (locs : List Loc), va_P D vwCl [(h0, .inr (0, [.ref w0, .ref q_1, .ref q_2, .ref q_4, .int 0, .int 0, .int (-1), .int (-1), .int (-1)])), (q_1, .inl (g 0, 64, .inl (fun _ => 0))), (q_2, .inl (cA_3, 21, .inr (.inr (.inr (.inr f_7))))), (q_4, .inl (g 0, 11, .inl (fun _ => 0)))] H → va_D A [(h0, .inr (0, [.ref w0, .ref q_1, .ref q_2, .ref q_4, .int 0, .int 0, .int (-1), .int (-1), .int (-1)])), (q_1, .inl (g 0, 64, .inl (fun _ => 0))), (q_2, .inl (cA_3, 21, .inr (.inr (.inr (.inr f_7))))), (q_4, .inl (g 0, 11, .inl (fun _ => 0)))] → va_S A s.heap H locs → ∀ ls : Array Slot, lv_has ls 3 [(2, .int (nI i_5)), (0, .ref h0), (1, .ref w0)] → W p l e ({ frames := 2, cells := 150, slots := 2889, locals := 52 } : Room) s m args below meth c H locs (3 + 7 * i_5) (96 + 133 * i_5) (MQ below (va_Qv (fun (_ : Nat × Nat × Nat) => True) (dk_B D A (fun (u : Nat × Nat × Nat) => [(h0, .inr (0, [.ref w0, .ref u.1, .ref u.2.1, .ref u.2.2, .int 0, .int 0, .int (-1), .int (-1), .int (-1)]))])) A) args s 150 2889 A) (F0 m 51 ls []) := by
    intro n
    induction n with
    | zero =>
      intro i_5 hi f_7 H locs hP hD hS ls hl
      obtain rfl : i_5 = 21 := by omega
      have hl : lv_has ls 3 [(2, .int 21), (0, .ref h0), (1, .ref w0)] := hl
      refine W.widen (k := 150) (n := 2889) (by omega) (by omega) ?_
      refine lv_iload_n hx hb dX0_init_51 rfl (lv_at hl 0 rfl) ?_
      refine lv_bipush (v := 21) hx hb dX0_init_52 (by decide +kernel) ?_
      refine lv_icmp_ge (tgt := 76) hx hb dX0_init_54 (by decide) (fun _ => ?_) (fun c => absurd (by decide +kernel) c)
      refine W.widen (k := 150) (n := 2889) (Nat.le_of_ble_eq_true rfl) (Nat.le_of_ble_eq_true rfl) ?_
      exact dk_vret hx hb hr hlocks hP hD hS ⟨q_1, q_2, q_4⟩ [0] rfl (by decide) trivial dX0_init_76
    | succ n ih =>
      intro i_5 hi f_7 H locs hP hD hS ls hl
      refine lv_iload_n hx hb dX0_init_51 rfl (lv_at hl 0 rfl) ?_
      refine lv_bipush (v := 21) hx hb dX0_init_52 (by decide +kernel) ?_
      refine lv_icmp_ge (tgt := 76) hx hb dX0_init_54 (by decide) (fun c => absurd c (nI_ge (a := i_5) (b := 21) (by omega) (by omega))) (fun _ => ?_)
      refine lv_aload_n hx hb dX0_init_57 rfl (lv_at hl 1 rfl) ?_
      refine va_get (C := RX0) (T := TX0) (N := 9) hx hb hts iX0 hown K.1 hP 0 rfl rfl 2 (by decide) (hts (.fieldLink RX0 17 "DarkMine$Feeling" "pits" "[LDarkMine$Pit;") (by decide +kernel)) (fun _ h9 => h9) (v := .ref q_2) rfl dX0_init_58 ?_
      refine lv_iload_n hx hb dX0_init_61 rfl (lv_at hl 0 rfl) ?_
      refine va_new (ci := 5) (fs := [.int 0, .int 0, .null, .null, .null, .null, .null, .null]) (C := RX5) (T := TX5) (N := 8) hx hb hts iX5 tyX5 tyX5_ok hown (hts (.classLink RX0 15 RX5) (by decide +kernel)) (hts (.instantiable RX5 8) (by decide +kernel)) (hts (.initialized RX5) (by decide +kernel)) K.1 hP hD hS hA rfl (fun j hj => by rcases (show j = 0 ∨ j = 1 ∨ j = 2 ∨ j = 3 ∨ j = 4 ∨ j = 5 ∨ j = 6 ∨ j = 7 by omega) with rfl | rfl | rfl | rfl | rfl | rfl | rfl | rfl <;> rfl) (by show _ ≤ 150; omega) (by show _ ≤ 2889; omega) dX0_init_62 (fun q_8 H hP hD hS => ?_)
      have hP : va_P D vwCl [(h0, .inr (0, [.ref w0, .ref q_1, .ref q_2, .ref q_4, .int 0, .int 0, .int (-1), .int (-1), .int (-1)])), (q_1, .inl (g 0, 64, .inl (fun _ => 0))), (q_2, .inl (cA_3, 21, .inr (.inr (.inr (.inr f_7))))), (q_4, .inl (g 0, 11, .inl (fun _ => 0))), (q_8, .inr (5, [.int 0, .int 0, .null, .null, .null, .null, .null, .null]))] H := hP
      have hD : va_D A [(h0, .inr (0, [.ref w0, .ref q_1, .ref q_2, .ref q_4, .int 0, .int 0, .int (-1), .int (-1), .int (-1)])), (q_1, .inl (g 0, 64, .inl (fun _ => 0))), (q_2, .inl (cA_3, 21, .inr (.inr (.inr (.inr f_7))))), (q_4, .inl (g 0, 11, .inl (fun _ => 0))), (q_8, .inr (5, [.int 0, .int 0, .null, .null, .null, .null, .null, .null]))] := hD
      refine W.widen (k := 4 + 7 * i_5) (n := 104 + 133 * i_5) (by omega) (by omega) ?_
      refine lv_dup hx hb dX0_init_65 rfl ?_
      refine dk_backv hP hD hS hA (wr := [(h0, .inr (0, [.ref w0, .ref q_1, .ref q_2, .ref q_4, .int 0, .int 0, .int (-1), .int (-1), .int (-1)])), (q_1, .inl (g 0, 64, .inl (fun _ => 0))), (q_2, .inl (cA_3, 21, .inr (.inr (.inr (.inr f_7))))), (q_4, .inl (g 0, 11, .inl (fun _ => 0)))]) [4] [0, 1, 2, 3] rfl rfl (by decide) (by decide) (va_runIN (As := []) (rest := [.ref q_8, .int (nI i_5), .ref q_2]) F (c_pit_init l g D q_8 H.size) ⟨va_cnB 0 hts gX0_init_X5_init_n38 rfl rfl rfl (K.2.1 _ (List.mem_of_getElem? (i := 7) rfl)) (hts (.initialized RX5) (by decide +kernel)) (by decide +kernel) ⟨Nat.le_of_ble_eq_true rfl, Nat.le_of_ble_eq_true rfl⟩, rfl, hts (.instanceMethod yX5_init) (by decide +kernel)⟩ (dk_preS K hP hD [4] rfl (by decide)) rfl rfl hl.1 rfl (lv_room (Nat.le_of_ble_eq_true rfl)) dX0_init_66 ⟨(by show _ ≤ 150; omega), (by show _ ≤ 2889; omega)⟩) (fun u H locs hw hP hD hS => ?_)
      obtain ⟨r_9, r_10, r_11, r_12, r_13, r_14⟩ := u
      have hP : va_P D vwCl [(h0, .inr (0, [.ref w0, .ref q_1, .ref q_2, .ref q_4, .int 0, .int 0, .int (-1), .int (-1), .int (-1)])), (q_1, .inl (g 0, 64, .inl (fun _ => 0))), (q_2, .inl (cA_3, 21, .inr (.inr (.inr (.inr f_7))))), (q_4, .inl (g 0, 11, .inl (fun _ => 0))), (q_8, .inr (5, [.int 0, .int 0, .ref r_9, .ref r_10, .ref r_11, .ref r_12, .ref r_13, .ref r_14])), (r_9, .inl (g 0, 72, .inl (fun _ => 0))), (r_10, .inl (g 0, 6, .inl (fun _ => 0))), (r_11, .inl (g 0, 16, .inl (fun _ => 0))), (r_12, .inl (g 0, 16, .inl (fun _ => 0))), (r_13, .inl (g 0, 5, .inl (fun _ => 0))), (r_14, .inl (g 0, 10, .inl (fun _ => 0)))] H := hP
      have hD : va_D A [(h0, .inr (0, [.ref w0, .ref q_1, .ref q_2, .ref q_4, .int 0, .int 0, .int (-1), .int (-1), .int (-1)])), (q_1, .inl (g 0, 64, .inl (fun _ => 0))), (q_2, .inl (cA_3, 21, .inr (.inr (.inr (.inr f_7))))), (q_4, .inl (g 0, 11, .inl (fun _ => 0))), (q_8, .inr (5, [.int 0, .int 0, .ref r_9, .ref r_10, .ref r_11, .ref r_12, .ref r_13, .ref r_14])), (r_9, .inl (g 0, 72, .inl (fun _ => 0))), (r_10, .inl (g 0, 6, .inl (fun _ => 0))), (r_11, .inl (g 0, 16, .inl (fun _ => 0))), (r_12, .inl (g 0, 16, .inl (fun _ => 0))), (r_13, .inl (g 0, 5, .inl (fun _ => 0))), (r_14, .inl (g 0, 10, .inl (fun _ => 0)))] := hD
      refine W.widen (k := 10 + 7 * i_5) (n := 229 + 133 * i_5) (by omega) (by omega) ?_
      refine va_astq hx hb KQ hP hD hS 2 3 4 5 rfl rfl rfl rfl (vp_in_nI (by omega) (by omega)) dX0_init_69 (fun H locs hP hD hS => ?_)
      have hP : va_P D vwCl [(h0, .inr (0, [.ref w0, .ref q_1, .ref q_2, .ref q_4, .int 0, .int 0, .int (-1), .int (-1), .int (-1)])), (q_1, .inl (g 0, 64, .inl (fun _ => 0))), (q_2, .inl (cA_3, 21, .inr (.inr (.inr (.inr (va_up f_7 (nI i_5 : Int32).toNatClampNeg (some q_8))))))), (q_4, .inl (g 0, 11, .inl (fun _ => 0))), (q_8, .inr (5, [.int 0, .int 0, .ref r_9, .ref r_10, .ref r_11, .ref r_12, .ref r_13, .ref r_14])), (r_9, .inl (g 0, 72, .inl (fun _ => 0))), (r_10, .inl (g 0, 6, .inl (fun _ => 0))), (r_11, .inl (g 0, 16, .inl (fun _ => 0))), (r_12, .inl (g 0, 16, .inl (fun _ => 0))), (r_13, .inl (g 0, 5, .inl (fun _ => 0))), (r_14, .inl (g 0, 10, .inl (fun _ => 0)))] H := hP
      have hD : va_D A [(h0, .inr (0, [.ref w0, .ref q_1, .ref q_2, .ref q_4, .int 0, .int 0, .int (-1), .int (-1), .int (-1)])), (q_1, .inl (g 0, 64, .inl (fun _ => 0))), (q_2, .inl (cA_3, 21, .inr (.inr (.inr (.inr (va_up f_7 (nI i_5 : Int32).toNatClampNeg (some q_8))))))), (q_4, .inl (g 0, 11, .inl (fun _ => 0))), (q_8, .inr (5, [.int 0, .int 0, .ref r_9, .ref r_10, .ref r_11, .ref r_12, .ref r_13, .ref r_14])), (r_9, .inl (g 0, 72, .inl (fun _ => 0))), (r_10, .inl (g 0, 6, .inl (fun _ => 0))), (r_11, .inl (g 0, 16, .inl (fun _ => 0))), (r_12, .inl (g 0, 16, .inl (fun _ => 0))), (r_13, .inl (g 0, 5, .inl (fun _ => 0))), (r_14, .inl (g 0, 10, .inl (fun _ => 0)))] := hD
      generalize va_up f_7 (nI i_5 : Int32).toNatClampNeg (some q_8) = f_15 at hP hD
      refine lv_iinc (v := (nI (i_5 + 1))) (lv' := [(2, .int (nI (i_5 + 1))), (0, .ref h0), (1, .ref w0)]) hx hb dX0_init_70 hl (k := 0) rfl (dk_addc (b := 1) rfl) (by decide) rfl (fun ls hl => ?_)
      refine lv_goto (tgt := 51) hx hb dX0_init_73 (by decide) ?_
      have hP := hP.sub (ws' := [(h0, .inr (0, [.ref w0, .ref q_1, .ref q_2, .ref q_4, .int 0, .int 0, .int (-1), .int (-1), .int (-1)])), (q_1, .inl (g 0, 64, .inl (fun _ => 0))), (q_2, .inl (cA_3, 21, .inr (.inr (.inr (.inr f_15))))), (q_4, .inl (g 0, 11, .inl (fun _ => 0)))]) [0, 1, 2, 3] rfl
      have hD := hD.sub (ws' := [(h0, .inr (0, [.ref w0, .ref q_1, .ref q_2, .ref q_4, .int 0, .int 0, .int (-1), .int (-1), .int (-1)])), (q_1, .inl (g 0, 64, .inl (fun _ => 0))), (q_2, .inl (cA_3, 21, .inr (.inr (.inr (.inr f_15))))), (q_4, .inl (g 0, 11, .inl (fun _ => 0)))]) [0, 1, 2, 3] (by decide) rfl
      refine W.widen (k := 3 + 7 * (i_5 + 1)) (n := 96 + 133 * (i_5 + 1)) (by omega) (by omega) ?_
      exact ih (i_5 + 1) (by omega) f_15 _ _ hP hD hS _ (lv_sub hl [0, 1, 2] rfl)
  exact loop_6 21 0 rfl (fun _ => none) _ _ hP hD hS _ (lv_sub hl [0, 1, 2] rfl)
