/-! 04.tape.lean.txt -/
def wsX5_init : List Cond := .code yX5_init cX5_init 1 none :: ([.methodLink RX5 3 objectInit, .instanceMethod objectInit, .code objectInit ⟨#[0xb1]⟩ 1 none, .arrayClass .int, .fieldLink RX5 9 "DarkMine$Pit" "cells" "[I", .fieldLink RX5 15 "DarkMine$Pit" "hurts" "[I", .fieldLink RX5 18 "DarkMine$Pit" "planMiners" "[I", .fieldLink RX5 21 "DarkMine$Pit" "planPlaces" "[I", .fieldLink RX5 24 "DarkMine$Pit" "sold" "[I", .fieldLink RX5 27 "DarkMine$Pit" "tubCounts" "[I"] ++ wsX50)
def wsX8_init : List Cond := .code yX8_init cX8_init 1 none :: ([.methodLink RX8 3 objectInit, .instanceMethod objectInit, .code objectInit ⟨#[0xb1]⟩ 1 none, .arrayClass .int, .fieldLink RX8 9 "DarkMine$Tape" "bytes" "[I"] ++ wsX80)
def wsX8_put : List Cond := .code yX8_put cX8_put 3 none :: ([.fieldLink RX8 15 "DarkMine$Tape" "length" "I", .fieldLink RX8 9 "DarkMine$Tape" "bytes" "[I"] ++ wsX80)
theorem dX5_init_0 : decode cX5_init 0 = .ok (.aload_n 0, 1) := by decide +kernel
theorem dX5_init_1 : decode cX5_init 1 = .ok (.invokespecial 3, 3) := by decide +kernel
theorem dX5_init_4 : decode cX5_init 4 = .ok (.aload_n 0, 1) := by decide +kernel
theorem dX5_init_5 : decode cX5_init 5 = .ok (.bipush 72, 2) := by decide +kernel
theorem dX5_init_7 : decode cX5_init 7 = .ok (.newarray .int, 2) := by decide +kernel
theorem dX5_init_9 : decode cX5_init 9 = .ok (.putfield 9, 3) := by decide +kernel
theorem dX5_init_12 : decode cX5_init 12 = .ok (.aload_n 0, 1) := by decide +kernel
theorem dX5_init_13 : decode cX5_init 13 = .ok (.bipush 6, 2) := by decide +kernel
theorem dX5_init_15 : decode cX5_init 15 = .ok (.newarray .int, 2) := by decide +kernel
theorem dX5_init_17 : decode cX5_init 17 = .ok (.putfield 15, 3) := by decide +kernel
theorem dX5_init_20 : decode cX5_init 20 = .ok (.aload_n 0, 1) := by decide +kernel
theorem dX5_init_21 : decode cX5_init 21 = .ok (.bipush 16, 2) := by decide +kernel
theorem dX5_init_23 : decode cX5_init 23 = .ok (.newarray .int, 2) := by decide +kernel
theorem dX5_init_25 : decode cX5_init 25 = .ok (.putfield 18, 3) := by decide +kernel
theorem dX5_init_28 : decode cX5_init 28 = .ok (.aload_n 0, 1) := by decide +kernel
theorem dX5_init_29 : decode cX5_init 29 = .ok (.bipush 16, 2) := by decide +kernel
theorem dX5_init_31 : decode cX5_init 31 = .ok (.newarray .int, 2) := by decide +kernel
theorem dX5_init_33 : decode cX5_init 33 = .ok (.putfield 21, 3) := by decide +kernel
theorem dX5_init_36 : decode cX5_init 36 = .ok (.aload_n 0, 1) := by decide +kernel
theorem dX5_init_37 : decode cX5_init 37 = .ok (.iconst 5, 1) := by decide +kernel
theorem dX5_init_38 : decode cX5_init 38 = .ok (.newarray .int, 2) := by decide +kernel
theorem dX5_init_40 : decode cX5_init 40 = .ok (.putfield 24, 3) := by decide +kernel
theorem dX5_init_43 : decode cX5_init 43 = .ok (.aload_n 0, 1) := by decide +kernel
theorem dX5_init_44 : decode cX5_init 44 = .ok (.bipush 10, 2) := by decide +kernel
theorem dX5_init_46 : decode cX5_init 46 = .ok (.newarray .int, 2) := by decide +kernel
theorem dX5_init_48 : decode cX5_init 48 = .ok (.putfield 27, 3) := by decide +kernel
theorem dX5_init_51 : decode cX5_init 51 = .ok (.return_, 1) := by decide +kernel
theorem dX8_init_0 : decode cX8_init 0 = .ok (.aload_n 0, 1) := by decide +kernel
theorem dX8_init_1 : decode cX8_init 1 = .ok (.invokespecial 3, 3) := by decide +kernel
theorem dX8_init_4 : decode cX8_init 4 = .ok (.aload_n 0, 1) := by decide +kernel
theorem dX8_init_5 : decode cX8_init 5 = .ok (.sipush 1600, 3) := by decide +kernel
theorem dX8_init_8 : decode cX8_init 8 = .ok (.newarray .int, 2) := by decide +kernel
theorem dX8_init_10 : decode cX8_init 10 = .ok (.putfield 9, 3) := by decide +kernel
theorem dX8_init_13 : decode cX8_init 13 = .ok (.return_, 1) := by decide +kernel
theorem dX8_put_0 : decode cX8_put 0 = .ok (.bipush 24, 2) := by decide +kernel
theorem dX8_put_2 : decode cX8_put 2 = .ok (.istore_n 2, 1) := by decide +kernel
theorem dX8_put_3 : decode cX8_put 3 = .ok (.iload_n 2, 1) := by decide +kernel
theorem dX8_put_4 : decode cX8_put 4 = .ok (.ifCond .lt 45, 3) := by decide +kernel
theorem dX8_put_7 : decode cX8_put 7 = .ok (.aload_n 0, 1) := by decide +kernel
theorem dX8_put_8 : decode cX8_put 8 = .ok (.getfield 15, 3) := by decide +kernel
theorem dX8_put_11 : decode cX8_put 11 = .ok (.sipush 1600, 3) := by decide +kernel
theorem dX8_put_14 : decode cX8_put 14 = .ok (.if_icmp .ge 35, 3) := by decide +kernel
theorem dX8_put_17 : decode cX8_put 17 = .ok (.aload_n 0, 1) := by decide +kernel
theorem dX8_put_18 : decode cX8_put 18 = .ok (.getfield 9, 3) := by decide +kernel
theorem dX8_put_21 : decode cX8_put 21 = .ok (.aload_n 0, 1) := by decide +kernel
theorem dX8_put_22 : decode cX8_put 22 = .ok (.getfield 15, 3) := by decide +kernel
theorem dX8_put_25 : decode cX8_put 25 = .ok (.iload_n 1, 1) := by decide +kernel
theorem dX8_put_26 : decode cX8_put 26 = .ok (.iload_n 2, 1) := by decide +kernel
theorem dX8_put_27 : decode cX8_put 27 = .ok (.ishr, 1) := by decide +kernel
theorem dX8_put_28 : decode cX8_put 28 = .ok (.sipush 255, 3) := by decide +kernel
theorem dX8_put_31 : decode cX8_put 31 = .ok (.iand, 1) := by decide +kernel
theorem dX8_put_32 : decode cX8_put 32 = .ok (.iastore, 1) := by decide +kernel
theorem dX8_put_33 : decode cX8_put 33 = .ok (.aload_n 0, 1) := by decide +kernel
theorem dX8_put_34 : decode cX8_put 34 = .ok (.dup, 1) := by decide +kernel
theorem dX8_put_35 : decode cX8_put 35 = .ok (.getfield 15, 3) := by decide +kernel
theorem dX8_put_38 : decode cX8_put 38 = .ok (.iconst 1, 1) := by decide +kernel
theorem dX8_put_39 : decode cX8_put 39 = .ok (.iadd, 1) := by decide +kernel
theorem dX8_put_40 : decode cX8_put 40 = .ok (.putfield 15, 3) := by decide +kernel
theorem dX8_put_43 : decode cX8_put 43 = .ok (.iinc 2 (-8), 3) := by decide +kernel
theorem dX8_put_46 : decode cX8_put 46 = .ok (.goto (-43), 3) := by decide +kernel
theorem dX8_put_49 : decode cX8_put 49 = .ok (.return_, 1) := by decide +kernel
set_option maxHeartbeats 8000000 in
set_option maxRecDepth 100000 in
theorem c_tape_init (l : Launch) (g : Nat → ClassId) (D : va_G) (h0 : Nat) (sz : Nat) : Met l yX8_init wsX8_init ({ frames := 1, cells := 1, slots := 1600, locals := 32 } : Room) (dk_Pc g D [(h0, .inr (8, [.null, .int 0]))] sz [.ref h0]) (va_Qv (fun (_ : Nat) => True) (dk_B D (va_A [(h0, .inr (8, [.null, .int 0]))] sz) (fun (u : Nat) => [(h0, .inr (8, [.ref u, .int 0])), (u, .inl (g 0, 1600, .inl (fun _ => 0)))])) (va_A [(h0, .inr (8, [.null, .int 0]))] sz)) 1 1600 (va_A [(h0, .inr (8, [.null, .int 0]))] sz) := by
  refine dk_met (cc := cX8_init) (maxL := 1) (ret := none) (by decide) rfl (Nat.le_of_ble_eq_true rfl) ?_
  intro p e s m args below meth c harg hx hb hr hml hts hown hlocks hin hP K hD hS hA hsz ls hl
  subst hsz
  generalize va_A [(h0, .inr (8, [.null, .int 0]))] s.heap.size = A at hD hS hA ⊢
  have F : CallFix p m c cX8_init 1 s args wsX8_init RX8 := ⟨hx, hb, hml, hown, hts⟩
  have hl : lv_has ls 1 [(0, .ref h0)] := hl
  have iX8 : ∀ w ∈ wsX80, w ∈ wsX8_init := fun _ h => List.mem_cons_of_mem _ (List.mem_append_right _ h)
  refine lv_aload_n hx hb dX8_init_0 rfl (lv_at hl 0 rfl) ?_
  refine W.objInit hx hb hown (hts (.methodLink RX8 3 objectInit) (by decide +kernel)) (hts (.instanceMethod objectInit) (by decide +kernel)) (hts _ (List.mem_of_getElem? (i := 3) rfl)) rfl (by rw [hml]; exact hl.1) rfl dX8_init_1 (Nat.le_of_ble_eq_true rfl) (Nat.le_of_ble_eq_true rfl) ?_
  refine W.eq (g2 := F0 m 4 ls []) rfl ?_
  refine lv_aload_n hx hb dX8_init_4 rfl (lv_at hl 0 rfl) ?_
  refine lv_sipush (v := 1600) hx hb dX8_init_5 (by decide +kernel) ?_
  refine dk_newa hx hb 0 rfl rfl (hts (.arrayClass .int) (by decide +kernel)) K hP hD hS hA (a0 := (1600, .inl (fun _ => 0))) (fun _ => vp_cell_i _ _ _) (by decide +kernel) (N' := 1600) (by decide +kernel) (Nat.le_of_ble_eq_true rfl) (Nat.le_of_ble_eq_true rfl) (Nat.le_of_ble_eq_true rfl) dX8_init_8 (fun q_1 H hP hD hS => ?_)
  have hP : va_P D vwCl [(h0, .inr (8, [.null, .int 0])), (q_1, .inl (g 0, 1600, .inl (fun _ => 0)))] H := hP
  have hD : va_D A [(h0, .inr (8, [.null, .int 0])), (q_1, .inl (g 0, 1600, .inl (fun _ => 0)))] := hD
  refine W.widen (k := 1) (n := 1600) (by omega) (by omega) ?_
  refine va_putF (D := D) (ci := 8) (v := .ref q_1) (ty := tyX8 0) (C := RX8) (T := TX8) (N := 2) hx hb hts iX8 tyX8 tyX8_ok nmX8 hown K.1 hP hD hS 0 rfl rfl 0 (by decide) (hts (.fieldLink RX8 9 "DarkMine$Tape" "bytes" "[I") (by decide +kernel)) (fun _ h9 => h9) rfl hin rfl (by decide +kernel) rfl rfl (Nat.le_of_ble_eq_true rfl) dX8_init_10 (fun H locs hP hD hS => ?_)
  have hP : va_P D vwCl [(h0, .inr (8, [.ref q_1, .int 0])), (q_1, .inl (g 0, 1600, .inl (fun _ => 0)))] H := hP
  have hD : va_D A [(h0, .inr (8, [.ref q_1, .int 0])), (q_1, .inl (g 0, 1600, .inl (fun _ => 0)))] := hD
  refine W.widen (k := 1) (n := 1600) (Nat.le_of_ble_eq_true rfl) (Nat.le_of_ble_eq_true rfl) ?_
  exact dk_vret hx hb hr hlocks hP hD hS q_1 [0, 1] rfl (by decide) trivial dX8_init_13
set_option maxHeartbeats 8000000 in
set_option maxRecDepth 100000 in
/-- four bytes go on the tape -/
theorem c_tape_put (l : Launch) (g : Nat → ClassId) (D : va_G) (h0 : Nat) (h1 : Nat) (n : Nat) (f : Nat → Int32) (x : Int32) (hn : n + 4 ≤ 1600) (sz : Nat) : Met l yX8_put wsX8_put ({ frames := 1, cells := 0, slots := 0, locals := 32 } : Room) (dk_Pc g D [(h0, .inr (8, [.ref h1, .int (nI n)])), (h1, .inl (g 0, 1600, .inl f))] sz [.ref h0, .int x]) (va_Qv (fun (_ : (Nat → Int32)) => True) (dk_B D (va_A [(h0, .inr (8, [.ref h1, .int (nI n)])), (h1, .inl (g 0, 1600, .inl f))] sz) (fun (u : (Nat → Int32)) => [(h0, .inr (8, [.ref h1, .int (nI (n + 4))])), (h1, .inl (g 0, 1600, .inl u))])) (va_A [(h0, .inr (8, [.ref h1, .int (nI n)])), (h1, .inl (g 0, 1600, .inl f))] sz)) 0 0 (va_A [(h0, .inr (8, [.ref h1, .int (nI n)])), (h1, .inl (g 0, 1600, .inl f))] sz) := by
  refine dk_met (cc := cX8_put) (maxL := 3) (ret := none) (by decide) rfl (Nat.le_of_ble_eq_true rfl) ?_
  intro p e s m args below meth c harg hx hb hr hml hts hown hlocks hin hP K hD hS hA hsz ls hl
  subst hsz
  generalize va_A [(h0, .inr (8, [.ref h1, .int (nI n)])), (h1, .inl (g 0, 1600, .inl f))] s.heap.size = A at hD hS hA ⊢
  have F : CallFix p m c cX8_put 3 s args wsX8_put RX8 := ⟨hx, hb, hml, hown, hts⟩
  have hl : lv_has ls 3 [(0, .ref h0), (1, .int x)] := hl
  have iX8 : ∀ w ∈ wsX80, w ∈ wsX8_put := fun _ h => List.mem_cons_of_mem _ (List.mem_append_right _ h)
  refine lv_bipush (v := 24) hx hb dX8_put_0 (by decide +kernel) ?_
  refine lv_istore_n (lv' := [(2, .int 24), (0, .ref h0), (1, .int x)]) hx hb dX8_put_2 rfl hl (by decide) rfl (fun ls hl => ?_)
  refine lv_iload_n hx hb dX8_put_3 rfl (lv_at hl 0 rfl) ?_
  refine lv_if_lt (tgt := 49) hx hb dX8_put_4 (by decide) (fun c => absurd c (by decide +kernel)) (fun _ => ?_)
  refine lv_aload_n hx hb dX8_put_7 rfl (lv_at hl 1 rfl) ?_
  refine va_get (C := RX8) (T := TX8) (N := 2) hx hb hts iX8 hown K.1 hP 0 rfl rfl 1 (by decide) (hts (.fieldLink RX8 15 "DarkMine$Tape" "length" "I") (by decide +kernel)) (fun _ h9 => h9) (v := .int (nI n)) rfl dX8_put_8 ?_
  refine lv_sipush (v := 1600) hx hb dX8_put_11 (by decide +kernel) ?_
  refine lv_icmp_ge (tgt := 49) hx hb dX8_put_14 (by decide) (fun c => absurd c (nI_ge (a := n) (b := 1600) (by omega) (by omega))) (fun _ => ?_)
  refine lv_aload_n hx hb dX8_put_17 rfl (lv_at hl 1 rfl) ?_
  refine va_get (C := RX8) (T := TX8) (N := 2) hx hb hts iX8 hown K.1 hP 0 rfl rfl 0 (by decide) (hts (.fieldLink RX8 9 "DarkMine$Tape" "bytes" "[I") (by decide +kernel)) (fun _ h9 => h9) (v := .ref h1) rfl dX8_put_18 ?_
  refine lv_aload_n hx hb dX8_put_21 rfl (lv_at hl 1 rfl) ?_
  refine va_get (C := RX8) (T := TX8) (N := 2) hx hb hts iX8 hown K.1 hP 0 rfl rfl 1 (by decide) (hts (.fieldLink RX8 15 "DarkMine$Tape" "length" "I") (by decide +kernel)) (fun _ h9 => h9) (v := .int (nI n)) rfl dX8_put_22 ?_
  refine lv_iload_n hx hb dX8_put_25 rfl (lv_at hl 2 rfl) ?_
  refine lv_iload_n hx hb dX8_put_26 rfl (lv_at hl 0 rfl) ?_
  refine lv_ishr hx hb dX8_put_27 ?_
  refine lv_topi (fun x_1 ex_1 => ?_)
  refine lv_sipush (v := 255) hx hb dX8_put_28 (by decide +kernel) ?_
  refine lv_iand hx hb dX8_put_31 ?_
  refine lv_topi (fun x_2 ex_2 => ?_)
  obtain ⟨f_3, hf_3⟩ : ∃ f', f' = upd f (nI n : Int32).toNatClampNeg x_2 := ⟨_, rfl⟩
  refine dk_iast hx hb K hP hD hS 1 rfl f_3 (fun _ _ => by rw [hf_3]) (vp_in_nI (by omega) (by omega)) dX8_put_32 (fun H locs hP hD hS => ?_)
  have hP : va_P D vwCl [(h0, .inr (8, [.ref h1, .int (nI n)])), (h1, .inl (g 0, 1600, .inl f_3))] H := hP
  have hD : va_D A [(h0, .inr (8, [.ref h1, .int (nI n)])), (h1, .inl (g 0, 1600, .inl f_3))] := hD
  refine lv_aload_n hx hb dX8_put_33 rfl (lv_at hl 1 rfl) ?_
  refine lv_dup hx hb dX8_put_34 rfl ?_
  refine va_get (C := RX8) (T := TX8) (N := 2) hx hb hts iX8 hown K.1 hP 0 rfl rfl 1 (by decide) (hts (.fieldLink RX8 15 "DarkMine$Tape" "length" "I") (by decide +kernel)) (fun _ h9 => h9) (v := .int (nI n)) rfl dX8_put_35 ?_
  refine lv_iconst (v := 1) hx hb dX8_put_38 (by decide +kernel) ?_
  refine lv_iadd hx hb dX8_put_39 ?_
  refine dk_top (y := nI (n + 1)) (dk_addc (b := 1) rfl) ?_
  refine va_put (D := D) (ci := 8) (v := .int (nI (n + 1))) (ty := tyX8 1) (C := RX8) (T := TX8) (N := 2) hx hb hts iX8 tyX8 tyX8_ok nmX8 hown K.1 hP hD hS 0 rfl rfl 1 (by decide) (hts (.fieldLink RX8 15 "DarkMine$Tape" "length" "I") (by decide +kernel)) (fun _ h9 => h9) rfl (by decide +kernel) rfl rfl (Nat.le_of_ble_eq_true rfl) dX8_put_40 (fun H locs hP hD hS => ?_)
  have hP : va_P D vwCl [(h0, .inr (8, [.ref h1, .int (nI (n + 1))])), (h1, .inl (g 0, 1600, .inl f_3))] H := hP
  have hD : va_D A [(h0, .inr (8, [.ref h1, .int (nI (n + 1))])), (h1, .inl (g 0, 1600, .inl f_3))] := hD
  refine lv_iinc (v := 16) (lv' := [(2, .int 16), (0, .ref h0), (1, .int x)]) hx hb dX8_put_43 hl (k := 0) rfl (by decide +kernel) (by decide) rfl (fun ls hl => ?_)
  refine lv_goto (tgt := 3) hx hb dX8_put_46 (by decide) ?_
  refine lv_iload_n hx hb dX8_put_3 rfl (lv_at hl 0 rfl) ?_
  refine lv_if_lt (tgt := 49) hx hb dX8_put_4 (by decide) (fun c => absurd c (by decide +kernel)) (fun _ => ?_)
  refine lv_aload_n hx hb dX8_put_7 rfl (lv_at hl 1 rfl) ?_
  refine va_get (C := RX8) (T := TX8) (N := 2) hx hb hts iX8 hown K.1 hP 0 rfl rfl 1 (by decide) (hts (.fieldLink RX8 15 "DarkMine$Tape" "length" "I") (by decide +kernel)) (fun _ h9 => h9) (v := .int (nI (n + 1))) rfl dX8_put_8 ?_
  refine lv_sipush (v := 1600) hx hb dX8_put_11 (by decide +kernel) ?_
  refine lv_icmp_ge (tgt := 49) hx hb dX8_put_14 (by decide) (fun c => absurd c (nI_ge (a := n + 1) (b := 1600) (by omega) (by omega))) (fun _ => ?_)
  refine lv_aload_n hx hb dX8_put_17 rfl (lv_at hl 1 rfl) ?_
  refine va_get (C := RX8) (T := TX8) (N := 2) hx hb hts iX8 hown K.1 hP 0 rfl rfl 0 (by decide) (hts (.fieldLink RX8 9 "DarkMine$Tape" "bytes" "[I") (by decide +kernel)) (fun _ h9 => h9) (v := .ref h1) rfl dX8_put_18 ?_
  refine lv_aload_n hx hb dX8_put_21 rfl (lv_at hl 1 rfl) ?_
  refine va_get (C := RX8) (T := TX8) (N := 2) hx hb hts iX8 hown K.1 hP 0 rfl rfl 1 (by decide) (hts (.fieldLink RX8 15 "DarkMine$Tape" "length" "I") (by decide +kernel)) (fun _ h9 => h9) (v := .int (nI (n + 1))) rfl dX8_put_22 ?_
  refine lv_iload_n hx hb dX8_put_25 rfl (lv_at hl 2 rfl) ?_
  refine lv_iload_n hx hb dX8_put_26 rfl (lv_at hl 0 rfl) ?_
  refine lv_ishr hx hb dX8_put_27 ?_
  refine lv_topi (fun x_4 ex_4 => ?_)
  refine lv_sipush (v := 255) hx hb dX8_put_28 (by decide +kernel) ?_
  refine lv_iand hx hb dX8_put_31 ?_
  refine lv_topi (fun x_5 ex_5 => ?_)
  obtain ⟨f_6, hf_6⟩ : ∃ f', f' = upd f_3 (nI (n + 1) : Int32).toNatClampNeg x_5 := ⟨_, rfl⟩
  refine dk_iast hx hb K hP hD hS 1 rfl f_6 (fun _ _ => by rw [hf_6]) (vp_in_nI (by omega) (by omega)) dX8_put_32 (fun H locs hP hD hS => ?_)
  have hP : va_P D vwCl [(h0, .inr (8, [.ref h1, .int (nI (n + 1))])), (h1, .inl (g 0, 1600, .inl f_6))] H := hP
  have hD : va_D A [(h0, .inr (8, [.ref h1, .int (nI (n + 1))])), (h1, .inl (g 0, 1600, .inl f_6))] := hD
  refine lv_aload_n hx hb dX8_put_33 rfl (lv_at hl 1 rfl) ?_
  refine lv_dup hx hb dX8_put_34 rfl ?_
  refine va_get (C := RX8) (T := TX8) (N := 2) hx hb hts iX8 hown K.1 hP 0 rfl rfl 1 (by decide) (hts (.fieldLink RX8 15 "DarkMine$Tape" "length" "I") (by decide +kernel)) (fun _ h9 => h9) (v := .int (nI (n + 1))) rfl dX8_put_35 ?_
  refine lv_iconst (v := 1) hx hb dX8_put_38 (by decide +kernel) ?_
  refine lv_iadd hx hb dX8_put_39 ?_
  refine dk_top (y := nI (n + 2)) (dk_addc (b := 1) rfl) ?_
  refine va_put (D := D) (ci := 8) (v := .int (nI (n + 2))) (ty := tyX8 1) (C := RX8) (T := TX8) (N := 2) hx hb hts iX8 tyX8 tyX8_ok nmX8 hown K.1 hP hD hS 0 rfl rfl 1 (by decide) (hts (.fieldLink RX8 15 "DarkMine$Tape" "length" "I") (by decide +kernel)) (fun _ h9 => h9) rfl (by decide +kernel) rfl rfl (Nat.le_of_ble_eq_true rfl) dX8_put_40 (fun H locs hP hD hS => ?_)
  have hP : va_P D vwCl [(h0, .inr (8, [.ref h1, .int (nI (n + 2))])), (h1, .inl (g 0, 1600, .inl f_6))] H := hP
  have hD : va_D A [(h0, .inr (8, [.ref h1, .int (nI (n + 2))])), (h1, .inl (g 0, 1600, .inl f_6))] := hD
  refine lv_iinc (v := 8) (lv' := [(2, .int 8), (0, .ref h0), (1, .int x)]) hx hb dX8_put_43 hl (k := 0) rfl (by decide +kernel) (by decide) rfl (fun ls hl => ?_)
  refine lv_goto (tgt := 3) hx hb dX8_put_46 (by decide) ?_
  refine lv_iload_n hx hb dX8_put_3 rfl (lv_at hl 0 rfl) ?_
  refine lv_if_lt (tgt := 49) hx hb dX8_put_4 (by decide) (fun c => absurd c (by decide +kernel)) (fun _ => ?_)
  refine lv_aload_n hx hb dX8_put_7 rfl (lv_at hl 1 rfl) ?_
  refine va_get (C := RX8) (T := TX8) (N := 2) hx hb hts iX8 hown K.1 hP 0 rfl rfl 1 (by decide) (hts (.fieldLink RX8 15 "DarkMine$Tape" "length" "I") (by decide +kernel)) (fun _ h9 => h9) (v := .int (nI (n + 2))) rfl dX8_put_8 ?_
  refine lv_sipush (v := 1600) hx hb dX8_put_11 (by decide +kernel) ?_
  refine lv_icmp_ge (tgt := 49) hx hb dX8_put_14 (by decide) (fun c => absurd c (nI_ge (a := n + 2) (b := 1600) (by omega) (by omega))) (fun _ => ?_)
  refine lv_aload_n hx hb dX8_put_17 rfl (lv_at hl 1 rfl) ?_
  refine va_get (C := RX8) (T := TX8) (N := 2) hx hb hts iX8 hown K.1 hP 0 rfl rfl 0 (by decide) (hts (.fieldLink RX8 9 "DarkMine$Tape" "bytes" "[I") (by decide +kernel)) (fun _ h9 => h9) (v := .ref h1) rfl dX8_put_18 ?_
  refine lv_aload_n hx hb dX8_put_21 rfl (lv_at hl 1 rfl) ?_
  refine va_get (C := RX8) (T := TX8) (N := 2) hx hb hts iX8 hown K.1 hP 0 rfl rfl 1 (by decide) (hts (.fieldLink RX8 15 "DarkMine$Tape" "length" "I") (by decide +kernel)) (fun _ h9 => h9) (v := .int (nI (n + 2))) rfl dX8_put_22 ?_
  refine lv_iload_n hx hb dX8_put_25 rfl (lv_at hl 2 rfl) ?_
  refine lv_iload_n hx hb dX8_put_26 rfl (lv_at hl 0 rfl) ?_
  refine lv_ishr hx hb dX8_put_27 ?_
  refine lv_topi (fun x_7 ex_7 => ?_)
  refine lv_sipush (v := 255) hx hb dX8_put_28 (by decide +kernel) ?_
  refine lv_iand hx hb dX8_put_31 ?_
  refine lv_topi (fun x_8 ex_8 => ?_)
  obtain ⟨f_9, hf_9⟩ : ∃ f', f' = upd f_6 (nI (n + 2) : Int32).toNatClampNeg x_8 := ⟨_, rfl⟩
  refine dk_iast hx hb K hP hD hS 1 rfl f_9 (fun _ _ => by rw [hf_9]) (vp_in_nI (by omega) (by omega)) dX8_put_32 (fun H locs hP hD hS => ?_)
  have hP : va_P D vwCl [(h0, .inr (8, [.ref h1, .int (nI (n + 2))])), (h1, .inl (g 0, 1600, .inl f_9))] H := hP
  have hD : va_D A [(h0, .inr (8, [.ref h1, .int (nI (n + 2))])), (h1, .inl (g 0, 1600, .inl f_9))] := hD
  refine lv_aload_n hx hb dX8_put_33 rfl (lv_at hl 1 rfl) ?_
  refine lv_dup hx hb dX8_put_34 rfl ?_
  refine va_get (C := RX8) (T := TX8) (N := 2) hx hb hts iX8 hown K.1 hP 0 rfl rfl 1 (by decide) (hts (.fieldLink RX8 15 "DarkMine$Tape" "length" "I") (by decide +kernel)) (fun _ h9 => h9) (v := .int (nI (n + 2))) rfl dX8_put_35 ?_
  refine lv_iconst (v := 1) hx hb dX8_put_38 (by decide +kernel) ?_
  refine lv_iadd hx hb dX8_put_39 ?_
  refine dk_top (y := nI (n + 3)) (dk_addc (b := 1) rfl) ?_
  refine va_put (D := D) (ci := 8) (v := .int (nI (n + 3))) (ty := tyX8 1) (C := RX8) (T := TX8) (N := 2) hx hb hts iX8 tyX8 tyX8_ok nmX8 hown K.1 hP hD hS 0 rfl rfl 1 (by decide) (hts (.fieldLink RX8 15 "DarkMine$Tape" "length" "I") (by decide +kernel)) (fun _ h9 => h9) rfl (by decide +kernel) rfl rfl (Nat.le_of_ble_eq_true rfl) dX8_put_40 (fun H locs hP hD hS => ?_)
  have hP : va_P D vwCl [(h0, .inr (8, [.ref h1, .int (nI (n + 3))])), (h1, .inl (g 0, 1600, .inl f_9))] H := hP
  have hD : va_D A [(h0, .inr (8, [.ref h1, .int (nI (n + 3))])), (h1, .inl (g 0, 1600, .inl f_9))] := hD
  refine lv_iinc (v := 0) (lv' := [(2, .int 0), (0, .ref h0), (1, .int x)]) hx hb dX8_put_43 hl (k := 0) rfl (by decide +kernel) (by decide) rfl (fun ls hl => ?_)
  refine lv_goto (tgt := 3) hx hb dX8_put_46 (by decide) ?_
  refine lv_iload_n hx hb dX8_put_3 rfl (lv_at hl 0 rfl) ?_
  refine lv_if_lt (tgt := 49) hx hb dX8_put_4 (by decide) (fun c => absurd c (by decide +kernel)) (fun _ => ?_)
  refine lv_aload_n hx hb dX8_put_7 rfl (lv_at hl 1 rfl) ?_
  refine va_get (C := RX8) (T := TX8) (N := 2) hx hb hts iX8 hown K.1 hP 0 rfl rfl 1 (by decide) (hts (.fieldLink RX8 15 "DarkMine$Tape" "length" "I") (by decide +kernel)) (fun _ h9 => h9) (v := .int (nI (n + 3))) rfl dX8_put_8 ?_
  refine lv_sipush (v := 1600) hx hb dX8_put_11 (by decide +kernel) ?_
  refine lv_icmp_ge (tgt := 49) hx hb dX8_put_14 (by decide) (fun c => absurd c (nI_ge (a := n + 3) (b := 1600) (by omega) (by omega))) (fun _ => ?_)
  refine lv_aload_n hx hb dX8_put_17 rfl (lv_at hl 1 rfl) ?_
  refine va_get (C := RX8) (T := TX8) (N := 2) hx hb hts iX8 hown K.1 hP 0 rfl rfl 0 (by decide) (hts (.fieldLink RX8 9 "DarkMine$Tape" "bytes" "[I") (by decide +kernel)) (fun _ h9 => h9) (v := .ref h1) rfl dX8_put_18 ?_
  refine lv_aload_n hx hb dX8_put_21 rfl (lv_at hl 1 rfl) ?_
  refine va_get (C := RX8) (T := TX8) (N := 2) hx hb hts iX8 hown K.1 hP 0 rfl rfl 1 (by decide) (hts (.fieldLink RX8 15 "DarkMine$Tape" "length" "I") (by decide +kernel)) (fun _ h9 => h9) (v := .int (nI (n + 3))) rfl dX8_put_22 ?_
  refine lv_iload_n hx hb dX8_put_25 rfl (lv_at hl 2 rfl) ?_
  refine lv_iload_n hx hb dX8_put_26 rfl (lv_at hl 0 rfl) ?_
  refine lv_ishr hx hb dX8_put_27 ?_
  refine lv_topi (fun x_10 ex_10 => ?_)
  refine lv_sipush (v := 255) hx hb dX8_put_28 (by decide +kernel) ?_
  refine lv_iand hx hb dX8_put_31 ?_
  refine lv_topi (fun x_11 ex_11 => ?_)
  obtain ⟨f_12, hf_12⟩ : ∃ f', f' = upd f_9 (nI (n + 3) : Int32).toNatClampNeg x_11 := ⟨_, rfl⟩
  refine dk_iast hx hb K hP hD hS 1 rfl f_12 (fun _ _ => by rw [hf_12]) (vp_in_nI (by omega) (by omega)) dX8_put_32 (fun H locs hP hD hS => ?_)
  have hP : va_P D vwCl [(h0, .inr (8, [.ref h1, .int (nI (n + 3))])), (h1, .inl (g 0, 1600, .inl f_12))] H := hP
  have hD : va_D A [(h0, .inr (8, [.ref h1, .int (nI (n + 3))])), (h1, .inl (g 0, 1600, .inl f_12))] := hD
  refine lv_aload_n hx hb dX8_put_33 rfl (lv_at hl 1 rfl) ?_
  refine lv_dup hx hb dX8_put_34 rfl ?_
  refine va_get (C := RX8) (T := TX8) (N := 2) hx hb hts iX8 hown K.1 hP 0 rfl rfl 1 (by decide) (hts (.fieldLink RX8 15 "DarkMine$Tape" "length" "I") (by decide +kernel)) (fun _ h9 => h9) (v := .int (nI (n + 3))) rfl dX8_put_35 ?_
  refine lv_iconst (v := 1) hx hb dX8_put_38 (by decide +kernel) ?_
  refine lv_iadd hx hb dX8_put_39 ?_
  refine dk_top (y := nI (n + 4)) (dk_addc (b := 1) rfl) ?_
  refine va_put (D := D) (ci := 8) (v := .int (nI (n + 4))) (ty := tyX8 1) (C := RX8) (T := TX8) (N := 2) hx hb hts iX8 tyX8 tyX8_ok nmX8 hown K.1 hP hD hS 0 rfl rfl 1 (by decide) (hts (.fieldLink RX8 15 "DarkMine$Tape" "length" "I") (by decide +kernel)) (fun _ h9 => h9) rfl (by decide +kernel) rfl rfl (Nat.le_of_ble_eq_true rfl) dX8_put_40 (fun H locs hP hD hS => ?_)
  have hP : va_P D vwCl [(h0, .inr (8, [.ref h1, .int (nI (n + 4))])), (h1, .inl (g 0, 1600, .inl f_12))] H := hP
  have hD : va_D A [(h0, .inr (8, [.ref h1, .int (nI (n + 4))])), (h1, .inl (g 0, 1600, .inl f_12))] := hD
  refine lv_iinc (v := (-8)) (lv' := [(2, .int (-8)), (0, .ref h0), (1, .int x)]) hx hb dX8_put_43 hl (k := 0) rfl (by decide +kernel) (by decide) rfl (fun ls hl => ?_)
  refine lv_goto (tgt := 3) hx hb dX8_put_46 (by decide) ?_
  refine lv_iload_n hx hb dX8_put_3 rfl (lv_at hl 0 rfl) ?_
  refine lv_if_lt (tgt := 49) hx hb dX8_put_4 (by decide) (fun _ => ?_) (fun c => absurd (by decide +kernel) c)
  refine W.widen (k := 0) (n := 0) (Nat.le_of_ble_eq_true rfl) (Nat.le_of_ble_eq_true rfl) ?_
  exact dk_vret hx hb hr hlocks hP hD hS f_12 [0, 1] rfl (by decide) trivial dX8_put_49
set_option maxHeartbeats 8000000 in
set_option maxRecDepth 100000 in
theorem c_pit_init (l : Launch) (g : Nat → ClassId) (D : va_G) (h0 : Nat) (sz : Nat) : Met l yX5_init wsX5_init ({ frames := 1, cells := 6, slots := 125, locals := 32 } : Room) (dk_Pc g D [(h0, .inr (5, [.int 0, .int 0, .null, .null, .null, .null, .null, .null]))] sz [.ref h0]) (va_Qv (fun (_ : Nat × Nat × Nat × Nat × Nat × Nat) => True) (dk_B D (va_A [(h0, .inr (5, [.int 0, .int 0, .null, .null, .null, .null, .null, .null]))] sz) (fun (u : Nat × Nat × Nat × Nat × Nat × Nat) => [(h0, .inr (5, [.int 0, .int 0, .ref u.1, .ref u.2.1, .ref u.2.2.1, .ref u.2.2.2.1, .ref u.2.2.2.2.1, .ref u.2.2.2.2.2])), (u.1, .inl (g 0, 72, .inl (fun _ => 0))), (u.2.1, .inl (g 0, 6, .inl (fun _ => 0))), (u.2.2.1, .inl (g 0, 16, .inl (fun _ => 0))), (u.2.2.2.1, .inl (g 0, 16, .inl (fun _ => 0))), (u.2.2.2.2.1, .inl (g 0, 5, .inl (fun _ => 0))), (u.2.2.2.2.2, .inl (g 0, 10, .inl (fun _ => 0)))])) (va_A [(h0, .inr (5, [.int 0, .int 0, .null, .null, .null, .null, .null, .null]))] sz)) 6 125 (va_A [(h0, .inr (5, [.int 0, .int 0, .null, .null, .null, .null, .null, .null]))] sz) := by
  refine dk_met (cc := cX5_init) (maxL := 1) (ret := none) (by decide) rfl (Nat.le_of_ble_eq_true rfl) ?_
  intro p e s m args below meth c harg hx hb hr hml hts hown hlocks hin hP K hD hS hA hsz ls hl
  subst hsz
  generalize va_A [(h0, .inr (5, [.int 0, .int 0, .null, .null, .null, .null, .null, .null]))] s.heap.size = A at hD hS hA ⊢
  have F : CallFix p m c cX5_init 1 s args wsX5_init RX5 := ⟨hx, hb, hml, hown, hts⟩
  have hl : lv_has ls 1 [(0, .ref h0)] := hl
  have iX5 : ∀ w ∈ wsX50, w ∈ wsX5_init := fun _ h => List.mem_cons_of_mem _ (List.mem_append_right _ h)
  refine lv_aload_n hx hb dX5_init_0 rfl (lv_at hl 0 rfl) ?_
  refine W.objInit hx hb hown (hts (.methodLink RX5 3 objectInit) (by decide +kernel)) (hts (.instanceMethod objectInit) (by decide +kernel)) (hts _ (List.mem_of_getElem? (i := 3) rfl)) rfl (by rw [hml]; exact hl.1) rfl dX5_init_1 (Nat.le_of_ble_eq_true rfl) (Nat.le_of_ble_eq_true rfl) ?_
  refine W.eq (g2 := F0 m 4 ls []) rfl ?_
  refine lv_aload_n hx hb dX5_init_4 rfl (lv_at hl 0 rfl) ?_
  refine lv_bipush (v := 72) hx hb dX5_init_5 (by decide +kernel) ?_
  refine dk_newa hx hb 0 rfl rfl (hts (.arrayClass .int) (by decide +kernel)) K hP hD hS hA (a0 := (72, .inl (fun _ => 0))) (fun _ => vp_cell_i _ _ _) (by decide +kernel) (N' := 72) (by decide +kernel) (Nat.le_of_ble_eq_true rfl) (Nat.le_of_ble_eq_true rfl) (Nat.le_of_ble_eq_true rfl) dX5_init_7 (fun q_1 H hP hD hS => ?_)
  have hP : va_P D vwCl [(h0, .inr (5, [.int 0, .int 0, .null, .null, .null, .null, .null, .null])), (q_1, .inl (g 0, 72, .inl (fun _ => 0)))] H := hP
  have hD : va_D A [(h0, .inr (5, [.int 0, .int 0, .null, .null, .null, .null, .null, .null])), (q_1, .inl (g 0, 72, .inl (fun _ => 0)))] := hD
  refine W.widen (k := 1) (n := 72) (by omega) (by omega) ?_
  refine va_putF (D := D) (ci := 5) (v := .ref q_1) (ty := tyX5 2) (C := RX5) (T := TX5) (N := 8) hx hb hts iX5 tyX5 tyX5_ok nmX5 hown K.1 hP hD hS 0 rfl rfl 2 (by decide) (hts (.fieldLink RX5 9 "DarkMine$Pit" "cells" "[I") (by decide +kernel)) (fun _ h9 => h9) rfl hin rfl (by decide +kernel) rfl rfl (Nat.le_of_ble_eq_true rfl) dX5_init_9 (fun H locs hP hD hS => ?_)
  have hP : va_P D vwCl [(h0, .inr (5, [.int 0, .int 0, .ref q_1, .null, .null, .null, .null, .null])), (q_1, .inl (g 0, 72, .inl (fun _ => 0)))] H := hP
  have hD : va_D A [(h0, .inr (5, [.int 0, .int 0, .ref q_1, .null, .null, .null, .null, .null])), (q_1, .inl (g 0, 72, .inl (fun _ => 0)))] := hD
  refine lv_aload_n hx hb dX5_init_12 rfl (lv_at hl 0 rfl) ?_
  refine lv_bipush (v := 6) hx hb dX5_init_13 (by decide +kernel) ?_
  refine dk_newa hx hb 0 rfl rfl (hts (.arrayClass .int) (by decide +kernel)) K hP hD hS hA (a0 := (6, .inl (fun _ => 0))) (fun _ => vp_cell_i _ _ _) (by decide +kernel) (N' := 6) (by decide +kernel) (Nat.le_of_ble_eq_true rfl) (Nat.le_of_ble_eq_true rfl) (Nat.le_of_ble_eq_true rfl) dX5_init_15 (fun q_2 H hP hD hS => ?_)
  have hP : va_P D vwCl [(h0, .inr (5, [.int 0, .int 0, .ref q_1, .null, .null, .null, .null, .null])), (q_1, .inl (g 0, 72, .inl (fun _ => 0))), (q_2, .inl (g 0, 6, .inl (fun _ => 0)))] H := hP
  have hD : va_D A [(h0, .inr (5, [.int 0, .int 0, .ref q_1, .null, .null, .null, .null, .null])), (q_1, .inl (g 0, 72, .inl (fun _ => 0))), (q_2, .inl (g 0, 6, .inl (fun _ => 0)))] := hD
  refine W.widen (k := 2) (n := 78) (by omega) (by omega) ?_
  refine va_putF (D := D) (ci := 5) (v := .ref q_2) (ty := tyX5 3) (C := RX5) (T := TX5) (N := 8) hx hb hts iX5 tyX5 tyX5_ok nmX5 hown K.1 hP hD hS 0 rfl rfl 3 (by decide) (hts (.fieldLink RX5 15 "DarkMine$Pit" "hurts" "[I") (by decide +kernel)) (fun _ h9 => h9) rfl hin rfl (by decide +kernel) rfl rfl (Nat.le_of_ble_eq_true rfl) dX5_init_17 (fun H locs hP hD hS => ?_)
  have hP : va_P D vwCl [(h0, .inr (5, [.int 0, .int 0, .ref q_1, .ref q_2, .null, .null, .null, .null])), (q_1, .inl (g 0, 72, .inl (fun _ => 0))), (q_2, .inl (g 0, 6, .inl (fun _ => 0)))] H := hP
  have hD : va_D A [(h0, .inr (5, [.int 0, .int 0, .ref q_1, .ref q_2, .null, .null, .null, .null])), (q_1, .inl (g 0, 72, .inl (fun _ => 0))), (q_2, .inl (g 0, 6, .inl (fun _ => 0)))] := hD
  refine lv_aload_n hx hb dX5_init_20 rfl (lv_at hl 0 rfl) ?_
  refine lv_bipush (v := 16) hx hb dX5_init_21 (by decide +kernel) ?_
  refine dk_newa hx hb 0 rfl rfl (hts (.arrayClass .int) (by decide +kernel)) K hP hD hS hA (a0 := (16, .inl (fun _ => 0))) (fun _ => vp_cell_i _ _ _) (by decide +kernel) (N' := 16) (by decide +kernel) (Nat.le_of_ble_eq_true rfl) (Nat.le_of_ble_eq_true rfl) (Nat.le_of_ble_eq_true rfl) dX5_init_23 (fun q_3 H hP hD hS => ?_)
  have hP : va_P D vwCl [(h0, .inr (5, [.int 0, .int 0, .ref q_1, .ref q_2, .null, .null, .null, .null])), (q_1, .inl (g 0, 72, .inl (fun _ => 0))), (q_2, .inl (g 0, 6, .inl (fun _ => 0))), (q_3, .inl (g 0, 16, .inl (fun _ => 0)))] H := hP
  have hD : va_D A [(h0, .inr (5, [.int 0, .int 0, .ref q_1, .ref q_2, .null, .null, .null, .null])), (q_1, .inl (g 0, 72, .inl (fun _ => 0))), (q_2, .inl (g 0, 6, .inl (fun _ => 0))), (q_3, .inl (g 0, 16, .inl (fun _ => 0)))] := hD
  refine W.widen (k := 3) (n := 94) (by omega) (by omega) ?_
  refine va_putF (D := D) (ci := 5) (v := .ref q_3) (ty := tyX5 4) (C := RX5) (T := TX5) (N := 8) hx hb hts iX5 tyX5 tyX5_ok nmX5 hown K.1 hP hD hS 0 rfl rfl 4 (by decide) (hts (.fieldLink RX5 18 "DarkMine$Pit" "planMiners" "[I") (by decide +kernel)) (fun _ h9 => h9) rfl hin rfl (by decide +kernel) rfl rfl (Nat.le_of_ble_eq_true rfl) dX5_init_25 (fun H locs hP hD hS => ?_)
  have hP : va_P D vwCl [(h0, .inr (5, [.int 0, .int 0, .ref q_1, .ref q_2, .ref q_3, .null, .null, .null])), (q_1, .inl (g 0, 72, .inl (fun _ => 0))), (q_2, .inl (g 0, 6, .inl (fun _ => 0))), (q_3, .inl (g 0, 16, .inl (fun _ => 0)))] H := hP
  have hD : va_D A [(h0, .inr (5, [.int 0, .int 0, .ref q_1, .ref q_2, .ref q_3, .null, .null, .null])), (q_1, .inl (g 0, 72, .inl (fun _ => 0))), (q_2, .inl (g 0, 6, .inl (fun _ => 0))), (q_3, .inl (g 0, 16, .inl (fun _ => 0)))] := hD
  refine lv_aload_n hx hb dX5_init_28 rfl (lv_at hl 0 rfl) ?_
  refine lv_bipush (v := 16) hx hb dX5_init_29 (by decide +kernel) ?_
  refine dk_newa hx hb 0 rfl rfl (hts (.arrayClass .int) (by decide +kernel)) K hP hD hS hA (a0 := (16, .inl (fun _ => 0))) (fun _ => vp_cell_i _ _ _) (by decide +kernel) (N' := 16) (by decide +kernel) (Nat.le_of_ble_eq_true rfl) (Nat.le_of_ble_eq_true rfl) (Nat.le_of_ble_eq_true rfl) dX5_init_31 (fun q_4 H hP hD hS => ?_)
  have hP : va_P D vwCl [(h0, .inr (5, [.int 0, .int 0, .ref q_1, .ref q_2, .ref q_3, .null, .null, .null])), (q_1, .inl (g 0, 72, .inl (fun _ => 0))), (q_2, .inl (g 0, 6, .inl (fun _ => 0))), (q_3, .inl (g 0, 16, .inl (fun _ => 0))), (q_4, .inl (g 0, 16, .inl (fun _ => 0)))] H := hP
  have hD : va_D A [(h0, .inr (5, [.int 0, .int 0, .ref q_1, .ref q_2, .ref q_3, .null, .null, .null])), (q_1, .inl (g 0, 72, .inl (fun _ => 0))), (q_2, .inl (g 0, 6, .inl (fun _ => 0))), (q_3, .inl (g 0, 16, .inl (fun _ => 0))), (q_4, .inl (g 0, 16, .inl (fun _ => 0)))] := hD
  refine W.widen (k := 4) (n := 110) (by omega) (by omega) ?_
  refine va_putF (D := D) (ci := 5) (v := .ref q_4) (ty := tyX5 5) (C := RX5) (T := TX5) (N := 8) hx hb hts iX5 tyX5 tyX5_ok nmX5 hown K.1 hP hD hS 0 rfl rfl 5 (by decide) (hts (.fieldLink RX5 21 "DarkMine$Pit" "planPlaces" "[I") (by decide +kernel)) (fun _ h9 => h9) rfl hin rfl (by decide +kernel) rfl rfl (Nat.le_of_ble_eq_true rfl) dX5_init_33 (fun H locs hP hD hS => ?_)
  have hP : va_P D vwCl [(h0, .inr (5, [.int 0, .int 0, .ref q_1, .ref q_2, .ref q_3, .ref q_4, .null, .null])), (q_1, .inl (g 0, 72, .inl (fun _ => 0))), (q_2, .inl (g 0, 6, .inl (fun _ => 0))), (q_3, .inl (g 0, 16, .inl (fun _ => 0))), (q_4, .inl (g 0, 16, .inl (fun _ => 0)))] H := hP
  have hD : va_D A [(h0, .inr (5, [.int 0, .int 0, .ref q_1, .ref q_2, .ref q_3, .ref q_4, .null, .null])), (q_1, .inl (g 0, 72, .inl (fun _ => 0))), (q_2, .inl (g 0, 6, .inl (fun _ => 0))), (q_3, .inl (g 0, 16, .inl (fun _ => 0))), (q_4, .inl (g 0, 16, .inl (fun _ => 0)))] := hD
  refine lv_aload_n hx hb dX5_init_36 rfl (lv_at hl 0 rfl) ?_
  refine lv_iconst (v := 5) hx hb dX5_init_37 (by decide +kernel) ?_
  refine dk_newa hx hb 0 rfl rfl (hts (.arrayClass .int) (by decide +kernel)) K hP hD hS hA (a0 := (5, .inl (fun _ => 0))) (fun _ => vp_cell_i _ _ _) (by decide +kernel) (N' := 5) (by decide +kernel) (Nat.le_of_ble_eq_true rfl) (Nat.le_of_ble_eq_true rfl) (Nat.le_of_ble_eq_true rfl) dX5_init_38 (fun q_5 H hP hD hS => ?_)
  have hP : va_P D vwCl [(h0, .inr (5, [.int 0, .int 0, .ref q_1, .ref q_2, .ref q_3, .ref q_4, .null, .null])), (q_1, .inl (g 0, 72, .inl (fun _ => 0))), (q_2, .inl (g 0, 6, .inl (fun _ => 0))), (q_3, .inl (g 0, 16, .inl (fun _ => 0))), (q_4, .inl (g 0, 16, .inl (fun _ => 0))), (q_5, .inl (g 0, 5, .inl (fun _ => 0)))] H := hP
  have hD : va_D A [(h0, .inr (5, [.int 0, .int 0, .ref q_1, .ref q_2, .ref q_3, .ref q_4, .null, .null])), (q_1, .inl (g 0, 72, .inl (fun _ => 0))), (q_2, .inl (g 0, 6, .inl (fun _ => 0))), (q_3, .inl (g 0, 16, .inl (fun _ => 0))), (q_4, .inl (g 0, 16, .inl (fun _ => 0))), (q_5, .inl (g 0, 5, .inl (fun _ => 0)))] := hD
  refine W.widen (k := 5) (n := 115) (by omega) (by omega) ?_
  refine va_putF (D := D) (ci := 5) (v := .ref q_5) (ty := tyX5 6) (C := RX5) (T := TX5) (N := 8) hx hb hts iX5 tyX5 tyX5_ok nmX5 hown K.1 hP hD hS 0 rfl rfl 6 (by decide) (hts (.fieldLink RX5 24 "DarkMine$Pit" "sold" "[I") (by decide +kernel)) (fun _ h9 => h9) rfl hin rfl (by decide +kernel) rfl rfl (Nat.le_of_ble_eq_true rfl) dX5_init_40 (fun H locs hP hD hS => ?_)
  have hP : va_P D vwCl [(h0, .inr (5, [.int 0, .int 0, .ref q_1, .ref q_2, .ref q_3, .ref q_4, .ref q_5, .null])), (q_1, .inl (g 0, 72, .inl (fun _ => 0))), (q_2, .inl (g 0, 6, .inl (fun _ => 0))), (q_3, .inl (g 0, 16, .inl (fun _ => 0))), (q_4, .inl (g 0, 16, .inl (fun _ => 0))), (q_5, .inl (g 0, 5, .inl (fun _ => 0)))] H := hP
  have hD : va_D A [(h0, .inr (5, [.int 0, .int 0, .ref q_1, .ref q_2, .ref q_3, .ref q_4, .ref q_5, .null])), (q_1, .inl (g 0, 72, .inl (fun _ => 0))), (q_2, .inl (g 0, 6, .inl (fun _ => 0))), (q_3, .inl (g 0, 16, .inl (fun _ => 0))), (q_4, .inl (g 0, 16, .inl (fun _ => 0))), (q_5, .inl (g 0, 5, .inl (fun _ => 0)))] := hD
  refine lv_aload_n hx hb dX5_init_43 rfl (lv_at hl 0 rfl) ?_
  refine lv_bipush (v := 10) hx hb dX5_init_44 (by decide +kernel) ?_
  refine dk_newa hx hb 0 rfl rfl (hts (.arrayClass .int) (by decide +kernel)) K hP hD hS hA (a0 := (10, .inl (fun _ => 0))) (fun _ => vp_cell_i _ _ _) (by decide +kernel) (N' := 10) (by decide +kernel) (Nat.le_of_ble_eq_true rfl) (Nat.le_of_ble_eq_true rfl) (Nat.le_of_ble_eq_true rfl) dX5_init_46 (fun q_6 H hP hD hS => ?_)
  have hP : va_P D vwCl [(h0, .inr (5, [.int 0, .int 0, .ref q_1, .ref q_2, .ref q_3, .ref q_4, .ref q_5, .null])), (q_1, .inl (g 0, 72, .inl (fun _ => 0))), (q_2, .inl (g 0, 6, .inl (fun _ => 0))), (q_3, .inl (g 0, 16, .inl (fun _ => 0))), (q_4, .inl (g 0, 16, .inl (fun _ => 0))), (q_5, .inl (g 0, 5, .inl (fun _ => 0))), (q_6, .inl (g 0, 10, .inl (fun _ => 0)))] H := hP
  have hD : va_D A [(h0, .inr (5, [.int 0, .int 0, .ref q_1, .ref q_2, .ref q_3, .ref q_4, .ref q_5, .null])), (q_1, .inl (g 0, 72, .inl (fun _ => 0))), (q_2, .inl (g 0, 6, .inl (fun _ => 0))), (q_3, .inl (g 0, 16, .inl (fun _ => 0))), (q_4, .inl (g 0, 16, .inl (fun _ => 0))), (q_5, .inl (g 0, 5, .inl (fun _ => 0))), (q_6, .inl (g 0, 10, .inl (fun _ => 0)))] := hD
  refine W.widen (k := 6) (n := 125) (by omega) (by omega) ?_
  refine va_putF (D := D) (ci := 5) (v := .ref q_6) (ty := tyX5 7) (C := RX5) (T := TX5) (N := 8) hx hb hts iX5 tyX5 tyX5_ok nmX5 hown K.1 hP hD hS 0 rfl rfl 7 (by decide) (hts (.fieldLink RX5 27 "DarkMine$Pit" "tubCounts" "[I") (by decide +kernel)) (fun _ h9 => h9) rfl hin rfl (by decide +kernel) rfl rfl (Nat.le_of_ble_eq_true rfl) dX5_init_48 (fun H locs hP hD hS => ?_)
  have hP : va_P D vwCl [(h0, .inr (5, [.int 0, .int 0, .ref q_1, .ref q_2, .ref q_3, .ref q_4, .ref q_5, .ref q_6])), (q_1, .inl (g 0, 72, .inl (fun _ => 0))), (q_2, .inl (g 0, 6, .inl (fun _ => 0))), (q_3, .inl (g 0, 16, .inl (fun _ => 0))), (q_4, .inl (g 0, 16, .inl (fun _ => 0))), (q_5, .inl (g 0, 5, .inl (fun _ => 0))), (q_6, .inl (g 0, 10, .inl (fun _ => 0)))] H := hP
  have hD : va_D A [(h0, .inr (5, [.int 0, .int 0, .ref q_1, .ref q_2, .ref q_3, .ref q_4, .ref q_5, .ref q_6])), (q_1, .inl (g 0, 72, .inl (fun _ => 0))), (q_2, .inl (g 0, 6, .inl (fun _ => 0))), (q_3, .inl (g 0, 16, .inl (fun _ => 0))), (q_4, .inl (g 0, 16, .inl (fun _ => 0))), (q_5, .inl (g 0, 5, .inl (fun _ => 0))), (q_6, .inl (g 0, 10, .inl (fun _ => 0)))] := hD
  refine W.widen (k := 6) (n := 125) (Nat.le_of_ble_eq_true rfl) (Nat.le_of_ble_eq_true rfl) ?_
  exact dk_vret hx hb hr hlocks hP hD hS ⟨q_1, q_2, q_3, q_4, q_5, q_6⟩ [0, 1, 2, 3, 4, 5, 6] rfl (by decide) trivial dX5_init_51
