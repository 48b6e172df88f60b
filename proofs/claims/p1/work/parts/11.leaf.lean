/-! 11.leaf.lean.txt -/
def wsX2_placeOf : List Cond := .code yX2_placeOf cX2_placeOf 3 (some .int) :: ([.fieldLink RX2 49 "DarkMine$Ground" "columns" "I", .fieldLink RX2 52 "DarkMine$Ground" "rows" "I"] ++ wsX20)
def wsX5_isSolid : List Cond := .code yX5_isSolid cX5_isSolid 2 (some .boolean) :: ([.fieldLink RX5 9 "DarkMine$Pit" "cells" "[I"] ++ wsX50)
def wsX5_isOpen : List Cond := .code yX5_isOpen cX5_isOpen 2 (some .boolean) :: ([.fieldLink RX5 9 "DarkMine$Pit" "cells" "[I"] ++ wsX50)
def wsX2_hasMiner : List Cond := .code yX2_hasMiner cX2_hasMiner 2 (some .boolean) :: ([.fieldLink RX2 67 "DarkMine$Ground" "miners" "I"] ++ wsX20)
def wsX2_hasPlanRow : List Cond := .code yX2_hasPlanRow cX2_hasPlanRow 2 (some .boolean) :: ([.fieldLink RX2 70 "DarkMine$Ground" "planRows" "I"] ++ wsX20)
def wsX2_hasOrder : List Cond := .code yX2_hasOrder cX2_hasOrder 2 (some .boolean) :: ([.fieldLink RX2 73 "DarkMine$Ground" "orders" "I"] ++ wsX20)
def wsX11_none : List Cond := .code yX11_none cX11_none 2 (some .int) :: ([.fieldLink RX11 42 "DarkMine" "refusals" "[I"] ++ wsX110)
def wsX11_no : List Cond := .code yX11_no cX11_no 2 (some .boolean) :: ([.fieldLink RX11 42 "DarkMine" "refusals" "[I"] ++ wsX110)
def wsX11_flag : List Cond := .code yX11_flag cX11_flag 1 (some .int) :: ([])
theorem dX2_hasMiner_0 : decode cX2_hasMiner 0 = .ok (.iload_n 1, 1) := by decide +kernel
theorem dX2_hasMiner_1 : decode cX2_hasMiner 1 = .ok (.ifCond .lt 15, 3) := by decide +kernel
theorem dX2_hasMiner_4 : decode cX2_hasMiner 4 = .ok (.iload_n 1, 1) := by decide +kernel
theorem dX2_hasMiner_5 : decode cX2_hasMiner 5 = .ok (.aload_n 0, 1) := by decide +kernel
theorem dX2_hasMiner_6 : decode cX2_hasMiner 6 = .ok (.getfield 67, 3) := by decide +kernel
theorem dX2_hasMiner_9 : decode cX2_hasMiner 9 = .ok (.if_icmp .ge 7, 3) := by decide +kernel
theorem dX2_hasMiner_16 : decode cX2_hasMiner 16 = .ok (.iconst 0, 1) := by decide +kernel
theorem dX2_hasMiner_17 : decode cX2_hasMiner 17 = .ok (.ireturn, 1) := by decide +kernel
theorem dX2_hasPlanRow_0 : decode cX2_hasPlanRow 0 = .ok (.iload_n 1, 1) := by decide +kernel
theorem dX2_hasPlanRow_1 : decode cX2_hasPlanRow 1 = .ok (.ifCond .lt 15, 3) := by decide +kernel
theorem dX2_hasPlanRow_4 : decode cX2_hasPlanRow 4 = .ok (.iload_n 1, 1) := by decide +kernel
theorem dX2_hasPlanRow_5 : decode cX2_hasPlanRow 5 = .ok (.aload_n 0, 1) := by decide +kernel
theorem dX2_hasPlanRow_6 : decode cX2_hasPlanRow 6 = .ok (.getfield 70, 3) := by decide +kernel
theorem dX2_hasPlanRow_9 : decode cX2_hasPlanRow 9 = .ok (.if_icmp .ge 7, 3) := by decide +kernel
theorem dX2_hasPlanRow_16 : decode cX2_hasPlanRow 16 = .ok (.iconst 0, 1) := by decide +kernel
theorem dX2_hasPlanRow_17 : decode cX2_hasPlanRow 17 = .ok (.ireturn, 1) := by decide +kernel
theorem dX2_hasOrder_0 : decode cX2_hasOrder 0 = .ok (.iload_n 1, 1) := by decide +kernel
theorem dX2_hasOrder_1 : decode cX2_hasOrder 1 = .ok (.ifCond .lt 15, 3) := by decide +kernel
theorem dX2_hasOrder_4 : decode cX2_hasOrder 4 = .ok (.iload_n 1, 1) := by decide +kernel
theorem dX2_hasOrder_5 : decode cX2_hasOrder 5 = .ok (.aload_n 0, 1) := by decide +kernel
theorem dX2_hasOrder_6 : decode cX2_hasOrder 6 = .ok (.getfield 73, 3) := by decide +kernel
theorem dX2_hasOrder_9 : decode cX2_hasOrder 9 = .ok (.if_icmp .ge 7, 3) := by decide +kernel
theorem dX2_hasOrder_16 : decode cX2_hasOrder 16 = .ok (.iconst 0, 1) := by decide +kernel
theorem dX2_hasOrder_17 : decode cX2_hasOrder 17 = .ok (.ireturn, 1) := by decide +kernel
theorem dX2_placeOf_0 : decode cX2_placeOf 0 = .ok (.iload_n 1, 1) := by decide +kernel
theorem dX2_placeOf_1 : decode cX2_placeOf 1 = .ok (.ifCond .lt 23, 3) := by decide +kernel
theorem dX2_placeOf_4 : decode cX2_placeOf 4 = .ok (.iload_n 1, 1) := by decide +kernel
theorem dX2_placeOf_5 : decode cX2_placeOf 5 = .ok (.aload_n 0, 1) := by decide +kernel
theorem dX2_placeOf_6 : decode cX2_placeOf 6 = .ok (.getfield 49, 3) := by decide +kernel
theorem dX2_placeOf_9 : decode cX2_placeOf 9 = .ok (.if_icmp .ge 15, 3) := by decide +kernel
theorem dX2_placeOf_24 : decode cX2_placeOf 24 = .ok (.iconst (-1), 1) := by decide +kernel
theorem dX2_placeOf_25 : decode cX2_placeOf 25 = .ok (.ireturn, 1) := by decide +kernel
theorem dX5_isOpen_0 : decode cX5_isOpen 0 = .ok (.aload_n 0, 1) := by decide +kernel
theorem dX5_isOpen_1 : decode cX5_isOpen 1 = .ok (.getfield 9, 3) := by decide +kernel
theorem dX5_isOpen_4 : decode cX5_isOpen 4 = .ok (.iload_n 1, 1) := by decide +kernel
theorem dX5_isOpen_5 : decode cX5_isOpen 5 = .ok (.iaload, 1) := by decide +kernel
theorem dX5_isOpen_6 : decode cX5_isOpen 6 = .ok (.sipush 254, 3) := by decide +kernel
theorem dX5_isOpen_9 : decode cX5_isOpen 9 = .ok (.if_icmp .lt 7, 3) := by decide +kernel
theorem dX5_isOpen_16 : decode cX5_isOpen 16 = .ok (.iconst 0, 1) := by decide +kernel
theorem dX5_isOpen_17 : decode cX5_isOpen 17 = .ok (.ireturn, 1) := by decide +kernel
theorem dX5_isSolid_0 : decode cX5_isSolid 0 = .ok (.aload_n 0, 1) := by decide +kernel
theorem dX5_isSolid_1 : decode cX5_isSolid 1 = .ok (.getfield 9, 3) := by decide +kernel
theorem dX5_isSolid_4 : decode cX5_isSolid 4 = .ok (.iload_n 1, 1) := by decide +kernel
theorem dX5_isSolid_5 : decode cX5_isSolid 5 = .ok (.iaload, 1) := by decide +kernel
theorem dX5_isSolid_6 : decode cX5_isSolid 6 = .ok (.bipush 9, 2) := by decide +kernel
theorem dX5_isSolid_8 : decode cX5_isSolid 8 = .ok (.if_icmp .gt 7, 3) := by decide +kernel
theorem dX5_isSolid_15 : decode cX5_isSolid 15 = .ok (.iconst 0, 1) := by decide +kernel
theorem dX5_isSolid_16 : decode cX5_isSolid 16 = .ok (.ireturn, 1) := by decide +kernel
theorem dX11_none_0 : decode cX11_none 0 = .ok (.aload_n 0, 1) := by decide +kernel
theorem dX11_none_1 : decode cX11_none 1 = .ok (.getfield 42, 3) := by decide +kernel
theorem dX11_none_4 : decode cX11_none 4 = .ok (.iload_n 1, 1) := by decide +kernel
theorem dX11_none_5 : decode cX11_none 5 = .ok (.dup2, 1) := by decide +kernel
theorem dX11_none_6 : decode cX11_none 6 = .ok (.iaload, 1) := by decide +kernel
theorem dX11_none_7 : decode cX11_none 7 = .ok (.iconst 1, 1) := by decide +kernel
theorem dX11_none_8 : decode cX11_none 8 = .ok (.iadd, 1) := by decide +kernel
theorem dX11_none_9 : decode cX11_none 9 = .ok (.iastore, 1) := by decide +kernel
theorem dX11_none_10 : decode cX11_none 10 = .ok (.iconst (-1), 1) := by decide +kernel
theorem dX11_none_11 : decode cX11_none 11 = .ok (.ireturn, 1) := by decide +kernel
theorem dX11_no_0 : decode cX11_no 0 = .ok (.aload_n 0, 1) := by decide +kernel
theorem dX11_no_1 : decode cX11_no 1 = .ok (.getfield 42, 3) := by decide +kernel
theorem dX11_no_4 : decode cX11_no 4 = .ok (.iload_n 1, 1) := by decide +kernel
theorem dX11_no_5 : decode cX11_no 5 = .ok (.dup2, 1) := by decide +kernel
theorem dX11_no_6 : decode cX11_no 6 = .ok (.iaload, 1) := by decide +kernel
theorem dX11_no_7 : decode cX11_no 7 = .ok (.iconst 1, 1) := by decide +kernel
theorem dX11_no_8 : decode cX11_no 8 = .ok (.iadd, 1) := by decide +kernel
theorem dX11_no_9 : decode cX11_no 9 = .ok (.iastore, 1) := by decide +kernel
theorem dX11_no_10 : decode cX11_no 10 = .ok (.iconst 0, 1) := by decide +kernel
theorem dX11_no_11 : decode cX11_no 11 = .ok (.ireturn, 1) := by decide +kernel
theorem dX11_flag_0 : decode cX11_flag 0 = .ok (.iload_n 0, 1) := by decide +kernel
theorem dX11_flag_1 : decode cX11_flag 1 = .ok (.ifCond .eq 7, 3) := by decide +kernel
theorem dX11_flag_8 : decode cX11_flag 8 = .ok (.iconst 0, 1) := by decide +kernel
theorem dX11_flag_9 : decode cX11_flag 9 = .ok (.ireturn, 1) := by decide +kernel
/-! the answers of a first call, as numbers -/
def dk_fault (k : Int32) : Int32 := if k.toInt = 0 then 0 else -1
def dk_end (k : Int32) : Int32 := if k.toInt = 0 then 1 else 0
def dk_has (k : Int32) : Int32 := if k.toInt = 16 then 1 else if 0 ≤ k.toInt ∧ k.toInt ≤ 15 then 0 else -1
def dk_rng (k : Int32) (hi : Int) : Int32 := if 0 ≤ k.toInt ∧ k.toInt ≤ hi then 0 else -1
def dk_seed (k : Int32) : Int32 := if k.toInt < 0 then 0 else 1
theorem dk_inv {x : Int32} {n : Nat} (h0 : 0 ≤ x.toInt) (h1 : x.toInt < n) : vp_in x n := vp_in_iff.mpr ⟨h0, h1⟩
set_option maxHeartbeats 8000000 in
set_option maxRecDepth 100000 in
theorem c_flag_0 (l : Launch) (g : Nat → ClassId) (D : va_G) (sz : Nat) : Met l yX11_flag wsX11_flag ({ frames := 1, cells := 0, slots := 0, locals := 32 } : Room) (dk_Pc g D [] sz [.int 0]) (va_Qi (fun (r : Int32) (_ : Unit) => r = 0) (dk_B D (va_A [] sz) (fun (_ : Unit) => [])) (va_A [] sz)) 0 0 (va_A [] sz) := by
  refine dk_met (cc := cX11_flag) (maxL := 1) (ret := (some .int)) (by decide) rfl (Nat.le_of_ble_eq_true rfl) ?_
  intro p e s m args below meth c harg hx hb hr hml hts hown hlocks hin hP K hD hS hA hsz ls hl
  subst hsz
  generalize va_A [] s.heap.size = A at hD hS hA ⊢
  have F : CallFix p m c cX11_flag 1 s args wsX11_flag RX11 := ⟨hx, hb, hml, hown, hts⟩
  have hl : lv_has ls 1 [(0, .int 0)] := hl
  refine lv_iload_n hx hb dX11_flag_0 rfl (lv_at hl 0 rfl) ?_
  refine lv_if_eq (tgt := 8) hx hb dX11_flag_1 (by decide) (fun _ => ?_) (fun c => absurd (by decide +kernel) c)
  refine lv_iconst (v := 0) hx hb dX11_flag_8 (by decide +kernel) ?_
  refine W.widen (k := 0) (n := 0) (Nat.le_of_ble_eq_true rfl) (Nat.le_of_ble_eq_true rfl) ?_
  exact dk_iret hx hb hr hlocks rfl hP hD hS () [] rfl (by decide) rfl dX11_flag_9
set_option maxHeartbeats 8000000 in
set_option maxRecDepth 100000 in
theorem c_none_0 (l : Launch) (g : Nat → ClassId) (D : va_G) (h0 : Nat) (h1 : Nat) (h2 : Nat) (h3 : Nat) (h4 : Nat) (h5 : Nat) (h6 : Nat) (h7 : Nat) (h8 : Nat) (h9 : Nat) (h10 : Nat) (h11 : Nat) (h12 : Nat) (sz : Nat) : Met l yX11_none wsX11_none ({ frames := 1, cells := 0, slots := 0, locals := 32 } : Room) (dk_Pc g D [(h0, .inr (11, [.ref h1, .ref h2, .ref h3, .ref h4, .ref h5, .ref h6, .ref h7, .ref h8, .ref h9, .ref h10, .ref h11, .ref h12, .int 1])), (h6, .inl (g 0, 6, .inl (fun _ => 0)))] sz [.ref h0, .int 0]) (va_Qi (fun (r : Int32) (_ : Unit) => r = -1) (dk_B D (va_A [(h0, .inr (11, [.ref h1, .ref h2, .ref h3, .ref h4, .ref h5, .ref h6, .ref h7, .ref h8, .ref h9, .ref h10, .ref h11, .ref h12, .int 1])), (h6, .inl (g 0, 6, .inl (fun _ => 0)))] sz) (fun (_ : Unit) => [(h0, .inr (11, [.ref h1, .ref h2, .ref h3, .ref h4, .ref h5, .ref h6, .ref h7, .ref h8, .ref h9, .ref h10, .ref h11, .ref h12, .int 1])), (h6, .inl (g 0, 6, .inl (upd (fun _ => 0) 0 1)))])) (va_A [(h0, .inr (11, [.ref h1, .ref h2, .ref h3, .ref h4, .ref h5, .ref h6, .ref h7, .ref h8, .ref h9, .ref h10, .ref h11, .ref h12, .int 1])), (h6, .inl (g 0, 6, .inl (fun _ => 0)))] sz)) 0 0 (va_A [(h0, .inr (11, [.ref h1, .ref h2, .ref h3, .ref h4, .ref h5, .ref h6, .ref h7, .ref h8, .ref h9, .ref h10, .ref h11, .ref h12, .int 1])), (h6, .inl (g 0, 6, .inl (fun _ => 0)))] sz) := by
  refine dk_met (cc := cX11_none) (maxL := 2) (ret := (some .int)) (by decide) rfl (Nat.le_of_ble_eq_true rfl) ?_
  intro p e s m args below meth c harg hx hb hr hml hts hown hlocks hin hP K hD hS hA hsz ls hl
  subst hsz
  generalize va_A [(h0, .inr (11, [.ref h1, .ref h2, .ref h3, .ref h4, .ref h5, .ref h6, .ref h7, .ref h8, .ref h9, .ref h10, .ref h11, .ref h12, .int 1])), (h6, .inl (g 0, 6, .inl (fun _ => 0)))] s.heap.size = A at hD hS hA ⊢
  have F : CallFix p m c cX11_none 2 s args wsX11_none RX11 := ⟨hx, hb, hml, hown, hts⟩
  have hl : lv_has ls 2 [(0, .ref h0), (1, .int 0)] := hl
  have iX11 : ∀ w ∈ wsX110, w ∈ wsX11_none := fun _ h => List.mem_cons_of_mem _ (List.mem_append_right _ h)
  refine lv_aload_n hx hb dX11_none_0 rfl (lv_at hl 0 rfl) ?_
  refine va_get (C := RX11) (T := TX11) (N := 13) hx hb hts iX11 hown K.1 hP 0 rfl rfl 5 (by decide) (hts (.fieldLink RX11 42 "DarkMine" "refusals" "[I") (by decide +kernel)) (fun _ h9 => h9) (v := .ref h6) rfl dX11_none_1 ?_
  refine lv_iload_n hx hb dX11_none_4 rfl (lv_at hl 1 rfl) ?_
  refine lv_dup2_11 hx hb dX11_none_5 rfl rfl ?_
  refine dk_iald hx hb K hP 1 rfl (dk_in (by decide +kernel)) (v := 0) rfl dX11_none_6 ?_
  refine lv_iconst (v := 1) hx hb dX11_none_7 (by decide +kernel) ?_
  refine lv_iadd hx hb dX11_none_8 ?_
  refine dk_top (y := 1) (by decide +kernel) ?_
  refine dk_iast hx hb K hP hD hS 1 rfl (upd (fun _ => 0) 0 1) (fun _ _ => rfl) (dk_in (by decide +kernel)) dX11_none_9 (fun H locs hP hD hS => ?_)
  have hP : va_P D vwCl [(h0, .inr (11, [.ref h1, .ref h2, .ref h3, .ref h4, .ref h5, .ref h6, .ref h7, .ref h8, .ref h9, .ref h10, .ref h11, .ref h12, .int 1])), (h6, .inl (g 0, 6, .inl (upd (fun _ => 0) 0 1)))] H := hP
  have hD : va_D A [(h0, .inr (11, [.ref h1, .ref h2, .ref h3, .ref h4, .ref h5, .ref h6, .ref h7, .ref h8, .ref h9, .ref h10, .ref h11, .ref h12, .int 1])), (h6, .inl (g 0, 6, .inl (upd (fun _ => 0) 0 1)))] := hD
  refine lv_iconst (v := (-1)) hx hb dX11_none_10 (by decide +kernel) ?_
  refine W.widen (k := 0) (n := 0) (Nat.le_of_ble_eq_true rfl) (Nat.le_of_ble_eq_true rfl) ?_
  exact dk_iret hx hb hr hlocks rfl hP hD hS () [0, 1] rfl (by decide) rfl dX11_none_11
set_option maxHeartbeats 8000000 in
set_option maxRecDepth 100000 in
theorem c_none_1 (l : Launch) (g : Nat → ClassId) (D : va_G) (h0 : Nat) (h1 : Nat) (h2 : Nat) (h3 : Nat) (h4 : Nat) (h5 : Nat) (h6 : Nat) (h7 : Nat) (h8 : Nat) (h9 : Nat) (h10 : Nat) (h11 : Nat) (h12 : Nat) (sz : Nat) : Met l yX11_none wsX11_none ({ frames := 1, cells := 0, slots := 0, locals := 32 } : Room) (dk_Pc g D [(h0, .inr (11, [.ref h1, .ref h2, .ref h3, .ref h4, .ref h5, .ref h6, .ref h7, .ref h8, .ref h9, .ref h10, .ref h11, .ref h12, .int 1])), (h6, .inl (g 0, 6, .inl (fun _ => 0)))] sz [.ref h0, .int 1]) (va_Qi (fun (r : Int32) (_ : Unit) => r = -1) (dk_B D (va_A [(h0, .inr (11, [.ref h1, .ref h2, .ref h3, .ref h4, .ref h5, .ref h6, .ref h7, .ref h8, .ref h9, .ref h10, .ref h11, .ref h12, .int 1])), (h6, .inl (g 0, 6, .inl (fun _ => 0)))] sz) (fun (_ : Unit) => [(h0, .inr (11, [.ref h1, .ref h2, .ref h3, .ref h4, .ref h5, .ref h6, .ref h7, .ref h8, .ref h9, .ref h10, .ref h11, .ref h12, .int 1])), (h6, .inl (g 0, 6, .inl (upd (fun _ => 0) 1 1)))])) (va_A [(h0, .inr (11, [.ref h1, .ref h2, .ref h3, .ref h4, .ref h5, .ref h6, .ref h7, .ref h8, .ref h9, .ref h10, .ref h11, .ref h12, .int 1])), (h6, .inl (g 0, 6, .inl (fun _ => 0)))] sz)) 0 0 (va_A [(h0, .inr (11, [.ref h1, .ref h2, .ref h3, .ref h4, .ref h5, .ref h6, .ref h7, .ref h8, .ref h9, .ref h10, .ref h11, .ref h12, .int 1])), (h6, .inl (g 0, 6, .inl (fun _ => 0)))] sz) := by
  refine dk_met (cc := cX11_none) (maxL := 2) (ret := (some .int)) (by decide) rfl (Nat.le_of_ble_eq_true rfl) ?_
  intro p e s m args below meth c harg hx hb hr hml hts hown hlocks hin hP K hD hS hA hsz ls hl
  subst hsz
  generalize va_A [(h0, .inr (11, [.ref h1, .ref h2, .ref h3, .ref h4, .ref h5, .ref h6, .ref h7, .ref h8, .ref h9, .ref h10, .ref h11, .ref h12, .int 1])), (h6, .inl (g 0, 6, .inl (fun _ => 0)))] s.heap.size = A at hD hS hA ⊢
  have F : CallFix p m c cX11_none 2 s args wsX11_none RX11 := ⟨hx, hb, hml, hown, hts⟩
  have hl : lv_has ls 2 [(0, .ref h0), (1, .int 1)] := hl
  have iX11 : ∀ w ∈ wsX110, w ∈ wsX11_none := fun _ h => List.mem_cons_of_mem _ (List.mem_append_right _ h)
  refine lv_aload_n hx hb dX11_none_0 rfl (lv_at hl 0 rfl) ?_
  refine va_get (C := RX11) (T := TX11) (N := 13) hx hb hts iX11 hown K.1 hP 0 rfl rfl 5 (by decide) (hts (.fieldLink RX11 42 "DarkMine" "refusals" "[I") (by decide +kernel)) (fun _ h9 => h9) (v := .ref h6) rfl dX11_none_1 ?_
  refine lv_iload_n hx hb dX11_none_4 rfl (lv_at hl 1 rfl) ?_
  refine lv_dup2_11 hx hb dX11_none_5 rfl rfl ?_
  refine dk_iald hx hb K hP 1 rfl (dk_in (by decide +kernel)) (v := 0) rfl dX11_none_6 ?_
  refine lv_iconst (v := 1) hx hb dX11_none_7 (by decide +kernel) ?_
  refine lv_iadd hx hb dX11_none_8 ?_
  refine dk_top (y := 1) (by decide +kernel) ?_
  refine dk_iast hx hb K hP hD hS 1 rfl (upd (fun _ => 0) 1 1) (fun _ _ => rfl) (dk_in (by decide +kernel)) dX11_none_9 (fun H locs hP hD hS => ?_)
  have hP : va_P D vwCl [(h0, .inr (11, [.ref h1, .ref h2, .ref h3, .ref h4, .ref h5, .ref h6, .ref h7, .ref h8, .ref h9, .ref h10, .ref h11, .ref h12, .int 1])), (h6, .inl (g 0, 6, .inl (upd (fun _ => 0) 1 1)))] H := hP
  have hD : va_D A [(h0, .inr (11, [.ref h1, .ref h2, .ref h3, .ref h4, .ref h5, .ref h6, .ref h7, .ref h8, .ref h9, .ref h10, .ref h11, .ref h12, .int 1])), (h6, .inl (g 0, 6, .inl (upd (fun _ => 0) 1 1)))] := hD
  refine lv_iconst (v := (-1)) hx hb dX11_none_10 (by decide +kernel) ?_
  refine W.widen (k := 0) (n := 0) (Nat.le_of_ble_eq_true rfl) (Nat.le_of_ble_eq_true rfl) ?_
  exact dk_iret hx hb hr hlocks rfl hP hD hS () [0, 1] rfl (by decide) rfl dX11_none_11
set_option maxHeartbeats 8000000 in
set_option maxRecDepth 100000 in
theorem c_none_2 (l : Launch) (g : Nat → ClassId) (D : va_G) (h0 : Nat) (h1 : Nat) (h2 : Nat) (h3 : Nat) (h4 : Nat) (h5 : Nat) (h6 : Nat) (h7 : Nat) (h8 : Nat) (h9 : Nat) (h10 : Nat) (h11 : Nat) (h12 : Nat) (sz : Nat) : Met l yX11_none wsX11_none ({ frames := 1, cells := 0, slots := 0, locals := 32 } : Room) (dk_Pc g D [(h0, .inr (11, [.ref h1, .ref h2, .ref h3, .ref h4, .ref h5, .ref h6, .ref h7, .ref h8, .ref h9, .ref h10, .ref h11, .ref h12, .int 1])), (h6, .inl (g 0, 6, .inl (fun _ => 0)))] sz [.ref h0, .int 2]) (va_Qi (fun (r : Int32) (_ : Unit) => r = -1) (dk_B D (va_A [(h0, .inr (11, [.ref h1, .ref h2, .ref h3, .ref h4, .ref h5, .ref h6, .ref h7, .ref h8, .ref h9, .ref h10, .ref h11, .ref h12, .int 1])), (h6, .inl (g 0, 6, .inl (fun _ => 0)))] sz) (fun (_ : Unit) => [(h0, .inr (11, [.ref h1, .ref h2, .ref h3, .ref h4, .ref h5, .ref h6, .ref h7, .ref h8, .ref h9, .ref h10, .ref h11, .ref h12, .int 1])), (h6, .inl (g 0, 6, .inl (upd (fun _ => 0) 2 1)))])) (va_A [(h0, .inr (11, [.ref h1, .ref h2, .ref h3, .ref h4, .ref h5, .ref h6, .ref h7, .ref h8, .ref h9, .ref h10, .ref h11, .ref h12, .int 1])), (h6, .inl (g 0, 6, .inl (fun _ => 0)))] sz)) 0 0 (va_A [(h0, .inr (11, [.ref h1, .ref h2, .ref h3, .ref h4, .ref h5, .ref h6, .ref h7, .ref h8, .ref h9, .ref h10, .ref h11, .ref h12, .int 1])), (h6, .inl (g 0, 6, .inl (fun _ => 0)))] sz) := by
  refine dk_met (cc := cX11_none) (maxL := 2) (ret := (some .int)) (by decide) rfl (Nat.le_of_ble_eq_true rfl) ?_
  intro p e s m args below meth c harg hx hb hr hml hts hown hlocks hin hP K hD hS hA hsz ls hl
  subst hsz
  generalize va_A [(h0, .inr (11, [.ref h1, .ref h2, .ref h3, .ref h4, .ref h5, .ref h6, .ref h7, .ref h8, .ref h9, .ref h10, .ref h11, .ref h12, .int 1])), (h6, .inl (g 0, 6, .inl (fun _ => 0)))] s.heap.size = A at hD hS hA ⊢
  have F : CallFix p m c cX11_none 2 s args wsX11_none RX11 := ⟨hx, hb, hml, hown, hts⟩
  have hl : lv_has ls 2 [(0, .ref h0), (1, .int 2)] := hl
  have iX11 : ∀ w ∈ wsX110, w ∈ wsX11_none := fun _ h => List.mem_cons_of_mem _ (List.mem_append_right _ h)
  refine lv_aload_n hx hb dX11_none_0 rfl (lv_at hl 0 rfl) ?_
  refine va_get (C := RX11) (T := TX11) (N := 13) hx hb hts iX11 hown K.1 hP 0 rfl rfl 5 (by decide) (hts (.fieldLink RX11 42 "DarkMine" "refusals" "[I") (by decide +kernel)) (fun _ h9 => h9) (v := .ref h6) rfl dX11_none_1 ?_
  refine lv_iload_n hx hb dX11_none_4 rfl (lv_at hl 1 rfl) ?_
  refine lv_dup2_11 hx hb dX11_none_5 rfl rfl ?_
  refine dk_iald hx hb K hP 1 rfl (dk_in (by decide +kernel)) (v := 0) rfl dX11_none_6 ?_
  refine lv_iconst (v := 1) hx hb dX11_none_7 (by decide +kernel) ?_
  refine lv_iadd hx hb dX11_none_8 ?_
  refine dk_top (y := 1) (by decide +kernel) ?_
  refine dk_iast hx hb K hP hD hS 1 rfl (upd (fun _ => 0) 2 1) (fun _ _ => rfl) (dk_in (by decide +kernel)) dX11_none_9 (fun H locs hP hD hS => ?_)
  have hP : va_P D vwCl [(h0, .inr (11, [.ref h1, .ref h2, .ref h3, .ref h4, .ref h5, .ref h6, .ref h7, .ref h8, .ref h9, .ref h10, .ref h11, .ref h12, .int 1])), (h6, .inl (g 0, 6, .inl (upd (fun _ => 0) 2 1)))] H := hP
  have hD : va_D A [(h0, .inr (11, [.ref h1, .ref h2, .ref h3, .ref h4, .ref h5, .ref h6, .ref h7, .ref h8, .ref h9, .ref h10, .ref h11, .ref h12, .int 1])), (h6, .inl (g 0, 6, .inl (upd (fun _ => 0) 2 1)))] := hD
  refine lv_iconst (v := (-1)) hx hb dX11_none_10 (by decide +kernel) ?_
  refine W.widen (k := 0) (n := 0) (Nat.le_of_ble_eq_true rfl) (Nat.le_of_ble_eq_true rfl) ?_
  exact dk_iret hx hb hr hlocks rfl hP hD hS () [0, 1] rfl (by decide) rfl dX11_none_11
set_option maxHeartbeats 8000000 in
set_option maxRecDepth 100000 in
theorem c_none_3 (l : Launch) (g : Nat → ClassId) (D : va_G) (h0 : Nat) (h1 : Nat) (h2 : Nat) (h3 : Nat) (h4 : Nat) (h5 : Nat) (h6 : Nat) (h7 : Nat) (h8 : Nat) (h9 : Nat) (h10 : Nat) (h11 : Nat) (h12 : Nat) (sz : Nat) : Met l yX11_none wsX11_none ({ frames := 1, cells := 0, slots := 0, locals := 32 } : Room) (dk_Pc g D [(h0, .inr (11, [.ref h1, .ref h2, .ref h3, .ref h4, .ref h5, .ref h6, .ref h7, .ref h8, .ref h9, .ref h10, .ref h11, .ref h12, .int 1])), (h6, .inl (g 0, 6, .inl (fun _ => 0)))] sz [.ref h0, .int 3]) (va_Qi (fun (r : Int32) (_ : Unit) => r = -1) (dk_B D (va_A [(h0, .inr (11, [.ref h1, .ref h2, .ref h3, .ref h4, .ref h5, .ref h6, .ref h7, .ref h8, .ref h9, .ref h10, .ref h11, .ref h12, .int 1])), (h6, .inl (g 0, 6, .inl (fun _ => 0)))] sz) (fun (_ : Unit) => [(h0, .inr (11, [.ref h1, .ref h2, .ref h3, .ref h4, .ref h5, .ref h6, .ref h7, .ref h8, .ref h9, .ref h10, .ref h11, .ref h12, .int 1])), (h6, .inl (g 0, 6, .inl (upd (fun _ => 0) 3 1)))])) (va_A [(h0, .inr (11, [.ref h1, .ref h2, .ref h3, .ref h4, .ref h5, .ref h6, .ref h7, .ref h8, .ref h9, .ref h10, .ref h11, .ref h12, .int 1])), (h6, .inl (g 0, 6, .inl (fun _ => 0)))] sz)) 0 0 (va_A [(h0, .inr (11, [.ref h1, .ref h2, .ref h3, .ref h4, .ref h5, .ref h6, .ref h7, .ref h8, .ref h9, .ref h10, .ref h11, .ref h12, .int 1])), (h6, .inl (g 0, 6, .inl (fun _ => 0)))] sz) := by
  refine dk_met (cc := cX11_none) (maxL := 2) (ret := (some .int)) (by decide) rfl (Nat.le_of_ble_eq_true rfl) ?_
  intro p e s m args below meth c harg hx hb hr hml hts hown hlocks hin hP K hD hS hA hsz ls hl
  subst hsz
  generalize va_A [(h0, .inr (11, [.ref h1, .ref h2, .ref h3, .ref h4, .ref h5, .ref h6, .ref h7, .ref h8, .ref h9, .ref h10, .ref h11, .ref h12, .int 1])), (h6, .inl (g 0, 6, .inl (fun _ => 0)))] s.heap.size = A at hD hS hA ⊢
  have F : CallFix p m c cX11_none 2 s args wsX11_none RX11 := ⟨hx, hb, hml, hown, hts⟩
  have hl : lv_has ls 2 [(0, .ref h0), (1, .int 3)] := hl
  have iX11 : ∀ w ∈ wsX110, w ∈ wsX11_none := fun _ h => List.mem_cons_of_mem _ (List.mem_append_right _ h)
  refine lv_aload_n hx hb dX11_none_0 rfl (lv_at hl 0 rfl) ?_
  refine va_get (C := RX11) (T := TX11) (N := 13) hx hb hts iX11 hown K.1 hP 0 rfl rfl 5 (by decide) (hts (.fieldLink RX11 42 "DarkMine" "refusals" "[I") (by decide +kernel)) (fun _ h9 => h9) (v := .ref h6) rfl dX11_none_1 ?_
  refine lv_iload_n hx hb dX11_none_4 rfl (lv_at hl 1 rfl) ?_
  refine lv_dup2_11 hx hb dX11_none_5 rfl rfl ?_
  refine dk_iald hx hb K hP 1 rfl (dk_in (by decide +kernel)) (v := 0) rfl dX11_none_6 ?_
  refine lv_iconst (v := 1) hx hb dX11_none_7 (by decide +kernel) ?_
  refine lv_iadd hx hb dX11_none_8 ?_
  refine dk_top (y := 1) (by decide +kernel) ?_
  refine dk_iast hx hb K hP hD hS 1 rfl (upd (fun _ => 0) 3 1) (fun _ _ => rfl) (dk_in (by decide +kernel)) dX11_none_9 (fun H locs hP hD hS => ?_)
  have hP : va_P D vwCl [(h0, .inr (11, [.ref h1, .ref h2, .ref h3, .ref h4, .ref h5, .ref h6, .ref h7, .ref h8, .ref h9, .ref h10, .ref h11, .ref h12, .int 1])), (h6, .inl (g 0, 6, .inl (upd (fun _ => 0) 3 1)))] H := hP
  have hD : va_D A [(h0, .inr (11, [.ref h1, .ref h2, .ref h3, .ref h4, .ref h5, .ref h6, .ref h7, .ref h8, .ref h9, .ref h10, .ref h11, .ref h12, .int 1])), (h6, .inl (g 0, 6, .inl (upd (fun _ => 0) 3 1)))] := hD
  refine lv_iconst (v := (-1)) hx hb dX11_none_10 (by decide +kernel) ?_
  refine W.widen (k := 0) (n := 0) (Nat.le_of_ble_eq_true rfl) (Nat.le_of_ble_eq_true rfl) ?_
  exact dk_iret hx hb hr hlocks rfl hP hD hS () [0, 1] rfl (by decide) rfl dX11_none_11
set_option maxHeartbeats 8000000 in
set_option maxRecDepth 100000 in
theorem c_none_5 (l : Launch) (g : Nat → ClassId) (D : va_G) (h0 : Nat) (h1 : Nat) (h2 : Nat) (h3 : Nat) (h4 : Nat) (h5 : Nat) (h6 : Nat) (h7 : Nat) (h8 : Nat) (h9 : Nat) (h10 : Nat) (h11 : Nat) (h12 : Nat) (sz : Nat) : Met l yX11_none wsX11_none ({ frames := 1, cells := 0, slots := 0, locals := 32 } : Room) (dk_Pc g D [(h0, .inr (11, [.ref h1, .ref h2, .ref h3, .ref h4, .ref h5, .ref h6, .ref h7, .ref h8, .ref h9, .ref h10, .ref h11, .ref h12, .int 1])), (h6, .inl (g 0, 6, .inl (fun _ => 0)))] sz [.ref h0, .int 5]) (va_Qi (fun (r : Int32) (_ : Unit) => r = -1) (dk_B D (va_A [(h0, .inr (11, [.ref h1, .ref h2, .ref h3, .ref h4, .ref h5, .ref h6, .ref h7, .ref h8, .ref h9, .ref h10, .ref h11, .ref h12, .int 1])), (h6, .inl (g 0, 6, .inl (fun _ => 0)))] sz) (fun (_ : Unit) => [(h0, .inr (11, [.ref h1, .ref h2, .ref h3, .ref h4, .ref h5, .ref h6, .ref h7, .ref h8, .ref h9, .ref h10, .ref h11, .ref h12, .int 1])), (h6, .inl (g 0, 6, .inl (upd (fun _ => 0) 5 1)))])) (va_A [(h0, .inr (11, [.ref h1, .ref h2, .ref h3, .ref h4, .ref h5, .ref h6, .ref h7, .ref h8, .ref h9, .ref h10, .ref h11, .ref h12, .int 1])), (h6, .inl (g 0, 6, .inl (fun _ => 0)))] sz)) 0 0 (va_A [(h0, .inr (11, [.ref h1, .ref h2, .ref h3, .ref h4, .ref h5, .ref h6, .ref h7, .ref h8, .ref h9, .ref h10, .ref h11, .ref h12, .int 1])), (h6, .inl (g 0, 6, .inl (fun _ => 0)))] sz) := by
  refine dk_met (cc := cX11_none) (maxL := 2) (ret := (some .int)) (by decide) rfl (Nat.le_of_ble_eq_true rfl) ?_
  intro p e s m args below meth c harg hx hb hr hml hts hown hlocks hin hP K hD hS hA hsz ls hl
  subst hsz
  generalize va_A [(h0, .inr (11, [.ref h1, .ref h2, .ref h3, .ref h4, .ref h5, .ref h6, .ref h7, .ref h8, .ref h9, .ref h10, .ref h11, .ref h12, .int 1])), (h6, .inl (g 0, 6, .inl (fun _ => 0)))] s.heap.size = A at hD hS hA ⊢
  have F : CallFix p m c cX11_none 2 s args wsX11_none RX11 := ⟨hx, hb, hml, hown, hts⟩
  have hl : lv_has ls 2 [(0, .ref h0), (1, .int 5)] := hl
  have iX11 : ∀ w ∈ wsX110, w ∈ wsX11_none := fun _ h => List.mem_cons_of_mem _ (List.mem_append_right _ h)
  refine lv_aload_n hx hb dX11_none_0 rfl (lv_at hl 0 rfl) ?_
  refine va_get (C := RX11) (T := TX11) (N := 13) hx hb hts iX11 hown K.1 hP 0 rfl rfl 5 (by decide) (hts (.fieldLink RX11 42 "DarkMine" "refusals" "[I") (by decide +kernel)) (fun _ h9 => h9) (v := .ref h6) rfl dX11_none_1 ?_
  refine lv_iload_n hx hb dX11_none_4 rfl (lv_at hl 1 rfl) ?_
  refine lv_dup2_11 hx hb dX11_none_5 rfl rfl ?_
  refine dk_iald hx hb K hP 1 rfl (dk_in (by decide +kernel)) (v := 0) rfl dX11_none_6 ?_
  refine lv_iconst (v := 1) hx hb dX11_none_7 (by decide +kernel) ?_
  refine lv_iadd hx hb dX11_none_8 ?_
  refine dk_top (y := 1) (by decide +kernel) ?_
  refine dk_iast hx hb K hP hD hS 1 rfl (upd (fun _ => 0) 5 1) (fun _ _ => rfl) (dk_in (by decide +kernel)) dX11_none_9 (fun H locs hP hD hS => ?_)
  have hP : va_P D vwCl [(h0, .inr (11, [.ref h1, .ref h2, .ref h3, .ref h4, .ref h5, .ref h6, .ref h7, .ref h8, .ref h9, .ref h10, .ref h11, .ref h12, .int 1])), (h6, .inl (g 0, 6, .inl (upd (fun _ => 0) 5 1)))] H := hP
  have hD : va_D A [(h0, .inr (11, [.ref h1, .ref h2, .ref h3, .ref h4, .ref h5, .ref h6, .ref h7, .ref h8, .ref h9, .ref h10, .ref h11, .ref h12, .int 1])), (h6, .inl (g 0, 6, .inl (upd (fun _ => 0) 5 1)))] := hD
  refine lv_iconst (v := (-1)) hx hb dX11_none_10 (by decide +kernel) ?_
  refine W.widen (k := 0) (n := 0) (Nat.le_of_ble_eq_true rfl) (Nat.le_of_ble_eq_true rfl) ?_
  exact dk_iret hx hb hr hlocks rfl hP hD hS () [0, 1] rfl (by decide) rfl dX11_none_11
set_option maxHeartbeats 8000000 in
set_option maxRecDepth 100000 in
theorem c_no_0 (l : Launch) (g : Nat → ClassId) (D : va_G) (h0 : Nat) (h1 : Nat) (h2 : Nat) (h3 : Nat) (h4 : Nat) (h5 : Nat) (h6 : Nat) (h7 : Nat) (h8 : Nat) (h9 : Nat) (h10 : Nat) (h11 : Nat) (h12 : Nat) (sz : Nat) : Met l yX11_no wsX11_no ({ frames := 1, cells := 0, slots := 0, locals := 32 } : Room) (dk_Pc g D [(h0, .inr (11, [.ref h1, .ref h2, .ref h3, .ref h4, .ref h5, .ref h6, .ref h7, .ref h8, .ref h9, .ref h10, .ref h11, .ref h12, .int 1])), (h6, .inl (g 0, 6, .inl (fun _ => 0)))] sz [.ref h0, .int 0]) (va_Qi (fun (r : Int32) (_ : Unit) => r = 0) (dk_B D (va_A [(h0, .inr (11, [.ref h1, .ref h2, .ref h3, .ref h4, .ref h5, .ref h6, .ref h7, .ref h8, .ref h9, .ref h10, .ref h11, .ref h12, .int 1])), (h6, .inl (g 0, 6, .inl (fun _ => 0)))] sz) (fun (_ : Unit) => [(h0, .inr (11, [.ref h1, .ref h2, .ref h3, .ref h4, .ref h5, .ref h6, .ref h7, .ref h8, .ref h9, .ref h10, .ref h11, .ref h12, .int 1])), (h6, .inl (g 0, 6, .inl (upd (fun _ => 0) 0 1)))])) (va_A [(h0, .inr (11, [.ref h1, .ref h2, .ref h3, .ref h4, .ref h5, .ref h6, .ref h7, .ref h8, .ref h9, .ref h10, .ref h11, .ref h12, .int 1])), (h6, .inl (g 0, 6, .inl (fun _ => 0)))] sz)) 0 0 (va_A [(h0, .inr (11, [.ref h1, .ref h2, .ref h3, .ref h4, .ref h5, .ref h6, .ref h7, .ref h8, .ref h9, .ref h10, .ref h11, .ref h12, .int 1])), (h6, .inl (g 0, 6, .inl (fun _ => 0)))] sz) := by
  refine dk_met (cc := cX11_no) (maxL := 2) (ret := (some .boolean)) (by decide) rfl (Nat.le_of_ble_eq_true rfl) ?_
  intro p e s m args below meth c harg hx hb hr hml hts hown hlocks hin hP K hD hS hA hsz ls hl
  subst hsz
  generalize va_A [(h0, .inr (11, [.ref h1, .ref h2, .ref h3, .ref h4, .ref h5, .ref h6, .ref h7, .ref h8, .ref h9, .ref h10, .ref h11, .ref h12, .int 1])), (h6, .inl (g 0, 6, .inl (fun _ => 0)))] s.heap.size = A at hD hS hA ⊢
  have F : CallFix p m c cX11_no 2 s args wsX11_no RX11 := ⟨hx, hb, hml, hown, hts⟩
  have hl : lv_has ls 2 [(0, .ref h0), (1, .int 0)] := hl
  have iX11 : ∀ w ∈ wsX110, w ∈ wsX11_no := fun _ h => List.mem_cons_of_mem _ (List.mem_append_right _ h)
  refine lv_aload_n hx hb dX11_no_0 rfl (lv_at hl 0 rfl) ?_
  refine va_get (C := RX11) (T := TX11) (N := 13) hx hb hts iX11 hown K.1 hP 0 rfl rfl 5 (by decide) (hts (.fieldLink RX11 42 "DarkMine" "refusals" "[I") (by decide +kernel)) (fun _ h9 => h9) (v := .ref h6) rfl dX11_no_1 ?_
  refine lv_iload_n hx hb dX11_no_4 rfl (lv_at hl 1 rfl) ?_
  refine lv_dup2_11 hx hb dX11_no_5 rfl rfl ?_
  refine dk_iald hx hb K hP 1 rfl (dk_in (by decide +kernel)) (v := 0) rfl dX11_no_6 ?_
  refine lv_iconst (v := 1) hx hb dX11_no_7 (by decide +kernel) ?_
  refine lv_iadd hx hb dX11_no_8 ?_
  refine dk_top (y := 1) (by decide +kernel) ?_
  refine dk_iast hx hb K hP hD hS 1 rfl (upd (fun _ => 0) 0 1) (fun _ _ => rfl) (dk_in (by decide +kernel)) dX11_no_9 (fun H locs hP hD hS => ?_)
  have hP : va_P D vwCl [(h0, .inr (11, [.ref h1, .ref h2, .ref h3, .ref h4, .ref h5, .ref h6, .ref h7, .ref h8, .ref h9, .ref h10, .ref h11, .ref h12, .int 1])), (h6, .inl (g 0, 6, .inl (upd (fun _ => 0) 0 1)))] H := hP
  have hD : va_D A [(h0, .inr (11, [.ref h1, .ref h2, .ref h3, .ref h4, .ref h5, .ref h6, .ref h7, .ref h8, .ref h9, .ref h10, .ref h11, .ref h12, .int 1])), (h6, .inl (g 0, 6, .inl (upd (fun _ => 0) 0 1)))] := hD
  refine lv_iconst (v := 0) hx hb dX11_no_10 (by decide +kernel) ?_
  refine W.widen (k := 0) (n := 0) (Nat.le_of_ble_eq_true rfl) (Nat.le_of_ble_eq_true rfl) ?_
  exact dk_iret hx hb hr hlocks (by decide +kernel) hP hD hS () [0, 1] rfl (by decide) rfl dX11_no_11
set_option maxHeartbeats 8000000 in
set_option maxRecDepth 100000 in
theorem c_no_3 (l : Launch) (g : Nat → ClassId) (D : va_G) (h0 : Nat) (h1 : Nat) (h2 : Nat) (h3 : Nat) (h4 : Nat) (h5 : Nat) (h6 : Nat) (h7 : Nat) (h8 : Nat) (h9 : Nat) (h10 : Nat) (h11 : Nat) (h12 : Nat) (sz : Nat) : Met l yX11_no wsX11_no ({ frames := 1, cells := 0, slots := 0, locals := 32 } : Room) (dk_Pc g D [(h0, .inr (11, [.ref h1, .ref h2, .ref h3, .ref h4, .ref h5, .ref h6, .ref h7, .ref h8, .ref h9, .ref h10, .ref h11, .ref h12, .int 1])), (h6, .inl (g 0, 6, .inl (fun _ => 0)))] sz [.ref h0, .int 3]) (va_Qi (fun (r : Int32) (_ : Unit) => r = 0) (dk_B D (va_A [(h0, .inr (11, [.ref h1, .ref h2, .ref h3, .ref h4, .ref h5, .ref h6, .ref h7, .ref h8, .ref h9, .ref h10, .ref h11, .ref h12, .int 1])), (h6, .inl (g 0, 6, .inl (fun _ => 0)))] sz) (fun (_ : Unit) => [(h0, .inr (11, [.ref h1, .ref h2, .ref h3, .ref h4, .ref h5, .ref h6, .ref h7, .ref h8, .ref h9, .ref h10, .ref h11, .ref h12, .int 1])), (h6, .inl (g 0, 6, .inl (upd (fun _ => 0) 3 1)))])) (va_A [(h0, .inr (11, [.ref h1, .ref h2, .ref h3, .ref h4, .ref h5, .ref h6, .ref h7, .ref h8, .ref h9, .ref h10, .ref h11, .ref h12, .int 1])), (h6, .inl (g 0, 6, .inl (fun _ => 0)))] sz)) 0 0 (va_A [(h0, .inr (11, [.ref h1, .ref h2, .ref h3, .ref h4, .ref h5, .ref h6, .ref h7, .ref h8, .ref h9, .ref h10, .ref h11, .ref h12, .int 1])), (h6, .inl (g 0, 6, .inl (fun _ => 0)))] sz) := by
  refine dk_met (cc := cX11_no) (maxL := 2) (ret := (some .boolean)) (by decide) rfl (Nat.le_of_ble_eq_true rfl) ?_
  intro p e s m args below meth c harg hx hb hr hml hts hown hlocks hin hP K hD hS hA hsz ls hl
  subst hsz
  generalize va_A [(h0, .inr (11, [.ref h1, .ref h2, .ref h3, .ref h4, .ref h5, .ref h6, .ref h7, .ref h8, .ref h9, .ref h10, .ref h11, .ref h12, .int 1])), (h6, .inl (g 0, 6, .inl (fun _ => 0)))] s.heap.size = A at hD hS hA ⊢
  have F : CallFix p m c cX11_no 2 s args wsX11_no RX11 := ⟨hx, hb, hml, hown, hts⟩
  have hl : lv_has ls 2 [(0, .ref h0), (1, .int 3)] := hl
  have iX11 : ∀ w ∈ wsX110, w ∈ wsX11_no := fun _ h => List.mem_cons_of_mem _ (List.mem_append_right _ h)
  refine lv_aload_n hx hb dX11_no_0 rfl (lv_at hl 0 rfl) ?_
  refine va_get (C := RX11) (T := TX11) (N := 13) hx hb hts iX11 hown K.1 hP 0 rfl rfl 5 (by decide) (hts (.fieldLink RX11 42 "DarkMine" "refusals" "[I") (by decide +kernel)) (fun _ h9 => h9) (v := .ref h6) rfl dX11_no_1 ?_
  refine lv_iload_n hx hb dX11_no_4 rfl (lv_at hl 1 rfl) ?_
  refine lv_dup2_11 hx hb dX11_no_5 rfl rfl ?_
  refine dk_iald hx hb K hP 1 rfl (dk_in (by decide +kernel)) (v := 0) rfl dX11_no_6 ?_
  refine lv_iconst (v := 1) hx hb dX11_no_7 (by decide +kernel) ?_
  refine lv_iadd hx hb dX11_no_8 ?_
  refine dk_top (y := 1) (by decide +kernel) ?_
  refine dk_iast hx hb K hP hD hS 1 rfl (upd (fun _ => 0) 3 1) (fun _ _ => rfl) (dk_in (by decide +kernel)) dX11_no_9 (fun H locs hP hD hS => ?_)
  have hP : va_P D vwCl [(h0, .inr (11, [.ref h1, .ref h2, .ref h3, .ref h4, .ref h5, .ref h6, .ref h7, .ref h8, .ref h9, .ref h10, .ref h11, .ref h12, .int 1])), (h6, .inl (g 0, 6, .inl (upd (fun _ => 0) 3 1)))] H := hP
  have hD : va_D A [(h0, .inr (11, [.ref h1, .ref h2, .ref h3, .ref h4, .ref h5, .ref h6, .ref h7, .ref h8, .ref h9, .ref h10, .ref h11, .ref h12, .int 1])), (h6, .inl (g 0, 6, .inl (upd (fun _ => 0) 3 1)))] := hD
  refine lv_iconst (v := 0) hx hb dX11_no_10 (by decide +kernel) ?_
  refine W.widen (k := 0) (n := 0) (Nat.le_of_ble_eq_true rfl) (Nat.le_of_ble_eq_true rfl) ?_
  exact dk_iret hx hb hr hlocks (by decide +kernel) hP hD hS () [0, 1] rfl (by decide) rfl dX11_no_11
set_option maxHeartbeats 8000000 in
set_option maxRecDepth 100000 in
theorem c_no_4 (l : Launch) (g : Nat → ClassId) (D : va_G) (h0 : Nat) (h1 : Nat) (h2 : Nat) (h3 : Nat) (h4 : Nat) (h5 : Nat) (h6 : Nat) (h7 : Nat) (h8 : Nat) (h9 : Nat) (h10 : Nat) (h11 : Nat) (h12 : Nat) (sz : Nat) : Met l yX11_no wsX11_no ({ frames := 1, cells := 0, slots := 0, locals := 32 } : Room) (dk_Pc g D [(h0, .inr (11, [.ref h1, .ref h2, .ref h3, .ref h4, .ref h5, .ref h6, .ref h7, .ref h8, .ref h9, .ref h10, .ref h11, .ref h12, .int 1])), (h6, .inl (g 0, 6, .inl (fun _ => 0)))] sz [.ref h0, .int 4]) (va_Qi (fun (r : Int32) (_ : Unit) => r = 0) (dk_B D (va_A [(h0, .inr (11, [.ref h1, .ref h2, .ref h3, .ref h4, .ref h5, .ref h6, .ref h7, .ref h8, .ref h9, .ref h10, .ref h11, .ref h12, .int 1])), (h6, .inl (g 0, 6, .inl (fun _ => 0)))] sz) (fun (_ : Unit) => [(h0, .inr (11, [.ref h1, .ref h2, .ref h3, .ref h4, .ref h5, .ref h6, .ref h7, .ref h8, .ref h9, .ref h10, .ref h11, .ref h12, .int 1])), (h6, .inl (g 0, 6, .inl (upd (fun _ => 0) 4 1)))])) (va_A [(h0, .inr (11, [.ref h1, .ref h2, .ref h3, .ref h4, .ref h5, .ref h6, .ref h7, .ref h8, .ref h9, .ref h10, .ref h11, .ref h12, .int 1])), (h6, .inl (g 0, 6, .inl (fun _ => 0)))] sz)) 0 0 (va_A [(h0, .inr (11, [.ref h1, .ref h2, .ref h3, .ref h4, .ref h5, .ref h6, .ref h7, .ref h8, .ref h9, .ref h10, .ref h11, .ref h12, .int 1])), (h6, .inl (g 0, 6, .inl (fun _ => 0)))] sz) := by
  refine dk_met (cc := cX11_no) (maxL := 2) (ret := (some .boolean)) (by decide) rfl (Nat.le_of_ble_eq_true rfl) ?_
  intro p e s m args below meth c harg hx hb hr hml hts hown hlocks hin hP K hD hS hA hsz ls hl
  subst hsz
  generalize va_A [(h0, .inr (11, [.ref h1, .ref h2, .ref h3, .ref h4, .ref h5, .ref h6, .ref h7, .ref h8, .ref h9, .ref h10, .ref h11, .ref h12, .int 1])), (h6, .inl (g 0, 6, .inl (fun _ => 0)))] s.heap.size = A at hD hS hA ⊢
  have F : CallFix p m c cX11_no 2 s args wsX11_no RX11 := ⟨hx, hb, hml, hown, hts⟩
  have hl : lv_has ls 2 [(0, .ref h0), (1, .int 4)] := hl
  have iX11 : ∀ w ∈ wsX110, w ∈ wsX11_no := fun _ h => List.mem_cons_of_mem _ (List.mem_append_right _ h)
  refine lv_aload_n hx hb dX11_no_0 rfl (lv_at hl 0 rfl) ?_
  refine va_get (C := RX11) (T := TX11) (N := 13) hx hb hts iX11 hown K.1 hP 0 rfl rfl 5 (by decide) (hts (.fieldLink RX11 42 "DarkMine" "refusals" "[I") (by decide +kernel)) (fun _ h9 => h9) (v := .ref h6) rfl dX11_no_1 ?_
  refine lv_iload_n hx hb dX11_no_4 rfl (lv_at hl 1 rfl) ?_
  refine lv_dup2_11 hx hb dX11_no_5 rfl rfl ?_
  refine dk_iald hx hb K hP 1 rfl (dk_in (by decide +kernel)) (v := 0) rfl dX11_no_6 ?_
  refine lv_iconst (v := 1) hx hb dX11_no_7 (by decide +kernel) ?_
  refine lv_iadd hx hb dX11_no_8 ?_
  refine dk_top (y := 1) (by decide +kernel) ?_
  refine dk_iast hx hb K hP hD hS 1 rfl (upd (fun _ => 0) 4 1) (fun _ _ => rfl) (dk_in (by decide +kernel)) dX11_no_9 (fun H locs hP hD hS => ?_)
  have hP : va_P D vwCl [(h0, .inr (11, [.ref h1, .ref h2, .ref h3, .ref h4, .ref h5, .ref h6, .ref h7, .ref h8, .ref h9, .ref h10, .ref h11, .ref h12, .int 1])), (h6, .inl (g 0, 6, .inl (upd (fun _ => 0) 4 1)))] H := hP
  have hD : va_D A [(h0, .inr (11, [.ref h1, .ref h2, .ref h3, .ref h4, .ref h5, .ref h6, .ref h7, .ref h8, .ref h9, .ref h10, .ref h11, .ref h12, .int 1])), (h6, .inl (g 0, 6, .inl (upd (fun _ => 0) 4 1)))] := hD
  refine lv_iconst (v := 0) hx hb dX11_no_10 (by decide +kernel) ?_
  refine W.widen (k := 0) (n := 0) (Nat.le_of_ble_eq_true rfl) (Nat.le_of_ble_eq_true rfl) ?_
  exact dk_iret hx hb hr hlocks (by decide +kernel) hP hD hS () [0, 1] rfl (by decide) rfl dX11_no_11
set_option maxHeartbeats 8000000 in
set_option maxRecDepth 100000 in
theorem c_no_5 (l : Launch) (g : Nat → ClassId) (D : va_G) (h0 : Nat) (h1 : Nat) (h2 : Nat) (h3 : Nat) (h4 : Nat) (h5 : Nat) (h6 : Nat) (h7 : Nat) (h8 : Nat) (h9 : Nat) (h10 : Nat) (h11 : Nat) (h12 : Nat) (sz : Nat) : Met l yX11_no wsX11_no ({ frames := 1, cells := 0, slots := 0, locals := 32 } : Room) (dk_Pc g D [(h0, .inr (11, [.ref h1, .ref h2, .ref h3, .ref h4, .ref h5, .ref h6, .ref h7, .ref h8, .ref h9, .ref h10, .ref h11, .ref h12, .int 1])), (h6, .inl (g 0, 6, .inl (fun _ => 0)))] sz [.ref h0, .int 5]) (va_Qi (fun (r : Int32) (_ : Unit) => r = 0) (dk_B D (va_A [(h0, .inr (11, [.ref h1, .ref h2, .ref h3, .ref h4, .ref h5, .ref h6, .ref h7, .ref h8, .ref h9, .ref h10, .ref h11, .ref h12, .int 1])), (h6, .inl (g 0, 6, .inl (fun _ => 0)))] sz) (fun (_ : Unit) => [(h0, .inr (11, [.ref h1, .ref h2, .ref h3, .ref h4, .ref h5, .ref h6, .ref h7, .ref h8, .ref h9, .ref h10, .ref h11, .ref h12, .int 1])), (h6, .inl (g 0, 6, .inl (upd (fun _ => 0) 5 1)))])) (va_A [(h0, .inr (11, [.ref h1, .ref h2, .ref h3, .ref h4, .ref h5, .ref h6, .ref h7, .ref h8, .ref h9, .ref h10, .ref h11, .ref h12, .int 1])), (h6, .inl (g 0, 6, .inl (fun _ => 0)))] sz)) 0 0 (va_A [(h0, .inr (11, [.ref h1, .ref h2, .ref h3, .ref h4, .ref h5, .ref h6, .ref h7, .ref h8, .ref h9, .ref h10, .ref h11, .ref h12, .int 1])), (h6, .inl (g 0, 6, .inl (fun _ => 0)))] sz) := by
  refine dk_met (cc := cX11_no) (maxL := 2) (ret := (some .boolean)) (by decide) rfl (Nat.le_of_ble_eq_true rfl) ?_
  intro p e s m args below meth c harg hx hb hr hml hts hown hlocks hin hP K hD hS hA hsz ls hl
  subst hsz
  generalize va_A [(h0, .inr (11, [.ref h1, .ref h2, .ref h3, .ref h4, .ref h5, .ref h6, .ref h7, .ref h8, .ref h9, .ref h10, .ref h11, .ref h12, .int 1])), (h6, .inl (g 0, 6, .inl (fun _ => 0)))] s.heap.size = A at hD hS hA ⊢
  have F : CallFix p m c cX11_no 2 s args wsX11_no RX11 := ⟨hx, hb, hml, hown, hts⟩
  have hl : lv_has ls 2 [(0, .ref h0), (1, .int 5)] := hl
  have iX11 : ∀ w ∈ wsX110, w ∈ wsX11_no := fun _ h => List.mem_cons_of_mem _ (List.mem_append_right _ h)
  refine lv_aload_n hx hb dX11_no_0 rfl (lv_at hl 0 rfl) ?_
  refine va_get (C := RX11) (T := TX11) (N := 13) hx hb hts iX11 hown K.1 hP 0 rfl rfl 5 (by decide) (hts (.fieldLink RX11 42 "DarkMine" "refusals" "[I") (by decide +kernel)) (fun _ h9 => h9) (v := .ref h6) rfl dX11_no_1 ?_
  refine lv_iload_n hx hb dX11_no_4 rfl (lv_at hl 1 rfl) ?_
  refine lv_dup2_11 hx hb dX11_no_5 rfl rfl ?_
  refine dk_iald hx hb K hP 1 rfl (dk_in (by decide +kernel)) (v := 0) rfl dX11_no_6 ?_
  refine lv_iconst (v := 1) hx hb dX11_no_7 (by decide +kernel) ?_
  refine lv_iadd hx hb dX11_no_8 ?_
  refine dk_top (y := 1) (by decide +kernel) ?_
  refine dk_iast hx hb K hP hD hS 1 rfl (upd (fun _ => 0) 5 1) (fun _ _ => rfl) (dk_in (by decide +kernel)) dX11_no_9 (fun H locs hP hD hS => ?_)
  have hP : va_P D vwCl [(h0, .inr (11, [.ref h1, .ref h2, .ref h3, .ref h4, .ref h5, .ref h6, .ref h7, .ref h8, .ref h9, .ref h10, .ref h11, .ref h12, .int 1])), (h6, .inl (g 0, 6, .inl (upd (fun _ => 0) 5 1)))] H := hP
  have hD : va_D A [(h0, .inr (11, [.ref h1, .ref h2, .ref h3, .ref h4, .ref h5, .ref h6, .ref h7, .ref h8, .ref h9, .ref h10, .ref h11, .ref h12, .int 1])), (h6, .inl (g 0, 6, .inl (upd (fun _ => 0) 5 1)))] := hD
  refine lv_iconst (v := 0) hx hb dX11_no_10 (by decide +kernel) ?_
  refine W.widen (k := 0) (n := 0) (Nat.le_of_ble_eq_true rfl) (Nat.le_of_ble_eq_true rfl) ?_
  exact dk_iret hx hb hr hlocks (by decide +kernel) hP hD hS () [0, 1] rfl (by decide) rfl dX11_no_11
set_option maxHeartbeats 8000000 in
set_option maxRecDepth 100000 in
theorem c_X2_hasMiner (l : Launch) (g : Nat → ClassId) (D : va_G) (h0 : Nat) (h1 : Nat) (h2 : Nat) (h3 : Nat) (h4 : Nat) (h5 : Nat) (h6 : Nat) (h7 : Nat) (h8 : Nat) (h9 : Nat) (h10 : Nat) (h11 : Nat) (a1 : Int32) (sz : Nat) : Met l yX2_hasMiner wsX2_hasMiner ({ frames := 1, cells := 0, slots := 0, locals := 32 } : Room) (dk_Pc g D [(h0, .inr (2, [.int 0, .int 0, .int (-1), .int 0, .int 0, .ref h1, .int 0, .ref h2, .int 0, .ref h3, .ref h4, .int 0, .ref h5, .ref h6, .ref h7, .ref h8, .ref h9, .ref h10, .ref h11]))] sz [.ref h0, .int a1]) (va_Qi (fun (r : Int32) (_ : Unit) => r = 0) (dk_B D (va_A [(h0, .inr (2, [.int 0, .int 0, .int (-1), .int 0, .int 0, .ref h1, .int 0, .ref h2, .int 0, .ref h3, .ref h4, .int 0, .ref h5, .ref h6, .ref h7, .ref h8, .ref h9, .ref h10, .ref h11]))] sz) (fun (_ : Unit) => [(h0, .inr (2, [.int 0, .int 0, .int (-1), .int 0, .int 0, .ref h1, .int 0, .ref h2, .int 0, .ref h3, .ref h4, .int 0, .ref h5, .ref h6, .ref h7, .ref h8, .ref h9, .ref h10, .ref h11]))])) (va_A [(h0, .inr (2, [.int 0, .int 0, .int (-1), .int 0, .int 0, .ref h1, .int 0, .ref h2, .int 0, .ref h3, .ref h4, .int 0, .ref h5, .ref h6, .ref h7, .ref h8, .ref h9, .ref h10, .ref h11]))] sz)) 0 0 (va_A [(h0, .inr (2, [.int 0, .int 0, .int (-1), .int 0, .int 0, .ref h1, .int 0, .ref h2, .int 0, .ref h3, .ref h4, .int 0, .ref h5, .ref h6, .ref h7, .ref h8, .ref h9, .ref h10, .ref h11]))] sz) := by
  refine dk_met (cc := cX2_hasMiner) (maxL := 2) (ret := (some .boolean)) (by decide) rfl (Nat.le_of_ble_eq_true rfl) ?_
  intro p e s m args below meth c harg hx hb hr hml hts hown hlocks hin hP K hD hS hA hsz ls hl
  subst hsz
  generalize va_A [(h0, .inr (2, [.int 0, .int 0, .int (-1), .int 0, .int 0, .ref h1, .int 0, .ref h2, .int 0, .ref h3, .ref h4, .int 0, .ref h5, .ref h6, .ref h7, .ref h8, .ref h9, .ref h10, .ref h11]))] s.heap.size = A at hD hS hA ⊢
  have F : CallFix p m c cX2_hasMiner 2 s args wsX2_hasMiner RX2 := ⟨hx, hb, hml, hown, hts⟩
  have hl : lv_has ls 2 [(0, .ref h0), (1, .int a1)] := hl
  have iX2 : ∀ w ∈ wsX20, w ∈ wsX2_hasMiner := fun _ h => List.mem_cons_of_mem _ (List.mem_append_right _ h)
  refine lv_iload_n hx hb dX2_hasMiner_0 rfl (lv_at hl 1 rfl) ?_
  refine lv_if_lt (tgt := 16) hx hb dX2_hasMiner_1 (by decide) (fun c_1 => ?_) (fun c_1 => ?_)
  · have jc_1 := dk_ltc (k := 0) (by decide +kernel) c_1
    refine lv_iconst (v := 0) hx hb dX2_hasMiner_16 (by decide +kernel) ?_
    refine W.widen (k := 0) (n := 0) (Nat.le_of_ble_eq_true rfl) (Nat.le_of_ble_eq_true rfl) ?_
    exact dk_iret hx hb hr hlocks (by decide +kernel) hP hD hS () [0] rfl (by decide) rfl dX2_hasMiner_17
  · have jc_1 := dk_nltc (k := 0) (by decide +kernel) c_1
    refine lv_iload_n hx hb dX2_hasMiner_4 rfl (lv_at hl 1 rfl) ?_
    refine lv_aload_n hx hb dX2_hasMiner_5 rfl (lv_at hl 0 rfl) ?_
    refine va_get (C := RX2) (T := TX2) (N := 19) hx hb hts iX2 hown K.1 hP 0 rfl rfl 6 (by decide) (hts (.fieldLink RX2 67 "DarkMine$Ground" "miners" "I") (by decide +kernel)) (fun _ h9 => h9) (v := .int 0) rfl dX2_hasMiner_6 ?_
    refine lv_icmp_ge (tgt := 16) hx hb dX2_hasMiner_9 (by decide) (fun _ => ?_) (fun c => absurd (dk_gep (k := 0) (by decide +kernel) (by omega)) c)
    refine lv_iconst (v := 0) hx hb dX2_hasMiner_16 (by decide +kernel) ?_
    refine W.widen (k := 0) (n := 0) (Nat.le_of_ble_eq_true rfl) (Nat.le_of_ble_eq_true rfl) ?_
    exact dk_iret hx hb hr hlocks (by decide +kernel) hP hD hS () [0] rfl (by decide) rfl dX2_hasMiner_17
set_option maxHeartbeats 8000000 in
set_option maxRecDepth 100000 in
theorem c_X2_hasPlanRow (l : Launch) (g : Nat → ClassId) (D : va_G) (h0 : Nat) (h1 : Nat) (h2 : Nat) (h3 : Nat) (h4 : Nat) (h5 : Nat) (h6 : Nat) (h7 : Nat) (h8 : Nat) (h9 : Nat) (h10 : Nat) (h11 : Nat) (a1 : Int32) (sz : Nat) : Met l yX2_hasPlanRow wsX2_hasPlanRow ({ frames := 1, cells := 0, slots := 0, locals := 32 } : Room) (dk_Pc g D [(h0, .inr (2, [.int 0, .int 0, .int (-1), .int 0, .int 0, .ref h1, .int 0, .ref h2, .int 0, .ref h3, .ref h4, .int 0, .ref h5, .ref h6, .ref h7, .ref h8, .ref h9, .ref h10, .ref h11]))] sz [.ref h0, .int a1]) (va_Qi (fun (r : Int32) (_ : Unit) => r = 0) (dk_B D (va_A [(h0, .inr (2, [.int 0, .int 0, .int (-1), .int 0, .int 0, .ref h1, .int 0, .ref h2, .int 0, .ref h3, .ref h4, .int 0, .ref h5, .ref h6, .ref h7, .ref h8, .ref h9, .ref h10, .ref h11]))] sz) (fun (_ : Unit) => [(h0, .inr (2, [.int 0, .int 0, .int (-1), .int 0, .int 0, .ref h1, .int 0, .ref h2, .int 0, .ref h3, .ref h4, .int 0, .ref h5, .ref h6, .ref h7, .ref h8, .ref h9, .ref h10, .ref h11]))])) (va_A [(h0, .inr (2, [.int 0, .int 0, .int (-1), .int 0, .int 0, .ref h1, .int 0, .ref h2, .int 0, .ref h3, .ref h4, .int 0, .ref h5, .ref h6, .ref h7, .ref h8, .ref h9, .ref h10, .ref h11]))] sz)) 0 0 (va_A [(h0, .inr (2, [.int 0, .int 0, .int (-1), .int 0, .int 0, .ref h1, .int 0, .ref h2, .int 0, .ref h3, .ref h4, .int 0, .ref h5, .ref h6, .ref h7, .ref h8, .ref h9, .ref h10, .ref h11]))] sz) := by
  refine dk_met (cc := cX2_hasPlanRow) (maxL := 2) (ret := (some .boolean)) (by decide) rfl (Nat.le_of_ble_eq_true rfl) ?_
  intro p e s m args below meth c harg hx hb hr hml hts hown hlocks hin hP K hD hS hA hsz ls hl
  subst hsz
  generalize va_A [(h0, .inr (2, [.int 0, .int 0, .int (-1), .int 0, .int 0, .ref h1, .int 0, .ref h2, .int 0, .ref h3, .ref h4, .int 0, .ref h5, .ref h6, .ref h7, .ref h8, .ref h9, .ref h10, .ref h11]))] s.heap.size = A at hD hS hA ⊢
  have F : CallFix p m c cX2_hasPlanRow 2 s args wsX2_hasPlanRow RX2 := ⟨hx, hb, hml, hown, hts⟩
  have hl : lv_has ls 2 [(0, .ref h0), (1, .int a1)] := hl
  have iX2 : ∀ w ∈ wsX20, w ∈ wsX2_hasPlanRow := fun _ h => List.mem_cons_of_mem _ (List.mem_append_right _ h)
  refine lv_iload_n hx hb dX2_hasPlanRow_0 rfl (lv_at hl 1 rfl) ?_
  refine lv_if_lt (tgt := 16) hx hb dX2_hasPlanRow_1 (by decide) (fun c_1 => ?_) (fun c_1 => ?_)
  · have jc_1 := dk_ltc (k := 0) (by decide +kernel) c_1
    refine lv_iconst (v := 0) hx hb dX2_hasPlanRow_16 (by decide +kernel) ?_
    refine W.widen (k := 0) (n := 0) (Nat.le_of_ble_eq_true rfl) (Nat.le_of_ble_eq_true rfl) ?_
    exact dk_iret hx hb hr hlocks (by decide +kernel) hP hD hS () [0] rfl (by decide) rfl dX2_hasPlanRow_17
  · have jc_1 := dk_nltc (k := 0) (by decide +kernel) c_1
    refine lv_iload_n hx hb dX2_hasPlanRow_4 rfl (lv_at hl 1 rfl) ?_
    refine lv_aload_n hx hb dX2_hasPlanRow_5 rfl (lv_at hl 0 rfl) ?_
    refine va_get (C := RX2) (T := TX2) (N := 19) hx hb hts iX2 hown K.1 hP 0 rfl rfl 8 (by decide) (hts (.fieldLink RX2 70 "DarkMine$Ground" "planRows" "I") (by decide +kernel)) (fun _ h9 => h9) (v := .int 0) rfl dX2_hasPlanRow_6 ?_
    refine lv_icmp_ge (tgt := 16) hx hb dX2_hasPlanRow_9 (by decide) (fun _ => ?_) (fun c => absurd (dk_gep (k := 0) (by decide +kernel) (by omega)) c)
    refine lv_iconst (v := 0) hx hb dX2_hasPlanRow_16 (by decide +kernel) ?_
    refine W.widen (k := 0) (n := 0) (Nat.le_of_ble_eq_true rfl) (Nat.le_of_ble_eq_true rfl) ?_
    exact dk_iret hx hb hr hlocks (by decide +kernel) hP hD hS () [0] rfl (by decide) rfl dX2_hasPlanRow_17
set_option maxHeartbeats 8000000 in
set_option maxRecDepth 100000 in
theorem c_X2_hasOrder (l : Launch) (g : Nat → ClassId) (D : va_G) (h0 : Nat) (h1 : Nat) (h2 : Nat) (h3 : Nat) (h4 : Nat) (h5 : Nat) (h6 : Nat) (h7 : Nat) (h8 : Nat) (h9 : Nat) (h10 : Nat) (h11 : Nat) (a1 : Int32) (sz : Nat) : Met l yX2_hasOrder wsX2_hasOrder ({ frames := 1, cells := 0, slots := 0, locals := 32 } : Room) (dk_Pc g D [(h0, .inr (2, [.int 0, .int 0, .int (-1), .int 0, .int 0, .ref h1, .int 0, .ref h2, .int 0, .ref h3, .ref h4, .int 0, .ref h5, .ref h6, .ref h7, .ref h8, .ref h9, .ref h10, .ref h11]))] sz [.ref h0, .int a1]) (va_Qi (fun (r : Int32) (_ : Unit) => r = 0) (dk_B D (va_A [(h0, .inr (2, [.int 0, .int 0, .int (-1), .int 0, .int 0, .ref h1, .int 0, .ref h2, .int 0, .ref h3, .ref h4, .int 0, .ref h5, .ref h6, .ref h7, .ref h8, .ref h9, .ref h10, .ref h11]))] sz) (fun (_ : Unit) => [(h0, .inr (2, [.int 0, .int 0, .int (-1), .int 0, .int 0, .ref h1, .int 0, .ref h2, .int 0, .ref h3, .ref h4, .int 0, .ref h5, .ref h6, .ref h7, .ref h8, .ref h9, .ref h10, .ref h11]))])) (va_A [(h0, .inr (2, [.int 0, .int 0, .int (-1), .int 0, .int 0, .ref h1, .int 0, .ref h2, .int 0, .ref h3, .ref h4, .int 0, .ref h5, .ref h6, .ref h7, .ref h8, .ref h9, .ref h10, .ref h11]))] sz)) 0 0 (va_A [(h0, .inr (2, [.int 0, .int 0, .int (-1), .int 0, .int 0, .ref h1, .int 0, .ref h2, .int 0, .ref h3, .ref h4, .int 0, .ref h5, .ref h6, .ref h7, .ref h8, .ref h9, .ref h10, .ref h11]))] sz) := by
  refine dk_met (cc := cX2_hasOrder) (maxL := 2) (ret := (some .boolean)) (by decide) rfl (Nat.le_of_ble_eq_true rfl) ?_
  intro p e s m args below meth c harg hx hb hr hml hts hown hlocks hin hP K hD hS hA hsz ls hl
  subst hsz
  generalize va_A [(h0, .inr (2, [.int 0, .int 0, .int (-1), .int 0, .int 0, .ref h1, .int 0, .ref h2, .int 0, .ref h3, .ref h4, .int 0, .ref h5, .ref h6, .ref h7, .ref h8, .ref h9, .ref h10, .ref h11]))] s.heap.size = A at hD hS hA ⊢
  have F : CallFix p m c cX2_hasOrder 2 s args wsX2_hasOrder RX2 := ⟨hx, hb, hml, hown, hts⟩
  have hl : lv_has ls 2 [(0, .ref h0), (1, .int a1)] := hl
  have iX2 : ∀ w ∈ wsX20, w ∈ wsX2_hasOrder := fun _ h => List.mem_cons_of_mem _ (List.mem_append_right _ h)
  refine lv_iload_n hx hb dX2_hasOrder_0 rfl (lv_at hl 1 rfl) ?_
  refine lv_if_lt (tgt := 16) hx hb dX2_hasOrder_1 (by decide) (fun c_1 => ?_) (fun c_1 => ?_)
  · have jc_1 := dk_ltc (k := 0) (by decide +kernel) c_1
    refine lv_iconst (v := 0) hx hb dX2_hasOrder_16 (by decide +kernel) ?_
    refine W.widen (k := 0) (n := 0) (Nat.le_of_ble_eq_true rfl) (Nat.le_of_ble_eq_true rfl) ?_
    exact dk_iret hx hb hr hlocks (by decide +kernel) hP hD hS () [0] rfl (by decide) rfl dX2_hasOrder_17
  · have jc_1 := dk_nltc (k := 0) (by decide +kernel) c_1
    refine lv_iload_n hx hb dX2_hasOrder_4 rfl (lv_at hl 1 rfl) ?_
    refine lv_aload_n hx hb dX2_hasOrder_5 rfl (lv_at hl 0 rfl) ?_
    refine va_get (C := RX2) (T := TX2) (N := 19) hx hb hts iX2 hown K.1 hP 0 rfl rfl 11 (by decide) (hts (.fieldLink RX2 73 "DarkMine$Ground" "orders" "I") (by decide +kernel)) (fun _ h9 => h9) (v := .int 0) rfl dX2_hasOrder_6 ?_
    refine lv_icmp_ge (tgt := 16) hx hb dX2_hasOrder_9 (by decide) (fun _ => ?_) (fun c => absurd (dk_gep (k := 0) (by decide +kernel) (by omega)) c)
    refine lv_iconst (v := 0) hx hb dX2_hasOrder_16 (by decide +kernel) ?_
    refine W.widen (k := 0) (n := 0) (Nat.le_of_ble_eq_true rfl) (Nat.le_of_ble_eq_true rfl) ?_
    exact dk_iret hx hb hr hlocks (by decide +kernel) hP hD hS () [0] rfl (by decide) rfl dX2_hasOrder_17
set_option maxHeartbeats 8000000 in
set_option maxRecDepth 100000 in
theorem c_X2_placeOf (l : Launch) (g : Nat → ClassId) (D : va_G) (h0 : Nat) (h1 : Nat) (h2 : Nat) (h3 : Nat) (h4 : Nat) (h5 : Nat) (h6 : Nat) (h7 : Nat) (h8 : Nat) (h9 : Nat) (h10 : Nat) (h11 : Nat) (a1 : Int32) (a2 : Int32) (sz : Nat) : Met l yX2_placeOf wsX2_placeOf ({ frames := 1, cells := 0, slots := 0, locals := 32 } : Room) (dk_Pc g D [(h0, .inr (2, [.int 0, .int 0, .int (-1), .int 0, .int 0, .ref h1, .int 0, .ref h2, .int 0, .ref h3, .ref h4, .int 0, .ref h5, .ref h6, .ref h7, .ref h8, .ref h9, .ref h10, .ref h11]))] sz [.ref h0, .int a1, .int a2]) (va_Qi (fun (r : Int32) (_ : Unit) => r = -1) (dk_B D (va_A [(h0, .inr (2, [.int 0, .int 0, .int (-1), .int 0, .int 0, .ref h1, .int 0, .ref h2, .int 0, .ref h3, .ref h4, .int 0, .ref h5, .ref h6, .ref h7, .ref h8, .ref h9, .ref h10, .ref h11]))] sz) (fun (_ : Unit) => [(h0, .inr (2, [.int 0, .int 0, .int (-1), .int 0, .int 0, .ref h1, .int 0, .ref h2, .int 0, .ref h3, .ref h4, .int 0, .ref h5, .ref h6, .ref h7, .ref h8, .ref h9, .ref h10, .ref h11]))])) (va_A [(h0, .inr (2, [.int 0, .int 0, .int (-1), .int 0, .int 0, .ref h1, .int 0, .ref h2, .int 0, .ref h3, .ref h4, .int 0, .ref h5, .ref h6, .ref h7, .ref h8, .ref h9, .ref h10, .ref h11]))] sz)) 0 0 (va_A [(h0, .inr (2, [.int 0, .int 0, .int (-1), .int 0, .int 0, .ref h1, .int 0, .ref h2, .int 0, .ref h3, .ref h4, .int 0, .ref h5, .ref h6, .ref h7, .ref h8, .ref h9, .ref h10, .ref h11]))] sz) := by
  refine dk_met (cc := cX2_placeOf) (maxL := 3) (ret := (some .int)) (by decide) rfl (Nat.le_of_ble_eq_true rfl) ?_
  intro p e s m args below meth c harg hx hb hr hml hts hown hlocks hin hP K hD hS hA hsz ls hl
  subst hsz
  generalize va_A [(h0, .inr (2, [.int 0, .int 0, .int (-1), .int 0, .int 0, .ref h1, .int 0, .ref h2, .int 0, .ref h3, .ref h4, .int 0, .ref h5, .ref h6, .ref h7, .ref h8, .ref h9, .ref h10, .ref h11]))] s.heap.size = A at hD hS hA ⊢
  have F : CallFix p m c cX2_placeOf 3 s args wsX2_placeOf RX2 := ⟨hx, hb, hml, hown, hts⟩
  have hl : lv_has ls 3 [(0, .ref h0), (1, .int a1), (2, .int a2)] := hl
  have iX2 : ∀ w ∈ wsX20, w ∈ wsX2_placeOf := fun _ h => List.mem_cons_of_mem _ (List.mem_append_right _ h)
  refine lv_iload_n hx hb dX2_placeOf_0 rfl (lv_at hl 1 rfl) ?_
  refine lv_if_lt (tgt := 24) hx hb dX2_placeOf_1 (by decide) (fun c_1 => ?_) (fun c_1 => ?_)
  · have jc_1 := dk_ltc (k := 0) (by decide +kernel) c_1
    refine lv_iconst (v := (-1)) hx hb dX2_placeOf_24 (by decide +kernel) ?_
    refine W.widen (k := 0) (n := 0) (Nat.le_of_ble_eq_true rfl) (Nat.le_of_ble_eq_true rfl) ?_
    exact dk_iret hx hb hr hlocks rfl hP hD hS () [0] rfl (by decide) rfl dX2_placeOf_25
  · have jc_1 := dk_nltc (k := 0) (by decide +kernel) c_1
    refine lv_iload_n hx hb dX2_placeOf_4 rfl (lv_at hl 1 rfl) ?_
    refine lv_aload_n hx hb dX2_placeOf_5 rfl (lv_at hl 0 rfl) ?_
    refine va_get (C := RX2) (T := TX2) (N := 19) hx hb hts iX2 hown K.1 hP 0 rfl rfl 0 (by decide) (hts (.fieldLink RX2 49 "DarkMine$Ground" "columns" "I") (by decide +kernel)) (fun _ h9 => h9) (v := .int 0) rfl dX2_placeOf_6 ?_
    refine lv_icmp_ge (tgt := 24) hx hb dX2_placeOf_9 (by decide) (fun _ => ?_) (fun c => absurd (dk_gep (k := 0) (by decide +kernel) (by omega)) c)
    refine lv_iconst (v := (-1)) hx hb dX2_placeOf_24 (by decide +kernel) ?_
    refine W.widen (k := 0) (n := 0) (Nat.le_of_ble_eq_true rfl) (Nat.le_of_ble_eq_true rfl) ?_
    exact dk_iret hx hb hr hlocks rfl hP hD hS () [0] rfl (by decide) rfl dX2_placeOf_25
set_option maxHeartbeats 8000000 in
set_option maxRecDepth 100000 in
theorem c_X5_isOpen (l : Launch) (g : Nat → ClassId) (D : va_G) (h0 : Nat) (h1 : Nat) (h2 : Nat) (h3 : Nat) (h4 : Nat) (h5 : Nat) (h6 : Nat) (n : Nat) (hn : n < 72) (sz : Nat) : Met l yX5_isOpen wsX5_isOpen ({ frames := 1, cells := 0, slots := 0, locals := 32 } : Room) (dk_Pc g D [(h0, .inr (5, [.int 0, .int 0, .ref h1, .ref h2, .ref h3, .ref h4, .ref h5, .ref h6])), (h1, .inl (g 0, 72, .inl (fun _ => 100)))] sz [.ref h0, .int (nI n)]) (va_Qi (fun (r : Int32) (_ : Unit) => r = 0) (dk_B D (va_A [(h0, .inr (5, [.int 0, .int 0, .ref h1, .ref h2, .ref h3, .ref h4, .ref h5, .ref h6])), (h1, .inl (g 0, 72, .inl (fun _ => 100)))] sz) (fun (_ : Unit) => [(h0, .inr (5, [.int 0, .int 0, .ref h1, .ref h2, .ref h3, .ref h4, .ref h5, .ref h6])), (h1, .inl (g 0, 72, .inl (fun _ => 100)))])) (va_A [(h0, .inr (5, [.int 0, .int 0, .ref h1, .ref h2, .ref h3, .ref h4, .ref h5, .ref h6])), (h1, .inl (g 0, 72, .inl (fun _ => 100)))] sz)) 0 0 (va_A [(h0, .inr (5, [.int 0, .int 0, .ref h1, .ref h2, .ref h3, .ref h4, .ref h5, .ref h6])), (h1, .inl (g 0, 72, .inl (fun _ => 100)))] sz) := by
  refine dk_met (cc := cX5_isOpen) (maxL := 2) (ret := (some .boolean)) (by decide) rfl (Nat.le_of_ble_eq_true rfl) ?_
  intro p e s m args below meth c harg hx hb hr hml hts hown hlocks hin hP K hD hS hA hsz ls hl
  subst hsz
  generalize va_A [(h0, .inr (5, [.int 0, .int 0, .ref h1, .ref h2, .ref h3, .ref h4, .ref h5, .ref h6])), (h1, .inl (g 0, 72, .inl (fun _ => 100)))] s.heap.size = A at hD hS hA ⊢
  have F : CallFix p m c cX5_isOpen 2 s args wsX5_isOpen RX5 := ⟨hx, hb, hml, hown, hts⟩
  have hl : lv_has ls 2 [(0, .ref h0), (1, .int (nI n))] := hl
  have iX5 : ∀ w ∈ wsX50, w ∈ wsX5_isOpen := fun _ h => List.mem_cons_of_mem _ (List.mem_append_right _ h)
  refine lv_aload_n hx hb dX5_isOpen_0 rfl (lv_at hl 0 rfl) ?_
  refine va_get (C := RX5) (T := TX5) (N := 8) hx hb hts iX5 hown K.1 hP 0 rfl rfl 2 (by decide) (hts (.fieldLink RX5 9 "DarkMine$Pit" "cells" "[I") (by decide +kernel)) (fun _ h9 => h9) (v := .ref h1) rfl dX5_isOpen_1 ?_
  refine lv_iload_n hx hb dX5_isOpen_4 rfl (lv_at hl 1 rfl) ?_
  refine dk_iald hx hb K hP 1 rfl (vp_in_nI (by omega) (by omega)) (v := 100) rfl dX5_isOpen_5 ?_
  refine lv_sipush (v := 254) hx hb dX5_isOpen_6 (by decide +kernel) ?_
  refine lv_icmp_lt (tgt := 16) hx hb dX5_isOpen_9 (by decide) (fun _ => ?_) (fun c => absurd (by decide +kernel) c)
  refine lv_iconst (v := 0) hx hb dX5_isOpen_16 (by decide +kernel) ?_
  refine W.widen (k := 0) (n := 0) (Nat.le_of_ble_eq_true rfl) (Nat.le_of_ble_eq_true rfl) ?_
  exact dk_iret hx hb hr hlocks (by decide +kernel) hP hD hS () [0, 1] rfl (by decide) rfl dX5_isOpen_17
set_option maxHeartbeats 8000000 in
set_option maxRecDepth 100000 in
theorem c_X5_isSolid (l : Launch) (g : Nat → ClassId) (D : va_G) (h0 : Nat) (h1 : Nat) (h2 : Nat) (h3 : Nat) (h4 : Nat) (h5 : Nat) (h6 : Nat) (n : Nat) (hn : n < 72) (sz : Nat) : Met l yX5_isSolid wsX5_isSolid ({ frames := 1, cells := 0, slots := 0, locals := 32 } : Room) (dk_Pc g D [(h0, .inr (5, [.int 0, .int 0, .ref h1, .ref h2, .ref h3, .ref h4, .ref h5, .ref h6])), (h1, .inl (g 0, 72, .inl (fun _ => 100)))] sz [.ref h0, .int (nI n)]) (va_Qi (fun (r : Int32) (_ : Unit) => r = 0) (dk_B D (va_A [(h0, .inr (5, [.int 0, .int 0, .ref h1, .ref h2, .ref h3, .ref h4, .ref h5, .ref h6])), (h1, .inl (g 0, 72, .inl (fun _ => 100)))] sz) (fun (_ : Unit) => [(h0, .inr (5, [.int 0, .int 0, .ref h1, .ref h2, .ref h3, .ref h4, .ref h5, .ref h6])), (h1, .inl (g 0, 72, .inl (fun _ => 100)))])) (va_A [(h0, .inr (5, [.int 0, .int 0, .ref h1, .ref h2, .ref h3, .ref h4, .ref h5, .ref h6])), (h1, .inl (g 0, 72, .inl (fun _ => 100)))] sz)) 0 0 (va_A [(h0, .inr (5, [.int 0, .int 0, .ref h1, .ref h2, .ref h3, .ref h4, .ref h5, .ref h6])), (h1, .inl (g 0, 72, .inl (fun _ => 100)))] sz) := by
  refine dk_met (cc := cX5_isSolid) (maxL := 2) (ret := (some .boolean)) (by decide) rfl (Nat.le_of_ble_eq_true rfl) ?_
  intro p e s m args below meth c harg hx hb hr hml hts hown hlocks hin hP K hD hS hA hsz ls hl
  subst hsz
  generalize va_A [(h0, .inr (5, [.int 0, .int 0, .ref h1, .ref h2, .ref h3, .ref h4, .ref h5, .ref h6])), (h1, .inl (g 0, 72, .inl (fun _ => 100)))] s.heap.size = A at hD hS hA ⊢
  have F : CallFix p m c cX5_isSolid 2 s args wsX5_isSolid RX5 := ⟨hx, hb, hml, hown, hts⟩
  have hl : lv_has ls 2 [(0, .ref h0), (1, .int (nI n))] := hl
  have iX5 : ∀ w ∈ wsX50, w ∈ wsX5_isSolid := fun _ h => List.mem_cons_of_mem _ (List.mem_append_right _ h)
  refine lv_aload_n hx hb dX5_isSolid_0 rfl (lv_at hl 0 rfl) ?_
  refine va_get (C := RX5) (T := TX5) (N := 8) hx hb hts iX5 hown K.1 hP 0 rfl rfl 2 (by decide) (hts (.fieldLink RX5 9 "DarkMine$Pit" "cells" "[I") (by decide +kernel)) (fun _ h9 => h9) (v := .ref h1) rfl dX5_isSolid_1 ?_
  refine lv_iload_n hx hb dX5_isSolid_4 rfl (lv_at hl 1 rfl) ?_
  refine dk_iald hx hb K hP 1 rfl (vp_in_nI (by omega) (by omega)) (v := 100) rfl dX5_isSolid_5 ?_
  refine lv_bipush (v := 9) hx hb dX5_isSolid_6 (by decide +kernel) ?_
  refine lv_icmp_gt (tgt := 15) hx hb dX5_isSolid_8 (by decide) (fun _ => ?_) (fun c => absurd (by decide +kernel) c)
  refine lv_iconst (v := 0) hx hb dX5_isSolid_15 (by decide +kernel) ?_
  refine W.widen (k := 0) (n := 0) (Nat.le_of_ble_eq_true rfl) (Nat.le_of_ble_eq_true rfl) ?_
  exact dk_iret hx hb hr hlocks (by decide +kernel) hP hD hS () [0, 1] rfl (by decide) rfl dX5_isSolid_16
