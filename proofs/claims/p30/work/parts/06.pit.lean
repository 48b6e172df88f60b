/-! 06.pit.lean.txt -/
def wsX5_isSolid : List Cond := .code yX5_isSolid cX5_isSolid 2 (some .boolean) :: ([.fieldLink RX5 9 "DarkMine$Pit" "cells" "[I"] ++ wsX50)
def wsX5_gradeAt : List Cond := .code yX5_gradeAt cX5_gradeAt 2 (some .int) :: ([.fieldLink RX5 9 "DarkMine$Pit" "cells" "[I", .methodLink RX5 69 yX5_isSolid, .instanceMethod yX5_isSolid, .selects RX5 yX5_isSolid yX5_isSolid, .initialized RX5, .code yX5_isSolid cX5_isSolid 2 (some .boolean)] ++ wsX50)
def wsX5_isOpen : List Cond := .code yX5_isOpen cX5_isOpen 2 (some .boolean) :: ([.fieldLink RX5 9 "DarkMine$Pit" "cells" "[I"] ++ wsX50)
def wsX5_addTub : List Cond := .code yX5_addTub cX5_addTub 2 none :: ([.fieldLink RX5 27 "DarkMine$Pit" "tubCounts" "[I", .methodLink RX5 83 Lib.Math.min.name, .static Lib.Math.min.name, .initialized "java/lang/Math", .code Lib.Math.min.name Lib.Math.min.code 2 (some .int)] ++ wsX50)
def wsX5_tubGrades : List Cond := .code yX5_tubGrades cX5_tubGrades 3 (some .int) :: ([.fieldLink RX5 27 "DarkMine$Pit" "tubCounts" "[I"] ++ wsX50)
def wsX5_changeRows : List Cond := .code yX5_changeRows cX5_changeRows 5 none :: ([.fieldLink RX5 18 "DarkMine$Pit" "planMiners" "[I", .fieldLink RX5 21 "DarkMine$Pit" "planPlaces" "[I"] ++ wsX50)
def wsX5_tubsFrom : List Cond := .code yX5_tubsFrom cX5_tubsFrom 4 (some .int) :: ([.fieldLink RX5 27 "DarkMine$Pit" "tubCounts" "[I"] ++ wsX50)
theorem dX5_isOpen_0 : decode cX5_isOpen 0 = .ok (.aload_n 0, 1) := by decide +kernel
theorem dX5_isOpen_1 : decode cX5_isOpen 1 = .ok (.getfield 9, 3) := by decide +kernel
theorem dX5_isOpen_4 : decode cX5_isOpen 4 = .ok (.iload_n 1, 1) := by decide +kernel
theorem dX5_isOpen_5 : decode cX5_isOpen 5 = .ok (.iaload, 1) := by decide +kernel
theorem dX5_isOpen_6 : decode cX5_isOpen 6 = .ok (.sipush 254, 3) := by decide +kernel
theorem dX5_isOpen_9 : decode cX5_isOpen 9 = .ok (.if_icmp .lt 7, 3) := by decide +kernel
theorem dX5_isOpen_12 : decode cX5_isOpen 12 = .ok (.iconst 1, 1) := by decide +kernel
theorem dX5_isOpen_13 : decode cX5_isOpen 13 = .ok (.goto 4, 3) := by decide +kernel
theorem dX5_isOpen_16 : decode cX5_isOpen 16 = .ok (.iconst 0, 1) := by decide +kernel
theorem dX5_isOpen_17 : decode cX5_isOpen 17 = .ok (.ireturn, 1) := by decide +kernel
theorem dX5_isSolid_0 : decode cX5_isSolid 0 = .ok (.aload_n 0, 1) := by decide +kernel
theorem dX5_isSolid_1 : decode cX5_isSolid 1 = .ok (.getfield 9, 3) := by decide +kernel
theorem dX5_isSolid_4 : decode cX5_isSolid 4 = .ok (.iload_n 1, 1) := by decide +kernel
theorem dX5_isSolid_5 : decode cX5_isSolid 5 = .ok (.iaload, 1) := by decide +kernel
theorem dX5_isSolid_6 : decode cX5_isSolid 6 = .ok (.bipush 9, 2) := by decide +kernel
theorem dX5_isSolid_8 : decode cX5_isSolid 8 = .ok (.if_icmp .gt 7, 3) := by decide +kernel
theorem dX5_isSolid_11 : decode cX5_isSolid 11 = .ok (.iconst 1, 1) := by decide +kernel
theorem dX5_isSolid_12 : decode cX5_isSolid 12 = .ok (.goto 4, 3) := by decide +kernel
theorem dX5_isSolid_15 : decode cX5_isSolid 15 = .ok (.iconst 0, 1) := by decide +kernel
theorem dX5_isSolid_16 : decode cX5_isSolid 16 = .ok (.ireturn, 1) := by decide +kernel
set_option maxRecDepth 20000 in
theorem ggX5_gradeAt_X5_isSolid : GoodIn wsX5_gradeAt wsX5_isSolid := goodIn_r _ [6, 1, 7, 8, 9, 10, 11, 12, 13, 14] (by decide +kernel) (by decide +kernel)
set_option maxRecDepth 20000 in
theorem gX5_gradeAt_X5_isSolid : GoodIn wsX5_gradeAt (wsV RX5 69 RX5 yX5_isSolid wsX5_isSolid) := goodIn_app (goodIn_of _ (by decide +kernel)) ggX5_gradeAt_X5_isSolid
theorem dX5_gradeAt_0 : decode cX5_gradeAt 0 = .ok (.aload_n 0, 1) := by decide +kernel
theorem dX5_gradeAt_1 : decode cX5_gradeAt 1 = .ok (.iload_n 1, 1) := by decide +kernel
theorem dX5_gradeAt_2 : decode cX5_gradeAt 2 = .ok (.invokevirtual 69, 3) := by decide +kernel
theorem dX5_gradeAt_5 : decode cX5_gradeAt 5 = .ok (.ifCond .eq 12, 3) := by decide +kernel
theorem dX5_gradeAt_8 : decode cX5_gradeAt 8 = .ok (.aload_n 0, 1) := by decide +kernel
theorem dX5_gradeAt_9 : decode cX5_gradeAt 9 = .ok (.getfield 9, 3) := by decide +kernel
theorem dX5_gradeAt_12 : decode cX5_gradeAt 12 = .ok (.iload_n 1, 1) := by decide +kernel
theorem dX5_gradeAt_13 : decode cX5_gradeAt 13 = .ok (.iaload, 1) := by decide +kernel
theorem dX5_gradeAt_14 : decode cX5_gradeAt 14 = .ok (.goto 4, 3) := by decide +kernel
theorem dX5_gradeAt_17 : decode cX5_gradeAt 17 = .ok (.iconst (-1), 1) := by decide +kernel
theorem dX5_gradeAt_18 : decode cX5_gradeAt 18 = .ok (.ireturn, 1) := by decide +kernel
theorem dX5_addTub_0 : decode cX5_addTub 0 = .ok (.aload_n 0, 1) := by decide +kernel
theorem dX5_addTub_1 : decode cX5_addTub 1 = .ok (.getfield 27, 3) := by decide +kernel
theorem dX5_addTub_4 : decode cX5_addTub 4 = .ok (.iload_n 1, 1) := by decide +kernel
theorem dX5_addTub_5 : decode cX5_addTub 5 = .ok (.bipush 99, 2) := by decide +kernel
theorem dX5_addTub_7 : decode cX5_addTub 7 = .ok (.aload_n 0, 1) := by decide +kernel
theorem dX5_addTub_8 : decode cX5_addTub 8 = .ok (.getfield 27, 3) := by decide +kernel
theorem dX5_addTub_11 : decode cX5_addTub 11 = .ok (.iload_n 1, 1) := by decide +kernel
theorem dX5_addTub_12 : decode cX5_addTub 12 = .ok (.iaload, 1) := by decide +kernel
theorem dX5_addTub_13 : decode cX5_addTub 13 = .ok (.iconst 1, 1) := by decide +kernel
theorem dX5_addTub_14 : decode cX5_addTub 14 = .ok (.iadd, 1) := by decide +kernel
theorem dX5_addTub_15 : decode cX5_addTub 15 = .ok (.invokestatic 83, 3) := by decide +kernel
theorem dX5_addTub_18 : decode cX5_addTub 18 = .ok (.iastore, 1) := by decide +kernel
theorem dX5_addTub_19 : decode cX5_addTub 19 = .ok (.return_, 1) := by decide +kernel
theorem dX5_tubsFrom_0 : decode cX5_tubsFrom 0 = .ok (.iconst 0, 1) := by decide +kernel
theorem dX5_tubsFrom_1 : decode cX5_tubsFrom 1 = .ok (.istore_n 2, 1) := by decide +kernel
theorem dX5_tubsFrom_2 : decode cX5_tubsFrom 2 = .ok (.iload_n 1, 1) := by decide +kernel
theorem dX5_tubsFrom_3 : decode cX5_tubsFrom 3 = .ok (.istore_n 3, 1) := by decide +kernel
theorem dX5_tubsFrom_4 : decode cX5_tubsFrom 4 = .ok (.iload_n 3, 1) := by decide +kernel
theorem dX5_tubsFrom_5 : decode cX5_tubsFrom 5 = .ok (.bipush 9, 2) := by decide +kernel
theorem dX5_tubsFrom_7 : decode cX5_tubsFrom 7 = .ok (.if_icmp .gt 18, 3) := by decide +kernel
theorem dX5_tubsFrom_10 : decode cX5_tubsFrom 10 = .ok (.iload_n 2, 1) := by decide +kernel
theorem dX5_tubsFrom_11 : decode cX5_tubsFrom 11 = .ok (.aload_n 0, 1) := by decide +kernel
theorem dX5_tubsFrom_12 : decode cX5_tubsFrom 12 = .ok (.getfield 27, 3) := by decide +kernel
theorem dX5_tubsFrom_15 : decode cX5_tubsFrom 15 = .ok (.iload_n 3, 1) := by decide +kernel
theorem dX5_tubsFrom_16 : decode cX5_tubsFrom 16 = .ok (.iaload, 1) := by decide +kernel
theorem dX5_tubsFrom_17 : decode cX5_tubsFrom 17 = .ok (.iadd, 1) := by decide +kernel
theorem dX5_tubsFrom_18 : decode cX5_tubsFrom 18 = .ok (.istore_n 2, 1) := by decide +kernel
theorem dX5_tubsFrom_19 : decode cX5_tubsFrom 19 = .ok (.iinc 3 1, 3) := by decide +kernel
theorem dX5_tubsFrom_22 : decode cX5_tubsFrom 22 = .ok (.goto (-18), 3) := by decide +kernel
theorem dX5_tubsFrom_25 : decode cX5_tubsFrom 25 = .ok (.iload_n 2, 1) := by decide +kernel
theorem dX5_tubsFrom_26 : decode cX5_tubsFrom 26 = .ok (.ireturn, 1) := by decide +kernel
theorem dX5_tubGrades_0 : decode cX5_tubGrades 0 = .ok (.iconst 0, 1) := by decide +kernel
theorem dX5_tubGrades_1 : decode cX5_tubGrades 1 = .ok (.istore_n 1, 1) := by decide +kernel
theorem dX5_tubGrades_2 : decode cX5_tubGrades 2 = .ok (.iconst 0, 1) := by decide +kernel
theorem dX5_tubGrades_3 : decode cX5_tubGrades 3 = .ok (.istore_n 2, 1) := by decide +kernel
theorem dX5_tubGrades_4 : decode cX5_tubGrades 4 = .ok (.iload_n 2, 1) := by decide +kernel
theorem dX5_tubGrades_5 : decode cX5_tubGrades 5 = .ok (.bipush 9, 2) := by decide +kernel
theorem dX5_tubGrades_7 : decode cX5_tubGrades 7 = .ok (.if_icmp .gt 20, 3) := by decide +kernel
theorem dX5_tubGrades_10 : decode cX5_tubGrades 10 = .ok (.iload_n 1, 1) := by decide +kernel
theorem dX5_tubGrades_11 : decode cX5_tubGrades 11 = .ok (.iload_n 2, 1) := by decide +kernel
theorem dX5_tubGrades_12 : decode cX5_tubGrades 12 = .ok (.aload_n 0, 1) := by decide +kernel
theorem dX5_tubGrades_13 : decode cX5_tubGrades 13 = .ok (.getfield 27, 3) := by decide +kernel
theorem dX5_tubGrades_16 : decode cX5_tubGrades 16 = .ok (.iload_n 2, 1) := by decide +kernel
theorem dX5_tubGrades_17 : decode cX5_tubGrades 17 = .ok (.iaload, 1) := by decide +kernel
theorem dX5_tubGrades_18 : decode cX5_tubGrades 18 = .ok (.imul, 1) := by decide +kernel
theorem dX5_tubGrades_19 : decode cX5_tubGrades 19 = .ok (.iadd, 1) := by decide +kernel
theorem dX5_tubGrades_20 : decode cX5_tubGrades 20 = .ok (.istore_n 1, 1) := by decide +kernel
theorem dX5_tubGrades_21 : decode cX5_tubGrades 21 = .ok (.iinc 2 1, 3) := by decide +kernel
theorem dX5_tubGrades_24 : decode cX5_tubGrades 24 = .ok (.goto (-20), 3) := by decide +kernel
theorem dX5_tubGrades_27 : decode cX5_tubGrades 27 = .ok (.iload_n 1, 1) := by decide +kernel
theorem dX5_tubGrades_28 : decode cX5_tubGrades 28 = .ok (.ireturn, 1) := by decide +kernel
theorem dX5_changeRows_0 : decode cX5_changeRows 0 = .ok (.aload_n 0, 1) := by decide +kernel
theorem dX5_changeRows_1 : decode cX5_changeRows 1 = .ok (.getfield 18, 3) := by decide +kernel
theorem dX5_changeRows_4 : decode cX5_changeRows 4 = .ok (.iload_n 1, 1) := by decide +kernel
theorem dX5_changeRows_5 : decode cX5_changeRows 5 = .ok (.iaload, 1) := by decide +kernel
theorem dX5_changeRows_6 : decode cX5_changeRows 6 = .ok (.istore_n 3, 1) := by decide +kernel
theorem dX5_changeRows_7 : decode cX5_changeRows 7 = .ok (.aload_n 0, 1) := by decide +kernel
theorem dX5_changeRows_8 : decode cX5_changeRows 8 = .ok (.getfield 21, 3) := by decide +kernel
theorem dX5_changeRows_11 : decode cX5_changeRows 11 = .ok (.iload_n 1, 1) := by decide +kernel
theorem dX5_changeRows_12 : decode cX5_changeRows 12 = .ok (.iaload, 1) := by decide +kernel
theorem dX5_changeRows_13 : decode cX5_changeRows 13 = .ok (.istore 4, 2) := by decide +kernel
theorem dX5_changeRows_15 : decode cX5_changeRows 15 = .ok (.aload_n 0, 1) := by decide +kernel
theorem dX5_changeRows_16 : decode cX5_changeRows 16 = .ok (.getfield 18, 3) := by decide +kernel
theorem dX5_changeRows_19 : decode cX5_changeRows 19 = .ok (.iload_n 1, 1) := by decide +kernel
theorem dX5_changeRows_20 : decode cX5_changeRows 20 = .ok (.aload_n 0, 1) := by decide +kernel
theorem dX5_changeRows_21 : decode cX5_changeRows 21 = .ok (.getfield 18, 3) := by decide +kernel
theorem dX5_changeRows_24 : decode cX5_changeRows 24 = .ok (.iload_n 2, 1) := by decide +kernel
theorem dX5_changeRows_25 : decode cX5_changeRows 25 = .ok (.iaload, 1) := by decide +kernel
theorem dX5_changeRows_26 : decode cX5_changeRows 26 = .ok (.iastore, 1) := by decide +kernel
theorem dX5_changeRows_27 : decode cX5_changeRows 27 = .ok (.aload_n 0, 1) := by decide +kernel
theorem dX5_changeRows_28 : decode cX5_changeRows 28 = .ok (.getfield 21, 3) := by decide +kernel
theorem dX5_changeRows_31 : decode cX5_changeRows 31 = .ok (.iload_n 1, 1) := by decide +kernel
theorem dX5_changeRows_32 : decode cX5_changeRows 32 = .ok (.aload_n 0, 1) := by decide +kernel
theorem dX5_changeRows_33 : decode cX5_changeRows 33 = .ok (.getfield 21, 3) := by decide +kernel
theorem dX5_changeRows_36 : decode cX5_changeRows 36 = .ok (.iload_n 2, 1) := by decide +kernel
theorem dX5_changeRows_37 : decode cX5_changeRows 37 = .ok (.iaload, 1) := by decide +kernel
theorem dX5_changeRows_38 : decode cX5_changeRows 38 = .ok (.iastore, 1) := by decide +kernel
theorem dX5_changeRows_39 : decode cX5_changeRows 39 = .ok (.aload_n 0, 1) := by decide +kernel
theorem dX5_changeRows_40 : decode cX5_changeRows 40 = .ok (.getfield 18, 3) := by decide +kernel
theorem dX5_changeRows_43 : decode cX5_changeRows 43 = .ok (.iload_n 2, 1) := by decide +kernel
theorem dX5_changeRows_44 : decode cX5_changeRows 44 = .ok (.iload_n 3, 1) := by decide +kernel
theorem dX5_changeRows_45 : decode cX5_changeRows 45 = .ok (.iastore, 1) := by decide +kernel
theorem dX5_changeRows_46 : decode cX5_changeRows 46 = .ok (.aload_n 0, 1) := by decide +kernel
theorem dX5_changeRows_47 : decode cX5_changeRows 47 = .ok (.getfield 21, 3) := by decide +kernel
theorem dX5_changeRows_50 : decode cX5_changeRows 50 = .ok (.iload_n 2, 1) := by decide +kernel
theorem dX5_changeRows_51 : decode cX5_changeRows 51 = .ok (.iload 4, 2) := by decide +kernel
theorem dX5_changeRows_53 : decode cX5_changeRows 53 = .ok (.iastore, 1) := by decide +kernel
theorem dX5_changeRows_54 : decode cX5_changeRows 54 = .ok (.return_, 1) := by decide +kernel
set_option maxHeartbeats 8000000 in
set_option maxRecDepth 100000 in
theorem c_p_isOpen (l : Launch) (g : Nat → ClassId) (D : va_G) (pt : Nat) (pt_shift : Int32) (pt_purse : Int32) (pt_cells : Nat) (pt_hurts : Nat) (pt_planMiners : Nat) (pt_planPlaces : Nat) (pt_sold : Nat) (pt_tubCounts : Nat) (ptf_cells : Nat → Int32) (a1 : Int32) (b_pt_shift : 0 ≤ (pt_shift).toInt ∧ (pt_shift).toInt ≤ 999) (b_pt_purse : 0 ≤ (pt_purse).toInt ∧ (pt_purse).toInt ≤ 99999) (b_ptf_cells : dk_all 72 ptf_cells 0 255) (b_a1 : 0 ≤ (a1).toInt ∧ (a1).toInt ≤ 71) (sz : Nat) : Met l yX5_isOpen wsX5_isOpen ({ frames := 1, cells := 0, slots := 0, locals := 32 } : Room) (dk_Pc g D [(pt, .inr (5, [.int pt_shift, .int pt_purse, .ref pt_cells, .ref pt_hurts, .ref pt_planMiners, .ref pt_planPlaces, .ref pt_sold, .ref pt_tubCounts])), (pt_cells, .inl (g 0, 72, .inl ptf_cells))] sz [.ref pt, .int a1]) (va_Qi (fun (r : Int32) (_ : Unit) => (0 ≤ (r).toInt ∧ (r).toInt ≤ 1) ∧ True) (dk_B D (va_A [(pt, .inr (5, [.int pt_shift, .int pt_purse, .ref pt_cells, .ref pt_hurts, .ref pt_planMiners, .ref pt_planPlaces, .ref pt_sold, .ref pt_tubCounts])), (pt_cells, .inl (g 0, 72, .inl ptf_cells))] sz) (fun (_ : Unit) => [(pt, .inr (5, [.int pt_shift, .int pt_purse, .ref pt_cells, .ref pt_hurts, .ref pt_planMiners, .ref pt_planPlaces, .ref pt_sold, .ref pt_tubCounts])), (pt_cells, .inl (g 0, 72, .inl ptf_cells))])) (va_A [(pt, .inr (5, [.int pt_shift, .int pt_purse, .ref pt_cells, .ref pt_hurts, .ref pt_planMiners, .ref pt_planPlaces, .ref pt_sold, .ref pt_tubCounts])), (pt_cells, .inl (g 0, 72, .inl ptf_cells))] sz)) 0 0 (va_A [(pt, .inr (5, [.int pt_shift, .int pt_purse, .ref pt_cells, .ref pt_hurts, .ref pt_planMiners, .ref pt_planPlaces, .ref pt_sold, .ref pt_tubCounts])), (pt_cells, .inl (g 0, 72, .inl ptf_cells))] sz) := by
  refine dk_met (cc := cX5_isOpen) (maxL := 2) (ret := (some .boolean)) (by decide) rfl (Nat.le_of_ble_eq_true rfl) ?_
  intro p e s m args below meth c harg hx hb hr hml hts hown hlocks hin hP K hD hS hA hsz ls hl
  subst hsz
  generalize va_A [(pt, .inr (5, [.int pt_shift, .int pt_purse, .ref pt_cells, .ref pt_hurts, .ref pt_planMiners, .ref pt_planPlaces, .ref pt_sold, .ref pt_tubCounts])), (pt_cells, .inl (g 0, 72, .inl ptf_cells))] s.heap.size = A at hD hS hA ⊢
  have F : CallFix p m c cX5_isOpen 2 s args wsX5_isOpen RX5 := ⟨hx, hb, hml, hown, hts⟩
  have hl : lv_has ls 2 [(0, .ref pt), (1, .int a1)] := hl
  have iX5 : ∀ w ∈ wsX50, w ∈ wsX5_isOpen := fun _ h => List.mem_cons_of_mem _ (List.mem_append_right _ h)
  refine lv_aload_n hx hb dX5_isOpen_0 rfl (lv_at hl 0 rfl) ?_
  refine va_get (C := RX5) (T := TX5) (N := 8) hx hb hts iX5 hown K.1 hP 0 rfl rfl 2 (by decide) (hts (.fieldLink RX5 9 "DarkMine$Pit" "cells" "[I") (by decide +kernel)) (fun _ h9 => h9) (v := .ref pt_cells) rfl dX5_isOpen_1 ?_
  refine lv_iload_n hx hb dX5_isOpen_4 rfl (lv_at hl 1 rfl) ?_
  have hin_2 : vp_in a1 72 := (dk_inv (by omega) (by omega))
  refine dk_iald hx hb K hP 1 rfl hin_2 rfl dX5_isOpen_5 ?_
  refine lv_topi (fun x_1 ex_1 => ?_)
  have jx_1 := dk_all_at b_ptf_cells hin_2 ex_1
  refine lv_sipush (v := 254) hx hb dX5_isOpen_6 (by decide +kernel) ?_
  refine lv_icmp_lt (tgt := 16) hx hb dX5_isOpen_9 (by decide) (fun c_3 => ?_) (fun c_3 => ?_)
  · have jc_3 := dk_ltc (k := 254) (by decide +kernel) c_3
    refine lv_iconst (v := 0) hx hb dX5_isOpen_16 (by decide +kernel) ?_
    refine W.widen (k := 0) (n := 0) (Nat.le_of_ble_eq_true rfl) (Nat.le_of_ble_eq_true rfl) ?_
    exact dk_iret hx hb hr hlocks (by decide +kernel) hP hD hS () [0, 1] rfl (by decide) ⟨(by decide +kernel), trivial⟩ dX5_isOpen_17
  · have jc_3 := dk_nltc (k := 254) (by decide +kernel) c_3
    refine lv_iconst (v := 1) hx hb dX5_isOpen_12 (by decide +kernel) ?_
    refine lv_goto (tgt := 17) hx hb dX5_isOpen_13 (by decide) ?_
    refine W.widen (k := 0) (n := 0) (Nat.le_of_ble_eq_true rfl) (Nat.le_of_ble_eq_true rfl) ?_
    exact dk_iret hx hb hr hlocks (by decide +kernel) hP hD hS () [0, 1] rfl (by decide) ⟨(by decide +kernel), trivial⟩ dX5_isOpen_17
set_option maxHeartbeats 8000000 in
set_option maxRecDepth 100000 in
theorem c_p_isSolid (l : Launch) (g : Nat → ClassId) (D : va_G) (pt : Nat) (pt_shift : Int32) (pt_purse : Int32) (pt_cells : Nat) (pt_hurts : Nat) (pt_planMiners : Nat) (pt_planPlaces : Nat) (pt_sold : Nat) (pt_tubCounts : Nat) (ptf_cells : Nat → Int32) (a1 : Int32) (b_pt_shift : 0 ≤ (pt_shift).toInt ∧ (pt_shift).toInt ≤ 999) (b_pt_purse : 0 ≤ (pt_purse).toInt ∧ (pt_purse).toInt ≤ 99999) (b_ptf_cells : dk_all 72 ptf_cells 0 255) (b_a1 : 0 ≤ (a1).toInt ∧ (a1).toInt ≤ 71) (sz : Nat) : Met l yX5_isSolid wsX5_isSolid ({ frames := 1, cells := 0, slots := 0, locals := 32 } : Room) (dk_Pc g D [(pt, .inr (5, [.int pt_shift, .int pt_purse, .ref pt_cells, .ref pt_hurts, .ref pt_planMiners, .ref pt_planPlaces, .ref pt_sold, .ref pt_tubCounts])), (pt_cells, .inl (g 0, 72, .inl ptf_cells))] sz [.ref pt, .int a1]) (va_Qi (fun (r : Int32) (_ : Unit) => (0 ≤ (r).toInt ∧ (r).toInt ≤ 1) ∧ True) (dk_B D (va_A [(pt, .inr (5, [.int pt_shift, .int pt_purse, .ref pt_cells, .ref pt_hurts, .ref pt_planMiners, .ref pt_planPlaces, .ref pt_sold, .ref pt_tubCounts])), (pt_cells, .inl (g 0, 72, .inl ptf_cells))] sz) (fun (_ : Unit) => [(pt, .inr (5, [.int pt_shift, .int pt_purse, .ref pt_cells, .ref pt_hurts, .ref pt_planMiners, .ref pt_planPlaces, .ref pt_sold, .ref pt_tubCounts])), (pt_cells, .inl (g 0, 72, .inl ptf_cells))])) (va_A [(pt, .inr (5, [.int pt_shift, .int pt_purse, .ref pt_cells, .ref pt_hurts, .ref pt_planMiners, .ref pt_planPlaces, .ref pt_sold, .ref pt_tubCounts])), (pt_cells, .inl (g 0, 72, .inl ptf_cells))] sz)) 0 0 (va_A [(pt, .inr (5, [.int pt_shift, .int pt_purse, .ref pt_cells, .ref pt_hurts, .ref pt_planMiners, .ref pt_planPlaces, .ref pt_sold, .ref pt_tubCounts])), (pt_cells, .inl (g 0, 72, .inl ptf_cells))] sz) := by
  refine dk_met (cc := cX5_isSolid) (maxL := 2) (ret := (some .boolean)) (by decide) rfl (Nat.le_of_ble_eq_true rfl) ?_
  intro p e s m args below meth c harg hx hb hr hml hts hown hlocks hin hP K hD hS hA hsz ls hl
  subst hsz
  generalize va_A [(pt, .inr (5, [.int pt_shift, .int pt_purse, .ref pt_cells, .ref pt_hurts, .ref pt_planMiners, .ref pt_planPlaces, .ref pt_sold, .ref pt_tubCounts])), (pt_cells, .inl (g 0, 72, .inl ptf_cells))] s.heap.size = A at hD hS hA ⊢
  have F : CallFix p m c cX5_isSolid 2 s args wsX5_isSolid RX5 := ⟨hx, hb, hml, hown, hts⟩
  have hl : lv_has ls 2 [(0, .ref pt), (1, .int a1)] := hl
  have iX5 : ∀ w ∈ wsX50, w ∈ wsX5_isSolid := fun _ h => List.mem_cons_of_mem _ (List.mem_append_right _ h)
  refine lv_aload_n hx hb dX5_isSolid_0 rfl (lv_at hl 0 rfl) ?_
  refine va_get (C := RX5) (T := TX5) (N := 8) hx hb hts iX5 hown K.1 hP 0 rfl rfl 2 (by decide) (hts (.fieldLink RX5 9 "DarkMine$Pit" "cells" "[I") (by decide +kernel)) (fun _ h9 => h9) (v := .ref pt_cells) rfl dX5_isSolid_1 ?_
  refine lv_iload_n hx hb dX5_isSolid_4 rfl (lv_at hl 1 rfl) ?_
  have hin_2 : vp_in a1 72 := (dk_inv (by omega) (by omega))
  refine dk_iald hx hb K hP 1 rfl hin_2 rfl dX5_isSolid_5 ?_
  refine lv_topi (fun x_1 ex_1 => ?_)
  have jx_1 := dk_all_at b_ptf_cells hin_2 ex_1
  refine lv_bipush (v := 9) hx hb dX5_isSolid_6 (by decide +kernel) ?_
  refine lv_icmp_gt (tgt := 15) hx hb dX5_isSolid_8 (by decide) (fun c_3 => ?_) (fun c_3 => ?_)
  · have jc_3 := dk_gtc (k := 9) (by decide +kernel) c_3
    refine lv_iconst (v := 0) hx hb dX5_isSolid_15 (by decide +kernel) ?_
    refine W.widen (k := 0) (n := 0) (Nat.le_of_ble_eq_true rfl) (Nat.le_of_ble_eq_true rfl) ?_
    exact dk_iret hx hb hr hlocks (by decide +kernel) hP hD hS () [0, 1] rfl (by decide) ⟨(by decide +kernel), trivial⟩ dX5_isSolid_16
  · have jc_3 := dk_ngtc (k := 9) (by decide +kernel) c_3
    refine lv_iconst (v := 1) hx hb dX5_isSolid_11 (by decide +kernel) ?_
    refine lv_goto (tgt := 16) hx hb dX5_isSolid_12 (by decide) ?_
    refine W.widen (k := 0) (n := 0) (Nat.le_of_ble_eq_true rfl) (Nat.le_of_ble_eq_true rfl) ?_
    exact dk_iret hx hb hr hlocks (by decide +kernel) hP hD hS () [0, 1] rfl (by decide) ⟨(by decide +kernel), trivial⟩ dX5_isSolid_16
set_option maxHeartbeats 8000000 in
set_option maxRecDepth 100000 in
theorem c_p_gradeAt (l : Launch) (g : Nat → ClassId) (D : va_G) (pt : Nat) (pt_shift : Int32) (pt_purse : Int32) (pt_cells : Nat) (pt_hurts : Nat) (pt_planMiners : Nat) (pt_planPlaces : Nat) (pt_sold : Nat) (pt_tubCounts : Nat) (ptf_cells : Nat → Int32) (a1 : Int32) (b_pt_shift : 0 ≤ (pt_shift).toInt ∧ (pt_shift).toInt ≤ 999) (b_pt_purse : 0 ≤ (pt_purse).toInt ∧ (pt_purse).toInt ≤ 99999) (b_ptf_cells : dk_all 72 ptf_cells 0 255) (b_a1 : 0 ≤ (a1).toInt ∧ (a1).toInt ≤ 71) (sz : Nat) : Met l yX5_gradeAt wsX5_gradeAt ({ frames := 2, cells := 0, slots := 0, locals := 53 } : Room) (dk_Pc g D [(pt, .inr (5, [.int pt_shift, .int pt_purse, .ref pt_cells, .ref pt_hurts, .ref pt_planMiners, .ref pt_planPlaces, .ref pt_sold, .ref pt_tubCounts])), (pt_cells, .inl (g 0, 72, .inl ptf_cells))] sz [.ref pt, .int a1]) (va_Qi (fun (r : Int32) (_ : Unit) => ((-1) ≤ (r).toInt ∧ (r).toInt ≤ 255) ∧ True) (dk_B D (va_A [(pt, .inr (5, [.int pt_shift, .int pt_purse, .ref pt_cells, .ref pt_hurts, .ref pt_planMiners, .ref pt_planPlaces, .ref pt_sold, .ref pt_tubCounts])), (pt_cells, .inl (g 0, 72, .inl ptf_cells))] sz) (fun (_ : Unit) => [(pt, .inr (5, [.int pt_shift, .int pt_purse, .ref pt_cells, .ref pt_hurts, .ref pt_planMiners, .ref pt_planPlaces, .ref pt_sold, .ref pt_tubCounts])), (pt_cells, .inl (g 0, 72, .inl ptf_cells))])) (va_A [(pt, .inr (5, [.int pt_shift, .int pt_purse, .ref pt_cells, .ref pt_hurts, .ref pt_planMiners, .ref pt_planPlaces, .ref pt_sold, .ref pt_tubCounts])), (pt_cells, .inl (g 0, 72, .inl ptf_cells))] sz)) 0 0 (va_A [(pt, .inr (5, [.int pt_shift, .int pt_purse, .ref pt_cells, .ref pt_hurts, .ref pt_planMiners, .ref pt_planPlaces, .ref pt_sold, .ref pt_tubCounts])), (pt_cells, .inl (g 0, 72, .inl ptf_cells))] sz) := by
  refine dk_met (cc := cX5_gradeAt) (maxL := 2) (ret := (some .int)) (by decide) rfl (Nat.le_of_ble_eq_true rfl) ?_
  intro p e s m args below meth c harg hx hb hr hml hts hown hlocks hin hP K hD hS hA hsz ls hl
  subst hsz
  generalize va_A [(pt, .inr (5, [.int pt_shift, .int pt_purse, .ref pt_cells, .ref pt_hurts, .ref pt_planMiners, .ref pt_planPlaces, .ref pt_sold, .ref pt_tubCounts])), (pt_cells, .inl (g 0, 72, .inl ptf_cells))] s.heap.size = A at hD hS hA ⊢
  have F : CallFix p m c cX5_gradeAt 2 s args wsX5_gradeAt RX5 := ⟨hx, hb, hml, hown, hts⟩
  have hl : lv_has ls 2 [(0, .ref pt), (1, .int a1)] := hl
  have iX5 : ∀ w ∈ wsX50, w ∈ wsX5_gradeAt := fun _ h => List.mem_cons_of_mem _ (List.mem_append_right _ h)
  refine lv_aload_n hx hb dX5_gradeAt_0 rfl (lv_at hl 0 rfl) ?_
  refine lv_iload_n hx hb dX5_gradeAt_1 rfl (lv_at hl 1 rfl) ?_
  refine dk_backi hP hD hS hA (wr := []) [0, 1] [] rfl rfl (by decide) (by decide) (va_runV (As := [.int a1]) (rest := []) F (c_p_isSolid l g D pt pt_shift pt_purse pt_cells pt_hurts pt_planMiners pt_planPlaces pt_sold pt_tubCounts ptf_cells a1 (by omega) (by omega) b_ptf_cells (by omega) s.heap.size) (cwV 1 hts gX5_gradeAt_X5_isSolid rfl rfl rfl (by decide +kernel) ⟨Nat.le_of_ble_eq_true rfl, Nat.le_of_ble_eq_true rfl⟩) (dk_preV K hP hD [0, 1] rfl (by decide) 0 rfl rfl) rfl rfl hl.1 rfl (lv_room (Nat.le_of_ble_eq_true rfl)) dX5_gradeAt_2 ⟨Nat.le_of_ble_eq_true rfl, Nat.le_of_ble_eq_true rfl⟩) (fun r u H locs hw hP hD hS => ?_)
  obtain ⟨x_2, rfl⟩ : ∃ z, z = r := ⟨_, rfl⟩
  obtain ⟨w_1, -⟩ := hw
  have w_1 : 0 ≤ (x_2).toInt ∧ (x_2).toInt ≤ 1 := w_1
  have hP : va_P D vwCl [(pt, .inr (5, [.int pt_shift, .int pt_purse, .ref pt_cells, .ref pt_hurts, .ref pt_planMiners, .ref pt_planPlaces, .ref pt_sold, .ref pt_tubCounts])), (pt_cells, .inl (g 0, 72, .inl ptf_cells))] H := hP
  have hD : va_D A [(pt, .inr (5, [.int pt_shift, .int pt_purse, .ref pt_cells, .ref pt_hurts, .ref pt_planMiners, .ref pt_planPlaces, .ref pt_sold, .ref pt_tubCounts])), (pt_cells, .inl (g 0, 72, .inl ptf_cells))] := hD
  refine lv_if_eq (tgt := 17) hx hb dX5_gradeAt_5 (by decide) (fun c_3 => ?_) (fun c_3 => ?_)
  · have jc_3 := dk_eqc (k := 0) (by decide +kernel) c_3
    refine lv_iconst (v := (-1)) hx hb dX5_gradeAt_17 (by decide +kernel) ?_
    refine W.widen (k := 0) (n := 0) (Nat.le_of_ble_eq_true rfl) (Nat.le_of_ble_eq_true rfl) ?_
    exact dk_iret hx hb hr hlocks rfl hP hD hS () [0, 1] rfl (by decide) ⟨(by decide +kernel), trivial⟩ dX5_gradeAt_18
  · have jc_3 := dk_neqc (k := 0) (by decide +kernel) c_3
    refine lv_aload_n hx hb dX5_gradeAt_8 rfl (lv_at hl 0 rfl) ?_
    refine va_get (C := RX5) (T := TX5) (N := 8) hx hb hts iX5 hown K.1 hP 0 rfl rfl 2 (by decide) (hts (.fieldLink RX5 9 "DarkMine$Pit" "cells" "[I") (by decide +kernel)) (fun _ h9 => h9) (v := .ref pt_cells) rfl dX5_gradeAt_9 ?_
    refine lv_iload_n hx hb dX5_gradeAt_12 rfl (lv_at hl 1 rfl) ?_
    have hin_5 : vp_in a1 72 := (dk_inv (by omega) (by omega))
    refine dk_iald hx hb K hP 1 rfl hin_5 rfl dX5_gradeAt_13 ?_
    refine lv_topi (fun x_4 ex_4 => ?_)
    have jx_4 := dk_all_at b_ptf_cells hin_5 ex_4
    refine lv_goto (tgt := 18) hx hb dX5_gradeAt_14 (by decide) ?_
    refine W.widen (k := 0) (n := 0) (Nat.le_of_ble_eq_true rfl) (Nat.le_of_ble_eq_true rfl) ?_
    exact dk_iret hx hb hr hlocks rfl hP hD hS () [0, 1] rfl (by decide) ⟨(by omega), trivial⟩ dX5_gradeAt_18
set_option maxHeartbeats 8000000 in
set_option maxRecDepth 100000 in
theorem c_p_addTub (l : Launch) (g : Nat → ClassId) (D : va_G) (pt : Nat) (pt_shift : Int32) (pt_purse : Int32) (pt_cells : Nat) (pt_hurts : Nat) (pt_planMiners : Nat) (pt_planPlaces : Nat) (pt_sold : Nat) (pt_tubCounts : Nat) (ptf_tubCounts : Nat → Int32) (a1 : Int32) (b_pt_shift : 0 ≤ (pt_shift).toInt ∧ (pt_shift).toInt ≤ 999) (b_pt_purse : 0 ≤ (pt_purse).toInt ∧ (pt_purse).toInt ≤ 99999) (b_ptf_tubCounts : dk_all 10 ptf_tubCounts 0 99) (b_a1 : 0 ≤ (a1).toInt ∧ (a1).toInt ≤ 9) (sz : Nat) : Met l yX5_addTub wsX5_addTub ({ frames := 2, cells := 0, slots := 0, locals := 40 } : Room) (dk_Pc g D [(pt, .inr (5, [.int pt_shift, .int pt_purse, .ref pt_cells, .ref pt_hurts, .ref pt_planMiners, .ref pt_planPlaces, .ref pt_sold, .ref pt_tubCounts])), (pt_tubCounts, .inl (g 0, 10, .inl ptf_tubCounts))] sz [.ref pt, .int a1]) (va_Qv (fun (u : (Nat → Int32)) => dk_all 10 u 0 99 ∧ True) (dk_B D (va_A [(pt, .inr (5, [.int pt_shift, .int pt_purse, .ref pt_cells, .ref pt_hurts, .ref pt_planMiners, .ref pt_planPlaces, .ref pt_sold, .ref pt_tubCounts])), (pt_tubCounts, .inl (g 0, 10, .inl ptf_tubCounts))] sz) (fun (u : (Nat → Int32)) => [(pt, .inr (5, [.int pt_shift, .int pt_purse, .ref pt_cells, .ref pt_hurts, .ref pt_planMiners, .ref pt_planPlaces, .ref pt_sold, .ref pt_tubCounts])), (pt_tubCounts, .inl (g 0, 10, .inl u))])) (va_A [(pt, .inr (5, [.int pt_shift, .int pt_purse, .ref pt_cells, .ref pt_hurts, .ref pt_planMiners, .ref pt_planPlaces, .ref pt_sold, .ref pt_tubCounts])), (pt_tubCounts, .inl (g 0, 10, .inl ptf_tubCounts))] sz)) 0 0 (va_A [(pt, .inr (5, [.int pt_shift, .int pt_purse, .ref pt_cells, .ref pt_hurts, .ref pt_planMiners, .ref pt_planPlaces, .ref pt_sold, .ref pt_tubCounts])), (pt_tubCounts, .inl (g 0, 10, .inl ptf_tubCounts))] sz) := by
  refine dk_met (cc := cX5_addTub) (maxL := 2) (ret := none) (by decide) rfl (Nat.le_of_ble_eq_true rfl) ?_
  intro p e s m args below meth c harg hx hb hr hml hts hown hlocks hin hP K hD hS hA hsz ls hl
  subst hsz
  generalize va_A [(pt, .inr (5, [.int pt_shift, .int pt_purse, .ref pt_cells, .ref pt_hurts, .ref pt_planMiners, .ref pt_planPlaces, .ref pt_sold, .ref pt_tubCounts])), (pt_tubCounts, .inl (g 0, 10, .inl ptf_tubCounts))] s.heap.size = A at hD hS hA ⊢
  have F : CallFix p m c cX5_addTub 2 s args wsX5_addTub RX5 := ⟨hx, hb, hml, hown, hts⟩
  have hl : lv_has ls 2 [(0, .ref pt), (1, .int a1)] := hl
  have iX5 : ∀ w ∈ wsX50, w ∈ wsX5_addTub := fun _ h => List.mem_cons_of_mem _ (List.mem_append_right _ h)
  refine lv_aload_n hx hb dX5_addTub_0 rfl (lv_at hl 0 rfl) ?_
  refine va_get (C := RX5) (T := TX5) (N := 8) hx hb hts iX5 hown K.1 hP 0 rfl rfl 7 (by decide) (hts (.fieldLink RX5 27 "DarkMine$Pit" "tubCounts" "[I") (by decide +kernel)) (fun _ h9 => h9) (v := .ref pt_tubCounts) rfl dX5_addTub_1 ?_
  refine lv_iload_n hx hb dX5_addTub_4 rfl (lv_at hl 1 rfl) ?_
  refine lv_bipush (v := 99) hx hb dX5_addTub_5 (by decide +kernel) ?_
  refine lv_aload_n hx hb dX5_addTub_7 rfl (lv_at hl 0 rfl) ?_
  refine va_get (C := RX5) (T := TX5) (N := 8) hx hb hts iX5 hown K.1 hP 0 rfl rfl 7 (by decide) (hts (.fieldLink RX5 27 "DarkMine$Pit" "tubCounts" "[I") (by decide +kernel)) (fun _ h9 => h9) (v := .ref pt_tubCounts) rfl dX5_addTub_8 ?_
  refine lv_iload_n hx hb dX5_addTub_11 rfl (lv_at hl 1 rfl) ?_
  have hin_2 : vp_in a1 10 := (dk_inv (by omega) (by omega))
  refine dk_iald hx hb K hP 1 rfl hin_2 rfl dX5_addTub_12 ?_
  refine lv_topi (fun x_1 ex_1 => ?_)
  have jx_1 := dk_all_at b_ptf_tubCounts hin_2 ex_1
  refine lv_iconst (v := 1) hx hb dX5_addTub_13 (by decide +kernel) ?_
  refine lv_iadd hx hb dX5_addTub_14 ?_
  refine lv_topi (fun x_3 ex_3 => ?_)
  have jx_3 : (x_3).toInt = (x_1).toInt + 1 := by rw [ex_3]; exact dk_addT rfl (by decide +kernel) (by omega) (by omega)
  refine va_mmin hx hb (by rw [hml]; exact hl.1.symm) hown (hts (.methodLink RX5 83 Lib.Math.min.name) (by decide +kernel)) (hts (.static Lib.Math.min.name) (by decide +kernel)) (hts (.initialized "java/lang/Math") (by decide +kernel)) (hts _ (List.mem_of_getElem? (i := 5) rfl)) (Nat.le_of_ble_eq_true rfl) (Nat.le_of_ble_eq_true rfl) (Nat.le_of_ble_eq_true rfl) (Nat.le_of_ble_eq_true rfl) dX5_addTub_15 ?_
  refine lv_topi (fun x_4 ex_4 => ?_)
  have jx_4 := dk_minT (a := 99) (b := (x_3).toInt) (by decide +kernel) rfl ex_4
  obtain ⟨f_5, hf_5⟩ : ∃ f', f' = upd ptf_tubCounts (a1 : Int32).toNatClampNeg x_4 := ⟨_, rfl⟩
  have jf_5 := dk_all_upd b_ptf_tubCounts _ (show 0 ≤ (x_4).toInt ∧ (x_4).toInt ≤ 99 from (by omega)) hf_5
  refine dk_iast hx hb K hP hD hS 1 rfl f_5 (fun _ _ => by rw [hf_5]) (dk_inv (by omega) (by omega)) dX5_addTub_18 (fun H locs hP hD hS => ?_)
  have hP : va_P D vwCl [(pt, .inr (5, [.int pt_shift, .int pt_purse, .ref pt_cells, .ref pt_hurts, .ref pt_planMiners, .ref pt_planPlaces, .ref pt_sold, .ref pt_tubCounts])), (pt_tubCounts, .inl (g 0, 10, .inl f_5))] H := hP
  have hD : va_D A [(pt, .inr (5, [.int pt_shift, .int pt_purse, .ref pt_cells, .ref pt_hurts, .ref pt_planMiners, .ref pt_planPlaces, .ref pt_sold, .ref pt_tubCounts])), (pt_tubCounts, .inl (g 0, 10, .inl f_5))] := hD
  refine W.widen (k := 0) (n := 0) (Nat.le_of_ble_eq_true rfl) (Nat.le_of_ble_eq_true rfl) ?_
  exact dk_vret hx hb hr hlocks hP hD hS f_5 [0, 1] rfl (by decide) ⟨jf_5, trivial⟩ dX5_addTub_19
set_option maxHeartbeats 8000000 in
set_option maxRecDepth 100000 in
theorem c_p_changeRows (l : Launch) (g : Nat → ClassId) (D : va_G) (pt : Nat) (pt_shift : Int32) (pt_purse : Int32) (pt_cells : Nat) (pt_hurts : Nat) (pt_planMiners : Nat) (pt_planPlaces : Nat) (pt_sold : Nat) (pt_tubCounts : Nat) (ptf_planMiners : Nat → Int32) (ptf_planPlaces : Nat → Int32) (a1 : Int32) (a2 : Int32) (b_pt_shift : 0 ≤ (pt_shift).toInt ∧ (pt_shift).toInt ≤ 999) (b_pt_purse : 0 ≤ (pt_purse).toInt ∧ (pt_purse).toInt ≤ 99999) (b_ptf_planMiners : dk_all 16 ptf_planMiners 0 5) (b_ptf_planPlaces : dk_all 16 ptf_planPlaces 0 63) (b_a1 : 0 ≤ (a1).toInt ∧ (a1).toInt ≤ 15) (b_a2 : 0 ≤ (a2).toInt ∧ (a2).toInt ≤ 15) (sz : Nat) : Met l yX5_changeRows wsX5_changeRows ({ frames := 1, cells := 0, slots := 0, locals := 32 } : Room) (dk_Pc g D [(pt, .inr (5, [.int pt_shift, .int pt_purse, .ref pt_cells, .ref pt_hurts, .ref pt_planMiners, .ref pt_planPlaces, .ref pt_sold, .ref pt_tubCounts])), (pt_planMiners, .inl (g 0, 16, .inl ptf_planMiners)), (pt_planPlaces, .inl (g 0, 16, .inl ptf_planPlaces))] sz [.ref pt, .int a1, .int a2]) (va_Qv (fun (u : (Nat → Int32) × (Nat → Int32)) => dk_all 16 u.1 0 5 ∧ dk_all 16 u.2 0 63 ∧ True) (dk_B D (va_A [(pt, .inr (5, [.int pt_shift, .int pt_purse, .ref pt_cells, .ref pt_hurts, .ref pt_planMiners, .ref pt_planPlaces, .ref pt_sold, .ref pt_tubCounts])), (pt_planMiners, .inl (g 0, 16, .inl ptf_planMiners)), (pt_planPlaces, .inl (g 0, 16, .inl ptf_planPlaces))] sz) (fun (u : (Nat → Int32) × (Nat → Int32)) => [(pt, .inr (5, [.int pt_shift, .int pt_purse, .ref pt_cells, .ref pt_hurts, .ref pt_planMiners, .ref pt_planPlaces, .ref pt_sold, .ref pt_tubCounts])), (pt_planMiners, .inl (g 0, 16, .inl u.1)), (pt_planPlaces, .inl (g 0, 16, .inl u.2))])) (va_A [(pt, .inr (5, [.int pt_shift, .int pt_purse, .ref pt_cells, .ref pt_hurts, .ref pt_planMiners, .ref pt_planPlaces, .ref pt_sold, .ref pt_tubCounts])), (pt_planMiners, .inl (g 0, 16, .inl ptf_planMiners)), (pt_planPlaces, .inl (g 0, 16, .inl ptf_planPlaces))] sz)) 0 0 (va_A [(pt, .inr (5, [.int pt_shift, .int pt_purse, .ref pt_cells, .ref pt_hurts, .ref pt_planMiners, .ref pt_planPlaces, .ref pt_sold, .ref pt_tubCounts])), (pt_planMiners, .inl (g 0, 16, .inl ptf_planMiners)), (pt_planPlaces, .inl (g 0, 16, .inl ptf_planPlaces))] sz) := by
  refine dk_met (cc := cX5_changeRows) (maxL := 5) (ret := none) (by decide) rfl (Nat.le_of_ble_eq_true rfl) ?_
  intro p e s m args below meth c harg hx hb hr hml hts hown hlocks hin hP K hD hS hA hsz ls hl
  subst hsz
  generalize va_A [(pt, .inr (5, [.int pt_shift, .int pt_purse, .ref pt_cells, .ref pt_hurts, .ref pt_planMiners, .ref pt_planPlaces, .ref pt_sold, .ref pt_tubCounts])), (pt_planMiners, .inl (g 0, 16, .inl ptf_planMiners)), (pt_planPlaces, .inl (g 0, 16, .inl ptf_planPlaces))] s.heap.size = A at hD hS hA ⊢
  have F : CallFix p m c cX5_changeRows 5 s args wsX5_changeRows RX5 := ⟨hx, hb, hml, hown, hts⟩
  have hl : lv_has ls 5 [(0, .ref pt), (1, .int a1), (2, .int a2)] := hl
  have iX5 : ∀ w ∈ wsX50, w ∈ wsX5_changeRows := fun _ h => List.mem_cons_of_mem _ (List.mem_append_right _ h)
  refine lv_aload_n hx hb dX5_changeRows_0 rfl (lv_at hl 0 rfl) ?_
  refine va_get (C := RX5) (T := TX5) (N := 8) hx hb hts iX5 hown K.1 hP 0 rfl rfl 4 (by decide) (hts (.fieldLink RX5 18 "DarkMine$Pit" "planMiners" "[I") (by decide +kernel)) (fun _ h9 => h9) (v := .ref pt_planMiners) rfl dX5_changeRows_1 ?_
  refine lv_iload_n hx hb dX5_changeRows_4 rfl (lv_at hl 1 rfl) ?_
  have hin_2 : vp_in a1 16 := (dk_inv (by omega) (by omega))
  refine dk_iald hx hb K hP 1 rfl hin_2 rfl dX5_changeRows_5 ?_
  refine lv_topi (fun x_1 ex_1 => ?_)
  have jx_1 := dk_all_at b_ptf_planMiners hin_2 ex_1
  refine lv_istore_n (lv' := [(3, .int x_1), (0, .ref pt), (1, .int a1), (2, .int a2)]) hx hb dX5_changeRows_6 rfl hl (by decide) rfl (fun ls hl => ?_)
  refine lv_aload_n hx hb dX5_changeRows_7 rfl (lv_at hl 1 rfl) ?_
  refine va_get (C := RX5) (T := TX5) (N := 8) hx hb hts iX5 hown K.1 hP 0 rfl rfl 5 (by decide) (hts (.fieldLink RX5 21 "DarkMine$Pit" "planPlaces" "[I") (by decide +kernel)) (fun _ h9 => h9) (v := .ref pt_planPlaces) rfl dX5_changeRows_8 ?_
  refine lv_iload_n hx hb dX5_changeRows_11 rfl (lv_at hl 2 rfl) ?_
  have hin_4 : vp_in a1 16 := (dk_inv (by omega) (by omega))
  refine dk_iald hx hb K hP 2 rfl hin_4 rfl dX5_changeRows_12 ?_
  refine lv_topi (fun x_3 ex_3 => ?_)
  have jx_3 := dk_all_at b_ptf_planPlaces hin_4 ex_3
  refine lv_istore (lv' := [(4, .int x_3), (3, .int x_1), (0, .ref pt), (1, .int a1), (2, .int a2)]) hx hb dX5_changeRows_13 hl (by decide) rfl (fun ls hl => ?_)
  refine lv_aload_n hx hb dX5_changeRows_15 rfl (lv_at hl 2 rfl) ?_
  refine va_get (C := RX5) (T := TX5) (N := 8) hx hb hts iX5 hown K.1 hP 0 rfl rfl 4 (by decide) (hts (.fieldLink RX5 18 "DarkMine$Pit" "planMiners" "[I") (by decide +kernel)) (fun _ h9 => h9) (v := .ref pt_planMiners) rfl dX5_changeRows_16 ?_
  refine lv_iload_n hx hb dX5_changeRows_19 rfl (lv_at hl 3 rfl) ?_
  refine lv_aload_n hx hb dX5_changeRows_20 rfl (lv_at hl 2 rfl) ?_
  refine va_get (C := RX5) (T := TX5) (N := 8) hx hb hts iX5 hown K.1 hP 0 rfl rfl 4 (by decide) (hts (.fieldLink RX5 18 "DarkMine$Pit" "planMiners" "[I") (by decide +kernel)) (fun _ h9 => h9) (v := .ref pt_planMiners) rfl dX5_changeRows_21 ?_
  refine lv_iload_n hx hb dX5_changeRows_24 rfl (lv_at hl 4 rfl) ?_
  have hin_6 : vp_in a2 16 := (dk_inv (by omega) (by omega))
  refine dk_iald hx hb K hP 1 rfl hin_6 rfl dX5_changeRows_25 ?_
  refine lv_topi (fun x_5 ex_5 => ?_)
  have jx_5 := dk_all_at b_ptf_planMiners hin_6 ex_5
  obtain ⟨f_7, hf_7⟩ : ∃ f', f' = upd ptf_planMiners (a1 : Int32).toNatClampNeg x_5 := ⟨_, rfl⟩
  have jf_7 := dk_all_upd b_ptf_planMiners _ (show 0 ≤ (x_5).toInt ∧ (x_5).toInt ≤ 5 from (by omega)) hf_7
  refine dk_iast hx hb K hP hD hS 1 rfl f_7 (fun _ _ => by rw [hf_7]) (dk_inv (by omega) (by omega)) dX5_changeRows_26 (fun H locs hP hD hS => ?_)
  have hP : va_P D vwCl [(pt, .inr (5, [.int pt_shift, .int pt_purse, .ref pt_cells, .ref pt_hurts, .ref pt_planMiners, .ref pt_planPlaces, .ref pt_sold, .ref pt_tubCounts])), (pt_planMiners, .inl (g 0, 16, .inl f_7)), (pt_planPlaces, .inl (g 0, 16, .inl ptf_planPlaces))] H := hP
  have hD : va_D A [(pt, .inr (5, [.int pt_shift, .int pt_purse, .ref pt_cells, .ref pt_hurts, .ref pt_planMiners, .ref pt_planPlaces, .ref pt_sold, .ref pt_tubCounts])), (pt_planMiners, .inl (g 0, 16, .inl f_7)), (pt_planPlaces, .inl (g 0, 16, .inl ptf_planPlaces))] := hD
  refine lv_aload_n hx hb dX5_changeRows_27 rfl (lv_at hl 2 rfl) ?_
  refine va_get (C := RX5) (T := TX5) (N := 8) hx hb hts iX5 hown K.1 hP 0 rfl rfl 5 (by decide) (hts (.fieldLink RX5 21 "DarkMine$Pit" "planPlaces" "[I") (by decide +kernel)) (fun _ h9 => h9) (v := .ref pt_planPlaces) rfl dX5_changeRows_28 ?_
  refine lv_iload_n hx hb dX5_changeRows_31 rfl (lv_at hl 3 rfl) ?_
  refine lv_aload_n hx hb dX5_changeRows_32 rfl (lv_at hl 2 rfl) ?_
  refine va_get (C := RX5) (T := TX5) (N := 8) hx hb hts iX5 hown K.1 hP 0 rfl rfl 5 (by decide) (hts (.fieldLink RX5 21 "DarkMine$Pit" "planPlaces" "[I") (by decide +kernel)) (fun _ h9 => h9) (v := .ref pt_planPlaces) rfl dX5_changeRows_33 ?_
  refine lv_iload_n hx hb dX5_changeRows_36 rfl (lv_at hl 4 rfl) ?_
  have hin_9 : vp_in a2 16 := (dk_inv (by omega) (by omega))
  refine dk_iald hx hb K hP 2 rfl hin_9 rfl dX5_changeRows_37 ?_
  refine lv_topi (fun x_8 ex_8 => ?_)
  have jx_8 := dk_all_at b_ptf_planPlaces hin_9 ex_8
  obtain ⟨f_10, hf_10⟩ : ∃ f', f' = upd ptf_planPlaces (a1 : Int32).toNatClampNeg x_8 := ⟨_, rfl⟩
  have jf_10 := dk_all_upd b_ptf_planPlaces _ (show 0 ≤ (x_8).toInt ∧ (x_8).toInt ≤ 63 from (by omega)) hf_10
  refine dk_iast hx hb K hP hD hS 2 rfl f_10 (fun _ _ => by rw [hf_10]) (dk_inv (by omega) (by omega)) dX5_changeRows_38 (fun H locs hP hD hS => ?_)
  have hP : va_P D vwCl [(pt, .inr (5, [.int pt_shift, .int pt_purse, .ref pt_cells, .ref pt_hurts, .ref pt_planMiners, .ref pt_planPlaces, .ref pt_sold, .ref pt_tubCounts])), (pt_planMiners, .inl (g 0, 16, .inl f_7)), (pt_planPlaces, .inl (g 0, 16, .inl f_10))] H := hP
  have hD : va_D A [(pt, .inr (5, [.int pt_shift, .int pt_purse, .ref pt_cells, .ref pt_hurts, .ref pt_planMiners, .ref pt_planPlaces, .ref pt_sold, .ref pt_tubCounts])), (pt_planMiners, .inl (g 0, 16, .inl f_7)), (pt_planPlaces, .inl (g 0, 16, .inl f_10))] := hD
  refine lv_aload_n hx hb dX5_changeRows_39 rfl (lv_at hl 2 rfl) ?_
  refine va_get (C := RX5) (T := TX5) (N := 8) hx hb hts iX5 hown K.1 hP 0 rfl rfl 4 (by decide) (hts (.fieldLink RX5 18 "DarkMine$Pit" "planMiners" "[I") (by decide +kernel)) (fun _ h9 => h9) (v := .ref pt_planMiners) rfl dX5_changeRows_40 ?_
  refine lv_iload_n hx hb dX5_changeRows_43 rfl (lv_at hl 4 rfl) ?_
  refine lv_iload_n hx hb dX5_changeRows_44 rfl (lv_at hl 1 rfl) ?_
  obtain ⟨f_11, hf_11⟩ : ∃ f', f' = upd f_7 (a2 : Int32).toNatClampNeg x_1 := ⟨_, rfl⟩
  have jf_11 := dk_all_upd jf_7 _ (show 0 ≤ (x_1).toInt ∧ (x_1).toInt ≤ 5 from (by omega)) hf_11
  refine dk_iast hx hb K hP hD hS 1 rfl f_11 (fun _ _ => by rw [hf_11]) (dk_inv (by omega) (by omega)) dX5_changeRows_45 (fun H locs hP hD hS => ?_)
  have hP : va_P D vwCl [(pt, .inr (5, [.int pt_shift, .int pt_purse, .ref pt_cells, .ref pt_hurts, .ref pt_planMiners, .ref pt_planPlaces, .ref pt_sold, .ref pt_tubCounts])), (pt_planMiners, .inl (g 0, 16, .inl f_11)), (pt_planPlaces, .inl (g 0, 16, .inl f_10))] H := hP
  have hD : va_D A [(pt, .inr (5, [.int pt_shift, .int pt_purse, .ref pt_cells, .ref pt_hurts, .ref pt_planMiners, .ref pt_planPlaces, .ref pt_sold, .ref pt_tubCounts])), (pt_planMiners, .inl (g 0, 16, .inl f_11)), (pt_planPlaces, .inl (g 0, 16, .inl f_10))] := hD
  refine lv_aload_n hx hb dX5_changeRows_46 rfl (lv_at hl 2 rfl) ?_
  refine va_get (C := RX5) (T := TX5) (N := 8) hx hb hts iX5 hown K.1 hP 0 rfl rfl 5 (by decide) (hts (.fieldLink RX5 21 "DarkMine$Pit" "planPlaces" "[I") (by decide +kernel)) (fun _ h9 => h9) (v := .ref pt_planPlaces) rfl dX5_changeRows_47 ?_
  refine lv_iload_n hx hb dX5_changeRows_50 rfl (lv_at hl 4 rfl) ?_
  refine lv_iload hx hb dX5_changeRows_51 (lv_at hl 0 rfl) ?_
  obtain ⟨f_12, hf_12⟩ : ∃ f', f' = upd f_10 (a2 : Int32).toNatClampNeg x_3 := ⟨_, rfl⟩
  have jf_12 := dk_all_upd jf_10 _ (show 0 ≤ (x_3).toInt ∧ (x_3).toInt ≤ 63 from (by omega)) hf_12
  refine dk_iast hx hb K hP hD hS 2 rfl f_12 (fun _ _ => by rw [hf_12]) (dk_inv (by omega) (by omega)) dX5_changeRows_53 (fun H locs hP hD hS => ?_)
  have hP : va_P D vwCl [(pt, .inr (5, [.int pt_shift, .int pt_purse, .ref pt_cells, .ref pt_hurts, .ref pt_planMiners, .ref pt_planPlaces, .ref pt_sold, .ref pt_tubCounts])), (pt_planMiners, .inl (g 0, 16, .inl f_11)), (pt_planPlaces, .inl (g 0, 16, .inl f_12))] H := hP
  have hD : va_D A [(pt, .inr (5, [.int pt_shift, .int pt_purse, .ref pt_cells, .ref pt_hurts, .ref pt_planMiners, .ref pt_planPlaces, .ref pt_sold, .ref pt_tubCounts])), (pt_planMiners, .inl (g 0, 16, .inl f_11)), (pt_planPlaces, .inl (g 0, 16, .inl f_12))] := hD
  refine W.widen (k := 0) (n := 0) (Nat.le_of_ble_eq_true rfl) (Nat.le_of_ble_eq_true rfl) ?_
  exact dk_vret hx hb hr hlocks hP hD hS ⟨f_11, f_12⟩ [0, 1, 2] rfl (by decide) ⟨jf_11, jf_12, trivial⟩ dX5_changeRows_54
set_option maxHeartbeats 8000000 in
set_option maxRecDepth 100000 in
theorem c_p_tubsFrom (l : Launch) (g : Nat → ClassId) (D : va_G) (pt : Nat) (pt_shift : Int32) (pt_purse : Int32) (pt_cells : Nat) (pt_hurts : Nat) (pt_planMiners : Nat) (pt_planPlaces : Nat) (pt_sold : Nat) (pt_tubCounts : Nat) (ptf_tubCounts : Nat → Int32) (a1 : Int32) (b_pt_shift : 0 ≤ (pt_shift).toInt ∧ (pt_shift).toInt ≤ 999) (b_pt_purse : 0 ≤ (pt_purse).toInt ∧ (pt_purse).toInt ≤ 99999) (b_ptf_tubCounts : dk_all 10 ptf_tubCounts 0 99) (b_a1 : 0 ≤ (a1).toInt ∧ (a1).toInt ≤ 9) (sz : Nat) : Met l yX5_tubsFrom wsX5_tubsFrom ({ frames := 1, cells := 0, slots := 0, locals := 32 } : Room) (dk_Pc g D [(pt, .inr (5, [.int pt_shift, .int pt_purse, .ref pt_cells, .ref pt_hurts, .ref pt_planMiners, .ref pt_planPlaces, .ref pt_sold, .ref pt_tubCounts])), (pt_tubCounts, .inl (g 0, 10, .inl ptf_tubCounts))] sz [.ref pt, .int a1]) (va_Qi (fun (r : Int32) (_ : Unit) => (0 ≤ (r).toInt ∧ (r).toInt ≤ 990) ∧ True) (dk_B D (va_A [(pt, .inr (5, [.int pt_shift, .int pt_purse, .ref pt_cells, .ref pt_hurts, .ref pt_planMiners, .ref pt_planPlaces, .ref pt_sold, .ref pt_tubCounts])), (pt_tubCounts, .inl (g 0, 10, .inl ptf_tubCounts))] sz) (fun (_ : Unit) => [(pt, .inr (5, [.int pt_shift, .int pt_purse, .ref pt_cells, .ref pt_hurts, .ref pt_planMiners, .ref pt_planPlaces, .ref pt_sold, .ref pt_tubCounts])), (pt_tubCounts, .inl (g 0, 10, .inl ptf_tubCounts))])) (va_A [(pt, .inr (5, [.int pt_shift, .int pt_purse, .ref pt_cells, .ref pt_hurts, .ref pt_planMiners, .ref pt_planPlaces, .ref pt_sold, .ref pt_tubCounts])), (pt_tubCounts, .inl (g 0, 10, .inl ptf_tubCounts))] sz)) 0 0 (va_A [(pt, .inr (5, [.int pt_shift, .int pt_purse, .ref pt_cells, .ref pt_hurts, .ref pt_planMiners, .ref pt_planPlaces, .ref pt_sold, .ref pt_tubCounts])), (pt_tubCounts, .inl (g 0, 10, .inl ptf_tubCounts))] sz) := by
  refine dk_met (cc := cX5_tubsFrom) (maxL := 4) (ret := (some .int)) (by decide) rfl (Nat.le_of_ble_eq_true rfl) ?_
  intro p e s m args below meth c harg hx hb hr hml hts hown hlocks hin hP K hD hS hA hsz ls hl
  subst hsz
  generalize va_A [(pt, .inr (5, [.int pt_shift, .int pt_purse, .ref pt_cells, .ref pt_hurts, .ref pt_planMiners, .ref pt_planPlaces, .ref pt_sold, .ref pt_tubCounts])), (pt_tubCounts, .inl (g 0, 10, .inl ptf_tubCounts))] s.heap.size = A at hD hS hA ⊢
  have F : CallFix p m c cX5_tubsFrom 4 s args wsX5_tubsFrom RX5 := ⟨hx, hb, hml, hown, hts⟩
  have hl : lv_has ls 4 [(0, .ref pt), (1, .int a1)] := hl
  have iX5 : ∀ w ∈ wsX50, w ∈ wsX5_tubsFrom := fun _ h => List.mem_cons_of_mem _ (List.mem_append_right _ h)
  refine lv_iconst (v := 0) hx hb dX5_tubsFrom_0 (by decide +kernel) ?_
  refine lv_istore_n (lv' := [(2, .int 0), (0, .ref pt), (1, .int a1)]) hx hb dX5_tubsFrom_1 rfl hl (by decide) rfl (fun ls hl => ?_)
  refine lv_iload_n hx hb dX5_tubsFrom_2 rfl (lv_at hl 2 rfl) ?_
  refine lv_istore_n (lv' := [(3, .int a1), (2, .int 0), (0, .ref pt), (1, .int a1)]) hx hb dX5_tubsFrom_3 rfl hl (by decide) rfl (fun ls hl => ?_)
  have hz_4 : (0 : Int32).toInt = 0 := by decide +kernel
  have loop_2 : ∀ (n : Nat) (i_1 : Int32) (x_3 : Int32), 0 ≤ (i_1).toInt → (0 ≤ (x_3).toInt ∧ (x_3).toInt ≤ 990) → ((x_3).toInt ≤ 99 * (i_1).toInt) → 10 - (i_1).toInt = (n : Int) → ∀ (H : Heap) (locs : List Loc), va_P D vwCl [(pt, .inr (5, [.int pt_shift, .int pt_purse, .ref pt_cells, .ref pt_hurts, .ref pt_planMiners, .ref pt_planPlaces, .ref pt_sold, .ref pt_tubCounts])), (pt_tubCounts, .inl (g 0, 10, .inl ptf_tubCounts))] H → va_D A [(pt, .inr (5, [.int pt_shift, .int pt_purse, .ref pt_cells, .ref pt_hurts, .ref pt_planMiners, .ref pt_planPlaces, .ref pt_sold, .ref pt_tubCounts])), (pt_tubCounts, .inl (g 0, 10, .inl ptf_tubCounts))] → va_S A s.heap H locs → ∀ ls : Array Slot, lv_has ls 4 [(3, .int i_1), (2, .int x_3), (0, .ref pt), (1, .int a1)] → W p l e ({ frames := 1, cells := 0, slots := 0, locals := 32 } : Room) s m args below meth c H locs (0) (0) (MQ below (va_Qi (fun (r : Int32) (_ : Unit) => (0 ≤ (r).toInt ∧ (r).toInt ≤ 990) ∧ True) (dk_B D A (fun (_ : Unit) => [(pt, .inr (5, [.int pt_shift, .int pt_purse, .ref pt_cells, .ref pt_hurts, .ref pt_planMiners, .ref pt_planPlaces, .ref pt_sold, .ref pt_tubCounts])), (pt_tubCounts, .inl (g 0, 10, .inl ptf_tubCounts))])) A) args s 0 0 A) (F0 m 4 ls []) := by
    intro n
    induction n with
    | zero =>
      intro i_1 x_3 blo_i_1 b_x_3 b_rel1 hm H locs hP hD hS ls hl
      refine lv_iload_n hx hb dX5_tubsFrom_4 rfl (lv_at hl 0 rfl) ?_
      refine lv_bipush (v := 9) hx hb dX5_tubsFrom_5 (by decide +kernel) ?_
      refine lv_icmp_gt (tgt := 25) hx hb dX5_tubsFrom_7 (by decide) (fun _ => ?_) (fun c => absurd (dk_gtp (k := 9) (by decide +kernel) (by omega)) c)
      refine lv_iload_n hx hb dX5_tubsFrom_25 rfl (lv_at hl 1 rfl) ?_
      refine W.widen (k := 0) (n := 0) (Nat.le_of_ble_eq_true rfl) (Nat.le_of_ble_eq_true rfl) ?_
      exact dk_iret hx hb hr hlocks rfl hP hD hS () [0, 1] rfl (by decide) ⟨(by omega), trivial⟩ dX5_tubsFrom_26
    | succ n ih =>
      intro i_1 x_3 blo_i_1 b_x_3 b_rel1 hm H locs hP hD hS ls hl
      refine lv_iload_n hx hb dX5_tubsFrom_4 rfl (lv_at hl 0 rfl) ?_
      refine lv_bipush (v := 9) hx hb dX5_tubsFrom_5 (by decide +kernel) ?_
      refine lv_icmp_gt (tgt := 25) hx hb dX5_tubsFrom_7 (by decide) (fun c => absurd c (fun z => absurd (dk_gtc (k := 9) (by decide +kernel) z) (by omega))) (fun _ => ?_)
      refine lv_iload_n hx hb dX5_tubsFrom_10 rfl (lv_at hl 1 rfl) ?_
      refine lv_aload_n hx hb dX5_tubsFrom_11 rfl (lv_at hl 2 rfl) ?_
      refine va_get (C := RX5) (T := TX5) (N := 8) hx hb hts iX5 hown K.1 hP 0 rfl rfl 7 (by decide) (hts (.fieldLink RX5 27 "DarkMine$Pit" "tubCounts" "[I") (by decide +kernel)) (fun _ h9 => h9) (v := .ref pt_tubCounts) rfl dX5_tubsFrom_12 ?_
      refine lv_iload_n hx hb dX5_tubsFrom_15 rfl (lv_at hl 0 rfl) ?_
      have hin_6 : vp_in i_1 10 := (dk_inv (by omega) (by omega))
      refine dk_iald hx hb K hP 1 rfl hin_6 rfl dX5_tubsFrom_16 ?_
      refine lv_topi (fun x_5 ex_5 => ?_)
      have jx_5 := dk_all_at b_ptf_tubCounts hin_6 ex_5
      refine lv_iadd hx hb dX5_tubsFrom_17 ?_
      refine lv_topi (fun x_7 ex_7 => ?_)
      have jx_7 : (x_7).toInt = (x_3).toInt + (x_5).toInt := by rw [ex_7]; exact dk_addT rfl rfl (by omega) (by omega)
      refine lv_istore_n (lv' := [(2, .int x_7), (3, .int i_1), (0, .ref pt), (1, .int a1)]) hx hb dX5_tubsFrom_18 rfl hl (by decide) rfl (fun ls hl => ?_)
      obtain ⟨x_8, ex_8⟩ : ∃ z, z = i_1 + 1 := ⟨_, rfl⟩
      have jx_8 : (x_8).toInt = (i_1).toInt + 1 := by rw [ex_8]; exact dk_addT rfl (by decide +kernel) (by omega) (by omega)
      refine lv_iinc (v := x_8) (lv' := [(3, .int x_8), (2, .int x_7), (0, .ref pt), (1, .int a1)]) hx hb dX5_tubsFrom_19 hl (k := 1) rfl (by rw [ex_8]; rfl) (by decide) rfl (fun ls hl => ?_)
      refine lv_goto (tgt := 4) hx hb dX5_tubsFrom_22 (by decide) ?_
      have hP := hP.sub (ws' := [(pt, .inr (5, [.int pt_shift, .int pt_purse, .ref pt_cells, .ref pt_hurts, .ref pt_planMiners, .ref pt_planPlaces, .ref pt_sold, .ref pt_tubCounts])), (pt_tubCounts, .inl (g 0, 10, .inl ptf_tubCounts))]) [0, 1] rfl
      have hD := hD.sub (ws' := [(pt, .inr (5, [.int pt_shift, .int pt_purse, .ref pt_cells, .ref pt_hurts, .ref pt_planMiners, .ref pt_planPlaces, .ref pt_sold, .ref pt_tubCounts])), (pt_tubCounts, .inl (g 0, 10, .inl ptf_tubCounts))]) [0, 1] (by decide) rfl
      exact ih x_8 x_7 (by omega) (by omega) (by omega) (by omega) _ _ hP hD hS _ (lv_sub hl [0, 1, 2, 3] rfl)
  exact loop_2 ((10 : Int) - (a1).toInt).toNat a1 0 (by omega) (by omega) (by omega) (by omega) _ _ hP hD hS _ (lv_sub hl [0, 1, 2, 3] rfl)
set_option maxHeartbeats 8000000 in
set_option maxRecDepth 100000 in
theorem c_p_tubGrades (l : Launch) (g : Nat → ClassId) (D : va_G) (pt : Nat) (pt_shift : Int32) (pt_purse : Int32) (pt_cells : Nat) (pt_hurts : Nat) (pt_planMiners : Nat) (pt_planPlaces : Nat) (pt_sold : Nat) (pt_tubCounts : Nat) (ptf_tubCounts : Nat → Int32) (b_pt_shift : 0 ≤ (pt_shift).toInt ∧ (pt_shift).toInt ≤ 999) (b_pt_purse : 0 ≤ (pt_purse).toInt ∧ (pt_purse).toInt ≤ 99999) (b_ptf_tubCounts : dk_all 10 ptf_tubCounts 0 99) (sz : Nat) : Met l yX5_tubGrades wsX5_tubGrades ({ frames := 1, cells := 0, slots := 0, locals := 32 } : Room) (dk_Pc g D [(pt, .inr (5, [.int pt_shift, .int pt_purse, .ref pt_cells, .ref pt_hurts, .ref pt_planMiners, .ref pt_planPlaces, .ref pt_sold, .ref pt_tubCounts])), (pt_tubCounts, .inl (g 0, 10, .inl ptf_tubCounts))] sz [.ref pt]) (va_Qi (fun (r : Int32) (_ : Unit) => (0 ≤ (r).toInt ∧ (r).toInt ≤ 8910) ∧ True) (dk_B D (va_A [(pt, .inr (5, [.int pt_shift, .int pt_purse, .ref pt_cells, .ref pt_hurts, .ref pt_planMiners, .ref pt_planPlaces, .ref pt_sold, .ref pt_tubCounts])), (pt_tubCounts, .inl (g 0, 10, .inl ptf_tubCounts))] sz) (fun (_ : Unit) => [(pt, .inr (5, [.int pt_shift, .int pt_purse, .ref pt_cells, .ref pt_hurts, .ref pt_planMiners, .ref pt_planPlaces, .ref pt_sold, .ref pt_tubCounts])), (pt_tubCounts, .inl (g 0, 10, .inl ptf_tubCounts))])) (va_A [(pt, .inr (5, [.int pt_shift, .int pt_purse, .ref pt_cells, .ref pt_hurts, .ref pt_planMiners, .ref pt_planPlaces, .ref pt_sold, .ref pt_tubCounts])), (pt_tubCounts, .inl (g 0, 10, .inl ptf_tubCounts))] sz)) 0 0 (va_A [(pt, .inr (5, [.int pt_shift, .int pt_purse, .ref pt_cells, .ref pt_hurts, .ref pt_planMiners, .ref pt_planPlaces, .ref pt_sold, .ref pt_tubCounts])), (pt_tubCounts, .inl (g 0, 10, .inl ptf_tubCounts))] sz) := by
  refine dk_met (cc := cX5_tubGrades) (maxL := 3) (ret := (some .int)) (by decide) rfl (Nat.le_of_ble_eq_true rfl) ?_
  intro p e s m args below meth c harg hx hb hr hml hts hown hlocks hin hP K hD hS hA hsz ls hl
  subst hsz
  generalize va_A [(pt, .inr (5, [.int pt_shift, .int pt_purse, .ref pt_cells, .ref pt_hurts, .ref pt_planMiners, .ref pt_planPlaces, .ref pt_sold, .ref pt_tubCounts])), (pt_tubCounts, .inl (g 0, 10, .inl ptf_tubCounts))] s.heap.size = A at hD hS hA ⊢
  have F : CallFix p m c cX5_tubGrades 3 s args wsX5_tubGrades RX5 := ⟨hx, hb, hml, hown, hts⟩
  have hl : lv_has ls 3 [(0, .ref pt)] := hl
  have iX5 : ∀ w ∈ wsX50, w ∈ wsX5_tubGrades := fun _ h => List.mem_cons_of_mem _ (List.mem_append_right _ h)
  refine lv_iconst (v := 0) hx hb dX5_tubGrades_0 (by decide +kernel) ?_
  refine lv_istore_n (lv' := [(1, .int 0), (0, .ref pt)]) hx hb dX5_tubGrades_1 rfl hl (by decide) rfl (fun ls hl => ?_)
  refine lv_iconst (v := 0) hx hb dX5_tubGrades_2 (by decide +kernel) ?_
  refine lv_istore_n (lv' := [(2, .int 0), (1, .int 0), (0, .ref pt)]) hx hb dX5_tubGrades_3 rfl hl (by decide) rfl (fun ls hl => ?_)
  have hz_4 : (0 : Int32).toInt = 0 := by decide +kernel
  have loop_2 : ∀ (n : Nat) (i_1 : Int32) (x_3 : Int32), 0 ≤ (i_1).toInt → (0 ≤ (x_3).toInt ∧ (x_3).toInt ≤ 8910) → ((x_3).toInt ≤ 891 * (i_1).toInt) → 10 - (i_1).toInt = (n : Int) → ∀ (H : Heap) (locs : List Loc), va_P D vwCl [(pt, .inr (5, [.int pt_shift, .int pt_purse, .ref pt_cells, .ref pt_hurts, .ref pt_planMiners, .ref pt_planPlaces, .ref pt_sold, .ref pt_tubCounts])), (pt_tubCounts, .inl (g 0, 10, .inl ptf_tubCounts))] H → va_D A [(pt, .inr (5, [.int pt_shift, .int pt_purse, .ref pt_cells, .ref pt_hurts, .ref pt_planMiners, .ref pt_planPlaces, .ref pt_sold, .ref pt_tubCounts])), (pt_tubCounts, .inl (g 0, 10, .inl ptf_tubCounts))] → va_S A s.heap H locs → ∀ ls : Array Slot, lv_has ls 3 [(2, .int i_1), (1, .int x_3), (0, .ref pt)] → W p l e ({ frames := 1, cells := 0, slots := 0, locals := 32 } : Room) s m args below meth c H locs (0) (0) (MQ below (va_Qi (fun (r : Int32) (_ : Unit) => (0 ≤ (r).toInt ∧ (r).toInt ≤ 8910) ∧ True) (dk_B D A (fun (_ : Unit) => [(pt, .inr (5, [.int pt_shift, .int pt_purse, .ref pt_cells, .ref pt_hurts, .ref pt_planMiners, .ref pt_planPlaces, .ref pt_sold, .ref pt_tubCounts])), (pt_tubCounts, .inl (g 0, 10, .inl ptf_tubCounts))])) A) args s 0 0 A) (F0 m 4 ls []) := by
    intro n
    induction n with
    | zero =>
      intro i_1 x_3 blo_i_1 b_x_3 b_rel1 hm H locs hP hD hS ls hl
      refine lv_iload_n hx hb dX5_tubGrades_4 rfl (lv_at hl 0 rfl) ?_
      refine lv_bipush (v := 9) hx hb dX5_tubGrades_5 (by decide +kernel) ?_
      refine lv_icmp_gt (tgt := 27) hx hb dX5_tubGrades_7 (by decide) (fun _ => ?_) (fun c => absurd (dk_gtp (k := 9) (by decide +kernel) (by omega)) c)
      refine lv_iload_n hx hb dX5_tubGrades_27 rfl (lv_at hl 1 rfl) ?_
      refine W.widen (k := 0) (n := 0) (Nat.le_of_ble_eq_true rfl) (Nat.le_of_ble_eq_true rfl) ?_
      exact dk_iret hx hb hr hlocks rfl hP hD hS () [0, 1] rfl (by decide) ⟨(by omega), trivial⟩ dX5_tubGrades_28
    | succ n ih =>
      intro i_1 x_3 blo_i_1 b_x_3 b_rel1 hm H locs hP hD hS ls hl
      refine lv_iload_n hx hb dX5_tubGrades_4 rfl (lv_at hl 0 rfl) ?_
      refine lv_bipush (v := 9) hx hb dX5_tubGrades_5 (by decide +kernel) ?_
      refine lv_icmp_gt (tgt := 27) hx hb dX5_tubGrades_7 (by decide) (fun c => absurd c (fun z => absurd (dk_gtc (k := 9) (by decide +kernel) z) (by omega))) (fun _ => ?_)
      refine lv_iload_n hx hb dX5_tubGrades_10 rfl (lv_at hl 1 rfl) ?_
      refine lv_iload_n hx hb dX5_tubGrades_11 rfl (lv_at hl 0 rfl) ?_
      refine lv_aload_n hx hb dX5_tubGrades_12 rfl (lv_at hl 2 rfl) ?_
      refine va_get (C := RX5) (T := TX5) (N := 8) hx hb hts iX5 hown K.1 hP 0 rfl rfl 7 (by decide) (hts (.fieldLink RX5 27 "DarkMine$Pit" "tubCounts" "[I") (by decide +kernel)) (fun _ h9 => h9) (v := .ref pt_tubCounts) rfl dX5_tubGrades_13 ?_
      refine lv_iload_n hx hb dX5_tubGrades_16 rfl (lv_at hl 0 rfl) ?_
      have hin_6 : vp_in i_1 10 := (dk_inv (by omega) (by omega))
      refine dk_iald hx hb K hP 1 rfl hin_6 rfl dX5_tubGrades_17 ?_
      refine lv_topi (fun x_5 ex_5 => ?_)
      have jx_5 := dk_all_at b_ptf_tubCounts hin_6 ex_5
      refine lv_imul hx hb dX5_tubGrades_18 ?_
      refine lv_topi (fun x_7 ex_7 => ?_)
      have jx_7 := dk_mulB (x := i_1) (y := x_5) (A := 9) (B := 99) (by omega) (by omega) (by decide)
      rw [← ex_7] at jx_7
      refine lv_iadd hx hb dX5_tubGrades_19 ?_
      refine lv_topi (fun x_8 ex_8 => ?_)
      have jx_8 : (x_8).toInt = (x_3).toInt + (x_7).toInt := by rw [ex_8]; exact dk_addT rfl rfl (by omega) (by omega)
      refine lv_istore_n (lv' := [(1, .int x_8), (2, .int i_1), (0, .ref pt)]) hx hb dX5_tubGrades_20 rfl hl (by decide) rfl (fun ls hl => ?_)
      obtain ⟨x_9, ex_9⟩ : ∃ z, z = i_1 + 1 := ⟨_, rfl⟩
      have jx_9 : (x_9).toInt = (i_1).toInt + 1 := by rw [ex_9]; exact dk_addT rfl (by decide +kernel) (by omega) (by omega)
      refine lv_iinc (v := x_9) (lv' := [(2, .int x_9), (1, .int x_8), (0, .ref pt)]) hx hb dX5_tubGrades_21 hl (k := 1) rfl (by rw [ex_9]; rfl) (by decide) rfl (fun ls hl => ?_)
      refine lv_goto (tgt := 4) hx hb dX5_tubGrades_24 (by decide) ?_
      have hP := hP.sub (ws' := [(pt, .inr (5, [.int pt_shift, .int pt_purse, .ref pt_cells, .ref pt_hurts, .ref pt_planMiners, .ref pt_planPlaces, .ref pt_sold, .ref pt_tubCounts])), (pt_tubCounts, .inl (g 0, 10, .inl ptf_tubCounts))]) [0, 1] rfl
      have hD := hD.sub (ws' := [(pt, .inr (5, [.int pt_shift, .int pt_purse, .ref pt_cells, .ref pt_hurts, .ref pt_planMiners, .ref pt_planPlaces, .ref pt_sold, .ref pt_tubCounts])), (pt_tubCounts, .inl (g 0, 10, .inl ptf_tubCounts))]) [0, 1] (by decide) rfl
      exact ih x_9 x_8 (by omega) (by omega) (by omega) (by omega) _ _ hP hD hS _ (lv_sub hl [0, 1, 2] rfl)
  have hz_10 : (0 : Int32).toInt = 0 := by decide +kernel
  exact loop_2 ((10 : Int) - 0).toNat 0 0 (by omega) (by omega) (by omega) (by omega) _ _ hP hD hS _ (lv_sub hl [0, 1, 2] rfl)
