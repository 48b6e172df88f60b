/-! 05.ground.lean.txt -/
def wsX2_placeOf : List Cond := .code yX2_placeOf cX2_placeOf 3 (some .int) :: ([.fieldLink RX2 49 "DarkMine$Ground" "columns" "I", .fieldLink RX2 52 "DarkMine$Ground" "rows" "I"] ++ wsX20)
def wsX2_endOfPlaces : List Cond := .code yX2_endOfPlaces cX2_endOfPlaces 1 (some .int) :: ([.fieldLink RX2 52 "DarkMine$Ground" "rows" "I"] ++ wsX20)
def wsX2_hasSeam : List Cond := .code yX2_hasSeam cX2_hasSeam 1 (some .boolean) :: ([.fieldLink RX2 49 "DarkMine$Ground" "columns" "I"] ++ wsX20)
def wsX2_hasMiner : List Cond := .code yX2_hasMiner cX2_hasMiner 2 (some .boolean) :: ([.fieldLink RX2 67 "DarkMine$Ground" "miners" "I"] ++ wsX20)
def wsX2_hasPlanRow : List Cond := .code yX2_hasPlanRow cX2_hasPlanRow 2 (some .boolean) :: ([.fieldLink RX2 70 "DarkMine$Ground" "planRows" "I"] ++ wsX20)
def wsX2_hasOrder : List Cond := .code yX2_hasOrder cX2_hasOrder 2 (some .boolean) :: ([.fieldLink RX2 73 "DarkMine$Ground" "orders" "I"] ++ wsX20)
theorem dX2_hasSeam_0 : decode cX2_hasSeam 0 = .ok (.aload_n 0, 1) := by decide +kernel
theorem dX2_hasSeam_1 : decode cX2_hasSeam 1 = .ok (.getfield 49, 3) := by decide +kernel
theorem dX2_hasSeam_4 : decode cX2_hasSeam 4 = .ok (.ifCond .le 7, 3) := by decide +kernel
theorem dX2_hasSeam_7 : decode cX2_hasSeam 7 = .ok (.iconst 1, 1) := by decide +kernel
theorem dX2_hasSeam_8 : decode cX2_hasSeam 8 = .ok (.goto 4, 3) := by decide +kernel
theorem dX2_hasSeam_11 : decode cX2_hasSeam 11 = .ok (.iconst 0, 1) := by decide +kernel
theorem dX2_hasSeam_12 : decode cX2_hasSeam 12 = .ok (.ireturn, 1) := by decide +kernel
theorem dX2_hasMiner_0 : decode cX2_hasMiner 0 = .ok (.iload_n 1, 1) := by decide +kernel
theorem dX2_hasMiner_1 : decode cX2_hasMiner 1 = .ok (.ifCond .lt 15, 3) := by decide +kernel
theorem dX2_hasMiner_4 : decode cX2_hasMiner 4 = .ok (.iload_n 1, 1) := by decide +kernel
theorem dX2_hasMiner_5 : decode cX2_hasMiner 5 = .ok (.aload_n 0, 1) := by decide +kernel
theorem dX2_hasMiner_6 : decode cX2_hasMiner 6 = .ok (.getfield 67, 3) := by decide +kernel
theorem dX2_hasMiner_9 : decode cX2_hasMiner 9 = .ok (.if_icmp .ge 7, 3) := by decide +kernel
theorem dX2_hasMiner_12 : decode cX2_hasMiner 12 = .ok (.iconst 1, 1) := by decide +kernel
theorem dX2_hasMiner_13 : decode cX2_hasMiner 13 = .ok (.goto 4, 3) := by decide +kernel
theorem dX2_hasMiner_16 : decode cX2_hasMiner 16 = .ok (.iconst 0, 1) := by decide +kernel
theorem dX2_hasMiner_17 : decode cX2_hasMiner 17 = .ok (.ireturn, 1) := by decide +kernel
theorem dX2_hasPlanRow_0 : decode cX2_hasPlanRow 0 = .ok (.iload_n 1, 1) := by decide +kernel
theorem dX2_hasPlanRow_1 : decode cX2_hasPlanRow 1 = .ok (.ifCond .lt 15, 3) := by decide +kernel
theorem dX2_hasPlanRow_4 : decode cX2_hasPlanRow 4 = .ok (.iload_n 1, 1) := by decide +kernel
theorem dX2_hasPlanRow_5 : decode cX2_hasPlanRow 5 = .ok (.aload_n 0, 1) := by decide +kernel
theorem dX2_hasPlanRow_6 : decode cX2_hasPlanRow 6 = .ok (.getfield 70, 3) := by decide +kernel
theorem dX2_hasPlanRow_9 : decode cX2_hasPlanRow 9 = .ok (.if_icmp .ge 7, 3) := by decide +kernel
theorem dX2_hasPlanRow_12 : decode cX2_hasPlanRow 12 = .ok (.iconst 1, 1) := by decide +kernel
theorem dX2_hasPlanRow_13 : decode cX2_hasPlanRow 13 = .ok (.goto 4, 3) := by decide +kernel
theorem dX2_hasPlanRow_16 : decode cX2_hasPlanRow 16 = .ok (.iconst 0, 1) := by decide +kernel
theorem dX2_hasPlanRow_17 : decode cX2_hasPlanRow 17 = .ok (.ireturn, 1) := by decide +kernel
theorem dX2_hasOrder_0 : decode cX2_hasOrder 0 = .ok (.iload_n 1, 1) := by decide +kernel
theorem dX2_hasOrder_1 : decode cX2_hasOrder 1 = .ok (.ifCond .lt 15, 3) := by decide +kernel
theorem dX2_hasOrder_4 : decode cX2_hasOrder 4 = .ok (.iload_n 1, 1) := by decide +kernel
theorem dX2_hasOrder_5 : decode cX2_hasOrder 5 = .ok (.aload_n 0, 1) := by decide +kernel
theorem dX2_hasOrder_6 : decode cX2_hasOrder 6 = .ok (.getfield 73, 3) := by decide +kernel
theorem dX2_hasOrder_9 : decode cX2_hasOrder 9 = .ok (.if_icmp .ge 7, 3) := by decide +kernel
theorem dX2_hasOrder_12 : decode cX2_hasOrder 12 = .ok (.iconst 1, 1) := by decide +kernel
theorem dX2_hasOrder_13 : decode cX2_hasOrder 13 = .ok (.goto 4, 3) := by decide +kernel
theorem dX2_hasOrder_16 : decode cX2_hasOrder 16 = .ok (.iconst 0, 1) := by decide +kernel
theorem dX2_hasOrder_17 : decode cX2_hasOrder 17 = .ok (.ireturn, 1) := by decide +kernel
theorem dX2_placeOf_0 : decode cX2_placeOf 0 = .ok (.iload_n 1, 1) := by decide +kernel
theorem dX2_placeOf_1 : decode cX2_placeOf 1 = .ok (.ifCond .lt 23, 3) := by decide +kernel
theorem dX2_placeOf_4 : decode cX2_placeOf 4 = .ok (.iload_n 1, 1) := by decide +kernel
theorem dX2_placeOf_5 : decode cX2_placeOf 5 = .ok (.aload_n 0, 1) := by decide +kernel
theorem dX2_placeOf_6 : decode cX2_placeOf 6 = .ok (.getfield 49, 3) := by decide +kernel
theorem dX2_placeOf_9 : decode cX2_placeOf 9 = .ok (.if_icmp .ge 15, 3) := by decide +kernel
theorem dX2_placeOf_12 : decode cX2_placeOf 12 = .ok (.iload_n 2, 1) := by decide +kernel
theorem dX2_placeOf_13 : decode cX2_placeOf 13 = .ok (.ifCond .lt 11, 3) := by decide +kernel
theorem dX2_placeOf_16 : decode cX2_placeOf 16 = .ok (.iload_n 2, 1) := by decide +kernel
theorem dX2_placeOf_17 : decode cX2_placeOf 17 = .ok (.aload_n 0, 1) := by decide +kernel
theorem dX2_placeOf_18 : decode cX2_placeOf 18 = .ok (.getfield 52, 3) := by decide +kernel
theorem dX2_placeOf_21 : decode cX2_placeOf 21 = .ok (.if_icmp .lt 5, 3) := by decide +kernel
theorem dX2_placeOf_24 : decode cX2_placeOf 24 = .ok (.iconst (-1), 1) := by decide +kernel
theorem dX2_placeOf_25 : decode cX2_placeOf 25 = .ok (.ireturn, 1) := by decide +kernel
theorem dX2_placeOf_26 : decode cX2_placeOf 26 = .ok (.bipush 8, 2) := by decide +kernel
theorem dX2_placeOf_28 : decode cX2_placeOf 28 = .ok (.iload_n 2, 1) := by decide +kernel
theorem dX2_placeOf_29 : decode cX2_placeOf 29 = .ok (.imul, 1) := by decide +kernel
theorem dX2_placeOf_30 : decode cX2_placeOf 30 = .ok (.iload_n 1, 1) := by decide +kernel
theorem dX2_placeOf_31 : decode cX2_placeOf 31 = .ok (.iadd, 1) := by decide +kernel
theorem dX2_placeOf_32 : decode cX2_placeOf 32 = .ok (.bipush 8, 2) := by decide +kernel
theorem dX2_placeOf_34 : decode cX2_placeOf 34 = .ok (.iadd, 1) := by decide +kernel
theorem dX2_placeOf_35 : decode cX2_placeOf 35 = .ok (.ireturn, 1) := by decide +kernel
theorem dX2_endOfPlaces_0 : decode cX2_endOfPlaces 0 = .ok (.bipush 8, 2) := by decide +kernel
theorem dX2_endOfPlaces_2 : decode cX2_endOfPlaces 2 = .ok (.aload_n 0, 1) := by decide +kernel
theorem dX2_endOfPlaces_3 : decode cX2_endOfPlaces 3 = .ok (.getfield 52, 3) := by decide +kernel
theorem dX2_endOfPlaces_6 : decode cX2_endOfPlaces 6 = .ok (.imul, 1) := by decide +kernel
theorem dX2_endOfPlaces_7 : decode cX2_endOfPlaces 7 = .ok (.bipush 8, 2) := by decide +kernel
theorem dX2_endOfPlaces_9 : decode cX2_endOfPlaces 9 = .ok (.iadd, 1) := by decide +kernel
theorem dX2_endOfPlaces_10 : decode cX2_endOfPlaces 10 = .ok (.ireturn, 1) := by decide +kernel
set_option maxHeartbeats 8000000 in
set_option maxRecDepth 100000 in
theorem c_g_hasSeam (l : Launch) (g : Nat → ClassId) (D : va_G) (gr : Nat) (gr_columns : Int32) (gr_rows : Int32) (gr_shaftPlace : Int32) (gr_reach : Int32) (gr_quake : Int32) (gr_grades : Nat) (gr_miners : Int32) (gr_minerNames : Nat) (gr_planRows : Int32) (gr_planMiners : Nat) (gr_planPlaces : Nat) (gr_orders : Int32) (gr_orderNames : Nat) (gr_orderGrades : Nat) (gr_orderTubs : Nat) (gr_orderPays : Nat) (gr_steps : Nat) (gr_ruleFrom : Nat) (gr_ruleEnd : Nat) (b_gr_columns : 0 ≤ (gr_columns).toInt ∧ (gr_columns).toInt ≤ 7) (b_gr_rows : 0 ≤ (gr_rows).toInt ∧ (gr_rows).toInt ≤ 7) (b_gr_shaftPlace : (-1) ≤ (gr_shaftPlace).toInt ∧ (gr_shaftPlace).toInt ≤ 63) (b_gr_reach : 0 ≤ (gr_reach).toInt ∧ (gr_reach).toInt ≤ 20) (b_gr_quake : 0 ≤ (gr_quake).toInt ∧ (gr_quake).toInt ≤ 100) (b_gr_miners : 0 ≤ (gr_miners).toInt ∧ (gr_miners).toInt ≤ 6) (b_gr_planRows : 0 ≤ (gr_planRows).toInt ∧ (gr_planRows).toInt ≤ 16) (b_gr_orders : 0 ≤ (gr_orders).toInt ∧ (gr_orders).toInt ≤ 5) (sz : Nat) : Met l yX2_hasSeam wsX2_hasSeam ({ frames := 1, cells := 0, slots := 0, locals := 32 } : Room) (dk_Pc g D [(gr, .inr (2, [.int gr_columns, .int gr_rows, .int gr_shaftPlace, .int gr_reach, .int gr_quake, .ref gr_grades, .int gr_miners, .ref gr_minerNames, .int gr_planRows, .ref gr_planMiners, .ref gr_planPlaces, .int gr_orders, .ref gr_orderNames, .ref gr_orderGrades, .ref gr_orderTubs, .ref gr_orderPays, .ref gr_steps, .ref gr_ruleFrom, .ref gr_ruleEnd]))] sz [.ref gr]) (va_Qi (fun (r : Int32) (_ : Unit) => (0 ≤ (r).toInt ∧ (r).toInt ≤ 1) ∧ ((r).toInt = 1 ↔ 0 < (gr_columns).toInt) ∧ True) (dk_B D (va_A [(gr, .inr (2, [.int gr_columns, .int gr_rows, .int gr_shaftPlace, .int gr_reach, .int gr_quake, .ref gr_grades, .int gr_miners, .ref gr_minerNames, .int gr_planRows, .ref gr_planMiners, .ref gr_planPlaces, .int gr_orders, .ref gr_orderNames, .ref gr_orderGrades, .ref gr_orderTubs, .ref gr_orderPays, .ref gr_steps, .ref gr_ruleFrom, .ref gr_ruleEnd]))] sz) (fun (_ : Unit) => [(gr, .inr (2, [.int gr_columns, .int gr_rows, .int gr_shaftPlace, .int gr_reach, .int gr_quake, .ref gr_grades, .int gr_miners, .ref gr_minerNames, .int gr_planRows, .ref gr_planMiners, .ref gr_planPlaces, .int gr_orders, .ref gr_orderNames, .ref gr_orderGrades, .ref gr_orderTubs, .ref gr_orderPays, .ref gr_steps, .ref gr_ruleFrom, .ref gr_ruleEnd]))])) (va_A [(gr, .inr (2, [.int gr_columns, .int gr_rows, .int gr_shaftPlace, .int gr_reach, .int gr_quake, .ref gr_grades, .int gr_miners, .ref gr_minerNames, .int gr_planRows, .ref gr_planMiners, .ref gr_planPlaces, .int gr_orders, .ref gr_orderNames, .ref gr_orderGrades, .ref gr_orderTubs, .ref gr_orderPays, .ref gr_steps, .ref gr_ruleFrom, .ref gr_ruleEnd]))] sz)) 0 0 (va_A [(gr, .inr (2, [.int gr_columns, .int gr_rows, .int gr_shaftPlace, .int gr_reach, .int gr_quake, .ref gr_grades, .int gr_miners, .ref gr_minerNames, .int gr_planRows, .ref gr_planMiners, .ref gr_planPlaces, .int gr_orders, .ref gr_orderNames, .ref gr_orderGrades, .ref gr_orderTubs, .ref gr_orderPays, .ref gr_steps, .ref gr_ruleFrom, .ref gr_ruleEnd]))] sz) := by
  refine dk_met (cc := cX2_hasSeam) (maxL := 1) (ret := (some .boolean)) (by decide) rfl (Nat.le_of_ble_eq_true rfl) ?_
  intro p e s m args below meth c harg hx hb hr hml hts hown hlocks hin hP K hD hS hA ST hsz ls hl
  subst hsz
  generalize va_A [(gr, .inr (2, [.int gr_columns, .int gr_rows, .int gr_shaftPlace, .int gr_reach, .int gr_quake, .ref gr_grades, .int gr_miners, .ref gr_minerNames, .int gr_planRows, .ref gr_planMiners, .ref gr_planPlaces, .int gr_orders, .ref gr_orderNames, .ref gr_orderGrades, .ref gr_orderTubs, .ref gr_orderPays, .ref gr_steps, .ref gr_ruleFrom, .ref gr_ruleEnd]))] s.heap.size = A at hD hS hA ST ⊢
  have F : CallFix p m c cX2_hasSeam 1 s args wsX2_hasSeam RX2 := ⟨hx, hb, hml, hown, hts⟩
  have hl : lv_has ls 1 [(0, .ref gr)] := hl
  have iX2 : ∀ w ∈ wsX20, w ∈ wsX2_hasSeam := fun _ h => List.mem_cons_of_mem _ (List.mem_append_right _ h)
  refine lv_aload_n hx hb dX2_hasSeam_0 rfl (lv_at hl 0 rfl) ?_
  refine va_get (C := RX2) (T := TX2) (N := 19) hx hb hts iX2 hown K.1 hP 0 rfl rfl 0 (by decide) (hts (.fieldLink RX2 49 "DarkMine$Ground" "columns" "I") (by decide +kernel)) (fun _ h9 => h9) (v := .int gr_columns) rfl dX2_hasSeam_1 ?_
  refine lv_if_le (tgt := 11) hx hb dX2_hasSeam_4 (by decide) (fun c_1 => ?_) (fun c_1 => ?_)
  · have jc_1 := dk_lec (k := 0) (by decide +kernel) c_1
    refine lv_iconst (v := 0) hx hb dX2_hasSeam_11 (by decide +kernel) ?_
    refine W.widen (k := 0) (n := 0) (Nat.le_of_ble_eq_true rfl) (Nat.le_of_ble_eq_true rfl) ?_
    exact dk_iret hx hb hr hlocks (by decide +kernel) hP hD hS () [0] rfl (by decide) ⟨(by decide +kernel), (by have hr9 : (0 : Int32).toInt = 0 := (by decide +kernel); omega), trivial⟩ dX2_hasSeam_12
  · have jc_1 := dk_nlec (k := 0) (by decide +kernel) c_1
    refine lv_iconst (v := 1) hx hb dX2_hasSeam_7 (by decide +kernel) ?_
    refine lv_goto (tgt := 12) hx hb dX2_hasSeam_8 (by decide) ?_
    refine W.widen (k := 0) (n := 0) (Nat.le_of_ble_eq_true rfl) (Nat.le_of_ble_eq_true rfl) ?_
    exact dk_iret hx hb hr hlocks (by decide +kernel) hP hD hS () [0] rfl (by decide) ⟨(by decide +kernel), (by have hr9 : (1 : Int32).toInt = 1 := (by decide +kernel); omega), trivial⟩ dX2_hasSeam_12
set_option maxHeartbeats 8000000 in
set_option maxRecDepth 100000 in
theorem c_g_hasMiner (l : Launch) (g : Nat → ClassId) (D : va_G) (gr : Nat) (gr_columns : Int32) (gr_rows : Int32) (gr_shaftPlace : Int32) (gr_reach : Int32) (gr_quake : Int32) (gr_grades : Nat) (gr_miners : Int32) (gr_minerNames : Nat) (gr_planRows : Int32) (gr_planMiners : Nat) (gr_planPlaces : Nat) (gr_orders : Int32) (gr_orderNames : Nat) (gr_orderGrades : Nat) (gr_orderTubs : Nat) (gr_orderPays : Nat) (gr_steps : Nat) (gr_ruleFrom : Nat) (gr_ruleEnd : Nat) (a1 : Int32) (b_gr_columns : 0 ≤ (gr_columns).toInt ∧ (gr_columns).toInt ≤ 7) (b_gr_rows : 0 ≤ (gr_rows).toInt ∧ (gr_rows).toInt ≤ 7) (b_gr_shaftPlace : (-1) ≤ (gr_shaftPlace).toInt ∧ (gr_shaftPlace).toInt ≤ 63) (b_gr_reach : 0 ≤ (gr_reach).toInt ∧ (gr_reach).toInt ≤ 20) (b_gr_quake : 0 ≤ (gr_quake).toInt ∧ (gr_quake).toInt ≤ 100) (b_gr_miners : 0 ≤ (gr_miners).toInt ∧ (gr_miners).toInt ≤ 6) (b_gr_planRows : 0 ≤ (gr_planRows).toInt ∧ (gr_planRows).toInt ≤ 16) (b_gr_orders : 0 ≤ (gr_orders).toInt ∧ (gr_orders).toInt ≤ 5) (sz : Nat) : Met l yX2_hasMiner wsX2_hasMiner ({ frames := 1, cells := 0, slots := 0, locals := 32 } : Room) (dk_Pc g D [(gr, .inr (2, [.int gr_columns, .int gr_rows, .int gr_shaftPlace, .int gr_reach, .int gr_quake, .ref gr_grades, .int gr_miners, .ref gr_minerNames, .int gr_planRows, .ref gr_planMiners, .ref gr_planPlaces, .int gr_orders, .ref gr_orderNames, .ref gr_orderGrades, .ref gr_orderTubs, .ref gr_orderPays, .ref gr_steps, .ref gr_ruleFrom, .ref gr_ruleEnd]))] sz [.ref gr, .int a1]) (va_Qi (fun (r : Int32) (_ : Unit) => (0 ≤ (r).toInt ∧ (r).toInt ≤ 1) ∧ ((r).toInt = 1 ↔ (0 ≤ (a1).toInt ∧ (a1).toInt < (gr_miners).toInt)) ∧ True) (dk_B D (va_A [(gr, .inr (2, [.int gr_columns, .int gr_rows, .int gr_shaftPlace, .int gr_reach, .int gr_quake, .ref gr_grades, .int gr_miners, .ref gr_minerNames, .int gr_planRows, .ref gr_planMiners, .ref gr_planPlaces, .int gr_orders, .ref gr_orderNames, .ref gr_orderGrades, .ref gr_orderTubs, .ref gr_orderPays, .ref gr_steps, .ref gr_ruleFrom, .ref gr_ruleEnd]))] sz) (fun (_ : Unit) => [(gr, .inr (2, [.int gr_columns, .int gr_rows, .int gr_shaftPlace, .int gr_reach, .int gr_quake, .ref gr_grades, .int gr_miners, .ref gr_minerNames, .int gr_planRows, .ref gr_planMiners, .ref gr_planPlaces, .int gr_orders, .ref gr_orderNames, .ref gr_orderGrades, .ref gr_orderTubs, .ref gr_orderPays, .ref gr_steps, .ref gr_ruleFrom, .ref gr_ruleEnd]))])) (va_A [(gr, .inr (2, [.int gr_columns, .int gr_rows, .int gr_shaftPlace, .int gr_reach, .int gr_quake, .ref gr_grades, .int gr_miners, .ref gr_minerNames, .int gr_planRows, .ref gr_planMiners, .ref gr_planPlaces, .int gr_orders, .ref gr_orderNames, .ref gr_orderGrades, .ref gr_orderTubs, .ref gr_orderPays, .ref gr_steps, .ref gr_ruleFrom, .ref gr_ruleEnd]))] sz)) 0 0 (va_A [(gr, .inr (2, [.int gr_columns, .int gr_rows, .int gr_shaftPlace, .int gr_reach, .int gr_quake, .ref gr_grades, .int gr_miners, .ref gr_minerNames, .int gr_planRows, .ref gr_planMiners, .ref gr_planPlaces, .int gr_orders, .ref gr_orderNames, .ref gr_orderGrades, .ref gr_orderTubs, .ref gr_orderPays, .ref gr_steps, .ref gr_ruleFrom, .ref gr_ruleEnd]))] sz) := by
  refine dk_met (cc := cX2_hasMiner) (maxL := 2) (ret := (some .boolean)) (by decide) rfl (Nat.le_of_ble_eq_true rfl) ?_
  intro p e s m args below meth c harg hx hb hr hml hts hown hlocks hin hP K hD hS hA ST hsz ls hl
  subst hsz
  generalize va_A [(gr, .inr (2, [.int gr_columns, .int gr_rows, .int gr_shaftPlace, .int gr_reach, .int gr_quake, .ref gr_grades, .int gr_miners, .ref gr_minerNames, .int gr_planRows, .ref gr_planMiners, .ref gr_planPlaces, .int gr_orders, .ref gr_orderNames, .ref gr_orderGrades, .ref gr_orderTubs, .ref gr_orderPays, .ref gr_steps, .ref gr_ruleFrom, .ref gr_ruleEnd]))] s.heap.size = A at hD hS hA ST ⊢
  have F : CallFix p m c cX2_hasMiner 2 s args wsX2_hasMiner RX2 := ⟨hx, hb, hml, hown, hts⟩
  have hl : lv_has ls 2 [(0, .ref gr), (1, .int a1)] := hl
  have iX2 : ∀ w ∈ wsX20, w ∈ wsX2_hasMiner := fun _ h => List.mem_cons_of_mem _ (List.mem_append_right _ h)
  refine lv_iload_n hx hb dX2_hasMiner_0 rfl (lv_at hl 1 rfl) ?_
  refine lv_if_lt (tgt := 16) hx hb dX2_hasMiner_1 (by decide) (fun c_1 => ?_) (fun c_1 => ?_)
  · have jc_1 := dk_ltc (k := 0) (by decide +kernel) c_1
    refine lv_iconst (v := 0) hx hb dX2_hasMiner_16 (by decide +kernel) ?_
    refine W.widen (k := 0) (n := 0) (Nat.le_of_ble_eq_true rfl) (Nat.le_of_ble_eq_true rfl) ?_
    exact dk_iret hx hb hr hlocks (by decide +kernel) hP hD hS () [0] rfl (by decide) ⟨(by decide +kernel), (by have hr9 : (0 : Int32).toInt = 0 := (by decide +kernel); omega), trivial⟩ dX2_hasMiner_17
  · have jc_1 := dk_nltc (k := 0) (by decide +kernel) c_1
    refine lv_iload_n hx hb dX2_hasMiner_4 rfl (lv_at hl 1 rfl) ?_
    refine lv_aload_n hx hb dX2_hasMiner_5 rfl (lv_at hl 0 rfl) ?_
    refine va_get (C := RX2) (T := TX2) (N := 19) hx hb hts iX2 hown K.1 hP 0 rfl rfl 6 (by decide) (hts (.fieldLink RX2 67 "DarkMine$Ground" "miners" "I") (by decide +kernel)) (fun _ h9 => h9) (v := .int gr_miners) rfl dX2_hasMiner_6 ?_
    refine lv_icmp_ge (tgt := 16) hx hb dX2_hasMiner_9 (by decide) (fun c_2 => ?_) (fun c_2 => ?_)
    · have jc_2 := dk_gec (k := (gr_miners).toInt) rfl c_2
      refine lv_iconst (v := 0) hx hb dX2_hasMiner_16 (by decide +kernel) ?_
      refine W.widen (k := 0) (n := 0) (Nat.le_of_ble_eq_true rfl) (Nat.le_of_ble_eq_true rfl) ?_
      exact dk_iret hx hb hr hlocks (by decide +kernel) hP hD hS () [0] rfl (by decide) ⟨(by decide +kernel), (by have hr9 : (0 : Int32).toInt = 0 := (by decide +kernel); omega), trivial⟩ dX2_hasMiner_17
    · have jc_2 := dk_ngec (k := (gr_miners).toInt) rfl c_2
      refine lv_iconst (v := 1) hx hb dX2_hasMiner_12 (by decide +kernel) ?_
      refine lv_goto (tgt := 17) hx hb dX2_hasMiner_13 (by decide) ?_
      refine W.widen (k := 0) (n := 0) (Nat.le_of_ble_eq_true rfl) (Nat.le_of_ble_eq_true rfl) ?_
      exact dk_iret hx hb hr hlocks (by decide +kernel) hP hD hS () [0] rfl (by decide) ⟨(by decide +kernel), (by have hr9 : (1 : Int32).toInt = 1 := (by decide +kernel); omega), trivial⟩ dX2_hasMiner_17
set_option maxHeartbeats 8000000 in
set_option maxRecDepth 100000 in
theorem c_g_hasPlanRow (l : Launch) (g : Nat → ClassId) (D : va_G) (gr : Nat) (gr_columns : Int32) (gr_rows : Int32) (gr_shaftPlace : Int32) (gr_reach : Int32) (gr_quake : Int32) (gr_grades : Nat) (gr_miners : Int32) (gr_minerNames : Nat) (gr_planRows : Int32) (gr_planMiners : Nat) (gr_planPlaces : Nat) (gr_orders : Int32) (gr_orderNames : Nat) (gr_orderGrades : Nat) (gr_orderTubs : Nat) (gr_orderPays : Nat) (gr_steps : Nat) (gr_ruleFrom : Nat) (gr_ruleEnd : Nat) (a1 : Int32) (b_gr_columns : 0 ≤ (gr_columns).toInt ∧ (gr_columns).toInt ≤ 7) (b_gr_rows : 0 ≤ (gr_rows).toInt ∧ (gr_rows).toInt ≤ 7) (b_gr_shaftPlace : (-1) ≤ (gr_shaftPlace).toInt ∧ (gr_shaftPlace).toInt ≤ 63) (b_gr_reach : 0 ≤ (gr_reach).toInt ∧ (gr_reach).toInt ≤ 20) (b_gr_quake : 0 ≤ (gr_quake).toInt ∧ (gr_quake).toInt ≤ 100) (b_gr_miners : 0 ≤ (gr_miners).toInt ∧ (gr_miners).toInt ≤ 6) (b_gr_planRows : 0 ≤ (gr_planRows).toInt ∧ (gr_planRows).toInt ≤ 16) (b_gr_orders : 0 ≤ (gr_orders).toInt ∧ (gr_orders).toInt ≤ 5) (sz : Nat) : Met l yX2_hasPlanRow wsX2_hasPlanRow ({ frames := 1, cells := 0, slots := 0, locals := 32 } : Room) (dk_Pc g D [(gr, .inr (2, [.int gr_columns, .int gr_rows, .int gr_shaftPlace, .int gr_reach, .int gr_quake, .ref gr_grades, .int gr_miners, .ref gr_minerNames, .int gr_planRows, .ref gr_planMiners, .ref gr_planPlaces, .int gr_orders, .ref gr_orderNames, .ref gr_orderGrades, .ref gr_orderTubs, .ref gr_orderPays, .ref gr_steps, .ref gr_ruleFrom, .ref gr_ruleEnd]))] sz [.ref gr, .int a1]) (va_Qi (fun (r : Int32) (_ : Unit) => (0 ≤ (r).toInt ∧ (r).toInt ≤ 1) ∧ ((r).toInt = 1 ↔ (0 ≤ (a1).toInt ∧ (a1).toInt < (gr_planRows).toInt)) ∧ True) (dk_B D (va_A [(gr, .inr (2, [.int gr_columns, .int gr_rows, .int gr_shaftPlace, .int gr_reach, .int gr_quake, .ref gr_grades, .int gr_miners, .ref gr_minerNames, .int gr_planRows, .ref gr_planMiners, .ref gr_planPlaces, .int gr_orders, .ref gr_orderNames, .ref gr_orderGrades, .ref gr_orderTubs, .ref gr_orderPays, .ref gr_steps, .ref gr_ruleFrom, .ref gr_ruleEnd]))] sz) (fun (_ : Unit) => [(gr, .inr (2, [.int gr_columns, .int gr_rows, .int gr_shaftPlace, .int gr_reach, .int gr_quake, .ref gr_grades, .int gr_miners, .ref gr_minerNames, .int gr_planRows, .ref gr_planMiners, .ref gr_planPlaces, .int gr_orders, .ref gr_orderNames, .ref gr_orderGrades, .ref gr_orderTubs, .ref gr_orderPays, .ref gr_steps, .ref gr_ruleFrom, .ref gr_ruleEnd]))])) (va_A [(gr, .inr (2, [.int gr_columns, .int gr_rows, .int gr_shaftPlace, .int gr_reach, .int gr_quake, .ref gr_grades, .int gr_miners, .ref gr_minerNames, .int gr_planRows, .ref gr_planMiners, .ref gr_planPlaces, .int gr_orders, .ref gr_orderNames, .ref gr_orderGrades, .ref gr_orderTubs, .ref gr_orderPays, .ref gr_steps, .ref gr_ruleFrom, .ref gr_ruleEnd]))] sz)) 0 0 (va_A [(gr, .inr (2, [.int gr_columns, .int gr_rows, .int gr_shaftPlace, .int gr_reach, .int gr_quake, .ref gr_grades, .int gr_miners, .ref gr_minerNames, .int gr_planRows, .ref gr_planMiners, .ref gr_planPlaces, .int gr_orders, .ref gr_orderNames, .ref gr_orderGrades, .ref gr_orderTubs, .ref gr_orderPays, .ref gr_steps, .ref gr_ruleFrom, .ref gr_ruleEnd]))] sz) := by
  refine dk_met (cc := cX2_hasPlanRow) (maxL := 2) (ret := (some .boolean)) (by decide) rfl (Nat.le_of_ble_eq_true rfl) ?_
  intro p e s m args below meth c harg hx hb hr hml hts hown hlocks hin hP K hD hS hA ST hsz ls hl
  subst hsz
  generalize va_A [(gr, .inr (2, [.int gr_columns, .int gr_rows, .int gr_shaftPlace, .int gr_reach, .int gr_quake, .ref gr_grades, .int gr_miners, .ref gr_minerNames, .int gr_planRows, .ref gr_planMiners, .ref gr_planPlaces, .int gr_orders, .ref gr_orderNames, .ref gr_orderGrades, .ref gr_orderTubs, .ref gr_orderPays, .ref gr_steps, .ref gr_ruleFrom, .ref gr_ruleEnd]))] s.heap.size = A at hD hS hA ST ⊢
  have F : CallFix p m c cX2_hasPlanRow 2 s args wsX2_hasPlanRow RX2 := ⟨hx, hb, hml, hown, hts⟩
  have hl : lv_has ls 2 [(0, .ref gr), (1, .int a1)] := hl
  have iX2 : ∀ w ∈ wsX20, w ∈ wsX2_hasPlanRow := fun _ h => List.mem_cons_of_mem _ (List.mem_append_right _ h)
  refine lv_iload_n hx hb dX2_hasPlanRow_0 rfl (lv_at hl 1 rfl) ?_
  refine lv_if_lt (tgt := 16) hx hb dX2_hasPlanRow_1 (by decide) (fun c_1 => ?_) (fun c_1 => ?_)
  · have jc_1 := dk_ltc (k := 0) (by decide +kernel) c_1
    refine lv_iconst (v := 0) hx hb dX2_hasPlanRow_16 (by decide +kernel) ?_
    refine W.widen (k := 0) (n := 0) (Nat.le_of_ble_eq_true rfl) (Nat.le_of_ble_eq_true rfl) ?_
    exact dk_iret hx hb hr hlocks (by decide +kernel) hP hD hS () [0] rfl (by decide) ⟨(by decide +kernel), (by have hr9 : (0 : Int32).toInt = 0 := (by decide +kernel); omega), trivial⟩ dX2_hasPlanRow_17
  · have jc_1 := dk_nltc (k := 0) (by decide +kernel) c_1
    refine lv_iload_n hx hb dX2_hasPlanRow_4 rfl (lv_at hl 1 rfl) ?_
    refine lv_aload_n hx hb dX2_hasPlanRow_5 rfl (lv_at hl 0 rfl) ?_
    refine va_get (C := RX2) (T := TX2) (N := 19) hx hb hts iX2 hown K.1 hP 0 rfl rfl 8 (by decide) (hts (.fieldLink RX2 70 "DarkMine$Ground" "planRows" "I") (by decide +kernel)) (fun _ h9 => h9) (v := .int gr_planRows) rfl dX2_hasPlanRow_6 ?_
    refine lv_icmp_ge (tgt := 16) hx hb dX2_hasPlanRow_9 (by decide) (fun c_2 => ?_) (fun c_2 => ?_)
    · have jc_2 := dk_gec (k := (gr_planRows).toInt) rfl c_2
      refine lv_iconst (v := 0) hx hb dX2_hasPlanRow_16 (by decide +kernel) ?_
      refine W.widen (k := 0) (n := 0) (Nat.le_of_ble_eq_true rfl) (Nat.le_of_ble_eq_true rfl) ?_
      exact dk_iret hx hb hr hlocks (by decide +kernel) hP hD hS () [0] rfl (by decide) ⟨(by decide +kernel), (by have hr9 : (0 : Int32).toInt = 0 := (by decide +kernel); omega), trivial⟩ dX2_hasPlanRow_17
    · have jc_2 := dk_ngec (k := (gr_planRows).toInt) rfl c_2
      refine lv_iconst (v := 1) hx hb dX2_hasPlanRow_12 (by decide +kernel) ?_
      refine lv_goto (tgt := 17) hx hb dX2_hasPlanRow_13 (by decide) ?_
      refine W.widen (k := 0) (n := 0) (Nat.le_of_ble_eq_true rfl) (Nat.le_of_ble_eq_true rfl) ?_
      exact dk_iret hx hb hr hlocks (by decide +kernel) hP hD hS () [0] rfl (by decide) ⟨(by decide +kernel), (by have hr9 : (1 : Int32).toInt = 1 := (by decide +kernel); omega), trivial⟩ dX2_hasPlanRow_17
set_option maxHeartbeats 8000000 in
set_option maxRecDepth 100000 in
theorem c_g_hasOrder (l : Launch) (g : Nat → ClassId) (D : va_G) (gr : Nat) (gr_columns : Int32) (gr_rows : Int32) (gr_shaftPlace : Int32) (gr_reach : Int32) (gr_quake : Int32) (gr_grades : Nat) (gr_miners : Int32) (gr_minerNames : Nat) (gr_planRows : Int32) (gr_planMiners : Nat) (gr_planPlaces : Nat) (gr_orders : Int32) (gr_orderNames : Nat) (gr_orderGrades : Nat) (gr_orderTubs : Nat) (gr_orderPays : Nat) (gr_steps : Nat) (gr_ruleFrom : Nat) (gr_ruleEnd : Nat) (a1 : Int32) (b_gr_columns : 0 ≤ (gr_columns).toInt ∧ (gr_columns).toInt ≤ 7) (b_gr_rows : 0 ≤ (gr_rows).toInt ∧ (gr_rows).toInt ≤ 7) (b_gr_shaftPlace : (-1) ≤ (gr_shaftPlace).toInt ∧ (gr_shaftPlace).toInt ≤ 63) (b_gr_reach : 0 ≤ (gr_reach).toInt ∧ (gr_reach).toInt ≤ 20) (b_gr_quake : 0 ≤ (gr_quake).toInt ∧ (gr_quake).toInt ≤ 100) (b_gr_miners : 0 ≤ (gr_miners).toInt ∧ (gr_miners).toInt ≤ 6) (b_gr_planRows : 0 ≤ (gr_planRows).toInt ∧ (gr_planRows).toInt ≤ 16) (b_gr_orders : 0 ≤ (gr_orders).toInt ∧ (gr_orders).toInt ≤ 5) (sz : Nat) : Met l yX2_hasOrder wsX2_hasOrder ({ frames := 1, cells := 0, slots := 0, locals := 32 } : Room) (dk_Pc g D [(gr, .inr (2, [.int gr_columns, .int gr_rows, .int gr_shaftPlace, .int gr_reach, .int gr_quake, .ref gr_grades, .int gr_miners, .ref gr_minerNames, .int gr_planRows, .ref gr_planMiners, .ref gr_planPlaces, .int gr_orders, .ref gr_orderNames, .ref gr_orderGrades, .ref gr_orderTubs, .ref gr_orderPays, .ref gr_steps, .ref gr_ruleFrom, .ref gr_ruleEnd]))] sz [.ref gr, .int a1]) (va_Qi (fun (r : Int32) (_ : Unit) => (0 ≤ (r).toInt ∧ (r).toInt ≤ 1) ∧ ((r).toInt = 1 ↔ (0 ≤ (a1).toInt ∧ (a1).toInt < (gr_orders).toInt)) ∧ True) (dk_B D (va_A [(gr, .inr (2, [.int gr_columns, .int gr_rows, .int gr_shaftPlace, .int gr_reach, .int gr_quake, .ref gr_grades, .int gr_miners, .ref gr_minerNames, .int gr_planRows, .ref gr_planMiners, .ref gr_planPlaces, .int gr_orders, .ref gr_orderNames, .ref gr_orderGrades, .ref gr_orderTubs, .ref gr_orderPays, .ref gr_steps, .ref gr_ruleFrom, .ref gr_ruleEnd]))] sz) (fun (_ : Unit) => [(gr, .inr (2, [.int gr_columns, .int gr_rows, .int gr_shaftPlace, .int gr_reach, .int gr_quake, .ref gr_grades, .int gr_miners, .ref gr_minerNames, .int gr_planRows, .ref gr_planMiners, .ref gr_planPlaces, .int gr_orders, .ref gr_orderNames, .ref gr_orderGrades, .ref gr_orderTubs, .ref gr_orderPays, .ref gr_steps, .ref gr_ruleFrom, .ref gr_ruleEnd]))])) (va_A [(gr, .inr (2, [.int gr_columns, .int gr_rows, .int gr_shaftPlace, .int gr_reach, .int gr_quake, .ref gr_grades, .int gr_miners, .ref gr_minerNames, .int gr_planRows, .ref gr_planMiners, .ref gr_planPlaces, .int gr_orders, .ref gr_orderNames, .ref gr_orderGrades, .ref gr_orderTubs, .ref gr_orderPays, .ref gr_steps, .ref gr_ruleFrom, .ref gr_ruleEnd]))] sz)) 0 0 (va_A [(gr, .inr (2, [.int gr_columns, .int gr_rows, .int gr_shaftPlace, .int gr_reach, .int gr_quake, .ref gr_grades, .int gr_miners, .ref gr_minerNames, .int gr_planRows, .ref gr_planMiners, .ref gr_planPlaces, .int gr_orders, .ref gr_orderNames, .ref gr_orderGrades, .ref gr_orderTubs, .ref gr_orderPays, .ref gr_steps, .ref gr_ruleFrom, .ref gr_ruleEnd]))] sz) := by
  refine dk_met (cc := cX2_hasOrder) (maxL := 2) (ret := (some .boolean)) (by decide) rfl (Nat.le_of_ble_eq_true rfl) ?_
  intro p e s m args below meth c harg hx hb hr hml hts hown hlocks hin hP K hD hS hA ST hsz ls hl
  subst hsz
  generalize va_A [(gr, .inr (2, [.int gr_columns, .int gr_rows, .int gr_shaftPlace, .int gr_reach, .int gr_quake, .ref gr_grades, .int gr_miners, .ref gr_minerNames, .int gr_planRows, .ref gr_planMiners, .ref gr_planPlaces, .int gr_orders, .ref gr_orderNames, .ref gr_orderGrades, .ref gr_orderTubs, .ref gr_orderPays, .ref gr_steps, .ref gr_ruleFrom, .ref gr_ruleEnd]))] s.heap.size = A at hD hS hA ST ⊢
  have F : CallFix p m c cX2_hasOrder 2 s args wsX2_hasOrder RX2 := ⟨hx, hb, hml, hown, hts⟩
  have hl : lv_has ls 2 [(0, .ref gr), (1, .int a1)] := hl
  have iX2 : ∀ w ∈ wsX20, w ∈ wsX2_hasOrder := fun _ h => List.mem_cons_of_mem _ (List.mem_append_right _ h)
  refine lv_iload_n hx hb dX2_hasOrder_0 rfl (lv_at hl 1 rfl) ?_
  refine lv_if_lt (tgt := 16) hx hb dX2_hasOrder_1 (by decide) (fun c_1 => ?_) (fun c_1 => ?_)
  · have jc_1 := dk_ltc (k := 0) (by decide +kernel) c_1
    refine lv_iconst (v := 0) hx hb dX2_hasOrder_16 (by decide +kernel) ?_
    refine W.widen (k := 0) (n := 0) (Nat.le_of_ble_eq_true rfl) (Nat.le_of_ble_eq_true rfl) ?_
    exact dk_iret hx hb hr hlocks (by decide +kernel) hP hD hS () [0] rfl (by decide) ⟨(by decide +kernel), (by have hr9 : (0 : Int32).toInt = 0 := (by decide +kernel); omega), trivial⟩ dX2_hasOrder_17
  · have jc_1 := dk_nltc (k := 0) (by decide +kernel) c_1
    refine lv_iload_n hx hb dX2_hasOrder_4 rfl (lv_at hl 1 rfl) ?_
    refine lv_aload_n hx hb dX2_hasOrder_5 rfl (lv_at hl 0 rfl) ?_
    refine va_get (C := RX2) (T := TX2) (N := 19) hx hb hts iX2 hown K.1 hP 0 rfl rfl 11 (by decide) (hts (.fieldLink RX2 73 "DarkMine$Ground" "orders" "I") (by decide +kernel)) (fun _ h9 => h9) (v := .int gr_orders) rfl dX2_hasOrder_6 ?_
    refine lv_icmp_ge (tgt := 16) hx hb dX2_hasOrder_9 (by decide) (fun c_2 => ?_) (fun c_2 => ?_)
    · have jc_2 := dk_gec (k := (gr_orders).toInt) rfl c_2
      refine lv_iconst (v := 0) hx hb dX2_hasOrder_16 (by decide +kernel) ?_
      refine W.widen (k := 0) (n := 0) (Nat.le_of_ble_eq_true rfl) (Nat.le_of_ble_eq_true rfl) ?_
      exact dk_iret hx hb hr hlocks (by decide +kernel) hP hD hS () [0] rfl (by decide) ⟨(by decide +kernel), (by have hr9 : (0 : Int32).toInt = 0 := (by decide +kernel); omega), trivial⟩ dX2_hasOrder_17
    · have jc_2 := dk_ngec (k := (gr_orders).toInt) rfl c_2
      refine lv_iconst (v := 1) hx hb dX2_hasOrder_12 (by decide +kernel) ?_
      refine lv_goto (tgt := 17) hx hb dX2_hasOrder_13 (by decide) ?_
      refine W.widen (k := 0) (n := 0) (Nat.le_of_ble_eq_true rfl) (Nat.le_of_ble_eq_true rfl) ?_
      exact dk_iret hx hb hr hlocks (by decide +kernel) hP hD hS () [0] rfl (by decide) ⟨(by decide +kernel), (by have hr9 : (1 : Int32).toInt = 1 := (by decide +kernel); omega), trivial⟩ dX2_hasOrder_17
set_option maxHeartbeats 8000000 in
set_option maxRecDepth 100000 in
theorem c_g_placeOf (l : Launch) (g : Nat → ClassId) (D : va_G) (gr : Nat) (gr_columns : Int32) (gr_rows : Int32) (gr_shaftPlace : Int32) (gr_reach : Int32) (gr_quake : Int32) (gr_grades : Nat) (gr_miners : Int32) (gr_minerNames : Nat) (gr_planRows : Int32) (gr_planMiners : Nat) (gr_planPlaces : Nat) (gr_orders : Int32) (gr_orderNames : Nat) (gr_orderGrades : Nat) (gr_orderTubs : Nat) (gr_orderPays : Nat) (gr_steps : Nat) (gr_ruleFrom : Nat) (gr_ruleEnd : Nat) (a1 : Int32) (a2 : Int32) (b_gr_columns : 0 ≤ (gr_columns).toInt ∧ (gr_columns).toInt ≤ 7) (b_gr_rows : 0 ≤ (gr_rows).toInt ∧ (gr_rows).toInt ≤ 7) (b_gr_shaftPlace : (-1) ≤ (gr_shaftPlace).toInt ∧ (gr_shaftPlace).toInt ≤ 63) (b_gr_reach : 0 ≤ (gr_reach).toInt ∧ (gr_reach).toInt ≤ 20) (b_gr_quake : 0 ≤ (gr_quake).toInt ∧ (gr_quake).toInt ≤ 100) (b_gr_miners : 0 ≤ (gr_miners).toInt ∧ (gr_miners).toInt ≤ 6) (b_gr_planRows : 0 ≤ (gr_planRows).toInt ∧ (gr_planRows).toInt ≤ 16) (b_gr_orders : 0 ≤ (gr_orders).toInt ∧ (gr_orders).toInt ≤ 5) (sz : Nat) : Met l yX2_placeOf wsX2_placeOf ({ frames := 1, cells := 0, slots := 0, locals := 32 } : Room) (dk_Pc g D [(gr, .inr (2, [.int gr_columns, .int gr_rows, .int gr_shaftPlace, .int gr_reach, .int gr_quake, .ref gr_grades, .int gr_miners, .ref gr_minerNames, .int gr_planRows, .ref gr_planMiners, .ref gr_planPlaces, .int gr_orders, .ref gr_orderNames, .ref gr_orderGrades, .ref gr_orderTubs, .ref gr_orderPays, .ref gr_steps, .ref gr_ruleFrom, .ref gr_ruleEnd]))] sz [.ref gr, .int a1, .int a2]) (va_Qi (fun (r : Int32) (_ : Unit) => (((-1) ≤ (r).toInt ∧ (r).toInt ≤ 62) ∧ ((r).toInt ≤ (-1) ∨ 8 ≤ (r).toInt)) ∧ True) (dk_B D (va_A [(gr, .inr (2, [.int gr_columns, .int gr_rows, .int gr_shaftPlace, .int gr_reach, .int gr_quake, .ref gr_grades, .int gr_miners, .ref gr_minerNames, .int gr_planRows, .ref gr_planMiners, .ref gr_planPlaces, .int gr_orders, .ref gr_orderNames, .ref gr_orderGrades, .ref gr_orderTubs, .ref gr_orderPays, .ref gr_steps, .ref gr_ruleFrom, .ref gr_ruleEnd]))] sz) (fun (_ : Unit) => [(gr, .inr (2, [.int gr_columns, .int gr_rows, .int gr_shaftPlace, .int gr_reach, .int gr_quake, .ref gr_grades, .int gr_miners, .ref gr_minerNames, .int gr_planRows, .ref gr_planMiners, .ref gr_planPlaces, .int gr_orders, .ref gr_orderNames, .ref gr_orderGrades, .ref gr_orderTubs, .ref gr_orderPays, .ref gr_steps, .ref gr_ruleFrom, .ref gr_ruleEnd]))])) (va_A [(gr, .inr (2, [.int gr_columns, .int gr_rows, .int gr_shaftPlace, .int gr_reach, .int gr_quake, .ref gr_grades, .int gr_miners, .ref gr_minerNames, .int gr_planRows, .ref gr_planMiners, .ref gr_planPlaces, .int gr_orders, .ref gr_orderNames, .ref gr_orderGrades, .ref gr_orderTubs, .ref gr_orderPays, .ref gr_steps, .ref gr_ruleFrom, .ref gr_ruleEnd]))] sz)) 0 0 (va_A [(gr, .inr (2, [.int gr_columns, .int gr_rows, .int gr_shaftPlace, .int gr_reach, .int gr_quake, .ref gr_grades, .int gr_miners, .ref gr_minerNames, .int gr_planRows, .ref gr_planMiners, .ref gr_planPlaces, .int gr_orders, .ref gr_orderNames, .ref gr_orderGrades, .ref gr_orderTubs, .ref gr_orderPays, .ref gr_steps, .ref gr_ruleFrom, .ref gr_ruleEnd]))] sz) := by
  refine dk_met (cc := cX2_placeOf) (maxL := 3) (ret := (some .int)) (by decide) rfl (Nat.le_of_ble_eq_true rfl) ?_
  intro p e s m args below meth c harg hx hb hr hml hts hown hlocks hin hP K hD hS hA ST hsz ls hl
  subst hsz
  generalize va_A [(gr, .inr (2, [.int gr_columns, .int gr_rows, .int gr_shaftPlace, .int gr_reach, .int gr_quake, .ref gr_grades, .int gr_miners, .ref gr_minerNames, .int gr_planRows, .ref gr_planMiners, .ref gr_planPlaces, .int gr_orders, .ref gr_orderNames, .ref gr_orderGrades, .ref gr_orderTubs, .ref gr_orderPays, .ref gr_steps, .ref gr_ruleFrom, .ref gr_ruleEnd]))] s.heap.size = A at hD hS hA ST ⊢
  have F : CallFix p m c cX2_placeOf 3 s args wsX2_placeOf RX2 := ⟨hx, hb, hml, hown, hts⟩
  have hl : lv_has ls 3 [(0, .ref gr), (1, .int a1), (2, .int a2)] := hl
  have iX2 : ∀ w ∈ wsX20, w ∈ wsX2_placeOf := fun _ h => List.mem_cons_of_mem _ (List.mem_append_right _ h)
  refine lv_iload_n hx hb dX2_placeOf_0 rfl (lv_at hl 1 rfl) ?_
  refine lv_if_lt (tgt := 24) hx hb dX2_placeOf_1 (by decide) (fun c_1 => ?_) (fun c_1 => ?_)
  · have jc_1 := dk_ltc (k := 0) (by decide +kernel) c_1
    refine lv_iconst (v := (-1)) hx hb dX2_placeOf_24 (by decide +kernel) ?_
    refine W.widen (k := 0) (n := 0) (Nat.le_of_ble_eq_true rfl) (Nat.le_of_ble_eq_true rfl) ?_
    exact dk_iret hx hb hr hlocks rfl hP hD hS () [0] rfl (by decide) ⟨(by decide +kernel), trivial⟩ dX2_placeOf_25
  · have jc_1 := dk_nltc (k := 0) (by decide +kernel) c_1
    refine lv_iload_n hx hb dX2_placeOf_4 rfl (lv_at hl 1 rfl) ?_
    refine lv_aload_n hx hb dX2_placeOf_5 rfl (lv_at hl 0 rfl) ?_
    refine va_get (C := RX2) (T := TX2) (N := 19) hx hb hts iX2 hown K.1 hP 0 rfl rfl 0 (by decide) (hts (.fieldLink RX2 49 "DarkMine$Ground" "columns" "I") (by decide +kernel)) (fun _ h9 => h9) (v := .int gr_columns) rfl dX2_placeOf_6 ?_
    refine lv_icmp_ge (tgt := 24) hx hb dX2_placeOf_9 (by decide) (fun c_2 => ?_) (fun c_2 => ?_)
    · have jc_2 := dk_gec (k := (gr_columns).toInt) rfl c_2
      refine lv_iconst (v := (-1)) hx hb dX2_placeOf_24 (by decide +kernel) ?_
      refine W.widen (k := 0) (n := 0) (Nat.le_of_ble_eq_true rfl) (Nat.le_of_ble_eq_true rfl) ?_
      exact dk_iret hx hb hr hlocks rfl hP hD hS () [0] rfl (by decide) ⟨(by decide +kernel), trivial⟩ dX2_placeOf_25
    · have jc_2 := dk_ngec (k := (gr_columns).toInt) rfl c_2
      refine lv_iload_n hx hb dX2_placeOf_12 rfl (lv_at hl 2 rfl) ?_
      refine lv_if_lt (tgt := 24) hx hb dX2_placeOf_13 (by decide) (fun c_3 => ?_) (fun c_3 => ?_)
      · have jc_3 := dk_ltc (k := 0) (by decide +kernel) c_3
        refine lv_iconst (v := (-1)) hx hb dX2_placeOf_24 (by decide +kernel) ?_
        refine W.widen (k := 0) (n := 0) (Nat.le_of_ble_eq_true rfl) (Nat.le_of_ble_eq_true rfl) ?_
        exact dk_iret hx hb hr hlocks rfl hP hD hS () [0] rfl (by decide) ⟨(by decide +kernel), trivial⟩ dX2_placeOf_25
      · have jc_3 := dk_nltc (k := 0) (by decide +kernel) c_3
        refine lv_iload_n hx hb dX2_placeOf_16 rfl (lv_at hl 2 rfl) ?_
        refine lv_aload_n hx hb dX2_placeOf_17 rfl (lv_at hl 0 rfl) ?_
        refine va_get (C := RX2) (T := TX2) (N := 19) hx hb hts iX2 hown K.1 hP 0 rfl rfl 1 (by decide) (hts (.fieldLink RX2 52 "DarkMine$Ground" "rows" "I") (by decide +kernel)) (fun _ h9 => h9) (v := .int gr_rows) rfl dX2_placeOf_18 ?_
        refine lv_icmp_lt (tgt := 26) hx hb dX2_placeOf_21 (by decide) (fun c_4 => ?_) (fun c_4 => ?_)
        · have jc_4 := dk_ltc (k := (gr_rows).toInt) rfl c_4
          refine lv_bipush (v := 8) hx hb dX2_placeOf_26 (by decide +kernel) ?_
          refine lv_iload_n hx hb dX2_placeOf_28 rfl (lv_at hl 2 rfl) ?_
          refine lv_imul hx hb dX2_placeOf_29 ?_
          refine lv_topi (fun x_5 ex_5 => ?_)
          have jx_5 : (x_5).toInt = 8 * (a2).toInt := by rw [ex_5]; exact dk_mulT (by decide +kernel) rfl (by omega) (by omega)
          refine lv_iload_n hx hb dX2_placeOf_30 rfl (lv_at hl 1 rfl) ?_
          refine lv_iadd hx hb dX2_placeOf_31 ?_
          refine lv_topi (fun x_6 ex_6 => ?_)
          have jx_6 : (x_6).toInt = (x_5).toInt + (a1).toInt := by rw [ex_6]; exact dk_addT rfl rfl (by omega) (by omega)
          refine lv_bipush (v := 8) hx hb dX2_placeOf_32 (by decide +kernel) ?_
          refine lv_iadd hx hb dX2_placeOf_34 ?_
          refine lv_topi (fun x_7 ex_7 => ?_)
          have jx_7 : (x_7).toInt = (x_6).toInt + 8 := by rw [ex_7]; exact dk_addT rfl (by decide +kernel) (by omega) (by omega)
          refine W.widen (k := 0) (n := 0) (Nat.le_of_ble_eq_true rfl) (Nat.le_of_ble_eq_true rfl) ?_
          exact dk_iret hx hb hr hlocks rfl hP hD hS () [0] rfl (by decide) ⟨(by omega), trivial⟩ dX2_placeOf_35
        · have jc_4 := dk_nltc (k := (gr_rows).toInt) rfl c_4
          refine lv_iconst (v := (-1)) hx hb dX2_placeOf_24 (by decide +kernel) ?_
          refine W.widen (k := 0) (n := 0) (Nat.le_of_ble_eq_true rfl) (Nat.le_of_ble_eq_true rfl) ?_
          exact dk_iret hx hb hr hlocks rfl hP hD hS () [0] rfl (by decide) ⟨(by decide +kernel), trivial⟩ dX2_placeOf_25
set_option maxHeartbeats 8000000 in
set_option maxRecDepth 100000 in
theorem c_g_endOfPlaces (l : Launch) (g : Nat → ClassId) (D : va_G) (gr : Nat) (gr_columns : Int32) (gr_rows : Int32) (gr_shaftPlace : Int32) (gr_reach : Int32) (gr_quake : Int32) (gr_grades : Nat) (gr_miners : Int32) (gr_minerNames : Nat) (gr_planRows : Int32) (gr_planMiners : Nat) (gr_planPlaces : Nat) (gr_orders : Int32) (gr_orderNames : Nat) (gr_orderGrades : Nat) (gr_orderTubs : Nat) (gr_orderPays : Nat) (gr_steps : Nat) (gr_ruleFrom : Nat) (gr_ruleEnd : Nat) (b_gr_columns : 0 ≤ (gr_columns).toInt ∧ (gr_columns).toInt ≤ 7) (b_gr_rows : 0 ≤ (gr_rows).toInt ∧ (gr_rows).toInt ≤ 7) (b_gr_shaftPlace : (-1) ≤ (gr_shaftPlace).toInt ∧ (gr_shaftPlace).toInt ≤ 63) (b_gr_reach : 0 ≤ (gr_reach).toInt ∧ (gr_reach).toInt ≤ 20) (b_gr_quake : 0 ≤ (gr_quake).toInt ∧ (gr_quake).toInt ≤ 100) (b_gr_miners : 0 ≤ (gr_miners).toInt ∧ (gr_miners).toInt ≤ 6) (b_gr_planRows : 0 ≤ (gr_planRows).toInt ∧ (gr_planRows).toInt ≤ 16) (b_gr_orders : 0 ≤ (gr_orders).toInt ∧ (gr_orders).toInt ≤ 5) (sz : Nat) : Met l yX2_endOfPlaces wsX2_endOfPlaces ({ frames := 1, cells := 0, slots := 0, locals := 32 } : Room) (dk_Pc g D [(gr, .inr (2, [.int gr_columns, .int gr_rows, .int gr_shaftPlace, .int gr_reach, .int gr_quake, .ref gr_grades, .int gr_miners, .ref gr_minerNames, .int gr_planRows, .ref gr_planMiners, .ref gr_planPlaces, .int gr_orders, .ref gr_orderNames, .ref gr_orderGrades, .ref gr_orderTubs, .ref gr_orderPays, .ref gr_steps, .ref gr_ruleFrom, .ref gr_ruleEnd]))] sz [.ref gr]) (va_Qi (fun (r : Int32) (_ : Unit) => (8 ≤ (r).toInt ∧ (r).toInt ≤ 64) ∧ True) (dk_B D (va_A [(gr, .inr (2, [.int gr_columns, .int gr_rows, .int gr_shaftPlace, .int gr_reach, .int gr_quake, .ref gr_grades, .int gr_miners, .ref gr_minerNames, .int gr_planRows, .ref gr_planMiners, .ref gr_planPlaces, .int gr_orders, .ref gr_orderNames, .ref gr_orderGrades, .ref gr_orderTubs, .ref gr_orderPays, .ref gr_steps, .ref gr_ruleFrom, .ref gr_ruleEnd]))] sz) (fun (_ : Unit) => [(gr, .inr (2, [.int gr_columns, .int gr_rows, .int gr_shaftPlace, .int gr_reach, .int gr_quake, .ref gr_grades, .int gr_miners, .ref gr_minerNames, .int gr_planRows, .ref gr_planMiners, .ref gr_planPlaces, .int gr_orders, .ref gr_orderNames, .ref gr_orderGrades, .ref gr_orderTubs, .ref gr_orderPays, .ref gr_steps, .ref gr_ruleFrom, .ref gr_ruleEnd]))])) (va_A [(gr, .inr (2, [.int gr_columns, .int gr_rows, .int gr_shaftPlace, .int gr_reach, .int gr_quake, .ref gr_grades, .int gr_miners, .ref gr_minerNames, .int gr_planRows, .ref gr_planMiners, .ref gr_planPlaces, .int gr_orders, .ref gr_orderNames, .ref gr_orderGrades, .ref gr_orderTubs, .ref gr_orderPays, .ref gr_steps, .ref gr_ruleFrom, .ref gr_ruleEnd]))] sz)) 0 0 (va_A [(gr, .inr (2, [.int gr_columns, .int gr_rows, .int gr_shaftPlace, .int gr_reach, .int gr_quake, .ref gr_grades, .int gr_miners, .ref gr_minerNames, .int gr_planRows, .ref gr_planMiners, .ref gr_planPlaces, .int gr_orders, .ref gr_orderNames, .ref gr_orderGrades, .ref gr_orderTubs, .ref gr_orderPays, .ref gr_steps, .ref gr_ruleFrom, .ref gr_ruleEnd]))] sz) := by
  refine dk_met (cc := cX2_endOfPlaces) (maxL := 1) (ret := (some .int)) (by decide) rfl (Nat.le_of_ble_eq_true rfl) ?_
  intro p e s m args below meth c harg hx hb hr hml hts hown hlocks hin hP K hD hS hA ST hsz ls hl
  subst hsz
  generalize va_A [(gr, .inr (2, [.int gr_columns, .int gr_rows, .int gr_shaftPlace, .int gr_reach, .int gr_quake, .ref gr_grades, .int gr_miners, .ref gr_minerNames, .int gr_planRows, .ref gr_planMiners, .ref gr_planPlaces, .int gr_orders, .ref gr_orderNames, .ref gr_orderGrades, .ref gr_orderTubs, .ref gr_orderPays, .ref gr_steps, .ref gr_ruleFrom, .ref gr_ruleEnd]))] s.heap.size = A at hD hS hA ST ⊢
  have F : CallFix p m c cX2_endOfPlaces 1 s args wsX2_endOfPlaces RX2 := ⟨hx, hb, hml, hown, hts⟩
  have hl : lv_has ls 1 [(0, .ref gr)] := hl
  have iX2 : ∀ w ∈ wsX20, w ∈ wsX2_endOfPlaces := fun _ h => List.mem_cons_of_mem _ (List.mem_append_right _ h)
  refine lv_bipush (v := 8) hx hb dX2_endOfPlaces_0 (by decide +kernel) ?_
  refine lv_aload_n hx hb dX2_endOfPlaces_2 rfl (lv_at hl 0 rfl) ?_
  refine va_get (C := RX2) (T := TX2) (N := 19) hx hb hts iX2 hown K.1 hP 0 rfl rfl 1 (by decide) (hts (.fieldLink RX2 52 "DarkMine$Ground" "rows" "I") (by decide +kernel)) (fun _ h9 => h9) (v := .int gr_rows) rfl dX2_endOfPlaces_3 ?_
  refine lv_imul hx hb dX2_endOfPlaces_6 ?_
  refine lv_topi (fun x_1 ex_1 => ?_)
  have jx_1 : (x_1).toInt = 8 * (gr_rows).toInt := by rw [ex_1]; exact dk_mulT (by decide +kernel) rfl (by omega) (by omega)
  refine lv_bipush (v := 8) hx hb dX2_endOfPlaces_7 (by decide +kernel) ?_
  refine lv_iadd hx hb dX2_endOfPlaces_9 ?_
  refine lv_topi (fun x_2 ex_2 => ?_)
  have jx_2 : (x_2).toInt = (x_1).toInt + 8 := by rw [ex_2]; exact dk_addT rfl (by decide +kernel) (by omega) (by omega)
  refine W.widen (k := 0) (n := 0) (Nat.le_of_ble_eq_true rfl) (Nat.le_of_ble_eq_true rfl) ?_
  exact dk_iret hx hb hr hlocks rfl hP hD hS () [0] rfl (by decide) ⟨(by omega), trivial⟩ dX2_endOfPlaces_10
