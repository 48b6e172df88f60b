/-! 08.works.lean.txt -/
def wsX10_shineFrom : List Cond := .code yX10_shineFrom cX10_shineFrom 7 none :: ([.fieldLink RX10 22 "DarkMine$Works" "beam" "[I", .fieldLink RX10 18 "DarkMine$Works" "far" "[I", .fieldLink RX10 45 "DarkMine$Works" "pit" "LDarkMine$Pit;", .fieldLink RX10 25 "DarkMine$Works" "exposed" "[I", .fieldLink RX10 140 "DarkMine$Works" "exposedCount" "I", .methodLink RX10 160 yX5_isSolid, .instanceMethod yX5_isSolid, .selects RX5 yX5_isSolid yX5_isSolid, .initialized RX5, .code yX5_isSolid cX5_isSolid 2 (some .boolean), .fieldLink RX5 9 "DarkMine$Pit" "cells" "[I"] ++ wsX100 ++ wsX50)
def wsX10_stepFrom : List Cond := .code yX10_stepFrom cX10_stepFrom 9 (some .int) :: ([.fieldLink RX10 18 "DarkMine$Works" "far" "[I", .fieldLink RX10 45 "DarkMine$Works" "pit" "LDarkMine$Pit;", .fieldLink RX10 28 "DarkMine$Works" "queue" "[I", .methodLink RX10 85 yX5_isOpen, .instanceMethod yX5_isOpen, .selects RX5 yX5_isOpen yX5_isOpen, .initialized RX5, .code yX5_isOpen cX5_isOpen 2 (some .boolean), .fieldLink RX5 9 "DarkMine$Pit" "cells" "[I"] ++ wsX100 ++ wsX50)
set_option maxRecDepth 20000 in
theorem ggX10_shineFrom_X5_isSolid : GoodIn wsX10_shineFrom wsX5_isSolid := goodIn_r _ [10, 11, 25, 26, 27, 28, 29, 30, 31, 32] (by decide +kernel) (by decide +kernel)
set_option maxRecDepth 20000 in
theorem gX10_shineFrom_X5_isSolid : GoodIn wsX10_shineFrom (wsV RX10 160 RX5 yX5_isSolid wsX5_isSolid) := goodIn_app (goodIn_of _ (by decide +kernel)) ggX10_shineFrom_X5_isSolid
theorem dX10_shineFrom_0 : decode cX10_shineFrom 0 = .ok (.getstatic 157, 3) := by decide +kernel
theorem dX10_shineFrom_3 : decode cX10_shineFrom 3 = .ok (.astore_n 2, 1) := by decide +kernel
theorem dX10_shineFrom_4 : decode cX10_shineFrom 4 = .ok (.aload_n 2, 1) := by decide +kernel
theorem dX10_shineFrom_5 : decode cX10_shineFrom 5 = .ok (.arraylength, 1) := by decide +kernel
theorem dX10_shineFrom_6 : decode cX10_shineFrom 6 = .ok (.istore_n 3, 1) := by decide +kernel
theorem dX10_shineFrom_7 : decode cX10_shineFrom 7 = .ok (.iconst 0, 1) := by decide +kernel
theorem dX10_shineFrom_8 : decode cX10_shineFrom 8 = .ok (.istore 4, 2) := by decide +kernel
theorem dX10_shineFrom_10 : decode cX10_shineFrom 10 = .ok (.iload 4, 2) := by decide +kernel
theorem dX10_shineFrom_12 : decode cX10_shineFrom 12 = .ok (.iload_n 3, 1) := by decide +kernel
theorem dX10_shineFrom_13 : decode cX10_shineFrom 13 = .ok (.if_icmp .ge 80, 3) := by decide +kernel
theorem dX10_shineFrom_16 : decode cX10_shineFrom 16 = .ok (.aload_n 2, 1) := by decide +kernel
theorem dX10_shineFrom_17 : decode cX10_shineFrom 17 = .ok (.iload 4, 2) := by decide +kernel
theorem dX10_shineFrom_19 : decode cX10_shineFrom 19 = .ok (.iaload, 1) := by decide +kernel
theorem dX10_shineFrom_20 : decode cX10_shineFrom 20 = .ok (.istore 5, 2) := by decide +kernel
theorem dX10_shineFrom_22 : decode cX10_shineFrom 22 = .ok (.iload_n 1, 1) := by decide +kernel
theorem dX10_shineFrom_23 : decode cX10_shineFrom 23 = .ok (.iload 5, 2) := by decide +kernel
theorem dX10_shineFrom_25 : decode cX10_shineFrom 25 = .ok (.iadd, 1) := by decide +kernel
theorem dX10_shineFrom_26 : decode cX10_shineFrom 26 = .ok (.istore 6, 2) := by decide +kernel
theorem dX10_shineFrom_28 : decode cX10_shineFrom 28 = .ok (.aload_n 0, 1) := by decide +kernel
theorem dX10_shineFrom_29 : decode cX10_shineFrom 29 = .ok (.getfield 22, 3) := by decide +kernel
theorem dX10_shineFrom_32 : decode cX10_shineFrom 32 = .ok (.iload 6, 2) := by decide +kernel
theorem dX10_shineFrom_34 : decode cX10_shineFrom 34 = .ok (.iaload, 1) := by decide +kernel
theorem dX10_shineFrom_35 : decode cX10_shineFrom 35 = .ok (.sipush 1000, 3) := by decide +kernel
theorem dX10_shineFrom_38 : decode cX10_shineFrom 38 = .ok (.if_icmp .ne 49, 3) := by decide +kernel
theorem dX10_shineFrom_41 : decode cX10_shineFrom 41 = .ok (.aload_n 0, 1) := by decide +kernel
theorem dX10_shineFrom_42 : decode cX10_shineFrom 42 = .ok (.getfield 22, 3) := by decide +kernel
theorem dX10_shineFrom_45 : decode cX10_shineFrom 45 = .ok (.iload 6, 2) := by decide +kernel
theorem dX10_shineFrom_47 : decode cX10_shineFrom 47 = .ok (.aload_n 0, 1) := by decide +kernel
theorem dX10_shineFrom_48 : decode cX10_shineFrom 48 = .ok (.getfield 18, 3) := by decide +kernel
theorem dX10_shineFrom_51 : decode cX10_shineFrom 51 = .ok (.iload_n 1, 1) := by decide +kernel
theorem dX10_shineFrom_52 : decode cX10_shineFrom 52 = .ok (.iaload, 1) := by decide +kernel
theorem dX10_shineFrom_53 : decode cX10_shineFrom 53 = .ok (.iastore, 1) := by decide +kernel
theorem dX10_shineFrom_54 : decode cX10_shineFrom 54 = .ok (.aload_n 0, 1) := by decide +kernel
theorem dX10_shineFrom_55 : decode cX10_shineFrom 55 = .ok (.getfield 45, 3) := by decide +kernel
theorem dX10_shineFrom_58 : decode cX10_shineFrom 58 = .ok (.iload 6, 2) := by decide +kernel
theorem dX10_shineFrom_60 : decode cX10_shineFrom 60 = .ok (.invokevirtual 160, 3) := by decide +kernel
theorem dX10_shineFrom_63 : decode cX10_shineFrom 63 = .ok (.ifCond .eq 24, 3) := by decide +kernel
theorem dX10_shineFrom_66 : decode cX10_shineFrom 66 = .ok (.aload_n 0, 1) := by decide +kernel
theorem dX10_shineFrom_67 : decode cX10_shineFrom 67 = .ok (.getfield 25, 3) := by decide +kernel
theorem dX10_shineFrom_70 : decode cX10_shineFrom 70 = .ok (.aload_n 0, 1) := by decide +kernel
theorem dX10_shineFrom_71 : decode cX10_shineFrom 71 = .ok (.getfield 140, 3) := by decide +kernel
theorem dX10_shineFrom_74 : decode cX10_shineFrom 74 = .ok (.iload 6, 2) := by decide +kernel
theorem dX10_shineFrom_76 : decode cX10_shineFrom 76 = .ok (.iastore, 1) := by decide +kernel
theorem dX10_shineFrom_77 : decode cX10_shineFrom 77 = .ok (.aload_n 0, 1) := by decide +kernel
theorem dX10_shineFrom_78 : decode cX10_shineFrom 78 = .ok (.dup, 1) := by decide +kernel
theorem dX10_shineFrom_79 : decode cX10_shineFrom 79 = .ok (.getfield 140, 3) := by decide +kernel
theorem dX10_shineFrom_82 : decode cX10_shineFrom 82 = .ok (.iconst 1, 1) := by decide +kernel
theorem dX10_shineFrom_83 : decode cX10_shineFrom 83 = .ok (.iadd, 1) := by decide +kernel
theorem dX10_shineFrom_84 : decode cX10_shineFrom 84 = .ok (.putfield 140, 3) := by decide +kernel
theorem dX10_shineFrom_87 : decode cX10_shineFrom 87 = .ok (.iinc 4 1, 3) := by decide +kernel
theorem dX10_shineFrom_90 : decode cX10_shineFrom 90 = .ok (.goto (-80), 3) := by decide +kernel
theorem dX10_shineFrom_93 : decode cX10_shineFrom 93 = .ok (.return_, 1) := by decide +kernel
set_option maxRecDepth 20000 in
theorem ggX10_stepFrom_X5_isOpen : GoodIn wsX10_stepFrom wsX5_isOpen := goodIn_r _ [8, 9, 23, 24, 25, 26, 27, 28, 29, 30] (by decide +kernel) (by decide +kernel)
set_option maxRecDepth 20000 in
theorem gX10_stepFrom_X5_isOpen : GoodIn wsX10_stepFrom (wsV RX10 85 RX5 yX5_isOpen wsX5_isOpen) := goodIn_app (goodIn_of _ (by decide +kernel)) ggX10_stepFrom_X5_isOpen
theorem dX10_stepFrom_0 : decode cX10_stepFrom 0 = .ok (.iload_n 2, 1) := by decide +kernel
theorem dX10_stepFrom_1 : decode cX10_stepFrom 1 = .ok (.istore_n 3, 1) := by decide +kernel
theorem dX10_stepFrom_2 : decode cX10_stepFrom 2 = .ok (.getstatic 157, 3) := by decide +kernel
theorem dX10_stepFrom_5 : decode cX10_stepFrom 5 = .ok (.astore 4, 2) := by decide +kernel
theorem dX10_stepFrom_7 : decode cX10_stepFrom 7 = .ok (.aload 4, 2) := by decide +kernel
theorem dX10_stepFrom_9 : decode cX10_stepFrom 9 = .ok (.arraylength, 1) := by decide +kernel
theorem dX10_stepFrom_10 : decode cX10_stepFrom 10 = .ok (.istore 5, 2) := by decide +kernel
theorem dX10_stepFrom_12 : decode cX10_stepFrom 12 = .ok (.iconst 0, 1) := by decide +kernel
theorem dX10_stepFrom_13 : decode cX10_stepFrom 13 = .ok (.istore 6, 2) := by decide +kernel
theorem dX10_stepFrom_15 : decode cX10_stepFrom 15 = .ok (.iload 6, 2) := by decide +kernel
theorem dX10_stepFrom_17 : decode cX10_stepFrom 17 = .ok (.iload 5, 2) := by decide +kernel
theorem dX10_stepFrom_19 : decode cX10_stepFrom 19 = .ok (.if_icmp .ge 71, 3) := by decide +kernel
theorem dX10_stepFrom_22 : decode cX10_stepFrom 22 = .ok (.aload 4, 2) := by decide +kernel
theorem dX10_stepFrom_24 : decode cX10_stepFrom 24 = .ok (.iload 6, 2) := by decide +kernel
theorem dX10_stepFrom_26 : decode cX10_stepFrom 26 = .ok (.iaload, 1) := by decide +kernel
theorem dX10_stepFrom_27 : decode cX10_stepFrom 27 = .ok (.istore 7, 2) := by decide +kernel
theorem dX10_stepFrom_29 : decode cX10_stepFrom 29 = .ok (.iload_n 1, 1) := by decide +kernel
theorem dX10_stepFrom_30 : decode cX10_stepFrom 30 = .ok (.iload 7, 2) := by decide +kernel
theorem dX10_stepFrom_32 : decode cX10_stepFrom 32 = .ok (.iadd, 1) := by decide +kernel
theorem dX10_stepFrom_33 : decode cX10_stepFrom 33 = .ok (.istore 8, 2) := by decide +kernel
theorem dX10_stepFrom_35 : decode cX10_stepFrom 35 = .ok (.aload_n 0, 1) := by decide +kernel
theorem dX10_stepFrom_36 : decode cX10_stepFrom 36 = .ok (.getfield 18, 3) := by decide +kernel
theorem dX10_stepFrom_39 : decode cX10_stepFrom 39 = .ok (.iload 8, 2) := by decide +kernel
theorem dX10_stepFrom_41 : decode cX10_stepFrom 41 = .ok (.iaload, 1) := by decide +kernel
theorem dX10_stepFrom_42 : decode cX10_stepFrom 42 = .ok (.iconst (-1), 1) := by decide +kernel
theorem dX10_stepFrom_43 : decode cX10_stepFrom 43 = .ok (.if_icmp .ne 41, 3) := by decide +kernel
theorem dX10_stepFrom_46 : decode cX10_stepFrom 46 = .ok (.aload_n 0, 1) := by decide +kernel
theorem dX10_stepFrom_47 : decode cX10_stepFrom 47 = .ok (.getfield 45, 3) := by decide +kernel
theorem dX10_stepFrom_50 : decode cX10_stepFrom 50 = .ok (.iload 8, 2) := by decide +kernel
theorem dX10_stepFrom_52 : decode cX10_stepFrom 52 = .ok (.invokevirtual 85, 3) := by decide +kernel
theorem dX10_stepFrom_55 : decode cX10_stepFrom 55 = .ok (.ifCond .eq 29, 3) := by decide +kernel
theorem dX10_stepFrom_58 : decode cX10_stepFrom 58 = .ok (.aload_n 0, 1) := by decide +kernel
theorem dX10_stepFrom_59 : decode cX10_stepFrom 59 = .ok (.getfield 18, 3) := by decide +kernel
theorem dX10_stepFrom_62 : decode cX10_stepFrom 62 = .ok (.iload 8, 2) := by decide +kernel
theorem dX10_stepFrom_64 : decode cX10_stepFrom 64 = .ok (.aload_n 0, 1) := by decide +kernel
theorem dX10_stepFrom_65 : decode cX10_stepFrom 65 = .ok (.getfield 18, 3) := by decide +kernel
theorem dX10_stepFrom_68 : decode cX10_stepFrom 68 = .ok (.iload_n 1, 1) := by decide +kernel
theorem dX10_stepFrom_69 : decode cX10_stepFrom 69 = .ok (.iaload, 1) := by decide +kernel
theorem dX10_stepFrom_70 : decode cX10_stepFrom 70 = .ok (.iconst 1, 1) := by decide +kernel
theorem dX10_stepFrom_71 : decode cX10_stepFrom 71 = .ok (.iadd, 1) := by decide +kernel
theorem dX10_stepFrom_72 : decode cX10_stepFrom 72 = .ok (.iastore, 1) := by decide +kernel
theorem dX10_stepFrom_73 : decode cX10_stepFrom 73 = .ok (.aload_n 0, 1) := by decide +kernel
theorem dX10_stepFrom_74 : decode cX10_stepFrom 74 = .ok (.getfield 28, 3) := by decide +kernel
theorem dX10_stepFrom_77 : decode cX10_stepFrom 77 = .ok (.iload_n 3, 1) := by decide +kernel
theorem dX10_stepFrom_78 : decode cX10_stepFrom 78 = .ok (.iload 8, 2) := by decide +kernel
theorem dX10_stepFrom_80 : decode cX10_stepFrom 80 = .ok (.iastore, 1) := by decide +kernel
theorem dX10_stepFrom_81 : decode cX10_stepFrom 81 = .ok (.iinc 3 1, 3) := by decide +kernel
theorem dX10_stepFrom_84 : decode cX10_stepFrom 84 = .ok (.iinc 6 1, 3) := by decide +kernel
theorem dX10_stepFrom_87 : decode cX10_stepFrom 87 = .ok (.goto (-72), 3) := by decide +kernel
theorem dX10_stepFrom_90 : decode cX10_stepFrom 90 = .ok (.iload_n 3, 1) := by decide +kernel
theorem dX10_stepFrom_91 : decode cX10_stepFrom 91 = .ok (.ireturn, 1) := by decide +kernel
set_option maxHeartbeats 8000000 in
set_option maxRecDepth 100000 in
theorem c_w_shineFrom (l : Launch) (g : Nat → ClassId) (D : va_G) (wk : Nat) (ru : Nat) (wk_far : Nat) (wk_beam : Nat) (wk_exposed : Nat) (wk_exposedCount : Int32) (wk_queue : Nat) (gr : Nat) (pt : Nat) (wk_reach : Int32) (wk_stale : Int32) (wk_dugMiner : Int32) (wk_dugPlace : Int32) (wk_dugGrade : Int32) (wkf_far : Nat → Int32) (wkf_beam : Nat → Int32) (wkf_exposed : Nat → Int32) (pt_shift : Int32) (pt_purse : Int32) (pt_cells : Nat) (pt_hurts : Nat) (pt_planMiners : Nat) (pt_planPlaces : Nat) (pt_sold : Nat) (pt_tubCounts : Nat) (ptf_cells : Nat → Int32) (a1 : Int32) (b_wk_exposedCount : 0 ≤ (wk_exposedCount).toInt ∧ (wk_exposedCount).toInt ≤ 72) (b_wk_reach : 0 ≤ (wk_reach).toInt ∧ (wk_reach).toInt ≤ 20) (b_wk_stale : 0 ≤ (wk_stale).toInt ∧ (wk_stale).toInt ≤ 1) (b_wk_dugMiner : (-1) ≤ (wk_dugMiner).toInt ∧ (wk_dugMiner).toInt ≤ 5) (b_wk_dugPlace : (-1) ≤ (wk_dugPlace).toInt ∧ (wk_dugPlace).toInt ≤ 63) (b_wk_dugGrade : (-1) ≤ (wk_dugGrade).toInt ∧ (wk_dugGrade).toInt ≤ 9) (b_wkf_far : dk_far wkf_far) (b_wkf_exposed : dk_all 72 wkf_exposed 0 71) (b_pt_shift : 0 ≤ (pt_shift).toInt ∧ (pt_shift).toInt ≤ 999) (b_pt_purse : 0 ≤ (pt_purse).toInt ∧ (pt_purse).toInt ≤ 99999) (b_ptf_cells : dk_row 72 ptf_cells dk_Pcel) (b_a1 : 8 ≤ (a1).toInt ∧ (a1).toInt ≤ 63) (x_ce : (wk_exposedCount).toInt + (dk_cnt wkf_beam 1000 72 : Int) ≤ 72) (sz : Nat) : Met l yX10_shineFrom wsX10_shineFrom ({ frames := 2, cells := 0, slots := 0, locals := 53 } : Room) (dk_Pc g D [(wk, .inr (10, [.ref ru, .ref wk_far, .ref wk_beam, .ref wk_exposed, .int wk_exposedCount, .ref wk_queue, .ref gr, .ref pt, .int wk_reach, .int wk_stale, .int wk_dugMiner, .int wk_dugPlace, .int wk_dugGrade])), (wk_far, .inl (g 0, 72, .inl wkf_far)), (wk_beam, .inl (g 0, 72, .inl wkf_beam)), (wk_exposed, .inl (g 0, 72, .inl wkf_exposed)), (pt, .inr (5, [.int pt_shift, .int pt_purse, .ref pt_cells, .ref pt_hurts, .ref pt_planMiners, .ref pt_planPlaces, .ref pt_sold, .ref pt_tubCounts])), (pt_cells, .inl (g 0, 72, .inl ptf_cells))] sz [.ref wk, .int a1]) (va_Qv (fun (u : Int32 × (Nat → Int32) × (Nat → Int32)) => (0 ≤ (u.1).toInt ∧ (u.1).toInt ≤ 72) ∧ dk_all 72 u.2.2 0 71 ∧ (((u.1 : Int32)).toInt + (dk_cnt u.2.1 1000 72 : Int) ≤ 72) ∧ True) (dk_B D (va_A [(wk, .inr (10, [.ref ru, .ref wk_far, .ref wk_beam, .ref wk_exposed, .int wk_exposedCount, .ref wk_queue, .ref gr, .ref pt, .int wk_reach, .int wk_stale, .int wk_dugMiner, .int wk_dugPlace, .int wk_dugGrade])), (wk_far, .inl (g 0, 72, .inl wkf_far)), (wk_beam, .inl (g 0, 72, .inl wkf_beam)), (wk_exposed, .inl (g 0, 72, .inl wkf_exposed)), (pt, .inr (5, [.int pt_shift, .int pt_purse, .ref pt_cells, .ref pt_hurts, .ref pt_planMiners, .ref pt_planPlaces, .ref pt_sold, .ref pt_tubCounts])), (pt_cells, .inl (g 0, 72, .inl ptf_cells))] sz) (fun (u : Int32 × (Nat → Int32) × (Nat → Int32)) => [(wk, .inr (10, [.ref ru, .ref wk_far, .ref wk_beam, .ref wk_exposed, .int u.1, .ref wk_queue, .ref gr, .ref pt, .int wk_reach, .int wk_stale, .int wk_dugMiner, .int wk_dugPlace, .int wk_dugGrade])), (wk_far, .inl (g 0, 72, .inl wkf_far)), (wk_beam, .inl (g 0, 72, .inl u.2.1)), (wk_exposed, .inl (g 0, 72, .inl u.2.2)), (pt, .inr (5, [.int pt_shift, .int pt_purse, .ref pt_cells, .ref pt_hurts, .ref pt_planMiners, .ref pt_planPlaces, .ref pt_sold, .ref pt_tubCounts])), (pt_cells, .inl (g 0, 72, .inl ptf_cells))])) (va_A [(wk, .inr (10, [.ref ru, .ref wk_far, .ref wk_beam, .ref wk_exposed, .int wk_exposedCount, .ref wk_queue, .ref gr, .ref pt, .int wk_reach, .int wk_stale, .int wk_dugMiner, .int wk_dugPlace, .int wk_dugGrade])), (wk_far, .inl (g 0, 72, .inl wkf_far)), (wk_beam, .inl (g 0, 72, .inl wkf_beam)), (wk_exposed, .inl (g 0, 72, .inl wkf_exposed)), (pt, .inr (5, [.int pt_shift, .int pt_purse, .ref pt_cells, .ref pt_hurts, .ref pt_planMiners, .ref pt_planPlaces, .ref pt_sold, .ref pt_tubCounts])), (pt_cells, .inl (g 0, 72, .inl ptf_cells))] sz)) 0 0 (va_A [(wk, .inr (10, [.ref ru, .ref wk_far, .ref wk_beam, .ref wk_exposed, .int wk_exposedCount, .ref wk_queue, .ref gr, .ref pt, .int wk_reach, .int wk_stale, .int wk_dugMiner, .int wk_dugPlace, .int wk_dugGrade])), (wk_far, .inl (g 0, 72, .inl wkf_far)), (wk_beam, .inl (g 0, 72, .inl wkf_beam)), (wk_exposed, .inl (g 0, 72, .inl wkf_exposed)), (pt, .inr (5, [.int pt_shift, .int pt_purse, .ref pt_cells, .ref pt_hurts, .ref pt_planMiners, .ref pt_planPlaces, .ref pt_sold, .ref pt_tubCounts])), (pt_cells, .inl (g 0, 72, .inl ptf_cells))] sz) := by
  refine dk_met (cc := cX10_shineFrom) (maxL := 7) (ret := none) (by decide) rfl (Nat.le_of_ble_eq_true rfl) ?_
  intro p e s m args below meth c harg hx hb hr hml hts hown hlocks hin hP K hD hS hA ST hsz ls hl
  subst hsz
  generalize va_A [(wk, .inr (10, [.ref ru, .ref wk_far, .ref wk_beam, .ref wk_exposed, .int wk_exposedCount, .ref wk_queue, .ref gr, .ref pt, .int wk_reach, .int wk_stale, .int wk_dugMiner, .int wk_dugPlace, .int wk_dugGrade])), (wk_far, .inl (g 0, 72, .inl wkf_far)), (wk_beam, .inl (g 0, 72, .inl wkf_beam)), (wk_exposed, .inl (g 0, 72, .inl wkf_exposed)), (pt, .inr (5, [.int pt_shift, .int pt_purse, .ref pt_cells, .ref pt_hurts, .ref pt_planMiners, .ref pt_planPlaces, .ref pt_sold, .ref pt_tubCounts])), (pt_cells, .inl (g 0, 72, .inl ptf_cells))] s.heap.size = A at hD hS hA ST ⊢
  have F : CallFix p m c cX10_shineFrom 7 s args wsX10_shineFrom RX10 := ⟨hx, hb, hml, hown, hts⟩
  have hl : lv_has ls 7 [(0, .ref wk), (1, .int a1)] := hl
  obtain ⟨sd, hZs, hTs⟩ := id ST
  have iX10 : ∀ w ∈ wsX100, w ∈ wsX10_shineFrom := fun _ h => List.mem_cons_of_mem _ (List.mem_append_left _ (List.mem_append_right _ h))
  refine va_getsN (host := RX11) hx hb hZs hS hown (va_Nw.use rfl (K.2.1 _ (List.mem_of_getElem? (i := 12) rfl))) (fun _ h9 => h9) dX10_shineFrom_0 ?_
  refine lv_astore_n (lv' := [(2, .ref sd), (0, .ref wk), (1, .int a1)]) hx hb dX10_shineFrom_3 rfl hl (by decide) rfl (fun ls hl => ?_)
  refine lv_aload_n hx hb dX10_shineFrom_4 rfl (lv_at hl 0 rfl) ?_
  refine va_tlen hx hb hTs hS (v := 4) rfl dX10_shineFrom_5 ?_
  refine lv_istore_n (lv' := [(3, .int 4), (2, .ref sd), (0, .ref wk), (1, .int a1)]) hx hb dX10_shineFrom_6 rfl hl (by decide) rfl (fun ls hl => ?_)
  refine lv_iconst (v := 0) hx hb dX10_shineFrom_7 (by decide +kernel) ?_
  refine lv_istore (lv' := [(4, .int 0), (3, .int 4), (2, .ref sd), (0, .ref wk), (1, .int a1)]) hx hb dX10_shineFrom_8 hl (by decide) rfl (fun ls hl => ?_)
  have loop_2 : ∀ (n : Nat) (i_1 : Int32) (f_3 : Nat → Int32) (f_4 : Nat → Int32) (x_5 : Int32), 0 ≤ (i_1).toInt → (dk_all 72 f_4 0 71) → (0 ≤ (x_5).toInt ∧ (x_5).toInt ≤ 72) → ((x_5).toInt + (dk_cnt f_3 1000 72 : Int) ≤ 72) → 4 - (i_1).toInt = (n : Int) → ∀ (H : Heap) (locs : List Loc), va_P D vwCl [(wk, .inr (10, [.ref ru, .ref wk_far, .ref wk_beam, .ref wk_exposed, .int x_5, .ref wk_queue, .ref gr, .ref pt, .int wk_reach, .int wk_stale, .int wk_dugMiner, .int wk_dugPlace, .int wk_dugGrade])), (wk_far, .inl (g 0, 72, .inl wkf_far)), (wk_beam, .inl (g 0, 72, .inl f_3)), (wk_exposed, .inl (g 0, 72, .inl f_4)), (pt, .inr (5, [.int pt_shift, .int pt_purse, .ref pt_cells, .ref pt_hurts, .ref pt_planMiners, .ref pt_planPlaces, .ref pt_sold, .ref pt_tubCounts])), (pt_cells, .inl (g 0, 72, .inl ptf_cells))] H → va_D A [(wk, .inr (10, [.ref ru, .ref wk_far, .ref wk_beam, .ref wk_exposed, .int x_5, .ref wk_queue, .ref gr, .ref pt, .int wk_reach, .int wk_stale, .int wk_dugMiner, .int wk_dugPlace, .int wk_dugGrade])), (wk_far, .inl (g 0, 72, .inl wkf_far)), (wk_beam, .inl (g 0, 72, .inl f_3)), (wk_exposed, .inl (g 0, 72, .inl f_4)), (pt, .inr (5, [.int pt_shift, .int pt_purse, .ref pt_cells, .ref pt_hurts, .ref pt_planMiners, .ref pt_planPlaces, .ref pt_sold, .ref pt_tubCounts])), (pt_cells, .inl (g 0, 72, .inl ptf_cells))] → va_S A s.heap H locs → ∀ ls : Array Slot, lv_has ls 7 [(4, .int i_1), (3, .int 4), (2, .ref sd), (0, .ref wk), (1, .int a1)] → W p l e ({ frames := 2, cells := 0, slots := 0, locals := 53 } : Room) s m args below meth c H locs (0) (0) (MQ below (va_Qv (fun (u : Int32 × (Nat → Int32) × (Nat → Int32)) => (0 ≤ (u.1).toInt ∧ (u.1).toInt ≤ 72) ∧ dk_all 72 u.2.2 0 71 ∧ (((u.1 : Int32)).toInt + (dk_cnt u.2.1 1000 72 : Int) ≤ 72) ∧ True) (dk_B D A (fun (u : Int32 × (Nat → Int32) × (Nat → Int32)) => [(wk, .inr (10, [.ref ru, .ref wk_far, .ref wk_beam, .ref wk_exposed, .int u.1, .ref wk_queue, .ref gr, .ref pt, .int wk_reach, .int wk_stale, .int wk_dugMiner, .int wk_dugPlace, .int wk_dugGrade])), (wk_far, .inl (g 0, 72, .inl wkf_far)), (wk_beam, .inl (g 0, 72, .inl u.2.1)), (wk_exposed, .inl (g 0, 72, .inl u.2.2)), (pt, .inr (5, [.int pt_shift, .int pt_purse, .ref pt_cells, .ref pt_hurts, .ref pt_planMiners, .ref pt_planPlaces, .ref pt_sold, .ref pt_tubCounts])), (pt_cells, .inl (g 0, 72, .inl ptf_cells))])) A) args s 0 0 A) (F0 m 10 ls []) := by
    intro n
    induction n with
    | zero =>
      intro i_1 f_3 f_4 x_5 blo_i_1 b_f_4 b_x_5 b_rel2 hm H locs hP hD hS ls hl
      refine lv_iload hx hb dX10_shineFrom_10 (lv_at hl 0 rfl) ?_
      refine lv_iload_n hx hb dX10_shineFrom_12 rfl (lv_at hl 1 rfl) ?_
      refine lv_icmp_ge (tgt := 93) hx hb dX10_shineFrom_13 (by decide) (fun _ => ?_) (fun c => absurd (dk_gep (k := 4) (by decide +kernel) (by omega)) c)
      refine W.widen (k := 0) (n := 0) (Nat.le_of_ble_eq_true rfl) (Nat.le_of_ble_eq_true rfl) ?_
      exact dk_vret hx hb hr hlocks hP hD hS ⟨x_5, f_3, f_4⟩ [0, 1, 2, 3, 4, 5] rfl (by decide) ⟨(show 0 ≤ (x_5).toInt ∧ (x_5).toInt ≤ 72 from by omega), b_f_4, (show ((x_5 : Int32)).toInt + (dk_cnt f_3 1000 72 : Int) ≤ 72 from by omega), trivial⟩ dX10_shineFrom_93
    | succ n ih =>
      intro i_1 f_3 f_4 x_5 blo_i_1 b_f_4 b_x_5 b_rel2 hm H locs hP hD hS ls hl
      refine lv_iload hx hb dX10_shineFrom_10 (lv_at hl 0 rfl) ?_
      refine lv_iload_n hx hb dX10_shineFrom_12 rfl (lv_at hl 1 rfl) ?_
      refine lv_icmp_ge (tgt := 93) hx hb dX10_shineFrom_13 (by decide) (fun c => absurd c (fun z => absurd (dk_gec (k := 4) (by decide +kernel) z) (by omega))) (fun _ => ?_)
      refine lv_aload_n hx hb dX10_shineFrom_16 rfl (lv_at hl 2 rfl) ?_
      refine lv_iload hx hb dX10_shineFrom_17 (lv_at hl 0 rfl) ?_
      have hin_6 : vp_in i_1 4 := (dk_inv (by omega) (by omega))
      obtain ⟨x_7, ex_7, jx_7⟩ := dk_side_at hin_6
      refine va_ti hx hb hTs hS hin_6 ex_7 dX10_shineFrom_19 ?_
      refine lv_istore (lv' := [(5, .int x_7), (4, .int i_1), (3, .int 4), (2, .ref sd), (0, .ref wk), (1, .int a1)]) hx hb dX10_shineFrom_20 hl (by decide) rfl (fun ls hl => ?_)
      refine lv_iload_n hx hb dX10_shineFrom_22 rfl (lv_at hl 5 rfl) ?_
      refine lv_iload hx hb dX10_shineFrom_23 (lv_at hl 0 rfl) ?_
      refine lv_iadd hx hb dX10_shineFrom_25 ?_
      refine lv_topi (fun x_8 ex_8 => ?_)
      have jx_8 : (x_8).toInt = (a1).toInt + (x_7).toInt := by rw [ex_8]; exact dk_addT rfl rfl (by omega) (by omega)
      refine lv_istore (lv' := [(6, .int x_8), (5, .int x_7), (4, .int i_1), (3, .int 4), (2, .ref sd), (0, .ref wk), (1, .int a1)]) hx hb dX10_shineFrom_26 hl (by decide) rfl (fun ls hl => ?_)
      refine lv_aload_n hx hb dX10_shineFrom_28 rfl (lv_at hl 5 rfl) ?_
      refine va_get (C := RX10) (T := TX10) (N := 13) hx hb hts iX10 hown K.1 hP 0 rfl rfl 2 (by decide) (hts (.fieldLink RX10 22 "DarkMine$Works" "beam" "[I") (by decide +kernel)) (fun _ h9 => h9) (v := .ref wk_beam) rfl dX10_shineFrom_29 ?_
      refine lv_iload hx hb dX10_shineFrom_32 (lv_at hl 0 rfl) ?_
      have hin_10 : vp_in x_8 72 := (dk_inv (by omega) (by omega))
      refine dk_iald hx hb K hP 2 rfl hin_10 rfl dX10_shineFrom_34 ?_
      refine lv_topi (fun x_9 ex_9 => ?_)
      refine lv_sipush (v := 1000) hx hb dX10_shineFrom_35 (by decide +kernel) ?_
      refine lv_icmp_ne (tgt := 87) hx hb dX10_shineFrom_38 (by decide) (fun c_11 => ?_) (fun c_11 => ?_)
      · have jc_11 := dk_neqc (k := 1000) (by decide +kernel) c_11
        obtain ⟨x_12, ex_12⟩ : ∃ z, z = i_1 + 1 := ⟨_, rfl⟩
        have jx_12 : (x_12).toInt = (i_1).toInt + 1 := by rw [ex_12]; exact dk_addT rfl (by decide +kernel) (by omega) (by omega)
        refine lv_iinc (v := x_12) (lv' := [(4, .int x_12), (6, .int x_8), (5, .int x_7), (3, .int 4), (2, .ref sd), (0, .ref wk), (1, .int a1)]) hx hb dX10_shineFrom_87 hl (k := 2) rfl (by rw [ex_12]; rfl) (by decide) rfl (fun ls hl => ?_)
        refine lv_goto (tgt := 10) hx hb dX10_shineFrom_90 (by decide) ?_
        have hP := hP.sub (ws' := [(wk, .inr (10, [.ref ru, .ref wk_far, .ref wk_beam, .ref wk_exposed, .int x_5, .ref wk_queue, .ref gr, .ref pt, .int wk_reach, .int wk_stale, .int wk_dugMiner, .int wk_dugPlace, .int wk_dugGrade])), (wk_far, .inl (g 0, 72, .inl wkf_far)), (wk_beam, .inl (g 0, 72, .inl f_3)), (wk_exposed, .inl (g 0, 72, .inl f_4)), (pt, .inr (5, [.int pt_shift, .int pt_purse, .ref pt_cells, .ref pt_hurts, .ref pt_planMiners, .ref pt_planPlaces, .ref pt_sold, .ref pt_tubCounts])), (pt_cells, .inl (g 0, 72, .inl ptf_cells))]) [0, 1, 2, 3, 4, 5] rfl
        have hD := hD.sub (ws' := [(wk, .inr (10, [.ref ru, .ref wk_far, .ref wk_beam, .ref wk_exposed, .int x_5, .ref wk_queue, .ref gr, .ref pt, .int wk_reach, .int wk_stale, .int wk_dugMiner, .int wk_dugPlace, .int wk_dugGrade])), (wk_far, .inl (g 0, 72, .inl wkf_far)), (wk_beam, .inl (g 0, 72, .inl f_3)), (wk_exposed, .inl (g 0, 72, .inl f_4)), (pt, .inr (5, [.int pt_shift, .int pt_purse, .ref pt_cells, .ref pt_hurts, .ref pt_planMiners, .ref pt_planPlaces, .ref pt_sold, .ref pt_tubCounts])), (pt_cells, .inl (g 0, 72, .inl ptf_cells))]) [0, 1, 2, 3, 4, 5] (by decide) rfl
        exact ih x_12 f_3 f_4 x_5 (by omega) b_f_4 (by omega) (by omega) (by omega) _ _ hP hD hS _ (lv_sub hl [0, 3, 4, 5, 6] rfl)
      · have jc_11 := dk_eqc (k := 1000) (by decide +kernel) c_11
        refine lv_aload_n hx hb dX10_shineFrom_41 rfl (lv_at hl 5 rfl) ?_
        refine va_get (C := RX10) (T := TX10) (N := 13) hx hb hts iX10 hown K.1 hP 0 rfl rfl 2 (by decide) (hts (.fieldLink RX10 22 "DarkMine$Works" "beam" "[I") (by decide +kernel)) (fun _ h9 => h9) (v := .ref wk_beam) rfl dX10_shineFrom_42 ?_
        refine lv_iload hx hb dX10_shineFrom_45 (lv_at hl 0 rfl) ?_
        refine lv_aload_n hx hb dX10_shineFrom_47 rfl (lv_at hl 5 rfl) ?_
        refine va_get (C := RX10) (T := TX10) (N := 13) hx hb hts iX10 hown K.1 hP 0 rfl rfl 1 (by decide) (hts (.fieldLink RX10 18 "DarkMine$Works" "far" "[I") (by decide +kernel)) (fun _ h9 => h9) (v := .ref wk_far) rfl dX10_shineFrom_48 ?_
        refine lv_iload_n hx hb dX10_shineFrom_51 rfl (lv_at hl 6 rfl) ?_
        have hin_14 : vp_in a1 72 := (dk_inv (by omega) (by omega))
        refine dk_iald hx hb K hP 1 rfl hin_14 rfl dX10_shineFrom_52 ?_
        refine lv_topi (fun x_13 ex_13 => ?_)
        have jx_13 : (-1) ≤ (x_13).toInt ∧ (x_13).toInt ≤ 72 - (dk_cnt wkf_far (-1) 72 : Int) := dk_all_at b_wkf_far hin_14 ex_13
        obtain ⟨f_15, hf_15⟩ : ∃ f', f' = upd f_3 (x_8 : Int32).toNatClampNeg x_13 := ⟨_, rfl⟩
        have hin_16 : vp_in x_8 72 := (dk_inv (by omega) (by omega))
        have jcf_15 : dk_cnt f_15 1000 72 + 1 = dk_cnt f_3 1000 72 := dk_cnt_hit (xr := x_9) hin_16 ex_9 (by omega) (by omega) hf_15
        refine dk_iast hx hb K hP hD hS 2 rfl f_15 (fun _ _ => by rw [hf_15]) hin_16 dX10_shineFrom_53 (fun H locs hP hD hS => ?_)
        have hP : va_P D vwCl [(wk, .inr (10, [.ref ru, .ref wk_far, .ref wk_beam, .ref wk_exposed, .int x_5, .ref wk_queue, .ref gr, .ref pt, .int wk_reach, .int wk_stale, .int wk_dugMiner, .int wk_dugPlace, .int wk_dugGrade])), (wk_far, .inl (g 0, 72, .inl wkf_far)), (wk_beam, .inl (g 0, 72, .inl f_15)), (wk_exposed, .inl (g 0, 72, .inl f_4)), (pt, .inr (5, [.int pt_shift, .int pt_purse, .ref pt_cells, .ref pt_hurts, .ref pt_planMiners, .ref pt_planPlaces, .ref pt_sold, .ref pt_tubCounts])), (pt_cells, .inl (g 0, 72, .inl ptf_cells))] H := hP
        have hD : va_D A [(wk, .inr (10, [.ref ru, .ref wk_far, .ref wk_beam, .ref wk_exposed, .int x_5, .ref wk_queue, .ref gr, .ref pt, .int wk_reach, .int wk_stale, .int wk_dugMiner, .int wk_dugPlace, .int wk_dugGrade])), (wk_far, .inl (g 0, 72, .inl wkf_far)), (wk_beam, .inl (g 0, 72, .inl f_15)), (wk_exposed, .inl (g 0, 72, .inl f_4)), (pt, .inr (5, [.int pt_shift, .int pt_purse, .ref pt_cells, .ref pt_hurts, .ref pt_planMiners, .ref pt_planPlaces, .ref pt_sold, .ref pt_tubCounts])), (pt_cells, .inl (g 0, 72, .inl ptf_cells))] := hD
        refine lv_aload_n hx hb dX10_shineFrom_54 rfl (lv_at hl 5 rfl) ?_
        refine va_get (C := RX10) (T := TX10) (N := 13) hx hb hts iX10 hown K.1 hP 0 rfl rfl 7 (by decide) (hts (.fieldLink RX10 45 "DarkMine$Works" "pit" "LDarkMine$Pit;") (by decide +kernel)) (fun _ h9 => h9) (v := .ref pt) rfl dX10_shineFrom_55 ?_
        refine lv_iload hx hb dX10_shineFrom_58 (lv_at hl 0 rfl) ?_
        refine dk_backi hP hD hS hA (wr := [(wk, .inr (10, [.ref ru, .ref wk_far, .ref wk_beam, .ref wk_exposed, .int x_5, .ref wk_queue, .ref gr, .ref pt, .int wk_reach, .int wk_stale, .int wk_dugMiner, .int wk_dugPlace, .int wk_dugGrade])), (wk_far, .inl (g 0, 72, .inl wkf_far)), (wk_beam, .inl (g 0, 72, .inl f_15)), (wk_exposed, .inl (g 0, 72, .inl f_4))]) [4, 5] [0, 1, 2, 3] rfl rfl (by decide) (by decide) (va_runV (As := [.int x_8]) (rest := []) F (c_p_isSolid l g D pt pt_shift pt_purse pt_cells pt_hurts pt_planMiners pt_planPlaces pt_sold pt_tubCounts ptf_cells x_8 (by omega) (by omega) b_ptf_cells (by omega) H.size) (cwV 1 hts gX10_shineFrom_X5_isSolid rfl rfl rfl (by decide +kernel) ⟨Nat.le_of_ble_eq_true rfl, Nat.le_of_ble_eq_true rfl⟩) (dk_preV K ST hP hD hS hA [4, 5] rfl (by decide) 4 rfl rfl) rfl rfl hl.1 rfl (lv_room (Nat.le_of_ble_eq_true rfl)) dX10_shineFrom_60 ⟨Nat.le_of_ble_eq_true rfl, Nat.le_of_ble_eq_true rfl⟩) (fun r u H locs hw hP hD hS => ?_)
        obtain ⟨x_18, rfl⟩ : ∃ z, z = r := ⟨_, rfl⟩
        obtain ⟨w_17, -⟩ := hw
        have w_17 : 0 ≤ (x_18).toInt ∧ (x_18).toInt ≤ 1 := w_17
        have hP : va_P D vwCl [(wk, .inr (10, [.ref ru, .ref wk_far, .ref wk_beam, .ref wk_exposed, .int x_5, .ref wk_queue, .ref gr, .ref pt, .int wk_reach, .int wk_stale, .int wk_dugMiner, .int wk_dugPlace, .int wk_dugGrade])), (wk_far, .inl (g 0, 72, .inl wkf_far)), (wk_beam, .inl (g 0, 72, .inl f_15)), (wk_exposed, .inl (g 0, 72, .inl f_4)), (pt, .inr (5, [.int pt_shift, .int pt_purse, .ref pt_cells, .ref pt_hurts, .ref pt_planMiners, .ref pt_planPlaces, .ref pt_sold, .ref pt_tubCounts])), (pt_cells, .inl (g 0, 72, .inl ptf_cells))] H := hP
        have hD : va_D A [(wk, .inr (10, [.ref ru, .ref wk_far, .ref wk_beam, .ref wk_exposed, .int x_5, .ref wk_queue, .ref gr, .ref pt, .int wk_reach, .int wk_stale, .int wk_dugMiner, .int wk_dugPlace, .int wk_dugGrade])), (wk_far, .inl (g 0, 72, .inl wkf_far)), (wk_beam, .inl (g 0, 72, .inl f_15)), (wk_exposed, .inl (g 0, 72, .inl f_4)), (pt, .inr (5, [.int pt_shift, .int pt_purse, .ref pt_cells, .ref pt_hurts, .ref pt_planMiners, .ref pt_planPlaces, .ref pt_sold, .ref pt_tubCounts])), (pt_cells, .inl (g 0, 72, .inl ptf_cells))] := hD
        refine lv_if_eq (tgt := 87) hx hb dX10_shineFrom_63 (by decide) (fun c_19 => ?_) (fun c_19 => ?_)
        · have jc_19 := dk_eqc (k := 0) (by decide +kernel) c_19
          obtain ⟨x_20, ex_20⟩ : ∃ z, z = i_1 + 1 := ⟨_, rfl⟩
          have jx_20 : (x_20).toInt = (i_1).toInt + 1 := by rw [ex_20]; exact dk_addT rfl (by decide +kernel) (by omega) (by omega)
          refine lv_iinc (v := x_20) (lv' := [(4, .int x_20), (6, .int x_8), (5, .int x_7), (3, .int 4), (2, .ref sd), (0, .ref wk), (1, .int a1)]) hx hb dX10_shineFrom_87 hl (k := 2) rfl (by rw [ex_20]; rfl) (by decide) rfl (fun ls hl => ?_)
          refine lv_goto (tgt := 10) hx hb dX10_shineFrom_90 (by decide) ?_
          have hP := hP.sub (ws' := [(wk, .inr (10, [.ref ru, .ref wk_far, .ref wk_beam, .ref wk_exposed, .int x_5, .ref wk_queue, .ref gr, .ref pt, .int wk_reach, .int wk_stale, .int wk_dugMiner, .int wk_dugPlace, .int wk_dugGrade])), (wk_far, .inl (g 0, 72, .inl wkf_far)), (wk_beam, .inl (g 0, 72, .inl f_15)), (wk_exposed, .inl (g 0, 72, .inl f_4)), (pt, .inr (5, [.int pt_shift, .int pt_purse, .ref pt_cells, .ref pt_hurts, .ref pt_planMiners, .ref pt_planPlaces, .ref pt_sold, .ref pt_tubCounts])), (pt_cells, .inl (g 0, 72, .inl ptf_cells))]) [0, 1, 2, 3, 4, 5] rfl
          have hD := hD.sub (ws' := [(wk, .inr (10, [.ref ru, .ref wk_far, .ref wk_beam, .ref wk_exposed, .int x_5, .ref wk_queue, .ref gr, .ref pt, .int wk_reach, .int wk_stale, .int wk_dugMiner, .int wk_dugPlace, .int wk_dugGrade])), (wk_far, .inl (g 0, 72, .inl wkf_far)), (wk_beam, .inl (g 0, 72, .inl f_15)), (wk_exposed, .inl (g 0, 72, .inl f_4)), (pt, .inr (5, [.int pt_shift, .int pt_purse, .ref pt_cells, .ref pt_hurts, .ref pt_planMiners, .ref pt_planPlaces, .ref pt_sold, .ref pt_tubCounts])), (pt_cells, .inl (g 0, 72, .inl ptf_cells))]) [0, 1, 2, 3, 4, 5] (by decide) rfl
          exact ih x_20 f_15 f_4 x_5 (by omega) b_f_4 (by omega) (by omega) (by omega) _ _ hP hD hS _ (lv_sub hl [0, 3, 4, 5, 6] rfl)
        · have jc_19 := dk_neqc (k := 0) (by decide +kernel) c_19
          refine lv_aload_n hx hb dX10_shineFrom_66 rfl (lv_at hl 5 rfl) ?_
          refine va_get (C := RX10) (T := TX10) (N := 13) hx hb hts iX10 hown K.1 hP 0 rfl rfl 3 (by decide) (hts (.fieldLink RX10 25 "DarkMine$Works" "exposed" "[I") (by decide +kernel)) (fun _ h9 => h9) (v := .ref wk_exposed) rfl dX10_shineFrom_67 ?_
          refine lv_aload_n hx hb dX10_shineFrom_70 rfl (lv_at hl 5 rfl) ?_
          refine va_get (C := RX10) (T := TX10) (N := 13) hx hb hts iX10 hown K.1 hP 0 rfl rfl 4 (by decide) (hts (.fieldLink RX10 140 "DarkMine$Works" "exposedCount" "I") (by decide +kernel)) (fun _ h9 => h9) (v := .int x_5) rfl dX10_shineFrom_71 ?_
          refine lv_iload hx hb dX10_shineFrom_74 (lv_at hl 0 rfl) ?_
          obtain ⟨f_21, hf_21⟩ : ∃ f', f' = upd f_4 (x_5 : Int32).toNatClampNeg x_8 := ⟨_, rfl⟩
          have hin_22 : vp_in x_5 72 := (dk_inv (by omega) (by omega))
          have jf_21 := dk_all_upd b_f_4 _ (show 0 ≤ (x_8).toInt ∧ (x_8).toInt ≤ 71 from (by omega)) hf_21
          refine dk_iast hx hb K hP hD hS 3 rfl f_21 (fun _ _ => by rw [hf_21]) hin_22 dX10_shineFrom_76 (fun H locs hP hD hS => ?_)
          have hP : va_P D vwCl [(wk, .inr (10, [.ref ru, .ref wk_far, .ref wk_beam, .ref wk_exposed, .int x_5, .ref wk_queue, .ref gr, .ref pt, .int wk_reach, .int wk_stale, .int wk_dugMiner, .int wk_dugPlace, .int wk_dugGrade])), (wk_far, .inl (g 0, 72, .inl wkf_far)), (wk_beam, .inl (g 0, 72, .inl f_15)), (wk_exposed, .inl (g 0, 72, .inl f_21)), (pt, .inr (5, [.int pt_shift, .int pt_purse, .ref pt_cells, .ref pt_hurts, .ref pt_planMiners, .ref pt_planPlaces, .ref pt_sold, .ref pt_tubCounts])), (pt_cells, .inl (g 0, 72, .inl ptf_cells))] H := hP
          have hD : va_D A [(wk, .inr (10, [.ref ru, .ref wk_far, .ref wk_beam, .ref wk_exposed, .int x_5, .ref wk_queue, .ref gr, .ref pt, .int wk_reach, .int wk_stale, .int wk_dugMiner, .int wk_dugPlace, .int wk_dugGrade])), (wk_far, .inl (g 0, 72, .inl wkf_far)), (wk_beam, .inl (g 0, 72, .inl f_15)), (wk_exposed, .inl (g 0, 72, .inl f_21)), (pt, .inr (5, [.int pt_shift, .int pt_purse, .ref pt_cells, .ref pt_hurts, .ref pt_planMiners, .ref pt_planPlaces, .ref pt_sold, .ref pt_tubCounts])), (pt_cells, .inl (g 0, 72, .inl ptf_cells))] := hD
          refine lv_aload_n hx hb dX10_shineFrom_77 rfl (lv_at hl 5 rfl) ?_
          refine lv_dup hx hb dX10_shineFrom_78 rfl ?_
          refine va_get (C := RX10) (T := TX10) (N := 13) hx hb hts iX10 hown K.1 hP 0 rfl rfl 4 (by decide) (hts (.fieldLink RX10 140 "DarkMine$Works" "exposedCount" "I") (by decide +kernel)) (fun _ h9 => h9) (v := .int x_5) rfl dX10_shineFrom_79 ?_
          refine lv_iconst (v := 1) hx hb dX10_shineFrom_82 (by decide +kernel) ?_
          refine lv_iadd hx hb dX10_shineFrom_83 ?_
          refine lv_topi (fun x_23 ex_23 => ?_)
          have jx_23 : (x_23).toInt = (x_5).toInt + 1 := by rw [ex_23]; exact dk_addT rfl (by decide +kernel) (by omega) (by omega)
          refine va_put (D := D) (ci := 10) (v := .int x_23) (ty := tyX10 4) (C := RX10) (T := TX10) (N := 13) hx hb hts iX10 tyX10 tyX10_ok nmX10 hown K.1 hP hD hS 0 rfl rfl 4 (by decide) (hts (.fieldLink RX10 140 "DarkMine$Works" "exposedCount" "I") (by decide +kernel)) (fun _ h9 => h9) rfl (by decide +kernel) rfl rfl (Nat.le_of_ble_eq_true rfl) dX10_shineFrom_84 (fun H locs hP hD hS => ?_)
          have hP : va_P D vwCl [(wk, .inr (10, [.ref ru, .ref wk_far, .ref wk_beam, .ref wk_exposed, .int x_23, .ref wk_queue, .ref gr, .ref pt, .int wk_reach, .int wk_stale, .int wk_dugMiner, .int wk_dugPlace, .int wk_dugGrade])), (wk_far, .inl (g 0, 72, .inl wkf_far)), (wk_beam, .inl (g 0, 72, .inl f_15)), (wk_exposed, .inl (g 0, 72, .inl f_21)), (pt, .inr (5, [.int pt_shift, .int pt_purse, .ref pt_cells, .ref pt_hurts, .ref pt_planMiners, .ref pt_planPlaces, .ref pt_sold, .ref pt_tubCounts])), (pt_cells, .inl (g 0, 72, .inl ptf_cells))] H := hP
          have hD : va_D A [(wk, .inr (10, [.ref ru, .ref wk_far, .ref wk_beam, .ref wk_exposed, .int x_23, .ref wk_queue, .ref gr, .ref pt, .int wk_reach, .int wk_stale, .int wk_dugMiner, .int wk_dugPlace, .int wk_dugGrade])), (wk_far, .inl (g 0, 72, .inl wkf_far)), (wk_beam, .inl (g 0, 72, .inl f_15)), (wk_exposed, .inl (g 0, 72, .inl f_21)), (pt, .inr (5, [.int pt_shift, .int pt_purse, .ref pt_cells, .ref pt_hurts, .ref pt_planMiners, .ref pt_planPlaces, .ref pt_sold, .ref pt_tubCounts])), (pt_cells, .inl (g 0, 72, .inl ptf_cells))] := hD
          obtain ⟨x_24, ex_24⟩ : ∃ z, z = i_1 + 1 := ⟨_, rfl⟩
          have jx_24 : (x_24).toInt = (i_1).toInt + 1 := by rw [ex_24]; exact dk_addT rfl (by decide +kernel) (by omega) (by omega)
          refine lv_iinc (v := x_24) (lv' := [(4, .int x_24), (6, .int x_8), (5, .int x_7), (3, .int 4), (2, .ref sd), (0, .ref wk), (1, .int a1)]) hx hb dX10_shineFrom_87 hl (k := 2) rfl (by rw [ex_24]; rfl) (by decide) rfl (fun ls hl => ?_)
          refine lv_goto (tgt := 10) hx hb dX10_shineFrom_90 (by decide) ?_
          have hP := hP.sub (ws' := [(wk, .inr (10, [.ref ru, .ref wk_far, .ref wk_beam, .ref wk_exposed, .int x_23, .ref wk_queue, .ref gr, .ref pt, .int wk_reach, .int wk_stale, .int wk_dugMiner, .int wk_dugPlace, .int wk_dugGrade])), (wk_far, .inl (g 0, 72, .inl wkf_far)), (wk_beam, .inl (g 0, 72, .inl f_15)), (wk_exposed, .inl (g 0, 72, .inl f_21)), (pt, .inr (5, [.int pt_shift, .int pt_purse, .ref pt_cells, .ref pt_hurts, .ref pt_planMiners, .ref pt_planPlaces, .ref pt_sold, .ref pt_tubCounts])), (pt_cells, .inl (g 0, 72, .inl ptf_cells))]) [0, 1, 2, 3, 4, 5] rfl
          have hD := hD.sub (ws' := [(wk, .inr (10, [.ref ru, .ref wk_far, .ref wk_beam, .ref wk_exposed, .int x_23, .ref wk_queue, .ref gr, .ref pt, .int wk_reach, .int wk_stale, .int wk_dugMiner, .int wk_dugPlace, .int wk_dugGrade])), (wk_far, .inl (g 0, 72, .inl wkf_far)), (wk_beam, .inl (g 0, 72, .inl f_15)), (wk_exposed, .inl (g 0, 72, .inl f_21)), (pt, .inr (5, [.int pt_shift, .int pt_purse, .ref pt_cells, .ref pt_hurts, .ref pt_planMiners, .ref pt_planPlaces, .ref pt_sold, .ref pt_tubCounts])), (pt_cells, .inl (g 0, 72, .inl ptf_cells))]) [0, 1, 2, 3, 4, 5] (by decide) rfl
          exact ih x_24 f_15 f_21 x_23 (by omega) jf_21 (by omega) (by omega) (by omega) _ _ hP hD hS _ (lv_sub hl [0, 3, 4, 5, 6] rfl)
  have hz_25 : (0 : Int32).toInt = 0 := by decide +kernel
  exact loop_2 ((4 : Int) - 0).toNat 0 wkf_beam wkf_exposed wk_exposedCount (by omega) b_wkf_exposed (by omega) (by omega) (by omega) _ _ hP hD hS _ (lv_sub hl [0, 1, 2, 3, 4] rfl)
set_option maxHeartbeats 8000000 in
set_option maxRecDepth 100000 in
theorem c_w_stepFrom (l : Launch) (g : Nat → ClassId) (D : va_G) (wk : Nat) (ru : Nat) (wk_far : Nat) (wk_beam : Nat) (wk_exposed : Nat) (wk_exposedCount : Int32) (wk_queue : Nat) (gr : Nat) (pt : Nat) (wk_reach : Int32) (wk_stale : Int32) (wk_dugMiner : Int32) (wk_dugPlace : Int32) (wk_dugGrade : Int32) (wkf_far : Nat → Int32) (wkf_queue : Nat → Int32) (pt_shift : Int32) (pt_purse : Int32) (pt_cells : Nat) (pt_hurts : Nat) (pt_planMiners : Nat) (pt_planPlaces : Nat) (pt_sold : Nat) (pt_tubCounts : Nat) (ptf_cells : Nat → Int32) (a1 : Int32) (a2 : Int32) (b_wk_exposedCount : 0 ≤ (wk_exposedCount).toInt ∧ (wk_exposedCount).toInt ≤ 72) (b_wk_reach : 0 ≤ (wk_reach).toInt ∧ (wk_reach).toInt ≤ 20) (b_wk_stale : 0 ≤ (wk_stale).toInt ∧ (wk_stale).toInt ≤ 1) (b_wk_dugMiner : (-1) ≤ (wk_dugMiner).toInt ∧ (wk_dugMiner).toInt ≤ 5) (b_wk_dugPlace : (-1) ≤ (wk_dugPlace).toInt ∧ (wk_dugPlace).toInt ≤ 63) (b_wk_dugGrade : (-1) ≤ (wk_dugGrade).toInt ∧ (wk_dugGrade).toInt ≤ 9) (b_wkf_far : dk_far wkf_far) (b_wkf_queue : dk_all 72 wkf_queue 0 71) (b_pt_shift : 0 ≤ (pt_shift).toInt ∧ (pt_shift).toInt ≤ 999) (b_pt_purse : 0 ≤ (pt_purse).toInt ∧ (pt_purse).toInt ≤ 99999) (b_ptf_cells : dk_row 72 ptf_cells dk_Pcel) (b_a1 : 8 ≤ (a1).toInt ∧ (a1).toInt ≤ 63) (b_a2 : 1 ≤ (a2).toInt ∧ (a2).toInt ≤ 72) (x_cf : (a2).toInt + (dk_cnt wkf_far (-1) 72 : Int) ≤ 72) (sz : Nat) : Met l yX10_stepFrom wsX10_stepFrom ({ frames := 2, cells := 0, slots := 0, locals := 53 } : Room) (dk_Pc g D [(wk, .inr (10, [.ref ru, .ref wk_far, .ref wk_beam, .ref wk_exposed, .int wk_exposedCount, .ref wk_queue, .ref gr, .ref pt, .int wk_reach, .int wk_stale, .int wk_dugMiner, .int wk_dugPlace, .int wk_dugGrade])), (wk_far, .inl (g 0, 72, .inl wkf_far)), (wk_queue, .inl (g 0, 72, .inl wkf_queue)), (pt, .inr (5, [.int pt_shift, .int pt_purse, .ref pt_cells, .ref pt_hurts, .ref pt_planMiners, .ref pt_planPlaces, .ref pt_sold, .ref pt_tubCounts])), (pt_cells, .inl (g 0, 72, .inl ptf_cells))] sz [.ref wk, .int a1, .int a2]) (va_Qi (fun (r : Int32) (u : (Nat → Int32) × (Nat → Int32)) => (1 ≤ (r).toInt ∧ (r).toInt ≤ 72) ∧ dk_far u.1 ∧ dk_all 72 u.2 0 71 ∧ ((r).toInt + (dk_cnt u.1 (-1) 72 : Int) ≤ 72) ∧ True) (dk_B D (va_A [(wk, .inr (10, [.ref ru, .ref wk_far, .ref wk_beam, .ref wk_exposed, .int wk_exposedCount, .ref wk_queue, .ref gr, .ref pt, .int wk_reach, .int wk_stale, .int wk_dugMiner, .int wk_dugPlace, .int wk_dugGrade])), (wk_far, .inl (g 0, 72, .inl wkf_far)), (wk_queue, .inl (g 0, 72, .inl wkf_queue)), (pt, .inr (5, [.int pt_shift, .int pt_purse, .ref pt_cells, .ref pt_hurts, .ref pt_planMiners, .ref pt_planPlaces, .ref pt_sold, .ref pt_tubCounts])), (pt_cells, .inl (g 0, 72, .inl ptf_cells))] sz) (fun (u : (Nat → Int32) × (Nat → Int32)) => [(wk, .inr (10, [.ref ru, .ref wk_far, .ref wk_beam, .ref wk_exposed, .int wk_exposedCount, .ref wk_queue, .ref gr, .ref pt, .int wk_reach, .int wk_stale, .int wk_dugMiner, .int wk_dugPlace, .int wk_dugGrade])), (wk_far, .inl (g 0, 72, .inl u.1)), (wk_queue, .inl (g 0, 72, .inl u.2)), (pt, .inr (5, [.int pt_shift, .int pt_purse, .ref pt_cells, .ref pt_hurts, .ref pt_planMiners, .ref pt_planPlaces, .ref pt_sold, .ref pt_tubCounts])), (pt_cells, .inl (g 0, 72, .inl ptf_cells))])) (va_A [(wk, .inr (10, [.ref ru, .ref wk_far, .ref wk_beam, .ref wk_exposed, .int wk_exposedCount, .ref wk_queue, .ref gr, .ref pt, .int wk_reach, .int wk_stale, .int wk_dugMiner, .int wk_dugPlace, .int wk_dugGrade])), (wk_far, .inl (g 0, 72, .inl wkf_far)), (wk_queue, .inl (g 0, 72, .inl wkf_queue)), (pt, .inr (5, [.int pt_shift, .int pt_purse, .ref pt_cells, .ref pt_hurts, .ref pt_planMiners, .ref pt_planPlaces, .ref pt_sold, .ref pt_tubCounts])), (pt_cells, .inl (g 0, 72, .inl ptf_cells))] sz)) 0 0 (va_A [(wk, .inr (10, [.ref ru, .ref wk_far, .ref wk_beam, .ref wk_exposed, .int wk_exposedCount, .ref wk_queue, .ref gr, .ref pt, .int wk_reach, .int wk_stale, .int wk_dugMiner, .int wk_dugPlace, .int wk_dugGrade])), (wk_far, .inl (g 0, 72, .inl wkf_far)), (wk_queue, .inl (g 0, 72, .inl wkf_queue)), (pt, .inr (5, [.int pt_shift, .int pt_purse, .ref pt_cells, .ref pt_hurts, .ref pt_planMiners, .ref pt_planPlaces, .ref pt_sold, .ref pt_tubCounts])), (pt_cells, .inl (g 0, 72, .inl ptf_cells))] sz) := by
  refine dk_met (cc := cX10_stepFrom) (maxL := 9) (ret := (some .int)) (by decide) rfl (Nat.le_of_ble_eq_true rfl) ?_
  intro p e s m args below meth c harg hx hb hr hml hts hown hlocks hin hP K hD hS hA ST hsz ls hl
  subst hsz
  generalize va_A [(wk, .inr (10, [.ref ru, .ref wk_far, .ref wk_beam, .ref wk_exposed, .int wk_exposedCount, .ref wk_queue, .ref gr, .ref pt, .int wk_reach, .int wk_stale, .int wk_dugMiner, .int wk_dugPlace, .int wk_dugGrade])), (wk_far, .inl (g 0, 72, .inl wkf_far)), (wk_queue, .inl (g 0, 72, .inl wkf_queue)), (pt, .inr (5, [.int pt_shift, .int pt_purse, .ref pt_cells, .ref pt_hurts, .ref pt_planMiners, .ref pt_planPlaces, .ref pt_sold, .ref pt_tubCounts])), (pt_cells, .inl (g 0, 72, .inl ptf_cells))] s.heap.size = A at hD hS hA ST ⊢
  have F : CallFix p m c cX10_stepFrom 9 s args wsX10_stepFrom RX10 := ⟨hx, hb, hml, hown, hts⟩
  have hl : lv_has ls 9 [(0, .ref wk), (1, .int a1), (2, .int a2)] := hl
  obtain ⟨sd, hZs, hTs⟩ := id ST
  have iX10 : ∀ w ∈ wsX100, w ∈ wsX10_stepFrom := fun _ h => List.mem_cons_of_mem _ (List.mem_append_left _ (List.mem_append_right _ h))
  refine lv_iload_n hx hb dX10_stepFrom_0 rfl (lv_at hl 2 rfl) ?_
  refine lv_istore_n (lv' := [(3, .int a2), (0, .ref wk), (1, .int a1), (2, .int a2)]) hx hb dX10_stepFrom_1 rfl hl (by decide) rfl (fun ls hl => ?_)
  refine va_getsN (host := RX11) hx hb hZs hS hown (va_Nw.use rfl (K.2.1 _ (List.mem_of_getElem? (i := 12) rfl))) (fun _ h9 => h9) dX10_stepFrom_2 ?_
  refine lv_astore (lv' := [(4, .ref sd), (3, .int a2), (0, .ref wk), (1, .int a1), (2, .int a2)]) hx hb dX10_stepFrom_5 hl (by decide) rfl (fun ls hl => ?_)
  refine lv_aload hx hb dX10_stepFrom_7 (lv_at hl 0 rfl) ?_
  refine va_tlen hx hb hTs hS (v := 4) rfl dX10_stepFrom_9 ?_
  refine lv_istore (lv' := [(5, .int 4), (4, .ref sd), (3, .int a2), (0, .ref wk), (1, .int a1), (2, .int a2)]) hx hb dX10_stepFrom_10 hl (by decide) rfl (fun ls hl => ?_)
  refine lv_iconst (v := 0) hx hb dX10_stepFrom_12 (by decide +kernel) ?_
  refine lv_istore (lv' := [(6, .int 0), (5, .int 4), (4, .ref sd), (3, .int a2), (0, .ref wk), (1, .int a1), (2, .int a2)]) hx hb dX10_stepFrom_13 hl (by decide) rfl (fun ls hl => ?_)
  have loop_2 : ∀ (n : Nat) (i_1 : Int32) (x_3 : Int32) (f_4 : Nat → Int32) (f_5 : Nat → Int32), 0 ≤ (i_1).toInt → (1 ≤ (x_3).toInt ∧ (x_3).toInt ≤ 72) → (dk_far f_4) → (dk_all 72 f_5 0 71) → ((x_3).toInt + (dk_cnt f_4 (-1) 72 : Int) ≤ 72) → 4 - (i_1).toInt = (n : Int) → ∀ (H : Heap) (locs : List Loc), va_P D vwCl [(wk, .inr (10, [.ref ru, .ref wk_far, .ref wk_beam, .ref wk_exposed, .int wk_exposedCount, .ref wk_queue, .ref gr, .ref pt, .int wk_reach, .int wk_stale, .int wk_dugMiner, .int wk_dugPlace, .int wk_dugGrade])), (wk_far, .inl (g 0, 72, .inl f_4)), (wk_queue, .inl (g 0, 72, .inl f_5)), (pt, .inr (5, [.int pt_shift, .int pt_purse, .ref pt_cells, .ref pt_hurts, .ref pt_planMiners, .ref pt_planPlaces, .ref pt_sold, .ref pt_tubCounts])), (pt_cells, .inl (g 0, 72, .inl ptf_cells))] H → va_D A [(wk, .inr (10, [.ref ru, .ref wk_far, .ref wk_beam, .ref wk_exposed, .int wk_exposedCount, .ref wk_queue, .ref gr, .ref pt, .int wk_reach, .int wk_stale, .int wk_dugMiner, .int wk_dugPlace, .int wk_dugGrade])), (wk_far, .inl (g 0, 72, .inl f_4)), (wk_queue, .inl (g 0, 72, .inl f_5)), (pt, .inr (5, [.int pt_shift, .int pt_purse, .ref pt_cells, .ref pt_hurts, .ref pt_planMiners, .ref pt_planPlaces, .ref pt_sold, .ref pt_tubCounts])), (pt_cells, .inl (g 0, 72, .inl ptf_cells))] → va_S A s.heap H locs → ∀ ls : Array Slot, lv_has ls 9 [(6, .int i_1), (5, .int 4), (4, .ref sd), (3, .int x_3), (0, .ref wk), (1, .int a1), (2, .int a2)] → W p l e ({ frames := 2, cells := 0, slots := 0, locals := 53 } : Room) s m args below meth c H locs (0) (0) (MQ below (va_Qi (fun (r : Int32) (u : (Nat → Int32) × (Nat → Int32)) => (1 ≤ (r).toInt ∧ (r).toInt ≤ 72) ∧ dk_far u.1 ∧ dk_all 72 u.2 0 71 ∧ ((r).toInt + (dk_cnt u.1 (-1) 72 : Int) ≤ 72) ∧ True) (dk_B D A (fun (u : (Nat → Int32) × (Nat → Int32)) => [(wk, .inr (10, [.ref ru, .ref wk_far, .ref wk_beam, .ref wk_exposed, .int wk_exposedCount, .ref wk_queue, .ref gr, .ref pt, .int wk_reach, .int wk_stale, .int wk_dugMiner, .int wk_dugPlace, .int wk_dugGrade])), (wk_far, .inl (g 0, 72, .inl u.1)), (wk_queue, .inl (g 0, 72, .inl u.2)), (pt, .inr (5, [.int pt_shift, .int pt_purse, .ref pt_cells, .ref pt_hurts, .ref pt_planMiners, .ref pt_planPlaces, .ref pt_sold, .ref pt_tubCounts])), (pt_cells, .inl (g 0, 72, .inl ptf_cells))])) A) args s 0 0 A) (F0 m 15 ls []) := by
    intro n
    induction n with
    | zero =>
      intro i_1 x_3 f_4 f_5 blo_i_1 b_x_3 b_f_4 b_f_5 b_rel3 hm H locs hP hD hS ls hl
      refine lv_iload hx hb dX10_stepFrom_15 (lv_at hl 0 rfl) ?_
      refine lv_iload hx hb dX10_stepFrom_17 (lv_at hl 1 rfl) ?_
      refine lv_icmp_ge (tgt := 90) hx hb dX10_stepFrom_19 (by decide) (fun _ => ?_) (fun c => absurd (dk_gep (k := 4) (by decide +kernel) (by omega)) c)
      refine lv_iload_n hx hb dX10_stepFrom_90 rfl (lv_at hl 3 rfl) ?_
      refine W.widen (k := 0) (n := 0) (Nat.le_of_ble_eq_true rfl) (Nat.le_of_ble_eq_true rfl) ?_
      exact dk_iret hx hb hr hlocks rfl hP hD hS ⟨f_4, f_5⟩ [0, 1, 2, 3, 4] rfl (by decide) ⟨(by omega), b_f_4, b_f_5, (show (x_3).toInt + (dk_cnt f_4 (-1) 72 : Int) ≤ 72 from by omega), trivial⟩ dX10_stepFrom_91
    | succ n ih =>
      intro i_1 x_3 f_4 f_5 blo_i_1 b_x_3 b_f_4 b_f_5 b_rel3 hm H locs hP hD hS ls hl
      refine lv_iload hx hb dX10_stepFrom_15 (lv_at hl 0 rfl) ?_
      refine lv_iload hx hb dX10_stepFrom_17 (lv_at hl 1 rfl) ?_
      refine lv_icmp_ge (tgt := 90) hx hb dX10_stepFrom_19 (by decide) (fun c => absurd c (fun z => absurd (dk_gec (k := 4) (by decide +kernel) z) (by omega))) (fun _ => ?_)
      refine lv_aload hx hb dX10_stepFrom_22 (lv_at hl 2 rfl) ?_
      refine lv_iload hx hb dX10_stepFrom_24 (lv_at hl 0 rfl) ?_
      have hin_6 : vp_in i_1 4 := (dk_inv (by omega) (by omega))
      obtain ⟨x_7, ex_7, jx_7⟩ := dk_side_at hin_6
      refine va_ti hx hb hTs hS hin_6 ex_7 dX10_stepFrom_26 ?_
      refine lv_istore (lv' := [(7, .int x_7), (6, .int i_1), (5, .int 4), (4, .ref sd), (3, .int x_3), (0, .ref wk), (1, .int a1), (2, .int a2)]) hx hb dX10_stepFrom_27 hl (by decide) rfl (fun ls hl => ?_)
      refine lv_iload_n hx hb dX10_stepFrom_29 rfl (lv_at hl 6 rfl) ?_
      refine lv_iload hx hb dX10_stepFrom_30 (lv_at hl 0 rfl) ?_
      refine lv_iadd hx hb dX10_stepFrom_32 ?_
      refine lv_topi (fun x_8 ex_8 => ?_)
      have jx_8 : (x_8).toInt = (a1).toInt + (x_7).toInt := by rw [ex_8]; exact dk_addT rfl rfl (by omega) (by omega)
      refine lv_istore (lv' := [(8, .int x_8), (7, .int x_7), (6, .int i_1), (5, .int 4), (4, .ref sd), (3, .int x_3), (0, .ref wk), (1, .int a1), (2, .int a2)]) hx hb dX10_stepFrom_33 hl (by decide) rfl (fun ls hl => ?_)
      refine lv_aload_n hx hb dX10_stepFrom_35 rfl (lv_at hl 6 rfl) ?_
      refine va_get (C := RX10) (T := TX10) (N := 13) hx hb hts iX10 hown K.1 hP 0 rfl rfl 1 (by decide) (hts (.fieldLink RX10 18 "DarkMine$Works" "far" "[I") (by decide +kernel)) (fun _ h9 => h9) (v := .ref wk_far) rfl dX10_stepFrom_36 ?_
      refine lv_iload hx hb dX10_stepFrom_39 (lv_at hl 0 rfl) ?_
      have hin_10 : vp_in x_8 72 := (dk_inv (by omega) (by omega))
      refine dk_iald hx hb K hP 1 rfl hin_10 rfl dX10_stepFrom_41 ?_
      refine lv_topi (fun x_9 ex_9 => ?_)
      have jx_9 : (-1) ≤ (x_9).toInt ∧ (x_9).toInt ≤ 72 - (dk_cnt f_4 (-1) 72 : Int) := dk_all_at b_f_4 hin_10 ex_9
      refine lv_iconst (v := (-1)) hx hb dX10_stepFrom_42 (by decide +kernel) ?_
      refine lv_icmp_ne (tgt := 84) hx hb dX10_stepFrom_43 (by decide) (fun c_11 => ?_) (fun c_11 => ?_)
      · have jc_11 := dk_neqc (k := (-1)) (by decide +kernel) c_11
        obtain ⟨x_12, ex_12⟩ : ∃ z, z = i_1 + 1 := ⟨_, rfl⟩
        have jx_12 : (x_12).toInt = (i_1).toInt + 1 := by rw [ex_12]; exact dk_addT rfl (by decide +kernel) (by omega) (by omega)
        refine lv_iinc (v := x_12) (lv' := [(6, .int x_12), (8, .int x_8), (7, .int x_7), (5, .int 4), (4, .ref sd), (3, .int x_3), (0, .ref wk), (1, .int a1), (2, .int a2)]) hx hb dX10_stepFrom_84 hl (k := 2) rfl (by rw [ex_12]; rfl) (by decide) rfl (fun ls hl => ?_)
        refine lv_goto (tgt := 15) hx hb dX10_stepFrom_87 (by decide) ?_
        have hP := hP.sub (ws' := [(wk, .inr (10, [.ref ru, .ref wk_far, .ref wk_beam, .ref wk_exposed, .int wk_exposedCount, .ref wk_queue, .ref gr, .ref pt, .int wk_reach, .int wk_stale, .int wk_dugMiner, .int wk_dugPlace, .int wk_dugGrade])), (wk_far, .inl (g 0, 72, .inl f_4)), (wk_queue, .inl (g 0, 72, .inl f_5)), (pt, .inr (5, [.int pt_shift, .int pt_purse, .ref pt_cells, .ref pt_hurts, .ref pt_planMiners, .ref pt_planPlaces, .ref pt_sold, .ref pt_tubCounts])), (pt_cells, .inl (g 0, 72, .inl ptf_cells))]) [0, 1, 2, 3, 4] rfl
        have hD := hD.sub (ws' := [(wk, .inr (10, [.ref ru, .ref wk_far, .ref wk_beam, .ref wk_exposed, .int wk_exposedCount, .ref wk_queue, .ref gr, .ref pt, .int wk_reach, .int wk_stale, .int wk_dugMiner, .int wk_dugPlace, .int wk_dugGrade])), (wk_far, .inl (g 0, 72, .inl f_4)), (wk_queue, .inl (g 0, 72, .inl f_5)), (pt, .inr (5, [.int pt_shift, .int pt_purse, .ref pt_cells, .ref pt_hurts, .ref pt_planMiners, .ref pt_planPlaces, .ref pt_sold, .ref pt_tubCounts])), (pt_cells, .inl (g 0, 72, .inl ptf_cells))]) [0, 1, 2, 3, 4] (by decide) rfl
        exact ih x_12 x_3 f_4 f_5 (by omega) (by omega) b_f_4 b_f_5 (by omega) (by omega) _ _ hP hD hS _ (lv_sub hl [0, 3, 4, 5, 6, 7, 8] rfl)
      · have jc_11 := dk_eqc (k := (-1)) (by decide +kernel) c_11
        refine lv_aload_n hx hb dX10_stepFrom_46 rfl (lv_at hl 6 rfl) ?_
        refine va_get (C := RX10) (T := TX10) (N := 13) hx hb hts iX10 hown K.1 hP 0 rfl rfl 7 (by decide) (hts (.fieldLink RX10 45 "DarkMine$Works" "pit" "LDarkMine$Pit;") (by decide +kernel)) (fun _ h9 => h9) (v := .ref pt) rfl dX10_stepFrom_47 ?_
        refine lv_iload hx hb dX10_stepFrom_50 (lv_at hl 0 rfl) ?_
        refine dk_backi hP hD hS hA (wr := [(wk, .inr (10, [.ref ru, .ref wk_far, .ref wk_beam, .ref wk_exposed, .int wk_exposedCount, .ref wk_queue, .ref gr, .ref pt, .int wk_reach, .int wk_stale, .int wk_dugMiner, .int wk_dugPlace, .int wk_dugGrade])), (wk_far, .inl (g 0, 72, .inl f_4)), (wk_queue, .inl (g 0, 72, .inl f_5))]) [3, 4] [0, 1, 2] rfl rfl (by decide) (by decide) (va_runV (As := [.int x_8]) (rest := []) F (c_p_isOpen l g D pt pt_shift pt_purse pt_cells pt_hurts pt_planMiners pt_planPlaces pt_sold pt_tubCounts ptf_cells x_8 (by omega) (by omega) b_ptf_cells (by omega) H.size) (cwV 1 hts gX10_stepFrom_X5_isOpen rfl rfl rfl (by decide +kernel) ⟨Nat.le_of_ble_eq_true rfl, Nat.le_of_ble_eq_true rfl⟩) (dk_preV K ST hP hD hS hA [3, 4] rfl (by decide) 3 rfl rfl) rfl rfl hl.1 rfl (lv_room (Nat.le_of_ble_eq_true rfl)) dX10_stepFrom_52 ⟨Nat.le_of_ble_eq_true rfl, Nat.le_of_ble_eq_true rfl⟩) (fun r u H locs hw hP hD hS => ?_)
        obtain ⟨x_14, rfl⟩ : ∃ z, z = r := ⟨_, rfl⟩
        obtain ⟨w_13, -⟩ := hw
        have w_13 : 0 ≤ (x_14).toInt ∧ (x_14).toInt ≤ 1 := w_13
        have hP : va_P D vwCl [(wk, .inr (10, [.ref ru, .ref wk_far, .ref wk_beam, .ref wk_exposed, .int wk_exposedCount, .ref wk_queue, .ref gr, .ref pt, .int wk_reach, .int wk_stale, .int wk_dugMiner, .int wk_dugPlace, .int wk_dugGrade])), (wk_far, .inl (g 0, 72, .inl f_4)), (wk_queue, .inl (g 0, 72, .inl f_5)), (pt, .inr (5, [.int pt_shift, .int pt_purse, .ref pt_cells, .ref pt_hurts, .ref pt_planMiners, .ref pt_planPlaces, .ref pt_sold, .ref pt_tubCounts])), (pt_cells, .inl (g 0, 72, .inl ptf_cells))] H := hP
        have hD : va_D A [(wk, .inr (10, [.ref ru, .ref wk_far, .ref wk_beam, .ref wk_exposed, .int wk_exposedCount, .ref wk_queue, .ref gr, .ref pt, .int wk_reach, .int wk_stale, .int wk_dugMiner, .int wk_dugPlace, .int wk_dugGrade])), (wk_far, .inl (g 0, 72, .inl f_4)), (wk_queue, .inl (g 0, 72, .inl f_5)), (pt, .inr (5, [.int pt_shift, .int pt_purse, .ref pt_cells, .ref pt_hurts, .ref pt_planMiners, .ref pt_planPlaces, .ref pt_sold, .ref pt_tubCounts])), (pt_cells, .inl (g 0, 72, .inl ptf_cells))] := hD
        refine lv_if_eq (tgt := 84) hx hb dX10_stepFrom_55 (by decide) (fun c_15 => ?_) (fun c_15 => ?_)
        · have jc_15 := dk_eqc (k := 0) (by decide +kernel) c_15
          obtain ⟨x_16, ex_16⟩ : ∃ z, z = i_1 + 1 := ⟨_, rfl⟩
          have jx_16 : (x_16).toInt = (i_1).toInt + 1 := by rw [ex_16]; exact dk_addT rfl (by decide +kernel) (by omega) (by omega)
          refine lv_iinc (v := x_16) (lv' := [(6, .int x_16), (8, .int x_8), (7, .int x_7), (5, .int 4), (4, .ref sd), (3, .int x_3), (0, .ref wk), (1, .int a1), (2, .int a2)]) hx hb dX10_stepFrom_84 hl (k := 2) rfl (by rw [ex_16]; rfl) (by decide) rfl (fun ls hl => ?_)
          refine lv_goto (tgt := 15) hx hb dX10_stepFrom_87 (by decide) ?_
          have hP := hP.sub (ws' := [(wk, .inr (10, [.ref ru, .ref wk_far, .ref wk_beam, .ref wk_exposed, .int wk_exposedCount, .ref wk_queue, .ref gr, .ref pt, .int wk_reach, .int wk_stale, .int wk_dugMiner, .int wk_dugPlace, .int wk_dugGrade])), (wk_far, .inl (g 0, 72, .inl f_4)), (wk_queue, .inl (g 0, 72, .inl f_5)), (pt, .inr (5, [.int pt_shift, .int pt_purse, .ref pt_cells, .ref pt_hurts, .ref pt_planMiners, .ref pt_planPlaces, .ref pt_sold, .ref pt_tubCounts])), (pt_cells, .inl (g 0, 72, .inl ptf_cells))]) [0, 1, 2, 3, 4] rfl
          have hD := hD.sub (ws' := [(wk, .inr (10, [.ref ru, .ref wk_far, .ref wk_beam, .ref wk_exposed, .int wk_exposedCount, .ref wk_queue, .ref gr, .ref pt, .int wk_reach, .int wk_stale, .int wk_dugMiner, .int wk_dugPlace, .int wk_dugGrade])), (wk_far, .inl (g 0, 72, .inl f_4)), (wk_queue, .inl (g 0, 72, .inl f_5)), (pt, .inr (5, [.int pt_shift, .int pt_purse, .ref pt_cells, .ref pt_hurts, .ref pt_planMiners, .ref pt_planPlaces, .ref pt_sold, .ref pt_tubCounts])), (pt_cells, .inl (g 0, 72, .inl ptf_cells))]) [0, 1, 2, 3, 4] (by decide) rfl
          exact ih x_16 x_3 f_4 f_5 (by omega) (by omega) b_f_4 b_f_5 (by omega) (by omega) _ _ hP hD hS _ (lv_sub hl [0, 3, 4, 5, 6, 7, 8] rfl)
        · have jc_15 := dk_neqc (k := 0) (by decide +kernel) c_15
          refine lv_aload_n hx hb dX10_stepFrom_58 rfl (lv_at hl 6 rfl) ?_
          refine va_get (C := RX10) (T := TX10) (N := 13) hx hb hts iX10 hown K.1 hP 0 rfl rfl 1 (by decide) (hts (.fieldLink RX10 18 "DarkMine$Works" "far" "[I") (by decide +kernel)) (fun _ h9 => h9) (v := .ref wk_far) rfl dX10_stepFrom_59 ?_
          refine lv_iload hx hb dX10_stepFrom_62 (lv_at hl 0 rfl) ?_
          refine lv_aload_n hx hb dX10_stepFrom_64 rfl (lv_at hl 6 rfl) ?_
          refine va_get (C := RX10) (T := TX10) (N := 13) hx hb hts iX10 hown K.1 hP 0 rfl rfl 1 (by decide) (hts (.fieldLink RX10 18 "DarkMine$Works" "far" "[I") (by decide +kernel)) (fun _ h9 => h9) (v := .ref wk_far) rfl dX10_stepFrom_65 ?_
          refine lv_iload_n hx hb dX10_stepFrom_68 rfl (lv_at hl 7 rfl) ?_
          have hin_18 : vp_in a1 72 := (dk_inv (by omega) (by omega))
          refine dk_iald hx hb K hP 1 rfl hin_18 rfl dX10_stepFrom_69 ?_
          refine lv_topi (fun x_17 ex_17 => ?_)
          have jx_17 : (-1) ≤ (x_17).toInt ∧ (x_17).toInt ≤ 72 - (dk_cnt f_4 (-1) 72 : Int) := dk_all_at b_f_4 hin_18 ex_17
          refine lv_iconst (v := 1) hx hb dX10_stepFrom_70 (by decide +kernel) ?_
          refine lv_iadd hx hb dX10_stepFrom_71 ?_
          refine lv_topi (fun x_19 ex_19 => ?_)
          have jx_19 : (x_19).toInt = (x_17).toInt + 1 := by rw [ex_19]; exact dk_addT rfl (by decide +kernel) (by omega) (by omega)
          obtain ⟨f_20, hf_20⟩ : ∃ f', f' = upd f_4 (x_8 : Int32).toNatClampNeg x_19 := ⟨_, rfl⟩
          have hin_21 : vp_in x_8 72 := (dk_inv (by omega) (by omega))
          have jcf_20 : dk_cnt f_20 (-1) 72 + 1 = dk_cnt f_4 (-1) 72 := dk_cnt_hit (xr := x_9) hin_21 ex_9 (by omega) (by omega) hf_20
          have jf_20 : dk_far f_20 := dk_far_upd (xr := x_9) b_f_4 hin_21 ex_9 (by omega) (by omega) (by omega) hf_20
          refine dk_iast hx hb K hP hD hS 1 rfl f_20 (fun _ _ => by rw [hf_20]) hin_21 dX10_stepFrom_72 (fun H locs hP hD hS => ?_)
          have hP : va_P D vwCl [(wk, .inr (10, [.ref ru, .ref wk_far, .ref wk_beam, .ref wk_exposed, .int wk_exposedCount, .ref wk_queue, .ref gr, .ref pt, .int wk_reach, .int wk_stale, .int wk_dugMiner, .int wk_dugPlace, .int wk_dugGrade])), (wk_far, .inl (g 0, 72, .inl f_20)), (wk_queue, .inl (g 0, 72, .inl f_5)), (pt, .inr (5, [.int pt_shift, .int pt_purse, .ref pt_cells, .ref pt_hurts, .ref pt_planMiners, .ref pt_planPlaces, .ref pt_sold, .ref pt_tubCounts])), (pt_cells, .inl (g 0, 72, .inl ptf_cells))] H := hP
          have hD : va_D A [(wk, .inr (10, [.ref ru, .ref wk_far, .ref wk_beam, .ref wk_exposed, .int wk_exposedCount, .ref wk_queue, .ref gr, .ref pt, .int wk_reach, .int wk_stale, .int wk_dugMiner, .int wk_dugPlace, .int wk_dugGrade])), (wk_far, .inl (g 0, 72, .inl f_20)), (wk_queue, .inl (g 0, 72, .inl f_5)), (pt, .inr (5, [.int pt_shift, .int pt_purse, .ref pt_cells, .ref pt_hurts, .ref pt_planMiners, .ref pt_planPlaces, .ref pt_sold, .ref pt_tubCounts])), (pt_cells, .inl (g 0, 72, .inl ptf_cells))] := hD
          refine lv_aload_n hx hb dX10_stepFrom_73 rfl (lv_at hl 6 rfl) ?_
          refine va_get (C := RX10) (T := TX10) (N := 13) hx hb hts iX10 hown K.1 hP 0 rfl rfl 5 (by decide) (hts (.fieldLink RX10 28 "DarkMine$Works" "queue" "[I") (by decide +kernel)) (fun _ h9 => h9) (v := .ref wk_queue) rfl dX10_stepFrom_74 ?_
          refine lv_iload_n hx hb dX10_stepFrom_77 rfl (lv_at hl 5 rfl) ?_
          refine lv_iload hx hb dX10_stepFrom_78 (lv_at hl 0 rfl) ?_
          obtain ⟨f_22, hf_22⟩ : ∃ f', f' = upd f_5 (x_3 : Int32).toNatClampNeg x_8 := ⟨_, rfl⟩
          have hin_23 : vp_in x_3 72 := (dk_inv (by omega) (by omega))
          have jf_22 := dk_all_upd b_f_5 _ (show 0 ≤ (x_8).toInt ∧ (x_8).toInt ≤ 71 from (by omega)) hf_22
          refine dk_iast hx hb K hP hD hS 2 rfl f_22 (fun _ _ => by rw [hf_22]) hin_23 dX10_stepFrom_80 (fun H locs hP hD hS => ?_)
          have hP : va_P D vwCl [(wk, .inr (10, [.ref ru, .ref wk_far, .ref wk_beam, .ref wk_exposed, .int wk_exposedCount, .ref wk_queue, .ref gr, .ref pt, .int wk_reach, .int wk_stale, .int wk_dugMiner, .int wk_dugPlace, .int wk_dugGrade])), (wk_far, .inl (g 0, 72, .inl f_20)), (wk_queue, .inl (g 0, 72, .inl f_22)), (pt, .inr (5, [.int pt_shift, .int pt_purse, .ref pt_cells, .ref pt_hurts, .ref pt_planMiners, .ref pt_planPlaces, .ref pt_sold, .ref pt_tubCounts])), (pt_cells, .inl (g 0, 72, .inl ptf_cells))] H := hP
          have hD : va_D A [(wk, .inr (10, [.ref ru, .ref wk_far, .ref wk_beam, .ref wk_exposed, .int wk_exposedCount, .ref wk_queue, .ref gr, .ref pt, .int wk_reach, .int wk_stale, .int wk_dugMiner, .int wk_dugPlace, .int wk_dugGrade])), (wk_far, .inl (g 0, 72, .inl f_20)), (wk_queue, .inl (g 0, 72, .inl f_22)), (pt, .inr (5, [.int pt_shift, .int pt_purse, .ref pt_cells, .ref pt_hurts, .ref pt_planMiners, .ref pt_planPlaces, .ref pt_sold, .ref pt_tubCounts])), (pt_cells, .inl (g 0, 72, .inl ptf_cells))] := hD
          obtain ⟨x_24, ex_24⟩ : ∃ z, z = x_3 + 1 := ⟨_, rfl⟩
          have jx_24 : (x_24).toInt = (x_3).toInt + 1 := by rw [ex_24]; exact dk_addT rfl (by decide +kernel) (by omega) (by omega)
          refine lv_iinc (v := x_24) (lv' := [(3, .int x_24), (8, .int x_8), (7, .int x_7), (6, .int i_1), (5, .int 4), (4, .ref sd), (0, .ref wk), (1, .int a1), (2, .int a2)]) hx hb dX10_stepFrom_81 hl (k := 5) rfl (by rw [ex_24]; rfl) (by decide) rfl (fun ls hl => ?_)
          obtain ⟨x_25, ex_25⟩ : ∃ z, z = i_1 + 1 := ⟨_, rfl⟩
          have jx_25 : (x_25).toInt = (i_1).toInt + 1 := by rw [ex_25]; exact dk_addT rfl (by decide +kernel) (by omega) (by omega)
          refine lv_iinc (v := x_25) (lv' := [(6, .int x_25), (3, .int x_24), (8, .int x_8), (7, .int x_7), (5, .int 4), (4, .ref sd), (0, .ref wk), (1, .int a1), (2, .int a2)]) hx hb dX10_stepFrom_84 hl (k := 3) rfl (by rw [ex_25]; rfl) (by decide) rfl (fun ls hl => ?_)
          refine lv_goto (tgt := 15) hx hb dX10_stepFrom_87 (by decide) ?_
          have hP := hP.sub (ws' := [(wk, .inr (10, [.ref ru, .ref wk_far, .ref wk_beam, .ref wk_exposed, .int wk_exposedCount, .ref wk_queue, .ref gr, .ref pt, .int wk_reach, .int wk_stale, .int wk_dugMiner, .int wk_dugPlace, .int wk_dugGrade])), (wk_far, .inl (g 0, 72, .inl f_20)), (wk_queue, .inl (g 0, 72, .inl f_22)), (pt, .inr (5, [.int pt_shift, .int pt_purse, .ref pt_cells, .ref pt_hurts, .ref pt_planMiners, .ref pt_planPlaces, .ref pt_sold, .ref pt_tubCounts])), (pt_cells, .inl (g 0, 72, .inl ptf_cells))]) [0, 1, 2, 3, 4] rfl
          have hD := hD.sub (ws' := [(wk, .inr (10, [.ref ru, .ref wk_far, .ref wk_beam, .ref wk_exposed, .int wk_exposedCount, .ref wk_queue, .ref gr, .ref pt, .int wk_reach, .int wk_stale, .int wk_dugMiner, .int wk_dugPlace, .int wk_dugGrade])), (wk_far, .inl (g 0, 72, .inl f_20)), (wk_queue, .inl (g 0, 72, .inl f_22)), (pt, .inr (5, [.int pt_shift, .int pt_purse, .ref pt_cells, .ref pt_hurts, .ref pt_planMiners, .ref pt_planPlaces, .ref pt_sold, .ref pt_tubCounts])), (pt_cells, .inl (g 0, 72, .inl ptf_cells))]) [0, 1, 2, 3, 4] (by decide) rfl
          exact ih x_25 x_24 f_20 f_22 (by omega) (by omega) jf_20 jf_22 (by omega) (by omega) _ _ hP hD hS _ (lv_sub hl [0, 4, 5, 1, 6, 7, 8] rfl)
  have hz_26 : (0 : Int32).toInt = 0 := by decide +kernel
  exact loop_2 ((4 : Int) - 0).toNat 0 a2 wkf_far wkf_queue (by omega) (by omega) b_wkf_far b_wkf_queue (by omega) (by omega) _ _ hP hD hS _ (lv_sub hl [0, 1, 2, 3, 4, 5, 6] rfl)
