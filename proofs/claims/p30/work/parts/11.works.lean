/-! 11.works.lean.txt -/
def wsX10_shineFrom : List Cond := .code yX10_shineFrom cX10_shineFrom 7 none :: ([.fieldLink RX10 22 "DarkMine$Works" "beam" "[I", .fieldLink RX10 18 "DarkMine$Works" "far" "[I", .fieldLink RX10 45 "DarkMine$Works" "pit" "LDarkMine$Pit;", .fieldLink RX10 25 "DarkMine$Works" "exposed" "[I", .fieldLink RX10 140 "DarkMine$Works" "exposedCount" "I", .methodLink RX10 160 yX5_isSolid, .instanceMethod yX5_isSolid, .selects RX5 yX5_isSolid yX5_isSolid, .initialized RX5, .code yX5_isSolid cX5_isSolid 2 (some .boolean), .fieldLink RX5 9 "DarkMine$Pit" "cells" "[I"] ++ wsX100 ++ wsX50)
def wsX10_stepFrom : List Cond := .code yX10_stepFrom cX10_stepFrom 9 (some .int) :: ([.fieldLink RX10 18 "DarkMine$Works" "far" "[I", .fieldLink RX10 45 "DarkMine$Works" "pit" "LDarkMine$Pit;", .fieldLink RX10 28 "DarkMine$Works" "queue" "[I", .methodLink RX10 85 yX5_isOpen, .instanceMethod yX5_isOpen, .selects RX5 yX5_isOpen yX5_isOpen, .initialized RX5, .code yX5_isOpen cX5_isOpen 2 (some .boolean), .fieldLink RX5 9 "DarkMine$Pit" "cells" "[I"] ++ wsX100 ++ wsX50)
set_option maxRecDepth 20000 in
theorem ggX10_shineFrom_X5_isSolid : GoodIn wsX10_shineFrom wsX5_isSolid := goodIn_r _ [10, 11, 25, 26, 27, 28, 29, 30, 31, 32] (by decide +kernel) (by decide +kernel)
set_option maxRecDepth 20000 in
theorem gX10_shineFrom_X5_isSolid : GoodIn wsX10_shineFrom (wsV RX10 160 RX5 yX5_isSolid wsX5_isSolid) := goodIn_app (goodIn_of _ (by decide +kernel)) ggX10_shineFrom_X5_isSolid
theorem dX10_shineFrom_0 : decode cX10_shineFrom 0 = .ok (.getstatic 157, 3) := by decide +kernel
theorem dX10_shineFrom_3 : decode cX10_shineFrom 3 = .ok (.astore_n 2, 1) := by decide +kernel
theorem dX10_shineFrom_4 : decode cX10_shineFrom 4 = .ok (.aload_n 2, 1) := by decide +kernel
theorem dX10_shineFrom_5 : decode cX10_shineFrom 5 = .ok (.arraylength, 1) := by decide +kernel
theorem dX10_shineFrom_6 : decode cX10_shineFrom 6 = .ok (.istore_n 3, 1) := by decide +kernel
theorem dX10_shineFrom_7 : decode cX10_shineFrom 7 = .ok (.iconst 0, 1) := by decide +kernel
theorem dX10_shineFrom_8 : decode cX10_shineFrom 8 = .ok (.istore 4, 2) := by decide +kernel
theorem dX10_shineFrom_10 : decode cX10_shineFrom 10 = .ok (.iload 4, 2) := by decide +kernel
theorem dX10_shineFrom_12 : decode cX10_shineFrom 12 = .ok (.iload_n 3, 1) := by decide +kernel
theorem dX10_shineFrom_13 : decode cX10_shineFrom 13 = .ok (.if_icmp .ge 80, 3) := by decide +kernel
theorem dX10_shineFrom_16 : decode cX10_shineFrom 16 = .ok (.aload_n 2, 1) := by decide +kernel
theorem dX10_shineFrom_17 : decode cX10_shineFrom 17 = .ok (.iload 4, 2) := by decide +kernel
theorem dX10_shineFrom_19 : decode cX10_shineFrom 19 = .ok (.iaload, 1) := by decide +kernel
theorem dX10_shineFrom_20 : decode cX10_shineFrom 20 = .ok (.istore 5, 2) := by decide +kernel
theorem dX10_shineFrom_22 : decode cX10_shineFrom 22 = .ok (.iload_n 1, 1) := by decide +kernel
theorem dX10_shineFrom_23 : decode cX10_shineFrom 23 = .ok (.iload 5, 2) := by decide +kernel
theorem dX10_shineFrom_25 : decode cX10_shineFrom 25 = .ok (.iadd, 1) := by decide +kernel
theorem dX10_shineFrom_26 : decode cX10_shineFrom 26 = .ok (.istore 6, 2) := by decide +kernel
theorem dX10_shineFrom_28 : decode cX10_shineFrom 28 = .ok (.aload_n 0, 1) := by decide +kernel
theorem dX10_shineFrom_29 : decode cX10_shineFrom 29 = .ok (.getfield 22, 3) := by decide +kernel
theorem dX10_shineFrom_32 : decode cX10_shineFrom 32 = .ok (.iload 6, 2) := by decide +kernel
theorem dX10_shineFrom_34 : decode cX10_shineFrom 34 = .ok (.iaload, 1) := by decide +kernel
theorem dX10_shineFrom_35 : decode cX10_shineFrom 35 = .ok (.sipush 1000, 3) := by decide +kernel
theorem dX10_shineFrom_38 : decode cX10_shineFrom 38 = .ok (.if_icmp .ne 49, 3) := by decide +kernel
theorem dX10_shineFrom_41 : decode cX10_shineFrom 41 = .ok (.aload_n 0, 1) := by decide +kernel
theorem dX10_shineFrom_42 : decode cX10_shineFrom 42 = .ok (.getfield 22, 3) := by decide +kernel
theorem dX10_shineFrom_45 : decode cX10_shineFrom 45 = .ok (.iload 6, 2) := by decide +kernel
theorem dX10_shineFrom_47 : decode cX10_shineFrom 47 = .ok (.aload_n 0, 1) := by decide +kernel
theorem dX10_shineFrom_48 : decode cX10_shineFrom 48 = .ok (.getfield 18, 3) := by decide +kernel
theorem dX10_shineFrom_51 : decode cX10_shineFrom 51 = .ok (.iload_n 1, 1) := by decide +kernel
theorem dX10_shineFrom_52 : decode cX10_shineFrom 52 = .ok (.iaload, 1) := by decide +kernel
theorem dX10_shineFrom_53 : decode cX10_shineFrom 53 = .ok (.iastore, 1) := by decide +kernel
theorem dX10_shineFrom_54 : decode cX10_shineFrom 54 = .ok (.aload_n 0, 1) := by decide +kernel
theorem dX10_shineFrom_55 : decode cX10_shineFrom 55 = .ok (.getfield 45, 3) := by decide +kernel
theorem dX10_shineFrom_58 : decode cX10_shineFrom 58 = .ok (.iload 6, 2) := by decide +kernel
theorem dX10_shineFrom_60 : decode cX10_shineFrom 60 = .ok (.invokevirtual 160, 3) := by decide +kernel
theorem dX10_shineFrom_63 : decode cX10_shineFrom 63 = .ok (.ifCond .eq 24, 3) := by decide +kernel
theorem dX10_shineFrom_66 : decode cX10_shineFrom 66 = .ok (.aload_n 0, 1) := by decide +kernel
theorem dX10_shineFrom_67 : decode cX10_shineFrom 67 = .ok (.getfield 25, 3) := by decide +kernel
theorem dX10_shineFrom_70 : decode cX10_shineFrom 70 = .ok (.aload_n 0, 1) := by decide +kernel
theorem dX10_shineFrom_71 : decode cX10_shineFrom 71 = .ok (.getfield 140, 3) := by decide +kernel
theorem dX10_shineFrom_74 : decode cX10_shineFrom 74 = .ok (.iload 6, 2) := by decide +kernel
theorem dX10_shineFrom_76 : decode cX10_shineFrom 76 = .ok (.iastore, 1) := by decide +kernel
theorem dX10_shineFrom_77 : decode cX10_shineFrom 77 = .ok (.aload_n 0, 1) := by decide +kernel
theorem dX10_shineFrom_78 : decode cX10_shineFrom 78 = .ok (.dup, 1) := by decide +kernel
theorem dX10_shineFrom_79 : decode cX10_shineFrom 79 = .ok (.getfield 140, 3) := by decide +kernel
theorem dX10_shineFrom_82 : decode cX10_shineFrom 82 = .ok (.iconst 1, 1) := by decide +kernel
theorem dX10_shineFrom_83 : decode cX10_shineFrom 83 = .ok (.iadd, 1) := by decide +kernel
theorem dX10_shineFrom_84 : decode cX10_shineFrom 84 = .ok (.putfield 140, 3) := by decide +kernel
theorem dX10_shineFrom_87 : decode cX10_shineFrom 87 = .ok (.iinc 4 1, 3) := by decide +kernel
theorem dX10_shineFrom_90 : decode cX10_shineFrom 90 = .ok (.goto (-80), 3) := by decide +kernel
theorem dX10_shineFrom_93 : decode cX10_shineFrom 93 = .ok (.return_, 1) := by decide +kernel
set_option maxRecDepth 20000 in
theorem ggX10_stepFrom_X5_isOpen : GoodIn wsX10_stepFrom wsX5_isOpen := goodIn_r _ [8, 9, 23, 24, 25, 26, 27, 28, 29, 30] (by decide +kernel) (by decide +kernel)
set_option maxRecDepth 20000 in
theorem gX10_stepFrom_X5_isOpen : GoodIn wsX10_stepFrom (wsV RX10 85 RX5 yX5_isOpen wsX5_isOpen) := goodIn_app (goodIn_of _ (by decide +kernel)) ggX10_stepFrom_X5_isOpen
theorem dX10_stepFrom_0 : decode cX10_stepFrom 0 = .ok (.iload_n 2, 1) := by decide +kernel
theorem dX10_stepFrom_1 : decode cX10_stepFrom 1 = .ok (.istore_n 3, 1) := by decide +kernel
theorem dX10_stepFrom_2 : decode cX10_stepFrom 2 = .ok (.getstatic 157, 3) := by decide +kernel
theorem dX10_stepFrom_5 : decode cX10_stepFrom 5 = .ok (.astore 4, 2) := by decide +kernel
theorem dX10_stepFrom_7 : decode cX10_stepFrom 7 = .ok (.aload 4, 2) := by decide +kernel
theorem dX10_stepFrom_9 : decode cX10_stepFrom 9 = .ok (.arraylength, 1) := by decide +kernel
theorem dX10_stepFrom_10 : decode cX10_stepFrom 10 = .ok (.istore 5, 2) := by decide +kernel
theorem dX10_stepFrom_12 : decode cX10_stepFrom 12 = .ok (.iconst 0, 1) := by decide +kernel
theorem dX10_stepFrom_13 : decode cX10_stepFrom 13 = .ok (.istore 6, 2) := by decide +kernel
theorem dX10_stepFrom_15 : decode cX10_stepFrom 15 = .ok (.iload 6, 2) := by decide +kernel
theorem dX10_stepFrom_17 : decode cX10_stepFrom 17 = .ok (.iload 5, 2) := by decide +kernel
theorem dX10_stepFrom_19 : decode cX10_stepFrom 19 = .ok (.if_icmp .ge 71, 3) := by decide +kernel
theorem dX10_stepFrom_22 : decode cX10_stepFrom 22 = .ok (.aload 4, 2) := by decide +kernel
theorem dX10_stepFrom_24 : decode cX10_stepFrom 24 = .ok (.iload 6, 2) := by decide +kernel
theorem dX10_stepFrom_26 : decode cX10_stepFrom 26 = .ok (.iaload, 1) := by decide +kernel
theorem dX10_stepFrom_27 : decode cX10_stepFrom 27 = .ok (.istore 7, 2) := by decide +kernel
theorem dX10_stepFrom_29 : decode cX10_stepFrom 29 = .ok (.iload_n 1, 1) := by decide +kernel
theorem dX10_stepFrom_30 : decode cX10_stepFrom 30 = .ok (.iload 7, 2) := by decide +kernel
theorem dX10_stepFrom_32 : decode cX10_stepFrom 32 = .ok (.iadd, 1) := by decide +kernel
theorem dX10_stepFrom_33 : decode cX10_stepFrom 33 = .ok (.istore 8, 2) := by decide +kernel
theorem dX10_stepFrom_35 : decode cX10_stepFrom 35 = .ok (.aload_n 0, 1) := by decide +kernel
theorem dX10_stepFrom_36 : decode cX10_stepFrom 36 = .ok (.getfield 18, 3) := by decide +kernel
theorem dX10_stepFrom_39 : decode cX10_stepFrom 39 = .ok (.iload 8, 2) := by decide +kernel
theorem dX10_stepFrom_41 : decode cX10_stepFrom 41 = .ok (.iaload, 1) := by decide +kernel
theorem dX10_stepFrom_42 : decode cX10_stepFrom 42 = .ok (.iconst (-1), 1) := by decide +kernel
theorem dX10_stepFrom_43 : decode cX10_stepFrom 43 = .ok (.if_icmp .ne 41, 3) := by decide +kernel
theorem dX10_stepFrom_46 : decode cX10_stepFrom 46 = .ok (.aload_n 0, 1) := by decide +kernel
theorem dX10_stepFrom_47 : decode cX10_stepFrom 47 = .ok (.getfield 45, 3) := by decide +kernel
theorem dX10_stepFrom_50 : decode cX10_stepFrom 50 = .ok (.iload 8, 2) := by decide +kernel
theorem dX10_stepFrom_52 : decode cX10_stepFrom 52 = .ok (.invokevirtual 85, 3) := by decide +kernel
theorem dX10_stepFrom_55 : decode cX10_stepFrom 55 = .ok (.ifCond .eq 29, 3) := by decide +kernel
theorem dX10_stepFrom_58 : decode cX10_stepFrom 58 = .ok (.aload_n 0, 1) := by decide +kernel
theorem dX10_stepFrom_59 : decode cX10_stepFrom 59 = .ok (.getfield 18, 3) := by decide +kernel
theorem dX10_stepFrom_62 : decode cX10_stepFrom 62 = .ok (.iload 8, 2) := by decide +kernel
theorem dX10_stepFrom_64 : decode cX10_stepFrom 64 = .ok (.aload_n 0, 1) := by decide +kernel
theorem dX10_stepFrom_65 : decode cX10_stepFrom 65 = .ok (.getfield 18, 3) := by decide +kernel
theorem dX10_stepFrom_68 : decode cX10_stepFrom 68 = .ok (.iload_n 1, 1) := by decide +kernel
theorem dX10_stepFrom_69 : decode cX10_stepFrom 69 = .ok (.iaload, 1) := by decide +kernel
theorem dX10_stepFrom_70 : decode cX10_stepFrom 70 = .ok (.iconst 1, 1) := by decide +kernel
theorem dX10_stepFrom_71 : decode cX10_stepFrom 71 = .ok (.iadd, 1) := by decide +kernel
theorem dX10_stepFrom_72 : decode cX10_stepFrom 72 = .ok (.iastore, 1) := by decide +kernel
theorem dX10_stepFrom_73 : decode cX10_stepFrom 73 = .ok (.aload_n 0, 1) := by decide +kernel
theorem dX10_stepFrom_74 : decode cX10_stepFrom 74 = .ok (.getfield 28, 3) := by decide +kernel
theorem dX10_stepFrom_77 : decode cX10_stepFrom 77 = .ok (.iload_n 3, 1) := by decide +kernel
theorem dX10_stepFrom_78 : decode cX10_stepFrom 78 = .ok (.iload 8, 2) := by decide +kernel
theorem dX10_stepFrom_80 : decode cX10_stepFrom 80 = .ok (.iastore, 1) := by decide +kernel
theorem dX10_stepFrom_81 : decode cX10_stepFrom 81 = .ok (.iinc 3 1, 3) := by decide +kernel
theorem dX10_stepFrom_84 : decode cX10_stepFrom 84 = .ok (.iinc 6 1, 3) := by decide +kernel
theorem dX10_stepFrom_87 : decode cX10_stepFrom 87 = .ok (.goto (-72), 3) := by decide +kernel
theorem dX10_stepFrom_90 : decode cX10_stepFrom 90 = .ok (.iload_n 3, 1) := by decide +kernel
theorem dX10_stepFrom_91 : decode cX10_stepFrom 91 = .ok (.ireturn, 1) := by decide +kernel
set_option maxHeartbeats 8000000 in
set_option maxRecDepth 100000 in
theorem c_w_shineFrom (l : Launch) (g : Nat → ClassId) (D : va_G) (o : Nat) (S : dg_S) (a1 : Int32) (b_a1 : 8 ≤ (a1).toInt ∧ (a1).toInt ≤ 63) (c0 : Int32) (f_c0 : S.1 214 4 = .int c0) (b_c0 : 0 ≤ (c0).toInt ∧ (c0).toInt ≤ 72) (fx : Int32) (f_fx : S.2.1 217 (a1 : Int32).toNatClampNeg = fx) (b_fx : (-1) ≤ (fx).toInt ∧ (fx).toInt ≤ 72) (x_ce : (c0).toInt + (dk_cnt (S.2.1 218) 1000 72 : Int) ≤ 72) (Z2 : Z2X S) (I : CX o S) (sz : Nat) : Met l yX10_shineFrom wsX10_shineFrom ({ frames := 2, cells := 0, slots := 0, locals := 53 } : Room) (dk_Pc g D (dg_w g shX o rfX S) sz [.ref (o + 214), .int a1]) (va_Qv (fun S' => CX o S' ∧ dg_sm shX [(36, 4)] [40, 41] S S' ∧ (∃ y9 : Int32, S'.1 214 4 = .int y9 ∧ (True)) ∧ (∃ c : Int32, S'.1 214 4 = .int c ∧ (c).toInt + (dk_cnt (S'.2.1 218) 1000 72 : Int) ≤ 72) ∧ Z2X S' ∧ True) (dg_B g D shX o rfX) (dg_A o shX.length sz)) 0 0 (dg_A o shX.length sz) := by
  refine dg_met (cc := cX10_shineFrom) (maxL := 7) (ret := none) (by decide) rfl (Nat.le_of_ble_eq_true rfl) ?_
  intro p e s m args below meth c A hAe harg hx hb hr hml hts hown hlocks hin hP K hS hA1 hA ST hsz ls hl
  rw [← hAe]
  have F : CallFix p m c cX10_shineFrom 7 s args wsX10_shineFrom RX10 := ⟨hx, hb, hml, hown, hts⟩
  have hl : lv_has ls 7 [(0, .ref (o + 214)), (1, .int a1)] := hl
  have M_0 : dg_sm shX [(36, 4)] [40, 41] S S := dg_sm.rf
  obtain ⟨sd, hZs, hTs⟩ := id ST
  have iX10 : ∀ w ∈ wsX100, w ∈ wsX10_shineFrom := fun _ h => List.mem_cons_of_mem _ (List.mem_append_left _ (List.mem_append_right _ h))
  refine va_getsN (host := RX11) hx hb hZs hS hown (va_Nw.use rfl (K.2.1 _ (List.mem_of_getElem? (i := 12) rfl))) (fun _ h9 => h9) dX10_shineFrom_0 ?_
  refine lv_astore_n (lv' := [(2, .ref sd), (0, .ref (o + 214)), (1, .int a1)]) hx hb dX10_shineFrom_3 rfl hl (by decide) rfl (fun ls hl => ?_)
  refine lv_aload_n hx hb dX10_shineFrom_4 rfl (lv_at hl 0 rfl) ?_
  refine va_tlen hx hb hTs hS (v := 4) rfl dX10_shineFrom_5 ?_
  refine lv_istore_n (lv' := [(3, .int 4), (2, .ref sd), (0, .ref (o + 214)), (1, .int a1)]) hx hb dX10_shineFrom_6 rfl hl (by decide) rfl (fun ls hl => ?_)
  refine lv_iconst (v := 0) hx hb dX10_shineFrom_7 (by decide +kernel) ?_
  refine lv_istore (lv' := [(4, .int 0), (3, .int 4), (2, .ref sd), (0, .ref (o + 214)), (1, .int a1)]) hx hb dX10_shineFrom_8 hl (by decide) rfl (fun ls hl => ?_)
  have L_120 : ∀ (n : Nat) (x_117 : Int32) (x_118 : Int32), (0 ≤ (x_117).toInt ∧ (x_117).toInt ≤ 4) → (0 ≤ (x_118).toInt ∧ (x_118).toInt ≤ 72) → ((5 - (x_117).toInt).toNat < n) → ∀ S_119 : dg_S, CX o S_119 → dg_sm shX [(36, 4)] [40, 41] S S_119 → S_119.1 214 4 = .int x_118 → Z2X S_119 → ((x_118).toInt + (dk_cnt (S_119.2.1 218) 1000 72 : Int) ≤ 72) → ∀ (H : Heap) (locs : List Loc), va_P D vwCl (dg_w g shX o rfX S_119) H → va_S A s.heap H locs → ∀ ls : Array Slot, lv_has ls 7 [(4, .int x_117), (3, .int 4), (2, .ref sd), (0, .ref (o + 214)), (1, .int a1)] → W p l e ({ frames := 2, cells := 0, slots := 0, locals := 53 } : Room) s m args below meth c H locs 0 0 (MQ below (va_Qv (fun S' => CX o S' ∧ dg_sm shX [(36, 4)] [40, 41] S S' ∧ (∃ y9 : Int32, S'.1 214 4 = .int y9 ∧ (True)) ∧ (∃ c : Int32, S'.1 214 4 = .int c ∧ (c).toInt + (dk_cnt (S'.2.1 218) 1000 72 : Int) ≤ 72) ∧ Z2X S' ∧ True) (dg_B g D shX o rfX) A) args s 0 0 A) (F0 m 10 ls []) := by
    intro n
    induction n with
    | zero =>
      intro x_117 x_118 b_x_117 b_x_118 hmu S_119 I_119 M_119 ff_119_4_214 Z2_119 srel_119_0 H locs hP hS ls hl
      omega
    | succ n ih =>
      intro x_117 x_118 b_x_117 b_x_118 hmu S_119 I_119 M_119 ff_119_4_214 Z2_119 srel_119_0 H locs hP hS ls hl
      refine lv_iload hx hb dX10_shineFrom_10 (lv_at hl 0 rfl) ?_
      refine lv_iload_n hx hb dX10_shineFrom_12 rfl (lv_at hl 1 rfl) ?_
      refine lv_icmp_ge (tgt := 93) hx hb dX10_shineFrom_13 (by decide) (fun c_121 => ?_) (fun c_121 => ?_)
      · have jc_121 := dk_gec (k := 4) (by decide +kernel) c_121
        refine W.widen (k := 0) (n := 0) (Nat.le_of_ble_eq_true rfl) (Nat.le_of_ble_eq_true rfl) ?_
        exact dg_vret hx hb hr hlocks hP hS ⟨I_119, M_119, ⟨x_118, ff_119_4_214, trivial⟩, ⟨x_118, ff_119_4_214, by omega⟩, Z2_119, trivial⟩ dX10_shineFrom_93
      · have jc_121 := dk_ngec (k := 4) (by decide +kernel) c_121
        refine lv_aload_n hx hb dX10_shineFrom_16 rfl (lv_at hl 2 rfl) ?_
        refine lv_iload hx hb dX10_shineFrom_17 (lv_at hl 0 rfl) ?_
        have hin_122 : vp_in x_117 4 := (dk_inv (by omega) (by omega))
        obtain ⟨x_123, ex_123, jx_123⟩ := dk_side_at hin_122
        refine va_ti hx hb hTs hS hin_122 ex_123 dX10_shineFrom_19 ?_
        refine lv_istore (lv' := [(5, .int x_123), (4, .int x_117), (3, .int 4), (2, .ref sd), (0, .ref (o + 214)), (1, .int a1)]) hx hb dX10_shineFrom_20 hl (by decide) rfl (fun ls hl => ?_)
        refine lv_iload_n hx hb dX10_shineFrom_22 rfl (lv_at hl 5 rfl) ?_
        refine lv_iload hx hb dX10_shineFrom_23 (lv_at hl 0 rfl) ?_
        refine lv_iadd hx hb dX10_shineFrom_25 ?_
        refine lv_topi (fun x_124 ex_124 => ?_)
        have jx_124 : (x_124).toInt = (a1).toInt + (x_123).toInt := by rw [ex_124]; exact dk_addT rfl rfl (by omega) (by omega)
        refine lv_istore (lv' := [(6, .int x_124), (5, .int x_123), (4, .int x_117), (3, .int 4), (2, .ref sd), (0, .ref (o + 214)), (1, .int a1)]) hx hb dX10_shineFrom_26 hl (by decide) rfl (fun ls hl => ?_)
        refine lv_aload_n hx hb dX10_shineFrom_28 rfl (lv_at hl 5 rfl) ?_
        refine dg_get (C := RX10) (T := TX10) (N := 13) hx hb hts iX10 hown K hP sX_214 rfl 2 (by decide) (hts (.fieldLink RX10 22 "DarkMine$Works" "beam" "[I") (by decide +kernel)) (fun _ h9 => h9) (v := .ref (o + 218)) (show S_119.1 214 2 = .ref (o + 218) from dg_I.rel (d := 4) I_119 sX_214 (by decide +kernel)) dX10_shineFrom_29 ?_
        refine lv_iload hx hb dX10_shineFrom_32 (lv_at hl 0 rfl) ?_
        have hin_125 : vp_in x_124 72 := (dk_inv (by omega) (by omega))
        refine dg_iald hx hb K hP sX_218 hin_125 dX10_shineFrom_34 (fun x_126 ex_126 => ?_)
        refine lv_sipush (v := 1000) hx hb dX10_shineFrom_35 (by decide +kernel) ?_
        refine lv_icmp_ne (tgt := 87) hx hb dX10_shineFrom_38 (by decide) (fun c_127 => ?_) (fun c_127 => ?_)
        · have jc_127 := dk_neqc (k := 1000) (by decide +kernel) c_127
          obtain ⟨x_128, ex_128⟩ : ∃ z, z = x_117 + 1 := ⟨_, rfl⟩
          have jx_128 : (x_128).toInt = (x_117).toInt + 1 := by rw [ex_128]; exact dk_addT rfl (by decide +kernel) (by omega) (by omega)
          refine lv_iinc (v := x_128) (lv' := [(4, .int x_128), (6, .int x_124), (5, .int x_123), (3, .int 4), (2, .ref sd), (0, .ref (o + 214)), (1, .int a1)]) hx hb dX10_shineFrom_87 hl (k := 2) rfl (by rw [ex_128]; rfl) (by decide) rfl (fun ls hl => ?_)
          refine lv_goto (tgt := 10) hx hb dX10_shineFrom_90 (by decide) ?_
          exact ih x_128 x_118 (by omega) (by omega) (by omega) S_119 I_119 M_119 ff_119_4_214 Z2_119 (by omega) _ _ hP hS _ (lv_sub hl [0, 3, 4, 5, 6] rfl)
        · have jc_127 := dk_eqc (k := 1000) (by decide +kernel) c_127
          refine lv_aload_n hx hb dX10_shineFrom_41 rfl (lv_at hl 5 rfl) ?_
          refine dg_get (C := RX10) (T := TX10) (N := 13) hx hb hts iX10 hown K hP sX_214 rfl 2 (by decide) (hts (.fieldLink RX10 22 "DarkMine$Works" "beam" "[I") (by decide +kernel)) (fun _ h9 => h9) (v := .ref (o + 218)) (show S_119.1 214 2 = .ref (o + 218) from dg_I.rel (d := 4) I_119 sX_214 (by decide +kernel)) dX10_shineFrom_42 ?_
          refine lv_iload hx hb dX10_shineFrom_45 (lv_at hl 0 rfl) ?_
          refine lv_aload_n hx hb dX10_shineFrom_47 rfl (lv_at hl 5 rfl) ?_
          refine dg_get (C := RX10) (T := TX10) (N := 13) hx hb hts iX10 hown K hP sX_214 rfl 1 (by decide) (hts (.fieldLink RX10 18 "DarkMine$Works" "far" "[I") (by decide +kernel)) (fun _ h9 => h9) (v := .ref (o + 217)) (show S_119.1 214 1 = .ref (o + 217) from dg_I.rel (d := 3) I_119 sX_214 (by decide +kernel)) dX10_shineFrom_48 ?_
          refine lv_iload_n hx hb dX10_shineFrom_51 rfl (lv_at hl 6 rfl) ?_
          have hin_129 : vp_in a1 72 := (dk_inv (by omega) (by omega))
          refine dg_iald hx hb K hP sX_217 hin_129 dX10_shineFrom_52 (fun y_130 ey_130 => ?_)
          obtain rfl : fx = y_130 := ((ey_130.trans (congrFun (M_119.2 217 _ sX_217 (by decide)).1 _)).trans f_fx).symm
          have hin_131 : vp_in x_124 72 := (dk_inv (by omega) (by omega))
          refine dg_iast hx hb K hP hS hA1 sX_218 hin_131 dX10_shineFrom_53 (fun S_132 e_132 H locs hP hS => ?_)
          have I_132 := dg_I.uf0 I_119 e_132 sX_218 (by decide +kernel)
          have M_132 := dg_sm.uf M_119 e_132 sX_218 (by decide)
          have q_132 := (show S_132.2.1 218 = upd (S_119.2.1 218) (x_124 : Int32).toNatClampNeg fx from dg_uf_at e_132)
          have jc_132 : dk_cnt (S_132.2.1 218) 1000 72 + 1 = dk_cnt (S_119.2.1 218) 1000 72 := dk_cnt_hit (xr := x_126) hin_131 (ex_126.symm).symm (by omega) (by omega) q_132
          refine lv_aload_n hx hb dX10_shineFrom_54 rfl (lv_at hl 5 rfl) ?_
          obtain ⟨d_133, hk_d_133, f_d_133⟩ := dg_I.one (i := 214) (k := 7) (d := 1) I sX_214 (by decide +kernel)
          have hk_d_133 : pX d_133 := hk_d_133
          refine dg_get (C := RX10) (T := TX10) (N := 13) hx hb hts iX10 hown K hP sX_214 rfl 7 (by decide) (hts (.fieldLink RX10 45 "DarkMine$Works" "pit" "LDarkMine$Pit;") (by decide +kernel)) (fun _ h9 => h9) (v := .ref (o + d_133)) (((dg_uf_F e_132 214 7).trans (M_119.1 214 7 _ sX_214 (by decide))).trans f_d_133) dX10_shineFrom_55 ?_
          refine lv_iload hx hb dX10_shineFrom_58 (lv_at hl 0 rfl) ?_
          refine dg_calli hS hA1 hA (va_runV (As := [.int x_124]) (rest := []) F (c_p_isSolid l g D o S_132 d_133 hk_d_133 x_124 (by omega) I_132 H.size) (cwV 1 hts gX10_shineFrom_X5_isSolid rfl rfl rfl (by decide +kernel) ⟨Nat.le_of_ble_eq_true rfl, Nat.le_of_ble_eq_true rfl⟩) (dg_preV (pX_0 d_133 hk_d_133) rfl K ST hP hS hA1 hA) rfl rfl hl.1 rfl (lv_room (Nat.le_of_ble_eq_true rfl)) dX10_shineFrom_60 ⟨Nat.le_of_ble_eq_true rfl, Nat.le_of_ble_eq_true rfl⟩) (fun x_134 S_135 hw_135 H locs hP hS => ?_)
          rw [hw_135.1] at hP
          obtain ⟨hq_135, w_135_0, w_135_1, -⟩ := hw_135
          have w_135_0 : 0 ≤ (x_134).toInt ∧ (x_134).toInt ≤ 1 := w_135_0
          have w_135_1 : (x_134).toInt = 1 → (8 ≤ (x_124).toInt ∧ (x_124).toInt ≤ 63) := w_135_1
          refine lv_if_eq (tgt := 87) hx hb dX10_shineFrom_63 (by decide) (fun c_136 => ?_) (fun c_136 => ?_)
          · have jc_136 := dk_eqc (k := 0) (by decide +kernel) c_136
            obtain ⟨x_137, ex_137⟩ : ∃ z, z = x_117 + 1 := ⟨_, rfl⟩
            have jx_137 : (x_137).toInt = (x_117).toInt + 1 := by rw [ex_137]; exact dk_addT rfl (by decide +kernel) (by omega) (by omega)
            refine lv_iinc (v := x_137) (lv' := [(4, .int x_137), (6, .int x_124), (5, .int x_123), (3, .int 4), (2, .ref sd), (0, .ref (o + 214)), (1, .int a1)]) hx hb dX10_shineFrom_87 hl (k := 2) rfl (by rw [ex_137]; rfl) (by decide) rfl (fun ls hl => ?_)
            refine lv_goto (tgt := 10) hx hb dX10_shineFrom_90 (by decide) ?_
            exact ih x_137 x_118 (by omega) (by omega) (by omega) S_132 I_132 M_132 ((dg_uf_F e_132 214 4).trans ff_119_4_214) (Z2X.keep Z2_119 (dg_sm.uf (WF := []) (WA := [40]) dg_sm.rf e_132 sX_218 (by decide)) (by decide) (by decide)) (by omega) _ _ hP hS _ (lv_sub hl [0, 3, 4, 5, 6] rfl)
          · have jc_136 := dk_neqc (k := 0) (by decide +kernel) c_136
            refine lv_aload_n hx hb dX10_shineFrom_66 rfl (lv_at hl 5 rfl) ?_
            refine dg_get (C := RX10) (T := TX10) (N := 13) hx hb hts iX10 hown K hP sX_214 rfl 3 (by decide) (hts (.fieldLink RX10 25 "DarkMine$Works" "exposed" "[I") (by decide +kernel)) (fun _ h9 => h9) (v := .ref (o + 219)) (show S_132.1 214 3 = .ref (o + 219) from dg_I.rel (d := 5) I_132 sX_214 (by decide +kernel)) dX10_shineFrom_67 ?_
            refine lv_aload_n hx hb dX10_shineFrom_70 rfl (lv_at hl 5 rfl) ?_
            refine dg_get (C := RX10) (T := TX10) (N := 13) hx hb hts iX10 hown K hP sX_214 rfl 4 (by decide) (hts (.fieldLink RX10 140 "DarkMine$Works" "exposedCount" "I") (by decide +kernel)) (fun _ h9 => h9) (v := .int x_118) ((dg_uf_F e_132 214 4).trans ff_119_4_214) dX10_shineFrom_71 ?_
            refine lv_iload hx hb dX10_shineFrom_74 (lv_at hl 0 rfl) ?_
            have hin_138 : vp_in x_118 72 := (dk_inv (by omega) (by omega))
            refine dg_iast hx hb K hP hS hA1 sX_219 hin_138 dX10_shineFrom_76 (fun S_139 e_139 H locs hP hS => ?_)
            have I_139 := dg_I.ufu (lo := 0) (hi := 63) I_132 e_139 sX_219 (by decide +kernel) (show 0 ≤ (x_124).toInt ∧ (x_124).toInt ≤ 63 from (by omega))
            have M_139 := dg_sm.uf M_132 e_139 sX_219 (by decide)
            refine lv_aload_n hx hb dX10_shineFrom_77 rfl (lv_at hl 5 rfl) ?_
            refine lv_dup hx hb dX10_shineFrom_78 rfl ?_
            refine dg_get (C := RX10) (T := TX10) (N := 13) hx hb hts iX10 hown K hP sX_214 rfl 4 (by decide) (hts (.fieldLink RX10 140 "DarkMine$Works" "exposedCount" "I") (by decide +kernel)) (fun _ h9 => h9) (v := .int x_118) (((dg_uf_F e_139 214 4).trans (dg_uf_F e_132 214 4)).trans ff_119_4_214) dX10_shineFrom_79 ?_
            refine lv_iconst (v := 1) hx hb dX10_shineFrom_82 (by decide +kernel) ?_
            refine lv_iadd hx hb dX10_shineFrom_83 ?_
            refine lv_topi (fun x_140 ex_140 => ?_)
            have jx_140 : (x_140).toInt = (x_118).toInt + 1 := by rw [ex_140]; exact dk_addT rfl (by decide +kernel) (by omega) (by omega)
            refine dg_put (ci := 10) (v := .int x_140) (ty := tyX10 4) (C := RX10) (T := TX10) (N := 13) hx hb hts iX10 tyX10 tyX10_ok nmX10 hown K hP hS hA1 sX_214 rfl 4 (by decide) (hts (.fieldLink RX10 140 "DarkMine$Works" "exposedCount" "I") (by decide +kernel)) (fun _ h9 => h9) rfl (by decide +kernel) rfl rfl dX10_shineFrom_84 (fun S_141 e_141 H locs hP hS => ?_)
            have I_141 := dg_I.uFi (lo := 0) (hi := 72) I_139 e_141 sX_214 (by decide +kernel) (show 0 ≤ (x_140).toInt ∧ (x_140).toInt ≤ 72 from (by omega))
            have M_141 := dg_sm.uF M_139 e_141 sX_214 (by decide)
            have Z2_141 := Z2X.push (Z2X.keep Z2_119 (dg_sm.uf (WF := []) (WA := [40]) dg_sm.rf e_132 sX_218 (by decide)) (by decide) (by decide)) ((dg_uf_F e_132 214 4).trans ff_119_4_214) (by omega) e_139 (by omega) e_141 (by omega)
            obtain ⟨x_142, ex_142⟩ : ∃ z, z = x_117 + 1 := ⟨_, rfl⟩
            have jx_142 : (x_142).toInt = (x_117).toInt + 1 := by rw [ex_142]; exact dk_addT rfl (by decide +kernel) (by omega) (by omega)
            refine lv_iinc (v := x_142) (lv' := [(4, .int x_142), (6, .int x_124), (5, .int x_123), (3, .int 4), (2, .ref sd), (0, .ref (o + 214)), (1, .int a1)]) hx hb dX10_shineFrom_87 hl (k := 2) rfl (by rw [ex_142]; rfl) (by decide) rfl (fun ls hl => ?_)
            refine lv_goto (tgt := 10) hx hb dX10_shineFrom_90 (by decide) ?_
            exact ih x_142 x_140 (by omega) (by omega) (by omega) S_141 I_141 M_141 (dg_uF_at e_141) Z2_141 (by (try rw [(show S_141.2.1 218 = S_132.2.1 218 from ((dg_uF_f e_141 218).trans (dg_uf_ne e_139 (by decide))))]); omega) _ _ hP hS _ (lv_sub hl [0, 3, 4, 5, 6] rfl)
  have hz_143 : (0 : Int32).toInt = 0 := by decide +kernel
  have hz_144 : (0 : Int32).toInt = 0 := by decide +kernel
  exact L_120 ((5 - ((0 : Int32)).toInt).toNat + 1) 0 c0 (by decide +kernel) (by omega) (by omega) S I M_0 f_c0 Z2 (by omega) _ _ hP hS _ (lv_sub hl [0, 1, 2, 3, 4] rfl)
set_option maxHeartbeats 8000000 in
set_option maxRecDepth 100000 in
theorem c_w_stepFrom (l : Launch) (g : Nat → ClassId) (D : va_G) (o : Nat) (S : dg_S) (a1 : Int32) (b_a1 : 8 ≤ (a1).toInt ∧ (a1).toInt ≤ 63) (a2 : Int32) (b_a2 : 1 ≤ (a2).toInt ∧ (a2).toInt ≤ 72) (x_cf : (a2).toInt + (dk_cnt (S.2.1 217) (-1) 72 : Int) ≤ 72) (ZF : ZFX S) (I : CX o S) (sz : Nat) : Met l yX10_stepFrom wsX10_stepFrom ({ frames := 2, cells := 0, slots := 0, locals := 53 } : Room) (dk_Pc g D (dg_w g shX o rfX S) sz [.ref (o + 214), .int a1, .int a2]) (va_Qi (fun (r : Int32) S' => CX o S' ∧ dg_sm shX [] [39, 42] S S' ∧ (1 ≤ (r).toInt ∧ (r).toInt ≤ 72) ∧ ((r).toInt + (dk_cnt (S'.2.1 217) (-1) 72 : Int) ≤ 72) ∧ ZFX S' ∧ True) (dg_B g D shX o rfX) (dg_A o shX.length sz)) 0 0 (dg_A o shX.length sz) := by
  refine dg_met (cc := cX10_stepFrom) (maxL := 9) (ret := (some .int)) (by decide) rfl (Nat.le_of_ble_eq_true rfl) ?_
  intro p e s m args below meth c A hAe harg hx hb hr hml hts hown hlocks hin hP K hS hA1 hA ST hsz ls hl
  rw [← hAe]
  have F : CallFix p m c cX10_stepFrom 9 s args wsX10_stepFrom RX10 := ⟨hx, hb, hml, hown, hts⟩
  have hl : lv_has ls 9 [(0, .ref (o + 214)), (1, .int a1), (2, .int a2)] := hl
  have M_0 : dg_sm shX [] [39, 42] S S := dg_sm.rf
  obtain ⟨sd, hZs, hTs⟩ := id ST
  have iX10 : ∀ w ∈ wsX100, w ∈ wsX10_stepFrom := fun _ h => List.mem_cons_of_mem _ (List.mem_append_left _ (List.mem_append_right _ h))
  refine lv_iload_n hx hb dX10_stepFrom_0 rfl (lv_at hl 2 rfl) ?_
  refine lv_istore_n (lv' := [(3, .int a2), (0, .ref (o + 214)), (1, .int a1), (2, .int a2)]) hx hb dX10_stepFrom_1 rfl hl (by decide) rfl (fun ls hl => ?_)
  refine va_getsN (host := RX11) hx hb hZs hS hown (va_Nw.use rfl (K.2.1 _ (List.mem_of_getElem? (i := 12) rfl))) (fun _ h9 => h9) dX10_stepFrom_2 ?_
  refine lv_astore (lv' := [(4, .ref sd), (3, .int a2), (0, .ref (o + 214)), (1, .int a1), (2, .int a2)]) hx hb dX10_stepFrom_5 hl (by decide) rfl (fun ls hl => ?_)
  refine lv_aload hx hb dX10_stepFrom_7 (lv_at hl 0 rfl) ?_
  refine va_tlen hx hb hTs hS (v := 4) rfl dX10_stepFrom_9 ?_
  refine lv_istore (lv' := [(5, .int 4), (4, .ref sd), (3, .int a2), (0, .ref (o + 214)), (1, .int a1), (2, .int a2)]) hx hb dX10_stepFrom_10 hl (by decide) rfl (fun ls hl => ?_)
  refine lv_iconst (v := 0) hx hb dX10_stepFrom_12 (by decide +kernel) ?_
  refine lv_istore (lv' := [(6, .int 0), (5, .int 4), (4, .ref sd), (3, .int a2), (0, .ref (o + 214)), (1, .int a1), (2, .int a2)]) hx hb dX10_stepFrom_13 hl (by decide) rfl (fun ls hl => ?_)
  have L_122 : ∀ (n : Nat) (x_119 : Int32) (x_120 : Int32), (0 ≤ (x_119).toInt ∧ (x_119).toInt ≤ 4) → (1 ≤ (x_120).toInt ∧ (x_120).toInt ≤ 72) → ((5 - (x_119).toInt).toNat < n) → ∀ S_121 : dg_S, CX o S_121 → dg_sm shX [] [39, 42] S S_121 → ZFX S_121 → ((x_120).toInt + (dk_cnt (S_121.2.1 217) (-1) 72 : Int) ≤ 72) → ∀ (H : Heap) (locs : List Loc), va_P D vwCl (dg_w g shX o rfX S_121) H → va_S A s.heap H locs → ∀ ls : Array Slot, lv_has ls 9 [(6, .int x_119), (5, .int 4), (4, .ref sd), (3, .int x_120), (0, .ref (o + 214)), (1, .int a1), (2, .int a2)] → W p l e ({ frames := 2, cells := 0, slots := 0, locals := 53 } : Room) s m args below meth c H locs 0 0 (MQ below (va_Qi (fun (r : Int32) S' => CX o S' ∧ dg_sm shX [] [39, 42] S S' ∧ (1 ≤ (r).toInt ∧ (r).toInt ≤ 72) ∧ ((r).toInt + (dk_cnt (S'.2.1 217) (-1) 72 : Int) ≤ 72) ∧ ZFX S' ∧ True) (dg_B g D shX o rfX) A) args s 0 0 A) (F0 m 15 ls []) := by
    intro n
    induction n with
    | zero =>
      intro x_119 x_120 b_x_119 b_x_120 hmu S_121 I_121 M_121 ZF_121 srel_121_0 H locs hP hS ls hl
      omega
    | succ n ih =>
      intro x_119 x_120 b_x_119 b_x_120 hmu S_121 I_121 M_121 ZF_121 srel_121_0 H locs hP hS ls hl
      refine lv_iload hx hb dX10_stepFrom_15 (lv_at hl 0 rfl) ?_
      refine lv_iload hx hb dX10_stepFrom_17 (lv_at hl 1 rfl) ?_
      refine lv_icmp_ge (tgt := 90) hx hb dX10_stepFrom_19 (by decide) (fun c_123 => ?_) (fun c_123 => ?_)
      · have jc_123 := dk_gec (k := 4) (by decide +kernel) c_123
        refine lv_iload_n hx hb dX10_stepFrom_90 rfl (lv_at hl 3 rfl) ?_
        refine W.widen (k := 0) (n := 0) (Nat.le_of_ble_eq_true rfl) (Nat.le_of_ble_eq_true rfl) ?_
        exact dg_iret hx hb hr hlocks rfl hP hS ⟨I_121, M_121, (by omega), (by omega), ZF_121, trivial⟩ dX10_stepFrom_91
      · have jc_123 := dk_ngec (k := 4) (by decide +kernel) c_123
        refine lv_aload hx hb dX10_stepFrom_22 (lv_at hl 2 rfl) ?_
        refine lv_iload hx hb dX10_stepFrom_24 (lv_at hl 0 rfl) ?_
        have hin_124 : vp_in x_119 4 := (dk_inv (by omega) (by omega))
        obtain ⟨x_125, ex_125, jx_125⟩ := dk_side_at hin_124
        refine va_ti hx hb hTs hS hin_124 ex_125 dX10_stepFrom_26 ?_
        refine lv_istore (lv' := [(7, .int x_125), (6, .int x_119), (5, .int 4), (4, .ref sd), (3, .int x_120), (0, .ref (o + 214)), (1, .int a1), (2, .int a2)]) hx hb dX10_stepFrom_27 hl (by decide) rfl (fun ls hl => ?_)
        refine lv_iload_n hx hb dX10_stepFrom_29 rfl (lv_at hl 6 rfl) ?_
        refine lv_iload hx hb dX10_stepFrom_30 (lv_at hl 0 rfl) ?_
        refine lv_iadd hx hb dX10_stepFrom_32 ?_
        refine lv_topi (fun x_126 ex_126 => ?_)
        have jx_126 : (x_126).toInt = (a1).toInt + (x_125).toInt := by rw [ex_126]; exact dk_addT rfl rfl (by omega) (by omega)
        refine lv_istore (lv' := [(8, .int x_126), (7, .int x_125), (6, .int x_119), (5, .int 4), (4, .ref sd), (3, .int x_120), (0, .ref (o + 214)), (1, .int a1), (2, .int a2)]) hx hb dX10_stepFrom_33 hl (by decide) rfl (fun ls hl => ?_)
        refine lv_aload_n hx hb dX10_stepFrom_35 rfl (lv_at hl 6 rfl) ?_
        refine dg_get (C := RX10) (T := TX10) (N := 13) hx hb hts iX10 hown K hP sX_214 rfl 1 (by decide) (hts (.fieldLink RX10 18 "DarkMine$Works" "far" "[I") (by decide +kernel)) (fun _ h9 => h9) (v := .ref (o + 217)) (show S_121.1 214 1 = .ref (o + 217) from dg_I.rel (d := 3) I_121 sX_214 (by decide +kernel)) dX10_stepFrom_36 ?_
        refine lv_iload hx hb dX10_stepFrom_39 (lv_at hl 0 rfl) ?_
        have hin_127 : vp_in x_126 72 := (dk_inv (by omega) (by omega))
        refine dg_iald hx hb K hP sX_217 hin_127 dX10_stepFrom_41 (fun x_128 ex_128 => ?_)
        have zf_x_128 := dk_far_at ZF_121 hin_127 ex_128
        refine lv_iconst (v := (-1)) hx hb dX10_stepFrom_42 (by decide +kernel) ?_
        have J_146 : ∀ (x_142 : Int32), (1 ≤ (x_142).toInt ∧ (x_142).toInt ≤ 73) → ∀ S_145 : dg_S, CX o S_145 → dg_sm shX [] [39, 42] S S_145 → ZFX S_145 → ∀ (H : Heap) (locs : List Loc), va_P D vwCl (dg_w g shX o rfX S_145) H → va_S A s.heap H locs → ∀ ls : Array Slot, lv_has ls 9 [(8, .int x_126), (7, .int x_125), (6, .int x_119), (5, .int 4), (4, .ref sd), (3, .int x_142), (0, .ref (o + 214)), (1, .int a1), (2, .int a2)] → W p l e ({ frames := 2, cells := 0, slots := 0, locals := 53 } : Room) s m args below meth c H locs 0 0 (MQ below (va_Qi (fun (r : Int32) S' => CX o S' ∧ dg_sm shX [] [39, 42] S S' ∧ (1 ≤ (r).toInt ∧ (r).toInt ≤ 72) ∧ ((r).toInt + (dk_cnt (S'.2.1 217) (-1) 72 : Int) ≤ 72) ∧ ZFX S' ∧ True) (dg_B g D shX o rfX) A) args s 0 0 A) (F0 m 84 ls []) := by
          intro x_142 b_x_142 S_145 I_145 M_145 ZF_145 H locs hP hS ls hl
          obtain ⟨x_147, ex_147⟩ : ∃ z, z = x_119 + 1 := ⟨_, rfl⟩
          have jx_147 : (x_147).toInt = (x_119).toInt + 1 := by rw [ex_147]; exact dk_addT rfl (by decide +kernel) (by omega) (by omega)
          refine lv_iinc (v := x_147) (lv' := [(6, .int x_147), (8, .int x_126), (7, .int x_125), (5, .int 4), (4, .ref sd), (3, .int x_142), (0, .ref (o + 214)), (1, .int a1), (2, .int a2)]) hx hb dX10_stepFrom_84 hl (k := 2) rfl (by rw [ex_147]; rfl) (by decide) rfl (fun ls hl => ?_)
          refine lv_goto (tgt := 15) hx hb dX10_stepFrom_87 (by decide) ?_
          exact ih x_147 x_142 (by omega) (by omega) (by omega) S_145 I_145 M_145 ZF_145 (by omega) _ _ hP hS _ (lv_sub hl [0, 3, 4, 5, 6, 7, 8] rfl)
        refine lv_icmp_ne (tgt := 84) hx hb dX10_stepFrom_43 (by decide) (fun c_148 => ?_) (fun c_148 => ?_)
        · have jc_148 := dk_neqc (k := (-1)) (by decide +kernel) c_148
          exact J_146 x_120 (by omega) S_121 I_121 M_121 ZF_121 _ _ hP hS _ (lv_sub hl [0, 1, 2, 3, 4, 5, 6, 7, 8] rfl)
        · have jc_148 := dk_eqc (k := (-1)) (by decide +kernel) c_148
          refine lv_aload_n hx hb dX10_stepFrom_46 rfl (lv_at hl 6 rfl) ?_
          obtain ⟨d_149, hk_d_149, f_d_149⟩ := dg_I.one (i := 214) (k := 7) (d := 1) I sX_214 (by decide +kernel)
          have hk_d_149 : pX d_149 := hk_d_149
          refine dg_get (C := RX10) (T := TX10) (N := 13) hx hb hts iX10 hown K hP sX_214 rfl 7 (by decide) (hts (.fieldLink RX10 45 "DarkMine$Works" "pit" "LDarkMine$Pit;") (by decide +kernel)) (fun _ h9 => h9) (v := .ref (o + d_149)) ((M_121.1 214 7 _ sX_214 (by decide)).trans f_d_149) dX10_stepFrom_47 ?_
          refine lv_iload hx hb dX10_stepFrom_50 (lv_at hl 0 rfl) ?_
          refine dg_calli hS hA1 hA (va_runV (As := [.int x_126]) (rest := []) F (c_p_isOpen l g D o S_121 d_149 hk_d_149 x_126 (by omega) I_121 H.size) (cwV 1 hts gX10_stepFrom_X5_isOpen rfl rfl rfl (by decide +kernel) ⟨Nat.le_of_ble_eq_true rfl, Nat.le_of_ble_eq_true rfl⟩) (dg_preV (pX_0 d_149 hk_d_149) rfl K ST hP hS hA1 hA) rfl rfl hl.1 rfl (lv_room (Nat.le_of_ble_eq_true rfl)) dX10_stepFrom_52 ⟨Nat.le_of_ble_eq_true rfl, Nat.le_of_ble_eq_true rfl⟩) (fun x_150 S_151 hw_151 H locs hP hS => ?_)
          rw [hw_151.1] at hP
          obtain ⟨hq_151, w_151_0, w_151_1, -⟩ := hw_151
          have w_151_0 : 0 ≤ (x_150).toInt ∧ (x_150).toInt ≤ 1 := w_151_0
          have w_151_1 : (x_150).toInt = 1 → (8 ≤ (x_126).toInt ∧ (x_126).toInt ≤ 63) := w_151_1
          refine lv_if_eq (tgt := 84) hx hb dX10_stepFrom_55 (by decide) (fun c_152 => ?_) (fun c_152 => ?_)
          · have jc_152 := dk_eqc (k := 0) (by decide +kernel) c_152
            exact J_146 x_120 (by omega) S_121 I_121 M_121 ZF_121 _ _ hP hS _ (lv_sub hl [0, 1, 2, 3, 4, 5, 6, 7, 8] rfl)
          · have jc_152 := dk_neqc (k := 0) (by decide +kernel) c_152
            refine lv_aload_n hx hb dX10_stepFrom_58 rfl (lv_at hl 6 rfl) ?_
            refine dg_get (C := RX10) (T := TX10) (N := 13) hx hb hts iX10 hown K hP sX_214 rfl 1 (by decide) (hts (.fieldLink RX10 18 "DarkMine$Works" "far" "[I") (by decide +kernel)) (fun _ h9 => h9) (v := .ref (o + 217)) (show S_121.1 214 1 = .ref (o + 217) from dg_I.rel (d := 3) I_121 sX_214 (by decide +kernel)) dX10_stepFrom_59 ?_
            refine lv_iload hx hb dX10_stepFrom_62 (lv_at hl 0 rfl) ?_
            refine lv_aload_n hx hb dX10_stepFrom_64 rfl (lv_at hl 6 rfl) ?_
            refine dg_get (C := RX10) (T := TX10) (N := 13) hx hb hts iX10 hown K hP sX_214 rfl 1 (by decide) (hts (.fieldLink RX10 18 "DarkMine$Works" "far" "[I") (by decide +kernel)) (fun _ h9 => h9) (v := .ref (o + 217)) (show S_121.1 214 1 = .ref (o + 217) from dg_I.rel (d := 3) I_121 sX_214 (by decide +kernel)) dX10_stepFrom_65 ?_
            refine lv_iload_n hx hb dX10_stepFrom_68 rfl (lv_at hl 7 rfl) ?_
            have hin_153 : vp_in a1 72 := (dk_inv (by omega) (by omega))
            refine dg_iald hx hb K hP sX_217 hin_153 dX10_stepFrom_69 (fun x_154 ex_154 => ?_)
            have zf_x_154 := dk_far_at ZF_121 hin_153 ex_154
            refine lv_iconst (v := 1) hx hb dX10_stepFrom_70 (by decide +kernel) ?_
            refine lv_iadd hx hb dX10_stepFrom_71 ?_
            refine lv_topi (fun x_155 ex_155 => ?_)
            have jx_155 : (x_155).toInt = (x_154).toInt + 1 := by rw [ex_155]; exact dk_addT rfl (by decide +kernel) (by omega) (by omega)
            have hin_156 : vp_in x_126 72 := (dk_inv (by omega) (by omega))
            refine dg_iast hx hb K hP hS hA1 sX_217 hin_156 dX10_stepFrom_72 (fun S_157 e_157 H locs hP hS => ?_)
            have I_157 := dg_I.uf0 I_121 e_157 sX_217 (by decide +kernel)
            have M_157 := dg_sm.uf M_121 e_157 sX_217 (by decide)
            have q_157 := (show S_157.2.1 217 = upd (S_121.2.1 217) (x_126 : Int32).toNatClampNeg x_155 from dg_uf_at e_157)
            have jc_157 : dk_cnt (S_157.2.1 217) (-1) 72 + 1 = dk_cnt (S_121.2.1 217) (-1) 72 := dk_cnt_hit (xr := x_128) hin_156 (ex_128.symm).symm (by omega) (by omega) q_157
            have ZF_157 : ZFX S_157 := dk_far_upd (xr := x_128) ZF_121 hin_156 (ex_128.symm).symm (by omega) (by omega) (by omega) q_157
            refine lv_aload_n hx hb dX10_stepFrom_73 rfl (lv_at hl 6 rfl) ?_
            refine dg_get (C := RX10) (T := TX10) (N := 13) hx hb hts iX10 hown K hP sX_214 rfl 5 (by decide) (hts (.fieldLink RX10 28 "DarkMine$Works" "queue" "[I") (by decide +kernel)) (fun _ h9 => h9) (v := .ref (o + 220)) (show S_157.1 214 5 = .ref (o + 220) from dg_I.rel (d := 6) I_157 sX_214 (by decide +kernel)) dX10_stepFrom_74 ?_
            refine lv_iload_n hx hb dX10_stepFrom_77 rfl (lv_at hl 5 rfl) ?_
            refine lv_iload hx hb dX10_stepFrom_78 (lv_at hl 0 rfl) ?_
            have hin_158 : vp_in x_120 72 := (dk_inv (by omega) (by omega))
            refine dg_iast hx hb K hP hS hA1 sX_220 hin_158 dX10_stepFrom_80 (fun S_159 e_159 H locs hP hS => ?_)
            have I_159 := dg_I.ufu (lo := 0) (hi := 63) I_157 e_159 sX_220 (by decide +kernel) (show 0 ≤ (x_126).toInt ∧ (x_126).toInt ≤ 63 from (by omega))
            have M_159 := dg_sm.uf M_157 e_159 sX_220 (by decide)
            obtain ⟨x_160, ex_160⟩ : ∃ z, z = x_120 + 1 := ⟨_, rfl⟩
            have jx_160 : (x_160).toInt = (x_120).toInt + 1 := by rw [ex_160]; exact dk_addT rfl (by decide +kernel) (by omega) (by omega)
            refine lv_iinc (v := x_160) (lv' := [(3, .int x_160), (8, .int x_126), (7, .int x_125), (6, .int x_119), (5, .int 4), (4, .ref sd), (0, .ref (o + 214)), (1, .int a1), (2, .int a2)]) hx hb dX10_stepFrom_81 hl (k := 5) rfl (by rw [ex_160]; rfl) (by decide) rfl (fun ls hl => ?_)
            exact J_146 x_160 (by omega) S_159 I_159 M_159 (ZFX.keep ZF_157 (dg_sm.uf (WF := []) (WA := [42]) dg_sm.rf e_159 sX_220 (by decide)) (by decide)) _ _ hP hS _ (lv_sub hl [1, 2, 3, 4, 5, 0, 6, 7, 8] rfl)
  have hz_161 : (0 : Int32).toInt = 0 := by decide +kernel
  have hz_162 : (0 : Int32).toInt = 0 := by decide +kernel
  exact L_122 ((5 - ((0 : Int32)).toInt).toNat + 1) 0 a2 (by decide +kernel) (by omega) (by omega) S I M_0 ZF (by omega) _ _ hP hS _ (lv_sub hl [0, 1, 2, 3, 4, 5, 6] rfl)
