/-! 13.hist.lean.txt -/
def wsX3_clear : List Cond := .code yX3_clear cX3_clear 1 none :: ([.fieldLink RX3 30 "DarkMine$History" "keptCount" "I", .fieldLink RX3 34 "DarkMine$History" "acts" "I"] ++ wsX30)
def wsX3_keep : List Cond := .code yX3_keep cX3_keep 6 none :: ([.fieldLink RX3 30 "DarkMine$History" "keptCount" "I", .fieldLink RX3 9 "DarkMine$History" "keptParts" "[I", .methodLink RX3 37 arraycopyName, .native arraycopyName, .static arraycopyName, .initialized "java/lang/System"] ++ wsX30)
theorem dX3_clear_0 : decode cX3_clear 0 = .ok (.aload_n 0, 1) := by decide +kernel
theorem dX3_clear_1 : decode cX3_clear 1 = .ok (.iconst 0, 1) := by decide +kernel
theorem dX3_clear_2 : decode cX3_clear 2 = .ok (.putfield 30, 3) := by decide +kernel
theorem dX3_clear_5 : decode cX3_clear 5 = .ok (.aload_n 0, 1) := by decide +kernel
theorem dX3_clear_6 : decode cX3_clear 6 = .ok (.iconst 0, 1) := by decide +kernel
theorem dX3_clear_7 : decode cX3_clear 7 = .ok (.putfield 34, 3) := by decide +kernel
theorem dX3_clear_10 : decode cX3_clear 10 = .ok (.return_, 1) := by decide +kernel
theorem dX3_keep_0 : decode cX3_keep 0 = .ok (.aload_n 0, 1) := by decide +kernel
theorem dX3_keep_1 : decode cX3_keep 1 = .ok (.getfield 30, 3) := by decide +kernel
theorem dX3_keep_4 : decode cX3_keep 4 = .ok (.bipush 40, 2) := by decide +kernel
theorem dX3_keep_6 : decode cX3_keep 6 = .ok (.if_icmp .ne 29, 3) := by decide +kernel
theorem dX3_keep_9 : decode cX3_keep 9 = .ok (.aload_n 0, 1) := by decide +kernel
theorem dX3_keep_10 : decode cX3_keep 10 = .ok (.getfield 9, 3) := by decide +kernel
theorem dX3_keep_13 : decode cX3_keep 13 = .ok (.iconst 4, 1) := by decide +kernel
theorem dX3_keep_14 : decode cX3_keep 14 = .ok (.aload_n 0, 1) := by decide +kernel
theorem dX3_keep_15 : decode cX3_keep 15 = .ok (.getfield 9, 3) := by decide +kernel
theorem dX3_keep_18 : decode cX3_keep 18 = .ok (.iconst 0, 1) := by decide +kernel
theorem dX3_keep_19 : decode cX3_keep 19 = .ok (.sipush 156, 3) := by decide +kernel
theorem dX3_keep_22 : decode cX3_keep 22 = .ok (.invokestatic 37, 3) := by decide +kernel
theorem dX3_keep_25 : decode cX3_keep 25 = .ok (.aload_n 0, 1) := by decide +kernel
theorem dX3_keep_26 : decode cX3_keep 26 = .ok (.dup, 1) := by decide +kernel
theorem dX3_keep_27 : decode cX3_keep 27 = .ok (.getfield 30, 3) := by decide +kernel
theorem dX3_keep_30 : decode cX3_keep 30 = .ok (.iconst 1, 1) := by decide +kernel
theorem dX3_keep_31 : decode cX3_keep 31 = .ok (.isub, 1) := by decide +kernel
theorem dX3_keep_32 : decode cX3_keep 32 = .ok (.putfield 30, 3) := by decide +kernel
theorem dX3_keep_35 : decode cX3_keep 35 = .ok (.iconst 4, 1) := by decide +kernel
theorem dX3_keep_36 : decode cX3_keep 36 = .ok (.aload_n 0, 1) := by decide +kernel
theorem dX3_keep_37 : decode cX3_keep 37 = .ok (.getfield 30, 3) := by decide +kernel
theorem dX3_keep_40 : decode cX3_keep 40 = .ok (.imul, 1) := by decide +kernel
theorem dX3_keep_41 : decode cX3_keep 41 = .ok (.istore 5, 2) := by decide +kernel
theorem dX3_keep_43 : decode cX3_keep 43 = .ok (.aload_n 0, 1) := by decide +kernel
theorem dX3_keep_44 : decode cX3_keep 44 = .ok (.getfield 9, 3) := by decide +kernel
theorem dX3_keep_47 : decode cX3_keep 47 = .ok (.iload 5, 2) := by decide +kernel
theorem dX3_keep_49 : decode cX3_keep 49 = .ok (.iload_n 1, 1) := by decide +kernel
theorem dX3_keep_50 : decode cX3_keep 50 = .ok (.iastore, 1) := by decide +kernel
theorem dX3_keep_51 : decode cX3_keep 51 = .ok (.aload_n 0, 1) := by decide +kernel
theorem dX3_keep_52 : decode cX3_keep 52 = .ok (.getfield 9, 3) := by decide +kernel
theorem dX3_keep_55 : decode cX3_keep 55 = .ok (.iload 5, 2) := by decide +kernel
theorem dX3_keep_57 : decode cX3_keep 57 = .ok (.iconst 1, 1) := by decide +kernel
theorem dX3_keep_58 : decode cX3_keep 58 = .ok (.iadd, 1) := by decide +kernel
theorem dX3_keep_59 : decode cX3_keep 59 = .ok (.iload_n 2, 1) := by decide +kernel
theorem dX3_keep_60 : decode cX3_keep 60 = .ok (.iastore, 1) := by decide +kernel
theorem dX3_keep_61 : decode cX3_keep 61 = .ok (.aload_n 0, 1) := by decide +kernel
theorem dX3_keep_62 : decode cX3_keep 62 = .ok (.getfield 9, 3) := by decide +kernel
theorem dX3_keep_65 : decode cX3_keep 65 = .ok (.iload 5, 2) := by decide +kernel
theorem dX3_keep_67 : decode cX3_keep 67 = .ok (.iconst 2, 1) := by decide +kernel
theorem dX3_keep_68 : decode cX3_keep 68 = .ok (.iadd, 1) := by decide +kernel
theorem dX3_keep_69 : decode cX3_keep 69 = .ok (.iload_n 3, 1) := by decide +kernel
theorem dX3_keep_70 : decode cX3_keep 70 = .ok (.iastore, 1) := by decide +kernel
theorem dX3_keep_71 : decode cX3_keep 71 = .ok (.aload_n 0, 1) := by decide +kernel
theorem dX3_keep_72 : decode cX3_keep 72 = .ok (.getfield 9, 3) := by decide +kernel
theorem dX3_keep_75 : decode cX3_keep 75 = .ok (.iload 5, 2) := by decide +kernel
theorem dX3_keep_77 : decode cX3_keep 77 = .ok (.iconst 3, 1) := by decide +kernel
theorem dX3_keep_78 : decode cX3_keep 78 = .ok (.iadd, 1) := by decide +kernel
theorem dX3_keep_79 : decode cX3_keep 79 = .ok (.iload 4, 2) := by decide +kernel
theorem dX3_keep_81 : decode cX3_keep 81 = .ok (.iastore, 1) := by decide +kernel
theorem dX3_keep_82 : decode cX3_keep 82 = .ok (.aload_n 0, 1) := by decide +kernel
theorem dX3_keep_83 : decode cX3_keep 83 = .ok (.dup, 1) := by decide +kernel
theorem dX3_keep_84 : decode cX3_keep 84 = .ok (.getfield 30, 3) := by decide +kernel
theorem dX3_keep_87 : decode cX3_keep 87 = .ok (.iconst 1, 1) := by decide +kernel
theorem dX3_keep_88 : decode cX3_keep 88 = .ok (.iadd, 1) := by decide +kernel
theorem dX3_keep_89 : decode cX3_keep 89 = .ok (.putfield 30, 3) := by decide +kernel
theorem dX3_keep_92 : decode cX3_keep 92 = .ok (.return_, 1) := by decide +kernel
set_option maxHeartbeats 8000000 in
set_option maxRecDepth 100000 in
theorem c_h_clear (l : Launch) (g : Nat → ClassId) (D : va_G) (o : Nat) (S : dg_S) (I : CX o S) (sz : Nat) : Met l yX3_clear wsX3_clear ({ frames := 1, cells := 0, slots := 0, locals := 32 } : Room) (dk_Pc g D (dg_w g shX o rfX S) sz [.ref (o + 17)]) (va_Qv (fun S' => CX o S' ∧ dg_sm shX [(10, 1), (10, 2)] [] S S' ∧ True) (dg_B g D shX o rfX) (dg_A o shX.length sz)) 0 0 (dg_A o shX.length sz) := by
  refine dg_met (cc := cX3_clear) (maxL := 1) (ret := none) (by decide) rfl (Nat.le_of_ble_eq_true rfl) ?_
  intro p e s m args below meth c A hAe harg hx hb hr hml hts hown hlocks hin hP K hS hA1 hA ST hsz ls hl
  rw [← hAe]
  have F : CallFix p m c cX3_clear 1 s args wsX3_clear RX3 := ⟨hx, hb, hml, hown, hts⟩
  have hl : lv_has ls 1 [(0, .ref (o + 17))] := hl
  have M_0 : dg_sm shX [(10, 1), (10, 2)] [] S S := dg_sm.rf
  have iX3 : ∀ w ∈ wsX30, w ∈ wsX3_clear := fun _ h => List.mem_cons_of_mem _ (List.mem_append_right _ h)
  refine lv_aload_n hx hb dX3_clear_0 rfl (lv_at hl 0 rfl) ?_
  refine lv_iconst (v := 0) hx hb dX3_clear_1 (by decide +kernel) ?_
  have hz_1 : (0 : Int32).toInt = 0 := by decide +kernel
  refine dg_put (ci := 3) (v := .int 0) (ty := tyX3 1) (C := RX3) (T := TX3) (N := 7) hx hb hts iX3 tyX3 tyX3_ok nmX3 hown K hP hS hA1 sX_17 rfl 1 (by decide) (hts (.fieldLink RX3 30 "DarkMine$History" "keptCount" "I") (by decide +kernel)) (fun _ h9 => h9) rfl (by decide +kernel) rfl rfl dX3_clear_2 (fun S_2 e_2 H locs hP hS => ?_)
  have I_2 := dg_I.uFi (lo := 0) (hi := 40) I e_2 sX_17 (by decide +kernel) (show 0 ≤ ((0 : Int32)).toInt ∧ ((0 : Int32)).toInt ≤ 40 from (by decide +kernel))
  have M_2 := dg_sm.uF M_0 e_2 sX_17 (by decide)
  refine lv_aload_n hx hb dX3_clear_5 rfl (lv_at hl 0 rfl) ?_
  refine lv_iconst (v := 0) hx hb dX3_clear_6 (by decide +kernel) ?_
  have hz_3 : (0 : Int32).toInt = 0 := by decide +kernel
  refine dg_put (ci := 3) (v := .int 0) (ty := tyX3 2) (C := RX3) (T := TX3) (N := 7) hx hb hts iX3 tyX3 tyX3_ok nmX3 hown K hP hS hA1 sX_17 rfl 2 (by decide) (hts (.fieldLink RX3 34 "DarkMine$History" "acts" "I") (by decide +kernel)) (fun _ h9 => h9) rfl (by decide +kernel) rfl rfl dX3_clear_7 (fun S_4 e_4 H locs hP hS => ?_)
  have I_4 := dg_I.uFi (lo := 0) (hi := 20) I_2 e_4 sX_17 (by decide +kernel) (show 0 ≤ ((0 : Int32)).toInt ∧ ((0 : Int32)).toInt ≤ 20 from (by decide +kernel))
  have M_4 := dg_sm.uF M_2 e_4 sX_17 (by decide)
  refine W.widen (k := 0) (n := 0) (Nat.le_of_ble_eq_true rfl) (Nat.le_of_ble_eq_true rfl) ?_
  exact dg_vret hx hb hr hlocks hP hS ⟨I_4, M_4, trivial⟩ dX3_clear_10
set_option maxHeartbeats 8000000 in
set_option maxRecDepth 100000 in
theorem c_h_keep (l : Launch) (g : Nat → ClassId) (D : va_G) (o : Nat) (S : dg_S) (a1 : Int32) (a2 : Int32) (a3 : Int32) (a4 : Int32) (I : CX o S) (sz : Nat) : Met l yX3_keep wsX3_keep ({ frames := 2, cells := 0, slots := 0, locals := 40 } : Room) (dk_Pc g D (dg_w g shX o rfX S) sz [.ref (o + 17), .int a1, .int a2, .int a3, .int a4]) (va_Qv (fun S' => CX o S' ∧ dg_sm shX [(10, 1)] [11] S S' ∧ True) (dg_B g D shX o rfX) (dg_A o shX.length sz)) 0 0 (dg_A o shX.length sz) := by
  refine dg_met (cc := cX3_keep) (maxL := 6) (ret := none) (by decide) rfl (Nat.le_of_ble_eq_true rfl) ?_
  intro p e s m args below meth c A hAe harg hx hb hr hml hts hown hlocks hin hP K hS hA1 hA ST hsz ls hl
  rw [← hAe]
  have F : CallFix p m c cX3_keep 6 s args wsX3_keep RX3 := ⟨hx, hb, hml, hown, hts⟩
  have hl : lv_has ls 6 [(0, .ref (o + 17)), (1, .int a1), (2, .int a2), (3, .int a3), (4, .int a4)] := hl
  have M_0 : dg_sm shX [(10, 1)] [11] S S := dg_sm.rf
  have iX3 : ∀ w ∈ wsX30, w ∈ wsX3_keep := fun _ h => List.mem_cons_of_mem _ (List.mem_append_right _ h)
  refine lv_aload_n hx hb dX3_keep_0 rfl (lv_at hl 0 rfl) ?_
  obtain ⟨x_1, f_x_1, b_x_1⟩ := dg_I.int (i := 17) (k := 1) (lo := 0) (hi := 40) I sX_17 (by decide +kernel)
  refine dg_get (C := RX3) (T := TX3) (N := 7) hx hb hts iX3 hown K hP sX_17 rfl 1 (by decide) (hts (.fieldLink RX3 30 "DarkMine$History" "keptCount" "I") (by decide +kernel)) (fun _ h9 => h9) (v := .int x_1) f_x_1 dX3_keep_1 ?_
  refine lv_bipush (v := 40) hx hb dX3_keep_4 (by decide +kernel) ?_
  have J_29 : ∀ (x_12 : Int32), (0 ≤ (x_12).toInt ∧ (x_12).toInt ≤ 39) → ∀ S_28 : dg_S, CX o S_28 → dg_sm shX [(10, 1)] [11] S S_28 → S_28.1 17 1 = .int x_12 → ∀ (H : Heap) (locs : List Loc), va_P D vwCl (dg_w g shX o rfX S_28) H → va_S A s.heap H locs → ∀ ls : Array Slot, lv_has ls 6 [(0, .ref (o + 17)), (1, .int a1), (2, .int a2), (3, .int a3), (4, .int a4)] → W p l e ({ frames := 2, cells := 0, slots := 0, locals := 40 } : Room) s m args below meth c H locs 0 0 (MQ below (va_Qv (fun S' => CX o S' ∧ dg_sm shX [(10, 1)] [11] S S' ∧ True) (dg_B g D shX o rfX) A) args s 0 0 A) (F0 m 35 ls []) := by
    intro x_12 b_x_12 S_28 I_28 M_28 ff_28_1_17 H locs hP hS ls hl
    refine lv_iconst (v := 4) hx hb dX3_keep_35 (by decide +kernel) ?_
    refine lv_aload_n hx hb dX3_keep_36 rfl (lv_at hl 0 rfl) ?_
    refine dg_get (C := RX3) (T := TX3) (N := 7) hx hb hts iX3 hown K hP sX_17 rfl 1 (by decide) (hts (.fieldLink RX3 30 "DarkMine$History" "keptCount" "I") (by decide +kernel)) (fun _ h9 => h9) (v := .int x_12) ff_28_1_17 dX3_keep_37 ?_
    refine lv_imul hx hb dX3_keep_40 ?_
    refine lv_topi (fun x_30 ex_30 => ?_)
    have jx_30 : (x_30).toInt = 4 * (x_12).toInt := by rw [ex_30]; exact dk_mulT (by decide +kernel) rfl (by omega) (by omega)
    refine lv_istore (lv' := [(5, .int x_30), (0, .ref (o + 17)), (1, .int a1), (2, .int a2), (3, .int a3), (4, .int a4)]) hx hb dX3_keep_41 hl (by decide) rfl (fun ls hl => ?_)
    refine lv_aload_n hx hb dX3_keep_43 rfl (lv_at hl 1 rfl) ?_
    refine dg_get (C := RX3) (T := TX3) (N := 7) hx hb hts iX3 hown K hP sX_17 rfl 0 (by decide) (hts (.fieldLink RX3 9 "DarkMine$History" "keptParts" "[I") (by decide +kernel)) (fun _ h9 => h9) (v := .ref (o + 18)) (show S_28.1 17 0 = .ref (o + 18) from dg_I.rel (d := 1) I_28 sX_17 (by decide +kernel)) dX3_keep_44 ?_
    refine lv_iload hx hb dX3_keep_47 (lv_at hl 0 rfl) ?_
    refine lv_iload_n hx hb dX3_keep_49 rfl (lv_at hl 2 rfl) ?_
    have hin_31 : vp_in x_30 160 := (dk_inv (by omega) (by omega))
    refine dg_iast hx hb K hP hS hA1 sX_18 hin_31 dX3_keep_50 (fun S_32 e_32 H locs hP hS => ?_)
    have I_32 := dg_I.uf0 I_28 e_32 sX_18 (by decide +kernel)
    have M_32 := dg_sm.uf M_28 e_32 sX_18 (by decide)
    refine lv_aload_n hx hb dX3_keep_51 rfl (lv_at hl 1 rfl) ?_
    refine dg_get (C := RX3) (T := TX3) (N := 7) hx hb hts iX3 hown K hP sX_17 rfl 0 (by decide) (hts (.fieldLink RX3 9 "DarkMine$History" "keptParts" "[I") (by decide +kernel)) (fun _ h9 => h9) (v := .ref (o + 18)) (show S_32.1 17 0 = .ref (o + 18) from dg_I.rel (d := 1) I_32 sX_17 (by decide +kernel)) dX3_keep_52 ?_
    refine lv_iload hx hb dX3_keep_55 (lv_at hl 0 rfl) ?_
    refine lv_iconst (v := 1) hx hb dX3_keep_57 (by decide +kernel) ?_
    refine lv_iadd hx hb dX3_keep_58 ?_
    refine lv_topi (fun x_33 ex_33 => ?_)
    have jx_33 : (x_33).toInt = (x_30).toInt + 1 := by rw [ex_33]; exact dk_addT rfl (by decide +kernel) (by omega) (by omega)
    refine lv_iload_n hx hb dX3_keep_59 rfl (lv_at hl 3 rfl) ?_
    have hin_34 : vp_in x_33 160 := (dk_inv (by omega) (by omega))
    refine dg_iast hx hb K hP hS hA1 sX_18 hin_34 dX3_keep_60 (fun S_35 e_35 H locs hP hS => ?_)
    have I_35 := dg_I.uf0 I_32 e_35 sX_18 (by decide +kernel)
    have M_35 := dg_sm.uf M_32 e_35 sX_18 (by decide)
    refine lv_aload_n hx hb dX3_keep_61 rfl (lv_at hl 1 rfl) ?_
    refine dg_get (C := RX3) (T := TX3) (N := 7) hx hb hts iX3 hown K hP sX_17 rfl 0 (by decide) (hts (.fieldLink RX3 9 "DarkMine$History" "keptParts" "[I") (by decide +kernel)) (fun _ h9 => h9) (v := .ref (o + 18)) (show S_35.1 17 0 = .ref (o + 18) from dg_I.rel (d := 1) I_35 sX_17 (by decide +kernel)) dX3_keep_62 ?_
    refine lv_iload hx hb dX3_keep_65 (lv_at hl 0 rfl) ?_
    refine lv_iconst (v := 2) hx hb dX3_keep_67 (by decide +kernel) ?_
    refine lv_iadd hx hb dX3_keep_68 ?_
    refine lv_topi (fun x_36 ex_36 => ?_)
    have jx_36 : (x_36).toInt = (x_30).toInt + 2 := by rw [ex_36]; exact dk_addT rfl (by decide +kernel) (by omega) (by omega)
    refine lv_iload_n hx hb dX3_keep_69 rfl (lv_at hl 4 rfl) ?_
    have hin_37 : vp_in x_36 160 := (dk_inv (by omega) (by omega))
    refine dg_iast hx hb K hP hS hA1 sX_18 hin_37 dX3_keep_70 (fun S_38 e_38 H locs hP hS => ?_)
    have I_38 := dg_I.uf0 I_35 e_38 sX_18 (by decide +kernel)
    have M_38 := dg_sm.uf M_35 e_38 sX_18 (by decide)
    refine lv_aload_n hx hb dX3_keep_71 rfl (lv_at hl 1 rfl) ?_
    refine dg_get (C := RX3) (T := TX3) (N := 7) hx hb hts iX3 hown K hP sX_17 rfl 0 (by decide) (hts (.fieldLink RX3 9 "DarkMine$History" "keptParts" "[I") (by decide +kernel)) (fun _ h9 => h9) (v := .ref (o + 18)) (show S_38.1 17 0 = .ref (o + 18) from dg_I.rel (d := 1) I_38 sX_17 (by decide +kernel)) dX3_keep_72 ?_
    refine lv_iload hx hb dX3_keep_75 (lv_at hl 0 rfl) ?_
    refine lv_iconst (v := 3) hx hb dX3_keep_77 (by decide +kernel) ?_
    refine lv_iadd hx hb dX3_keep_78 ?_
    refine lv_topi (fun x_39 ex_39 => ?_)
    have jx_39 : (x_39).toInt = (x_30).toInt + 3 := by rw [ex_39]; exact dk_addT rfl (by decide +kernel) (by omega) (by omega)
    refine lv_iload hx hb dX3_keep_79 (lv_at hl 5 rfl) ?_
    have hin_40 : vp_in x_39 160 := (dk_inv (by omega) (by omega))
    refine dg_iast hx hb K hP hS hA1 sX_18 hin_40 dX3_keep_81 (fun S_41 e_41 H locs hP hS => ?_)
    have I_41 := dg_I.uf0 I_38 e_41 sX_18 (by decide +kernel)
    have M_41 := dg_sm.uf M_38 e_41 sX_18 (by decide)
    refine lv_aload_n hx hb dX3_keep_82 rfl (lv_at hl 1 rfl) ?_
    refine lv_dup hx hb dX3_keep_83 rfl ?_
    refine dg_get (C := RX3) (T := TX3) (N := 7) hx hb hts iX3 hown K hP sX_17 rfl 1 (by decide) (hts (.fieldLink RX3 30 "DarkMine$History" "keptCount" "I") (by decide +kernel)) (fun _ h9 => h9) (v := .int x_12) (((dg_uf_F e_41 17 1).trans ((dg_uf_F e_38 17 1).trans ((dg_uf_F e_35 17 1).trans (dg_uf_F e_32 17 1)))).trans ff_28_1_17) dX3_keep_84 ?_
    refine lv_iconst (v := 1) hx hb dX3_keep_87 (by decide +kernel) ?_
    refine lv_iadd hx hb dX3_keep_88 ?_
    refine lv_topi (fun x_42 ex_42 => ?_)
    have jx_42 : (x_42).toInt = (x_12).toInt + 1 := by rw [ex_42]; exact dk_addT rfl (by decide +kernel) (by omega) (by omega)
    refine dg_put (ci := 3) (v := .int x_42) (ty := tyX3 1) (C := RX3) (T := TX3) (N := 7) hx hb hts iX3 tyX3 tyX3_ok nmX3 hown K hP hS hA1 sX_17 rfl 1 (by decide) (hts (.fieldLink RX3 30 "DarkMine$History" "keptCount" "I") (by decide +kernel)) (fun _ h9 => h9) rfl (by decide +kernel) rfl rfl dX3_keep_89 (fun S_43 e_43 H locs hP hS => ?_)
    have I_43 := dg_I.uFi (lo := 0) (hi := 40) I_41 e_43 sX_17 (by decide +kernel) (show 0 ≤ (x_42).toInt ∧ (x_42).toInt ≤ 40 from (by omega))
    have M_43 := dg_sm.uF M_41 e_43 sX_17 (by decide)
    refine W.widen (k := 0) (n := 0) (Nat.le_of_ble_eq_true rfl) (Nat.le_of_ble_eq_true rfl) ?_
    exact dg_vret hx hb hr hlocks hP hS ⟨I_43, M_43, trivial⟩ dX3_keep_92
  refine lv_icmp_ne (tgt := 35) hx hb dX3_keep_6 (by decide) (fun c_44 => ?_) (fun c_44 => ?_)
  · have jc_44 := dk_neqc (k := 40) (by decide +kernel) c_44
    exact J_29 x_1 (by omega) S I M_0 f_x_1 _ _ hP hS _ (lv_sub hl [0, 1, 2, 3, 4] rfl)
  · have jc_44 := dk_eqc (k := 40) (by decide +kernel) c_44
    refine lv_aload_n hx hb dX3_keep_9 rfl (lv_at hl 0 rfl) ?_
    refine dg_get (C := RX3) (T := TX3) (N := 7) hx hb hts iX3 hown K hP sX_17 rfl 0 (by decide) (hts (.fieldLink RX3 9 "DarkMine$History" "keptParts" "[I") (by decide +kernel)) (fun _ h9 => h9) (v := .ref (o + 18)) (show S.1 17 0 = .ref (o + 18) from dg_I.rel (d := 1) I sX_17 (by decide +kernel)) dX3_keep_10 ?_
    refine lv_iconst (v := 4) hx hb dX3_keep_13 (by decide +kernel) ?_
    refine lv_aload_n hx hb dX3_keep_14 rfl (lv_at hl 0 rfl) ?_
    refine dg_get (C := RX3) (T := TX3) (N := 7) hx hb hts iX3 hown K hP sX_17 rfl 0 (by decide) (hts (.fieldLink RX3 9 "DarkMine$History" "keptParts" "[I") (by decide +kernel)) (fun _ h9 => h9) (v := .ref (o + 18)) (show S.1 17 0 = .ref (o + 18) from dg_I.rel (d := 1) I sX_17 (by decide +kernel)) dX3_keep_15 ?_
    refine lv_iconst (v := 0) hx hb dX3_keep_18 (by decide +kernel) ?_
    refine lv_sipush (v := 156) hx hb dX3_keep_19 (by decide +kernel) ?_
    have hz_45 : (156 : Int32).toInt = 156 := by decide +kernel
    have hz_46 : (0 : Int32).toInt = 0 := by decide +kernel
    have hz_47 : (4 : Int32).toInt = 4 := by decide +kernel
    have hc_48 : (4 : Int32).toInt + (156 : Int32).toInt ≤ ((160 : Nat) : Int) := by omega
    have hc_49 : (0 : Int32).toInt + (156 : Int32).toInt ≤ ((160 : Nat) : Int) := by omega
    refine dg_copyi hx hb (by rw [hml]; exact hl.1.symm) hown (hts (.methodLink RX3 37 arraycopyName) (by decide +kernel)) (hts (.native arraycopyName) (by decide +kernel)) (hts (.static arraycopyName) (by decide +kernel)) (hts (.initialized "java/lang/System") (by decide +kernel)) K hP hS hA1 sX_18 sX_18 (by omega) (by omega) (by omega) hc_48 hc_49 (Nat.le_of_ble_eq_true rfl) (Nat.le_of_ble_eq_true rfl) dX3_keep_22 (fun S_50 e_50 H locs hP hS => ?_)
    have hc_51 : (4 : Int32).toNatClampNeg + (156 : Int32).toNatClampNeg ≤ 160 := by rw [dk_clN, dk_clN]; omega
    have I_50 := dg_I.uf0 I e_50 sX_18 (by decide +kernel)
    have M_50 := dg_sm.uf M_0 e_50 sX_18 (by decide)
    refine lv_aload_n hx hb dX3_keep_25 rfl (lv_at hl 0 rfl) ?_
    refine lv_dup hx hb dX3_keep_26 rfl ?_
    refine dg_get (C := RX3) (T := TX3) (N := 7) hx hb hts iX3 hown K hP sX_17 rfl 1 (by decide) (hts (.fieldLink RX3 30 "DarkMine$History" "keptCount" "I") (by decide +kernel)) (fun _ h9 => h9) (v := .int x_1) ((dg_uf_F e_50 17 1).trans f_x_1) dX3_keep_27 ?_
    refine lv_iconst (v := 1) hx hb dX3_keep_30 (by decide +kernel) ?_
    refine lv_isub hx hb dX3_keep_31 ?_
    refine lv_topi (fun x_52 ex_52 => ?_)
    have jx_52 : (x_52).toInt = (x_1).toInt - 1 := by rw [ex_52]; exact dk_subT rfl (by decide +kernel) (by omega) (by omega)
    refine dg_put (ci := 3) (v := .int x_52) (ty := tyX3 1) (C := RX3) (T := TX3) (N := 7) hx hb hts iX3 tyX3 tyX3_ok nmX3 hown K hP hS hA1 sX_17 rfl 1 (by decide) (hts (.fieldLink RX3 30 "DarkMine$History" "keptCount" "I") (by decide +kernel)) (fun _ h9 => h9) rfl (by decide +kernel) rfl rfl dX3_keep_32 (fun S_53 e_53 H locs hP hS => ?_)
    have I_53 := dg_I.uFi (lo := 0) (hi := 40) I_50 e_53 sX_17 (by decide +kernel) (show 0 ≤ (x_52).toInt ∧ (x_52).toInt ≤ 40 from (by omega))
    have M_53 := dg_sm.uF M_50 e_53 sX_17 (by decide)
    exact J_29 x_52 (by omega) S_53 I_53 M_53 (dg_uF_at e_53) _ _ hP hS _ (lv_sub hl [0, 1, 2, 3, 4] rfl)
