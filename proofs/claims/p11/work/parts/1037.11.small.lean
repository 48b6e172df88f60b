/-! 11.small.lean.txt -/
theorem dX11_flag_0 : decode cX11_flag 0 = .ok (.iload_n 0, 1) := dk_o26 (by decide +kernel)
theorem dX11_flag_1 : decode cX11_flag 1 = .ok (.ifCond .eq 7, 3) := dk_o153 (by decide +kernel)
theorem dX11_flag_4 : decode cX11_flag 4 = .ok (.iconst 1, 1) := dk_o4 (by decide +kernel)
theorem dX11_flag_5 : decode cX11_flag 5 = .ok (.goto 4, 3) := dk_o167 (by decide +kernel)
theorem dX11_flag_8 : decode cX11_flag 8 = .ok (.iconst 0, 1) := dk_o3 (by decide +kernel)
theorem dX11_flag_9 : decode cX11_flag 9 = .ok (.ireturn, 1) := dk_o172 (by decide +kernel)
theorem dX11_columnOf_0 : decode cX11_columnOf 0 = .ok (.iload_n 0, 1) := dk_o26 (by decide +kernel)
theorem dX11_columnOf_1 : decode cX11_columnOf 1 = .ok (.bipush 7, 2) := dk_o16 (by decide +kernel)
theorem dX11_columnOf_3 : decode cX11_columnOf 3 = .ok (.iand, 1) := dk_o126 (by decide +kernel)
theorem dX11_columnOf_4 : decode cX11_columnOf 4 = .ok (.ireturn, 1) := dk_o172 (by decide +kernel)
theorem dX11_rowOf_0 : decode cX11_rowOf 0 = .ok (.iload_n 0, 1) := dk_o26 (by decide +kernel)
theorem dX11_rowOf_1 : decode cX11_rowOf 1 = .ok (.iconst 3, 1) := dk_o6 (by decide +kernel)
theorem dX11_rowOf_2 : decode cX11_rowOf 2 = .ok (.ishr, 1) := dk_o122 (by decide +kernel)
theorem dX11_rowOf_3 : decode cX11_rowOf 3 = .ok (.iconst 1, 1) := dk_o4 (by decide +kernel)
theorem dX11_rowOf_4 : decode cX11_rowOf 4 = .ok (.isub, 1) := dk_o100 (by decide +kernel)
theorem dX11_rowOf_5 : decode cX11_rowOf 5 = .ok (.ireturn, 1) := dk_o172 (by decide +kernel)
theorem dX11_letterOf_0 : decode cX11_letterOf 0 = .ok (.iload_n 1, 1) := dk_o27 (by decide +kernel)
theorem dX11_letterOf_1 : decode cX11_letterOf 1 = .ok (.ifCond .lt 9, 3) := dk_o155 (by decide +kernel)
theorem dX11_letterOf_4 : decode cX11_letterOf 4 = .ok (.iload_n 1, 1) := dk_o27 (by decide +kernel)
theorem dX11_letterOf_5 : decode cX11_letterOf 5 = .ok (.bipush 6, 2) := dk_o16 (by decide +kernel)
theorem dX11_letterOf_7 : decode cX11_letterOf 7 = .ok (.if_icmp .lt 5, 3) := dk_o161 (by decide +kernel)
theorem dX11_letterOf_10 : decode cX11_letterOf 10 = .ok (.iconst (-1), 1) := dk_o2 (by decide +kernel)
theorem dX11_letterOf_11 : decode cX11_letterOf 11 = .ok (.ireturn, 1) := dk_o172 (by decide +kernel)
theorem dX11_letterOf_12 : decode cX11_letterOf 12 = .ok (.iload_n 0, 1) := dk_o26 (by decide +kernel)
theorem dX11_letterOf_13 : decode cX11_letterOf 13 = .ok (.istore_n 2, 1) := dk_o61 (by decide +kernel)
theorem dX11_letterOf_14 : decode cX11_letterOf 14 = .ok (.iload_n 1, 1) := dk_o27 (by decide +kernel)
theorem dX11_letterOf_15 : decode cX11_letterOf 15 = .ok (.iconst 1, 1) := dk_o4 (by decide +kernel)
theorem dX11_letterOf_16 : decode cX11_letterOf 16 = .ok (.iadd, 1) := dk_o96 (by decide +kernel)
theorem dX11_letterOf_17 : decode cX11_letterOf 17 = .ok (.istore_n 3, 1) := dk_o62 (by decide +kernel)
theorem dX11_letterOf_18 : decode cX11_letterOf 18 = .ok (.iload_n 3, 1) := dk_o29 (by decide +kernel)
theorem dX11_letterOf_19 : decode cX11_letterOf 19 = .ok (.bipush 6, 2) := dk_o16 (by decide +kernel)
theorem dX11_letterOf_21 : decode cX11_letterOf 21 = .ok (.if_icmp .ge 14, 3) := dk_o162 (by decide +kernel)
theorem dX11_letterOf_24 : decode cX11_letterOf 24 = .ok (.iload_n 2, 1) := dk_o28 (by decide +kernel)
theorem dX11_letterOf_25 : decode cX11_letterOf 25 = .ok (.bipush 27, 2) := dk_o16 (by decide +kernel)
theorem dX11_letterOf_27 : decode cX11_letterOf 27 = .ok (.idiv, 1) := dk_o108 (by decide +kernel)
theorem dX11_letterOf_28 : decode cX11_letterOf 28 = .ok (.istore_n 2, 1) := dk_o61 (by decide +kernel)
theorem dX11_letterOf_29 : decode cX11_letterOf 29 = .ok (.iinc 3 1, 3) := dk_o132 (by decide +kernel)
theorem dX11_letterOf_32 : decode cX11_letterOf 32 = .ok (.goto (-14), 3) := dk_o167 (by decide +kernel)
theorem dX11_letterOf_35 : decode cX11_letterOf 35 = .ok (.iload_n 2, 1) := dk_o28 (by decide +kernel)
theorem dX11_letterOf_36 : decode cX11_letterOf 36 = .ok (.bipush 27, 2) := dk_o16 (by decide +kernel)
theorem dX11_letterOf_38 : decode cX11_letterOf 38 = .ok (.irem, 1) := dk_o112 (by decide +kernel)
theorem dX11_letterOf_39 : decode cX11_letterOf 39 = .ok (.ireturn, 1) := dk_o172 (by decide +kernel)
noncomputable def F_rowOf (o : Nat) (S : dg_S) (a1 : Int32) : Int32 := let x_1 : Int32 := a1 >>> ((3 : Int32) &&& 31); let x_2 : Int32 := x_1 - (1 : Int32); x_2
theorem F_rowOf_p0 {o : Nat} {S : dg_S} {a1 : Int32} {x_2 : Int32} {x_1 : Int32} (h0 : x_1 = a1 >>> ((3 : Int32) &&& 31)) (h1 : x_2 = x_1 - (1 : Int32)) : F_rowOf o S a1 = x_2 := by
  replace h0 := Eq.symm h0
  subst h0
  replace h1 := Eq.symm h1
  subst h1
  exact rfl
set_option maxHeartbeats 8000000 in
set_option maxRecDepth 100000 in
theorem c_rowOf (l : Launch) (g : Nat → ClassId) (D : va_G) (o : Nat) (S : dg_S) (a1 : Int32) (I : CX o S) (sz : Nat) : Met l yX11_rowOf (bw yX11_rowOf cX11_rowOf 1 (some .int)) ({ frames := 1, cells := 0, slots := 0, locals := 32 } : Room) (dk_Pc g D (dg_w g shX o rfX S) sz [.int a1]) (va_Qi (fun (r : Int32) S' => S' = S ∧ (r = F_rowOf o S a1) ∧ True) (dg_B g D shX o rfX) (dg_A o shX.length sz)) 0 0 (dg_A o shX.length sz) := by
  refine dg_met (cc := cX11_rowOf) (maxL := 1) (ret := (some .int)) (dk_dq rfl) rfl (Nat.le_of_ble_eq_true rfl) ?_
  intro p e s m args below meth c A hAe harg hx hb hr hml hts hown hlocks hin hP K hS hA1 hA ST hsz ls hl
  rw [← hAe]
  have F : CallFix p m c cX11_rowOf 1 s args (bw yX11_rowOf cX11_rowOf 1 (some .int)) RX11 := ⟨hx, hb, hml, hown, hts⟩
  have hl : lv_has ls 1 [(0, .int a1)] := hl
  have M_0 : dg_sm shX [] [] S S := dg_sm.rf
  refine lv_iload_n hx hb dX11_rowOf_0 rfl (lv_at hl 0 rfl) ?_
  refine lv_iconst (v := 3) hx hb dX11_rowOf_1 (by decide +kernel) ?_
  refine lv_ishr hx hb dX11_rowOf_2 ?_
  refine lv_topi (fun x_1 ex_1 => ?_)
  refine lv_iconst (v := 1) hx hb dX11_rowOf_3 (by decide +kernel) ?_
  refine lv_isub hx hb dX11_rowOf_4 ?_
  refine lv_topi (fun x_2 ex_2 => ?_)
  refine W.widen (k := 0) (n := 0) (Nat.le_of_ble_eq_true rfl) (Nat.le_of_ble_eq_true rfl) ?_
  exact dg_iret hx hb hr hlocks rfl hP hS ⟨rfl, (Eq.symm (F_rowOf_p0 ex_1 ex_2)), trivial⟩ dX11_rowOf_5
noncomputable def F_columnOf (o : Nat) (S : dg_S) (a1 : Int32) : Int32 := let x_1 : Int32 := a1 &&& (7 : Int32); x_1
theorem F_columnOf_p0 {o : Nat} {S : dg_S} {a1 : Int32} {x_1 : Int32} (h0 : x_1 = a1 &&& (7 : Int32)) : F_columnOf o S a1 = x_1 := by
  replace h0 := Eq.symm h0
  subst h0
  exact rfl
set_option maxHeartbeats 8000000 in
set_option maxRecDepth 100000 in
theorem c_columnOf (l : Launch) (g : Nat → ClassId) (D : va_G) (o : Nat) (S : dg_S) (a1 : Int32) (I : CX o S) (sz : Nat) : Met l yX11_columnOf (bw yX11_columnOf cX11_columnOf 1 (some .int)) ({ frames := 1, cells := 0, slots := 0, locals := 32 } : Room) (dk_Pc g D (dg_w g shX o rfX S) sz [.int a1]) (va_Qi (fun (r : Int32) S' => S' = S ∧ (0 ≤ (r).toInt ∧ (r).toInt ≤ 7) ∧ (r = F_columnOf o S a1) ∧ True) (dg_B g D shX o rfX) (dg_A o shX.length sz)) 0 0 (dg_A o shX.length sz) := by
  refine dg_met (cc := cX11_columnOf) (maxL := 1) (ret := (some .int)) (dk_dq rfl) rfl (Nat.le_of_ble_eq_true rfl) ?_
  intro p e s m args below meth c A hAe harg hx hb hr hml hts hown hlocks hin hP K hS hA1 hA ST hsz ls hl
  rw [← hAe]
  have F : CallFix p m c cX11_columnOf 1 s args (bw yX11_columnOf cX11_columnOf 1 (some .int)) RX11 := ⟨hx, hb, hml, hown, hts⟩
  have hl : lv_has ls 1 [(0, .int a1)] := hl
  have M_0 : dg_sm shX [] [] S S := dg_sm.rf
  refine lv_iload_n hx hb dX11_columnOf_0 rfl (lv_at hl 0 rfl) ?_
  refine lv_bipush (v := 7) hx hb dX11_columnOf_1 (by decide +kernel) ?_
  refine lv_iand hx hb dX11_columnOf_3 ?_
  refine lv_topi (fun x_1 ex_1 => ?_)
  have jx_1 := dk_and7 a1
  rw [← ex_1] at jx_1
  refine W.widen (k := 0) (n := 0) (Nat.le_of_ble_eq_true rfl) (Nat.le_of_ble_eq_true rfl) ?_
  exact dg_iret hx hb hr hlocks rfl hP hS ⟨rfl, (by omega), (Eq.symm (F_columnOf_p0 ex_1)), trivial⟩ dX11_columnOf_4
noncomputable def F_flag (o : Nat) (S : dg_S) (a1 : Int32) : Int32 := (if a1 = (0 : Int32) then (0 : Int32) else (1 : Int32))
theorem F_flag_p0 {o : Nat} {S : dg_S} {a1 : Int32} (h0 : a1 = (0 : Int32)) : F_flag o S a1 = (0 : Int32) := (Eq.trans (if_pos h0) rfl)
theorem F_flag_p1 {o : Nat} {S : dg_S} {a1 : Int32} (h0 : ¬ (a1 = (0 : Int32))) : F_flag o S a1 = (1 : Int32) := (Eq.trans (if_neg h0) rfl)
set_option maxHeartbeats 8000000 in
set_option maxRecDepth 100000 in
theorem c_flag (l : Launch) (g : Nat → ClassId) (D : va_G) (o : Nat) (S : dg_S) (a1 : Int32) (b_a1 : 0 ≤ (a1).toInt ∧ (a1).toInt ≤ 1) (I : CX o S) (sz : Nat) : Met l yX11_flag (bw yX11_flag cX11_flag 1 (some .int)) ({ frames := 1, cells := 0, slots := 0, locals := 32 } : Room) (dk_Pc g D (dg_w g shX o rfX S) sz [.int a1]) (va_Qi (fun (r : Int32) S' => S' = S ∧ (0 ≤ (r).toInt ∧ (r).toInt ≤ 1) ∧ (r = F_flag o S a1) ∧ True) (dg_B g D shX o rfX) (dg_A o shX.length sz)) 0 0 (dg_A o shX.length sz) := by
  refine dg_met (cc := cX11_flag) (maxL := 1) (ret := (some .int)) (dk_dq rfl) rfl (Nat.le_of_ble_eq_true rfl) ?_
  intro p e s m args below meth c A hAe harg hx hb hr hml hts hown hlocks hin hP K hS hA1 hA ST hsz ls hl
  rw [← hAe]
  have F : CallFix p m c cX11_flag 1 s args (bw yX11_flag cX11_flag 1 (some .int)) RX11 := ⟨hx, hb, hml, hown, hts⟩
  have hl : lv_has ls 1 [(0, .int a1)] := hl
  have M_0 : dg_sm shX [] [] S S := dg_sm.rf
  refine lv_iload_n hx hb dX11_flag_0 rfl (lv_at hl 0 rfl) ?_
  refine lv_if_eq (tgt := 8) hx hb dX11_flag_1 (dk_dq rfl) (fun c_1 => ?_) (fun c_1 => ?_)
  · have jc_1 := dk_eqc (k := 0) (by decide +kernel) c_1
    refine lv_iconst (v := 0) hx hb dX11_flag_8 (by decide +kernel) ?_
    have hz_2 : (0 : Int32).toInt = 0 := by decide +kernel
    refine W.widen (k := 0) (n := 0) (Nat.le_of_ble_eq_true rfl) (Nat.le_of_ble_eq_true rfl) ?_
    exact dg_iret hx hb hr hlocks rfl hP hS ⟨rfl, (by decide +kernel), (Eq.symm (F_flag_p0 c_1)), trivial⟩ dX11_flag_9
  · have jc_1 := dk_neqc (k := 0) (by decide +kernel) c_1
    refine lv_iconst (v := 1) hx hb dX11_flag_4 (by decide +kernel) ?_
    refine lv_goto (tgt := 9) hx hb dX11_flag_5 (dk_dq rfl) ?_
    have hz_3 : (1 : Int32).toInt = 1 := by decide +kernel
    refine W.widen (k := 0) (n := 0) (Nat.le_of_ble_eq_true rfl) (Nat.le_of_ble_eq_true rfl) ?_
    exact dg_iret hx hb hr hlocks rfl hP hS ⟨rfl, (by decide +kernel), (Eq.symm (F_flag_p1 c_1)), trivial⟩ dX11_flag_9
noncomputable def F_letterOf_B1 : (Int32 × Int32) → (Int32 × Int32) ⊕ (Int32) := fun w9 => match w9 with | (x_14, x_15) => (if (6 : Int32) ≤ x_14 then (Sum.inr (let x_18 : Int32 := x_15 - x_15 / (27 : Int32) * (27 : Int32); x_18)) else let x_19 : Int32 := x_15 / (27 : Int32); let x_20 : Int32 := x_14 + 1; (Sum.inl (x_20, x_19)))
noncomputable def F_letterOf (o : Nat) (S : dg_S) (a1 : Int32) (a2 : Int32) : Int32 := (if a2 < (0 : Int32) then (-1 : Int32) else (if a2 < (6 : Int32) then let x_3 : Int32 := a2 + (1 : Int32); (lp F_letterOf_B1 (0 : Int32) ((7 - ((x_3 : Int32)).toInt).toNat + 1) (x_3, a1)) else (-1 : Int32)))
theorem F_letterOf_p0 {o : Nat} {S : dg_S} {a1 : Int32} {a2 : Int32} (h0 : a2 < (0 : Int32)) : F_letterOf o S a1 a2 = (-1 : Int32) := (Eq.trans (if_pos h0) rfl)
theorem F_letterOf_p1 {x_14 : Int32} {x_15 : Int32} {x_18 : Int32} (h0 : (6 : Int32) ≤ x_14) (h2 : x_18 = x_15 - x_15 / (27 : Int32) * (27 : Int32)) : F_letterOf_B1 (x_14, x_15) = Sum.inr (x_18) := by
  replace h2 := Eq.symm h2
  subst h2
  exact (Eq.trans (if_pos h0) rfl)
theorem F_letterOf_p2 {x_14 : Int32} {x_15 : Int32} {x_20 : Int32} {x_19 : Int32} (h0 : ¬ ((6 : Int32) ≤ x_14)) (h1 : x_19 = x_15 / (27 : Int32)) (h2 : x_20 = x_14 + 1) : F_letterOf_B1 (x_14, x_15) = Sum.inl (x_20, x_19) := by
  replace h1 := Eq.symm h1
  subst h1
  replace h2 := Eq.symm h2
  subst h2
  exact (Eq.trans (if_neg h0) rfl)
theorem F_letterOf_p3 {o : Nat} {S : dg_S} {a1 : Int32} {a2 : Int32} {x_3 : Int32} (h0 : ¬ (a2 < (0 : Int32))) (h1 : a2 < (6 : Int32)) (h2 : x_3 = a2 + (1 : Int32)) : F_letterOf o S a1 a2 = lp F_letterOf_B1 (0 : Int32) ((7 - ((x_3 : Int32)).toInt).toNat + 1) (x_3, a1) := by
  replace h2 := Eq.symm h2
  subst h2
  exact (Eq.trans (if_neg h0) (Eq.trans (if_pos h1) rfl))
theorem F_letterOf_p4 {o : Nat} {S : dg_S} {a1 : Int32} {a2 : Int32} (h0 : ¬ (a2 < (0 : Int32))) (h1 : ¬ (a2 < (6 : Int32))) : F_letterOf o S a1 a2 = (-1 : Int32) := (Eq.trans (if_neg h0) (Eq.trans (if_neg h1) rfl))
set_option maxHeartbeats 8000000 in
set_option maxRecDepth 100000 in
theorem c_letterOf (l : Launch) (g : Nat → ClassId) (D : va_G) (o : Nat) (S : dg_S) (a1 : Int32) (a2 : Int32) (I : CX o S) (sz : Nat) : Met l yX11_letterOf (bw yX11_letterOf cX11_letterOf 4 (some .int)) ({ frames := 1, cells := 0, slots := 0, locals := 32 } : Room) (dk_Pc g D (dg_w g shX o rfX S) sz [.int a1, .int a2]) (va_Qi (fun (r : Int32) S' => S' = S ∧ (r = F_letterOf o S a1 a2) ∧ True) (dg_B g D shX o rfX) (dg_A o shX.length sz)) 0 0 (dg_A o shX.length sz) := by
  refine dg_met (cc := cX11_letterOf) (maxL := 4) (ret := (some .int)) (dk_dq rfl) rfl (Nat.le_of_ble_eq_true rfl) ?_
  intro p e s m args below meth c A hAe harg hx hb hr hml hts hown hlocks hin hP K hS hA1 hA ST hsz ls hl
  rw [← hAe]
  have F : CallFix p m c cX11_letterOf 4 s args (bw yX11_letterOf cX11_letterOf 4 (some .int)) RX11 := ⟨hx, hb, hml, hown, hts⟩
  have hl : lv_has ls 4 [(0, .int a1), (1, .int a2)] := hl
  have M_0 : dg_sm shX [] [] S S := dg_sm.rf
  refine lv_iload_n hx hb dX11_letterOf_0 rfl (lv_at hl 1 rfl) ?_
  refine lv_if_lt (tgt := 10) hx hb dX11_letterOf_1 (dk_dq rfl) (fun c_1 => ?_) (fun c_1 => ?_)
  · have jc_1 := dk_ltc (k := 0) (by decide +kernel) c_1
    refine lv_iconst (v := (-1)) hx hb dX11_letterOf_10 (by decide +kernel) ?_
    refine W.widen (k := 0) (n := 0) (Nat.le_of_ble_eq_true rfl) (Nat.le_of_ble_eq_true rfl) ?_
    exact dg_iret hx hb hr hlocks rfl hP hS ⟨rfl, (Eq.symm (F_letterOf_p0 c_1)), trivial⟩ dX11_letterOf_11
  · as_aux_lemma =>
      have jc_1 := dk_nltc (k := 0) (by decide +kernel) c_1
      refine lv_iload_n hx hb dX11_letterOf_4 rfl (lv_at hl 1 rfl) ?_
      refine lv_bipush (v := 6) hx hb dX11_letterOf_5 (by decide +kernel) ?_
      refine lv_icmp_lt (tgt := 12) hx hb dX11_letterOf_7 (dk_dq rfl) (fun c_2 => ?_) (fun c_2 => ?_)
      · as_aux_lemma =>
          have jc_2 := dk_ltc (k := 6) (by decide +kernel) c_2
          refine lv_iload_n hx hb dX11_letterOf_12 rfl (lv_at hl 0 rfl) ?_
          refine lv_istore_n (lv' := [(2, .int a1), (0, .int a1), (1, .int a2)]) hx hb dX11_letterOf_13 rfl hl (dk_dq rfl) rfl (fun ls hl => ?_)
          refine lv_iload_n hx hb dX11_letterOf_14 rfl (lv_at hl 2 rfl) ?_
          refine lv_iconst (v := 1) hx hb dX11_letterOf_15 (by decide +kernel) ?_
          refine lv_iadd hx hb dX11_letterOf_16 ?_
          refine lv_topi (fun x_3 ex_3 => ?_)
          have jx_3 : (x_3).toInt = (a2).toInt + 1 := by rw [ex_3]; exact dk_addT2 rfl (by decide +kernel) (by omega)
          refine lv_istore_n (lv' := [(3, .int x_3), (2, .int a1), (0, .int a1), (1, .int a2)]) hx hb dX11_letterOf_17 rfl hl (dk_dq rfl) rfl (fun ls hl => ?_)
          have L_16 : ∀ (n : Nat) (x_14 : Int32) (x_15 : Int32), (1 ≤ (x_14).toInt ∧ (x_14).toInt ≤ 6) → ((7 - (x_14).toInt).toNat < n) → (F_letterOf o S a1 a2 = lp F_letterOf_B1 (0 : Int32) n (x_14, x_15)) → ∀ (H : Heap) (locs : List Loc), va_P D vwCl (dg_w g shX o rfX S) H → va_S A s.heap H locs → ∀ ls : Array Slot, lv_has ls 4 [(3, .int x_14), (2, .int x_15), (0, .int a1), (1, .int a2)] → W p l e ({ frames := 1, cells := 0, slots := 0, locals := 32 } : Room) s m args below meth c H locs 0 0 (MQ below (va_Qi (fun (r : Int32) S' => S' = S ∧ (r = F_letterOf o S a1 a2) ∧ True) (dg_B g D shX o rfX) A) args s 0 0 A) (F0 m 18 ls []) := by
            as_aux_lemma =>
              intro n
              induction n with
              | zero =>
                intro x_14 x_15 b_x_14 hmu hF_1 H locs hP hS ls hl
                omega
              | succ n ih =>
                as_aux_lemma =>
                  intro x_14 x_15 b_x_14 hmu hF_1 H locs hP hS ls hl
                  refine lv_iload_n hx hb dX11_letterOf_18 rfl (lv_at hl 0 rfl) ?_
                  refine lv_bipush (v := 6) hx hb dX11_letterOf_19 (by decide +kernel) ?_
                  refine lv_icmp_ge (tgt := 35) hx hb dX11_letterOf_21 (dk_dq rfl) (fun c_17 => ?_) (fun c_17 => ?_)
                  · have jc_17 := dk_gec (k := 6) (by decide +kernel) c_17
                    refine lv_iload_n hx hb dX11_letterOf_35 rfl (lv_at hl 1 rfl) ?_
                    refine lv_bipush (v := 27) hx hb dX11_letterOf_36 (by decide +kernel) ?_
                    refine lv_irem hx hb dX11_letterOf_38 (by decide +kernel) ?_
                    refine lv_topi (fun x_18 ex_18 => ?_)
                    refine W.widen (k := 0) (n := 0) (Nat.le_of_ble_eq_true rfl) (Nat.le_of_ble_eq_true rfl) ?_
                    exact dg_iret hx hb hr hlocks rfl hP hS ⟨rfl, (Eq.symm (lp_r hF_1 (F_letterOf_p1 c_17 ex_18))), trivial⟩ dX11_letterOf_39
                  · have jc_17 := dk_ngec (k := 6) (by decide +kernel) c_17
                    refine lv_iload_n hx hb dX11_letterOf_24 rfl (lv_at hl 1 rfl) ?_
                    refine lv_bipush (v := 27) hx hb dX11_letterOf_25 (by decide +kernel) ?_
                    refine lv_idiv hx hb dX11_letterOf_27 (by decide +kernel) ?_
                    refine lv_topi (fun x_19 ex_19 => ?_)
                    refine lv_istore_n (lv' := [(2, .int x_19), (3, .int x_14), (0, .int a1), (1, .int a2)]) hx hb dX11_letterOf_28 rfl hl (dk_dq rfl) rfl (fun ls hl => ?_)
                    obtain ⟨x_20, ex_20⟩ : ∃ z, z = x_14 + 1 := ⟨_, rfl⟩
                    have jx_20 : (x_20).toInt = (x_14).toInt + 1 := by rw [ex_20]; exact dk_addT2 rfl (by decide +kernel) (by omega)
                    refine lv_iinc (v := x_20) (lv' := [(3, .int x_20), (2, .int x_19), (0, .int a1), (1, .int a2)]) hx hb dX11_letterOf_29 hl (k := 1) rfl (by rw [ex_20]; rfl) (dk_dq rfl) rfl (fun ls hl => ?_)
                    refine lv_goto (tgt := 18) hx hb dX11_letterOf_32 (dk_dq rfl) ?_
                    exact ih x_20 x_19 (by omega) (by first | exact mu_lt hmu (by omega) (by omega) | omega) (lp_l hF_1 (F_letterOf_p2 c_17 ex_19 ex_20)) _ _ hP hS _ (lv_sub hl [0, 1, 2, 3] rfl)
          exact L_16 ((7 - ((x_3 : Int32)).toInt).toNat + 1) x_3 a1 (by omega) (by first | exact mu_lt hmu (by omega) (by omega) | omega) (F_letterOf_p3 c_1 c_2 ex_3) _ _ hP hS _ (lv_sub hl [0, 1, 2, 3] rfl)
      · have jc_2 := dk_nltc (k := 6) (by decide +kernel) c_2
        refine lv_iconst (v := (-1)) hx hb dX11_letterOf_10 (by decide +kernel) ?_
        refine W.widen (k := 0) (n := 0) (Nat.le_of_ble_eq_true rfl) (Nat.le_of_ble_eq_true rfl) ?_
        exact dg_iret hx hb hr hlocks rfl hP hS ⟨rfl, (Eq.symm (F_letterOf_p4 c_1 c_2)), trivial⟩ dX11_letterOf_11
  