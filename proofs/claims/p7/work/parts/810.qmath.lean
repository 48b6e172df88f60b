/-! 10.qmath.lean.txt -/
def F_floorDiv (o : Nat) (S : dg_S) (a1 : Int32) (a2 : Int32) : Int32 := let x_1 : Int32 := a1 / a2; let x_2 : Int32 := a1 ^^^ a2; (if (0 : Int32) ≤ x_2 then x_1 else let x_4 : Int32 := x_1 * a2; (if x_4 = a1 then x_1 else let x_10 : Int32 := x_1 - (1 : Int32); x_10))
theorem F_floorDiv_p0 {o : Nat} {S : dg_S} {a1 : Int32} {a2 : Int32} {x_1 : Int32} {x_2 : Int32} (h0 : x_1 = a1 / a2) (h1 : x_2 = a1 ^^^ a2) (h2 : (0 : Int32) ≤ x_2) : F_floorDiv o S a1 a2 = x_1 := by
  subst h0
  subst h1
  exact (Eq.trans (if_pos h2) rfl)
theorem F_floorDiv_p1 {o : Nat} {S : dg_S} {a1 : Int32} {a2 : Int32} {x_1 : Int32} {x_2 : Int32} {x_4 : Int32} (h0 : x_1 = a1 / a2) (h1 : x_2 = a1 ^^^ a2) (h2 : ¬ ((0 : Int32) ≤ x_2)) (h3 : x_4 = x_1 * a2) (h4 : x_4 = a1) : F_floorDiv o S a1 a2 = x_1 := by
  subst h0
  subst h1
  subst h3
  exact (Eq.trans (if_neg h2) (Eq.trans (if_pos h4) rfl))
theorem F_floorDiv_p2 {o : Nat} {S : dg_S} {a1 : Int32} {a2 : Int32} {x_10 : Int32} {x_1 : Int32} {x_2 : Int32} {x_4 : Int32} (h0 : x_1 = a1 / a2) (h1 : x_2 = a1 ^^^ a2) (h2 : ¬ ((0 : Int32) ≤ x_2)) (h3 : x_4 = x_1 * a2) (h4 : ¬ (x_4 = a1)) (h5 : x_10 = x_1 - (1 : Int32)) : F_floorDiv o S a1 a2 = x_10 := by
  subst h0
  subst h1
  subst h3
  subst h5
  exact (Eq.trans (if_neg h2) (Eq.trans (if_neg h4) rfl))
set_option maxHeartbeats 8000000 in
set_option maxRecDepth 100000 in
theorem cF_floorDiv (l : Launch) (g : Nat → ClassId) (D : va_G) (o : Nat) (S : dg_S) (a1 : Int32) (a2 : Int32) (hy : (a2).toInt ≠ 0) (I : CX o S) (sz : Nat) : Met l yJ9_floorDiv_7cf53 (bw yJ9_floorDiv_7cf53 cJ9_floorDiv_7cf53 3 (some .int)) ({ frames := 1, cells := 0, slots := 0, locals := 32 } : Room) (dk_Pc g D (dg_w g shX o rfX S) sz [.int a1, .int a2]) (va_Qi (fun (r : Int32) S' => S' = S ∧ (r = F_floorDiv o S a1 a2) ∧ True) (dg_B g D shX o rfX) (dg_A o shX.length sz)) 0 0 (dg_A o shX.length sz) := by
  refine dg_metF (cc := cJ9_floorDiv_7cf53) (maxL := 3) (ret := (some .int)) (by decide +kernel) rfl (Nat.le_of_ble_eq_true rfl) ?_
  intro p e s m args below meth c A hAe harg hx hb hr hml hts hown hlocks hin hP K hS hA1 hA ST hsz ls hl
  rw [← hAe]
  have F : CallFix p m c cJ9_floorDiv_7cf53 3 s args (bw yJ9_floorDiv_7cf53 cJ9_floorDiv_7cf53 3 (some .int)) RJ9 := ⟨hx, hb, hml, hown, hts⟩
  have hl : lv_has ls 3 [(0, .int a1), (1, .int a2)] := hl
  have M_0 : dg_sm shX [] [] S S := dg_sm.rf
  refine lv_iload_n hx hb dJ9_floorDiv_7cf53_0 rfl (lv_at hl 0 rfl) ?_
  refine lv_iload_n hx hb dJ9_floorDiv_7cf53_1 rfl (lv_at hl 1 rfl) ?_
  refine lv_idiv hx hb dJ9_floorDiv_7cf53_2 (fun z => absurd (dk_eqc (k := 0) (by decide +kernel) z) (by omega)) ?_
  refine lv_topi (fun x_1 ex_1 => ?_)
  refine lv_istore_n (lv' := [(2, .int x_1), (0, .int a1), (1, .int a2)]) hx hb dJ9_floorDiv_7cf53_3 rfl hl (by decide) rfl (fun ls hl => ?_)
  refine lv_iload_n hx hb dJ9_floorDiv_7cf53_4 rfl (lv_at hl 1 rfl) ?_
  refine lv_iload_n hx hb dJ9_floorDiv_7cf53_5 rfl (lv_at hl 2 rfl) ?_
  refine lv_ixor hx hb dJ9_floorDiv_7cf53_6 ?_
  refine lv_topi (fun x_2 ex_2 => ?_)
  refine lv_if_ge (tgt := 21) hx hb dJ9_floorDiv_7cf53_7 (by decide) (fun c_3 => ?_) (fun c_3 => ?_)
  · have jc_3 := dk_gec (k := 0) (by decide +kernel) c_3
    refine lv_iload_n hx hb dJ9_floorDiv_7cf53_21 rfl (lv_at hl 0 rfl) ?_
    refine W.widen (k := 0) (n := 0) (Nat.le_of_ble_eq_true rfl) (Nat.le_of_ble_eq_true rfl) ?_
    exact dg_iret hx hb hr hlocks rfl hP hS ⟨rfl, (Eq.symm (F_floorDiv_p0 ex_1 ex_2 c_3)), trivial⟩ dJ9_floorDiv_7cf53_22
  · have jc_3 := dk_ngec (k := 0) (by decide +kernel) c_3
    refine lv_iload_n hx hb dJ9_floorDiv_7cf53_10 rfl (lv_at hl 0 rfl) ?_
    refine lv_iload_n hx hb dJ9_floorDiv_7cf53_11 rfl (lv_at hl 2 rfl) ?_
    refine lv_imul hx hb dJ9_floorDiv_7cf53_12 ?_
    refine lv_topi (fun x_4 ex_4 => ?_)
    refine lv_iload_n hx hb dJ9_floorDiv_7cf53_13 rfl (lv_at hl 1 rfl) ?_
    refine lv_icmp_eq (tgt := 21) hx hb dJ9_floorDiv_7cf53_14 (by decide) (fun c_5 => ?_) (fun c_5 => ?_)
    · have hf_5 := dk_full x_4
      have hf_6 := dk_full a1
      have jc_5 := dk_eqc (k := (a1).toInt) rfl c_5
      refine lv_iload_n hx hb dJ9_floorDiv_7cf53_21 rfl (lv_at hl 0 rfl) ?_
      refine W.widen (k := 0) (n := 0) (Nat.le_of_ble_eq_true rfl) (Nat.le_of_ble_eq_true rfl) ?_
      exact dg_iret hx hb hr hlocks rfl hP hS ⟨rfl, (Eq.symm (F_floorDiv_p1 ex_1 ex_2 c_3 ex_4 c_5)), trivial⟩ dJ9_floorDiv_7cf53_22
    · have hf_7 := dk_full x_4
      have hf_8 := dk_full a1
      have jc_5 := dk_neqc (k := (a1).toInt) rfl c_5
      refine lv_iload_n hx hb dJ9_floorDiv_7cf53_17 rfl (lv_at hl 0 rfl) ?_
      refine lv_iconst (v := 1) hx hb dJ9_floorDiv_7cf53_18 (by decide +kernel) ?_
      refine lv_isub hx hb dJ9_floorDiv_7cf53_19 ?_
      refine lv_topi (fun x_10 ex_10 => ?_)
      refine W.widen (k := 0) (n := 0) (Nat.le_of_ble_eq_true rfl) (Nat.le_of_ble_eq_true rfl) ?_
      exact dg_iret hx hb hr hlocks rfl hP hS ⟨rfl, (Eq.symm (F_floorDiv_p2 ex_1 ex_2 c_3 ex_4 c_5 ex_10)), trivial⟩ dJ9_floorDiv_7cf53_20
def F_floorMod (o : Nat) (S : dg_S) (a1 : Int32) (a2 : Int32) : Int32 := let x_1 : Int32 := a1 - a1 / a2 * a2; let x_2 : Int32 := a1 ^^^ a2; (if (0 : Int32) ≤ x_2 then x_1 else (if x_1 = (0 : Int32) then x_1 else let x_5 : Int32 := x_1 + a2; x_5))
theorem F_floorMod_p0 {o : Nat} {S : dg_S} {a1 : Int32} {a2 : Int32} {x_1 : Int32} {x_2 : Int32} (h0 : x_1 = a1 - a1 / a2 * a2) (h1 : x_2 = a1 ^^^ a2) (h2 : (0 : Int32) ≤ x_2) : F_floorMod o S a1 a2 = x_1 := by
  subst h0
  subst h1
  exact (Eq.trans (if_pos h2) rfl)
theorem F_floorMod_p1 {o : Nat} {S : dg_S} {a1 : Int32} {a2 : Int32} {x_1 : Int32} {x_2 : Int32} (h0 : x_1 = a1 - a1 / a2 * a2) (h1 : x_2 = a1 ^^^ a2) (h2 : ¬ ((0 : Int32) ≤ x_2)) (h3 : x_1 = (0 : Int32)) : F_floorMod o S a1 a2 = x_1 := by
  subst h0
  subst h1
  exact (Eq.trans (if_neg h2) (Eq.trans (if_pos h3) rfl))
theorem F_floorMod_p2 {o : Nat} {S : dg_S} {a1 : Int32} {a2 : Int32} {x_5 : Int32} {x_1 : Int32} {x_2 : Int32} (h0 : x_1 = a1 - a1 / a2 * a2) (h1 : x_2 = a1 ^^^ a2) (h2 : ¬ ((0 : Int32) ≤ x_2)) (h3 : ¬ (x_1 = (0 : Int32))) (h4 : x_5 = x_1 + a2) : F_floorMod o S a1 a2 = x_5 := by
  subst h0
  subst h1
  subst h4
  exact (Eq.trans (if_neg h2) (Eq.trans (if_neg h3) rfl))
set_option maxHeartbeats 8000000 in
set_option maxRecDepth 100000 in
theorem cF_floorMod (l : Launch) (g : Nat → ClassId) (D : va_G) (o : Nat) (S : dg_S) (a1 : Int32) (a2 : Int32) (hy : (a2).toInt ≠ 0) (I : CX o S) (sz : Nat) : Met l yJ9_floorMod_7cf53 (bw yJ9_floorMod_7cf53 cJ9_floorMod_7cf53 3 (some .int)) ({ frames := 1, cells := 0, slots := 0, locals := 32 } : Room) (dk_Pc g D (dg_w g shX o rfX S) sz [.int a1, .int a2]) (va_Qi (fun (r : Int32) S' => S' = S ∧ (r = F_floorMod o S a1 a2) ∧ True) (dg_B g D shX o rfX) (dg_A o shX.length sz)) 0 0 (dg_A o shX.length sz) := by
  refine dg_metF (cc := cJ9_floorMod_7cf53) (maxL := 3) (ret := (some .int)) (by decide +kernel) rfl (Nat.le_of_ble_eq_true rfl) ?_
  intro p e s m args below meth c A hAe harg hx hb hr hml hts hown hlocks hin hP K hS hA1 hA ST hsz ls hl
  rw [← hAe]
  have F : CallFix p m c cJ9_floorMod_7cf53 3 s args (bw yJ9_floorMod_7cf53 cJ9_floorMod_7cf53 3 (some .int)) RJ9 := ⟨hx, hb, hml, hown, hts⟩
  have hl : lv_has ls 3 [(0, .int a1), (1, .int a2)] := hl
  have M_0 : dg_sm shX [] [] S S := dg_sm.rf
  refine lv_iload_n hx hb dJ9_floorMod_7cf53_0 rfl (lv_at hl 0 rfl) ?_
  refine lv_iload_n hx hb dJ9_floorMod_7cf53_1 rfl (lv_at hl 1 rfl) ?_
  refine lv_irem hx hb dJ9_floorMod_7cf53_2 (fun z => absurd (dk_eqc (k := 0) (by decide +kernel) z) (by omega)) ?_
  refine lv_topi (fun x_1 ex_1 => ?_)
  refine lv_istore_n (lv' := [(2, .int x_1), (0, .int a1), (1, .int a2)]) hx hb dJ9_floorMod_7cf53_3 rfl hl (by decide) rfl (fun ls hl => ?_)
  refine lv_iload_n hx hb dJ9_floorMod_7cf53_4 rfl (lv_at hl 1 rfl) ?_
  refine lv_iload_n hx hb dJ9_floorMod_7cf53_5 rfl (lv_at hl 2 rfl) ?_
  refine lv_ixor hx hb dJ9_floorMod_7cf53_6 ?_
  refine lv_topi (fun x_2 ex_2 => ?_)
  refine lv_if_ge (tgt := 18) hx hb dJ9_floorMod_7cf53_7 (by decide) (fun c_3 => ?_) (fun c_3 => ?_)
  · have jc_3 := dk_gec (k := 0) (by decide +kernel) c_3
    refine lv_iload_n hx hb dJ9_floorMod_7cf53_18 rfl (lv_at hl 0 rfl) ?_
    refine W.widen (k := 0) (n := 0) (Nat.le_of_ble_eq_true rfl) (Nat.le_of_ble_eq_true rfl) ?_
    exact dg_iret hx hb hr hlocks rfl hP hS ⟨rfl, (Eq.symm (F_floorMod_p0 ex_1 ex_2 c_3)), trivial⟩ dJ9_floorMod_7cf53_19
  · have jc_3 := dk_ngec (k := 0) (by decide +kernel) c_3
    refine lv_iload_n hx hb dJ9_floorMod_7cf53_10 rfl (lv_at hl 0 rfl) ?_
    refine lv_if_eq (tgt := 18) hx hb dJ9_floorMod_7cf53_11 (by decide) (fun c_4 => ?_) (fun c_4 => ?_)
    · have jc_4 := dk_eqc (k := 0) (by decide +kernel) c_4
      refine lv_iload_n hx hb dJ9_floorMod_7cf53_18 rfl (lv_at hl 0 rfl) ?_
      refine W.widen (k := 0) (n := 0) (Nat.le_of_ble_eq_true rfl) (Nat.le_of_ble_eq_true rfl) ?_
      exact dg_iret hx hb hr hlocks rfl hP hS ⟨rfl, (Eq.symm (F_floorMod_p1 ex_1 ex_2 c_3 c_4)), trivial⟩ dJ9_floorMod_7cf53_19
    · have jc_4 := dk_neqc (k := 0) (by decide +kernel) c_4
      refine lv_iload_n hx hb dJ9_floorMod_7cf53_14 rfl (lv_at hl 0 rfl) ?_
      refine lv_iload_n hx hb dJ9_floorMod_7cf53_15 rfl (lv_at hl 2 rfl) ?_
      refine lv_iadd hx hb dJ9_floorMod_7cf53_16 ?_
      refine lv_topi (fun x_5 ex_5 => ?_)
      refine W.widen (k := 0) (n := 0) (Nat.le_of_ble_eq_true rfl) (Nat.le_of_ble_eq_true rfl) ?_
      exact dg_iret hx hb hr hlocks rfl hP hS ⟨rfl, (Eq.symm (F_floorMod_p2 ex_1 ex_2 c_3 c_4 ex_5)), trivial⟩ dJ9_floorMod_7cf53_17
