/-! 05.zfill.lean.txt -/
def wsJ7_fill_53178 : List Cond := .code yJ7_fill_53178 cJ7_fill_53178 4 none :: ([])
theorem dJ7_fill_53178_0 : decode cJ7_fill_53178 0 = .ok (.iconst 0, 1) := by decide +kernel
theorem dJ7_fill_53178_1 : decode cJ7_fill_53178 1 = .ok (.istore_n 2, 1) := by decide +kernel
theorem dJ7_fill_53178_2 : decode cJ7_fill_53178 2 = .ok (.aload_n 0, 1) := by decide +kernel
theorem dJ7_fill_53178_3 : decode cJ7_fill_53178 3 = .ok (.arraylength, 1) := by decide +kernel
theorem dJ7_fill_53178_4 : decode cJ7_fill_53178 4 = .ok (.istore_n 3, 1) := by decide +kernel
theorem dJ7_fill_53178_5 : decode cJ7_fill_53178 5 = .ok (.iload_n 2, 1) := by decide +kernel
theorem dJ7_fill_53178_6 : decode cJ7_fill_53178 6 = .ok (.iload_n 3, 1) := by decide +kernel
theorem dJ7_fill_53178_7 : decode cJ7_fill_53178 7 = .ok (.if_icmp .ge 13, 3) := by decide +kernel
theorem dJ7_fill_53178_10 : decode cJ7_fill_53178 10 = .ok (.aload_n 0, 1) := by decide +kernel
theorem dJ7_fill_53178_11 : decode cJ7_fill_53178 11 = .ok (.iload_n 2, 1) := by decide +kernel
theorem dJ7_fill_53178_12 : decode cJ7_fill_53178 12 = .ok (.iload_n 1, 1) := by decide +kernel
theorem dJ7_fill_53178_13 : decode cJ7_fill_53178 13 = .ok (.iastore, 1) := by decide +kernel
theorem dJ7_fill_53178_14 : decode cJ7_fill_53178 14 = .ok (.iinc 2 1, 3) := by decide +kernel
theorem dJ7_fill_53178_17 : decode cJ7_fill_53178 17 = .ok (.goto (-12), 3) := by decide +kernel
theorem dJ7_fill_53178_20 : decode cJ7_fill_53178 20 = .ok (.return_, 1) := by decide +kernel
set_option maxHeartbeats 8000000 in
set_option maxRecDepth 100000 in
/-- Arrays.fill over 72 places -/
theorem c_fill_72 (l : Launch) (g : Nat → ClassId) (D : va_G) (h1 : Nat) (f : Nat → Int32) (v : Int32) (sz : Nat) : Met l yJ7_fill_53178 wsJ7_fill_53178 ({ frames := 1, cells := 0, slots := 0, locals := 32 } : Room) (dk_Pc g D [(h1, .inl (g 0, 72, .inl f))] sz [.ref h1, .int v]) (va_Qv (fun (_ : Unit) => True) (dk_B D (va_A [(h1, .inl (g 0, 72, .inl f))] sz) (fun (_ : Unit) => [(h1, .inl (g 0, 72, .inl (fun _ => v)))])) (va_A [(h1, .inl (g 0, 72, .inl f))] sz)) 0 0 (va_A [(h1, .inl (g 0, 72, .inl f))] sz) := by
  refine dk_met (cc := cJ7_fill_53178) (maxL := 4) (ret := none) (by decide) rfl (Nat.le_of_ble_eq_true rfl) ?_
  intro p e s m args below meth c harg hx hb hr hml hts hown hlocks hin hP K hD hS hA ST hsz ls hl
  subst hsz
  generalize va_A [(h1, .inl (g 0, 72, .inl f))] s.heap.size = A at hD hS hA ST ⊢
  have F : CallFix p m c cJ7_fill_53178 4 s args wsJ7_fill_53178 RJ7 := ⟨hx, hb, hml, hown, hts⟩
  have hl : lv_has ls 4 [(0, .ref h1), (1, .int v)] := hl
  refine lv_iconst (v := 0) hx hb dJ7_fill_53178_0 (by decide +kernel) ?_
  refine lv_istore_n (lv' := [(2, .int 0), (0, .ref h1), (1, .int v)]) hx hb dJ7_fill_53178_1 rfl hl (by decide) rfl (fun ls hl => ?_)
  refine lv_aload_n hx hb dJ7_fill_53178_2 rfl (lv_at hl 1 rfl) ?_
  refine va_alen hx hb K.1 hP 0 0 rfl rfl (v := 72) rfl dJ7_fill_53178_3 ?_
  refine lv_istore_n (lv' := [(3, .int 72), (2, .int 0), (0, .ref h1), (1, .int v)]) hx hb dJ7_fill_53178_4 rfl hl (by decide) rfl (fun ls hl => ?_)
  have hP : va_P D vwCl [(h1, .inl (g 0, 72, .inl (dk_fl f v 0)))] s.heap := by rw [dk_fl_0]; exact hP
  have hD : va_D A [(h1, .inl (g 0, 72, .inl (dk_fl f v 0)))] := by rw [dk_fl_0]; exact hD
  have loop_2 : ∀ (n i_1 : Nat), i_1 + n = 72 → ∀ (H : Heap) (locs : List Loc), va_P D vwCl [(h1, .inl (g 0, 72, .inl (dk_fl f v i_1)))] H → va_D A [(h1, .inl (g 0, 72, .inl (dk_fl f v i_1)))] → va_S A s.heap H locs → ∀ ls : Array Slot, lv_has ls 4 [(3, .int 72), (2, .int (nI i_1)), (0, .ref h1), (1, .int v)] → W p l e ({ frames := 1, cells := 0, slots := 0, locals := 32 } : Room) s m args below meth c H locs (0) (0) (MQ below (va_Qv (fun (_ : Unit) => True) (dk_B D A (fun (_ : Unit) => [(h1, .inl (g 0, 72, .inl (fun _ => v)))])) A) args s 0 0 A) (F0 m 5 ls []) := by
    intro n
    induction n with
    | zero =>
      intro i_1 hi  H locs hP hD hS ls hl
      obtain rfl : i_1 = 72 := by omega
      have hl : lv_has ls 4 [(3, .int 72), (2, .int 72), (0, .ref h1), (1, .int v)] := hl
      have hP : va_P D vwCl [(h1, .inl (g 0, 72, .inl (dk_fl f v 72)))] H := hP
      have hD : va_D A [(h1, .inl (g 0, 72, .inl (dk_fl f v 72)))] := hD
      refine lv_iload_n hx hb dJ7_fill_53178_5 rfl (lv_at hl 1 rfl) ?_
      refine lv_iload_n hx hb dJ7_fill_53178_6 rfl (lv_at hl 0 rfl) ?_
      refine lv_icmp_ge (tgt := 20) hx hb dJ7_fill_53178_7 (by decide) (fun _ => ?_) (fun c => absurd (by decide +kernel) c)
      have hP := dk_recell hP 0 rfl (fun _ => v) (fun j hj => by unfold dk_fl; rw [if_pos hj])
      have hD := hD.set (p := 0) (e := .inl (g 0, 72, .inl (fun _ => v))) rfl
      have hP : va_P D vwCl [(h1, .inl (g 0, 72, .inl (fun _ => v)))] H := hP
      have hD : va_D A [(h1, .inl (g 0, 72, .inl (fun _ => v)))] := hD
      refine W.widen (k := 0) (n := 0) (Nat.le_of_ble_eq_true rfl) (Nat.le_of_ble_eq_true rfl) ?_
      exact dk_vret hx hb hr hlocks hP hD hS () [0] rfl (by decide) trivial dJ7_fill_53178_20
    | succ n ih =>
      intro i_1 hi  H locs hP hD hS ls hl
      refine lv_iload_n hx hb dJ7_fill_53178_5 rfl (lv_at hl 1 rfl) ?_
      refine lv_iload_n hx hb dJ7_fill_53178_6 rfl (lv_at hl 0 rfl) ?_
      refine lv_icmp_ge (tgt := 20) hx hb dJ7_fill_53178_7 (by decide) (fun c => absurd c (nI_ge (a := i_1) (b := 72) (by omega) (by omega))) (fun _ => ?_)
      refine lv_aload_n hx hb dJ7_fill_53178_10 rfl (lv_at hl 2 rfl) ?_
      refine lv_iload_n hx hb dJ7_fill_53178_11 rfl (lv_at hl 1 rfl) ?_
      refine lv_iload_n hx hb dJ7_fill_53178_12 rfl (lv_at hl 3 rfl) ?_
      refine dk_iast hx hb K hP hD hS 0 rfl (dk_fl f v (i_1 + 1)) (fun j _ => by rw [nI_clamp (by omega)]; exact dk_fl_s f v _ j) (vp_in_nI (by omega) (by omega)) dJ7_fill_53178_13 (fun H locs hP hD hS => ?_)
      have hP : va_P D vwCl [(h1, .inl (g 0, 72, .inl (dk_fl f v (i_1 + 1))))] H := hP
      have hD : va_D A [(h1, .inl (g 0, 72, .inl (dk_fl f v (i_1 + 1))))] := hD
      refine lv_iinc (v := (nI (i_1 + 1))) (lv' := [(2, .int (nI (i_1 + 1))), (3, .int 72), (0, .ref h1), (1, .int v)]) hx hb dJ7_fill_53178_14 hl (k := 1) rfl (dk_addc (b := 1) rfl) (by decide) rfl (fun ls hl => ?_)
      refine lv_goto (tgt := 5) hx hb dJ7_fill_53178_17 (by decide) ?_
      have hP := hP.sub (ws' := [(h1, .inl (g 0, 72, .inl (dk_fl f v (i_1 + 1))))]) [0] rfl
      have hD := hD.sub (ws' := [(h1, .inl (g 0, 72, .inl (dk_fl f v (i_1 + 1))))]) [0] (by decide) rfl
      exact ih (i_1 + 1) (by omega)  _ _ hP hD hS _ (lv_sub hl [1, 0, 2, 3] rfl)
  exact loop_2 72 0 rfl  _ _ hP hD hS _ (lv_sub hl [0, 1, 2, 3] rfl)
set_option maxHeartbeats 8000000 in
set_option maxRecDepth 100000 in
/-- Arrays.fill over 11 places -/
theorem c_fill_11 (l : Launch) (g : Nat → ClassId) (D : va_G) (h1 : Nat) (f : Nat → Int32) (v : Int32) (sz : Nat) : Met l yJ7_fill_53178 wsJ7_fill_53178 ({ frames := 1, cells := 0, slots := 0, locals := 32 } : Room) (dk_Pc g D [(h1, .inl (g 0, 11, .inl f))] sz [.ref h1, .int v]) (va_Qv (fun (_ : Unit) => True) (dk_B D (va_A [(h1, .inl (g 0, 11, .inl f))] sz) (fun (_ : Unit) => [(h1, .inl (g 0, 11, .inl (fun _ => v)))])) (va_A [(h1, .inl (g 0, 11, .inl f))] sz)) 0 0 (va_A [(h1, .inl (g 0, 11, .inl f))] sz) := by
  refine dk_met (cc := cJ7_fill_53178) (maxL := 4) (ret := none) (by decide) rfl (Nat.le_of_ble_eq_true rfl) ?_
  intro p e s m args below meth c harg hx hb hr hml hts hown hlocks hin hP K hD hS hA ST hsz ls hl
  subst hsz
  generalize va_A [(h1, .inl (g 0, 11, .inl f))] s.heap.size = A at hD hS hA ST ⊢
  have F : CallFix p m c cJ7_fill_53178 4 s args wsJ7_fill_53178 RJ7 := ⟨hx, hb, hml, hown, hts⟩
  have hl : lv_has ls 4 [(0, .ref h1), (1, .int v)] := hl
  refine lv_iconst (v := 0) hx hb dJ7_fill_53178_0 (by decide +kernel) ?_
  refine lv_istore_n (lv' := [(2, .int 0), (0, .ref h1), (1, .int v)]) hx hb dJ7_fill_53178_1 rfl hl (by decide) rfl (fun ls hl => ?_)
  refine lv_aload_n hx hb dJ7_fill_53178_2 rfl (lv_at hl 1 rfl) ?_
  refine va_alen hx hb K.1 hP 0 0 rfl rfl (v := 11) rfl dJ7_fill_53178_3 ?_
  refine lv_istore_n (lv' := [(3, .int 11), (2, .int 0), (0, .ref h1), (1, .int v)]) hx hb dJ7_fill_53178_4 rfl hl (by decide) rfl (fun ls hl => ?_)
  have hP : va_P D vwCl [(h1, .inl (g 0, 11, .inl (dk_fl f v 0)))] s.heap := by rw [dk_fl_0]; exact hP
  have hD : va_D A [(h1, .inl (g 0, 11, .inl (dk_fl f v 0)))] := by rw [dk_fl_0]; exact hD
  have loop_2 : ∀ (n i_1 : Nat), i_1 + n = 11 → ∀ (H : Heap) (locs : List Loc), va_P D vwCl [(h1, .inl (g 0, 11, .inl (dk_fl f v i_1)))] H → va_D A [(h1, .inl (g 0, 11, .inl (dk_fl f v i_1)))] → va_S A s.heap H locs → ∀ ls : Array Slot, lv_has ls 4 [(3, .int 11), (2, .int (nI i_1)), (0, .ref h1), (1, .int v)] → W p l e ({ frames := 1, cells := 0, slots := 0, locals := 32 } : Room) s m args below meth c H locs (0) (0) (MQ below (va_Qv (fun (_ : Unit) => True) (dk_B D A (fun (_ : Unit) => [(h1, .inl (g 0, 11, .inl (fun _ => v)))])) A) args s 0 0 A) (F0 m 5 ls []) := by
    intro n
    induction n with
    | zero =>
      intro i_1 hi  H locs hP hD hS ls hl
      obtain rfl : i_1 = 11 := by omega
      have hl : lv_has ls 4 [(3, .int 11), (2, .int 11), (0, .ref h1), (1, .int v)] := hl
      have hP : va_P D vwCl [(h1, .inl (g 0, 11, .inl (dk_fl f v 11)))] H := hP
      have hD : va_D A [(h1, .inl (g 0, 11, .inl (dk_fl f v 11)))] := hD
      refine lv_iload_n hx hb dJ7_fill_53178_5 rfl (lv_at hl 1 rfl) ?_
      refine lv_iload_n hx hb dJ7_fill_53178_6 rfl (lv_at hl 0 rfl) ?_
      refine lv_icmp_ge (tgt := 20) hx hb dJ7_fill_53178_7 (by decide) (fun _ => ?_) (fun c => absurd (by decide +kernel) c)
      have hP := dk_recell hP 0 rfl (fun _ => v) (fun j hj => by unfold dk_fl; rw [if_pos hj])
      have hD := hD.set (p := 0) (e := .inl (g 0, 11, .inl (fun _ => v))) rfl
      have hP : va_P D vwCl [(h1, .inl (g 0, 11, .inl (fun _ => v)))] H := hP
      have hD : va_D A [(h1, .inl (g 0, 11, .inl (fun _ => v)))] := hD
      refine W.widen (k := 0) (n := 0) (Nat.le_of_ble_eq_true rfl) (Nat.le_of_ble_eq_true rfl) ?_
      exact dk_vret hx hb hr hlocks hP hD hS () [0] rfl (by decide) trivial dJ7_fill_53178_20
    | succ n ih =>
      intro i_1 hi  H locs hP hD hS ls hl
      refine lv_iload_n hx hb dJ7_fill_53178_5 rfl (lv_at hl 1 rfl) ?_
      refine lv_iload_n hx hb dJ7_fill_53178_6 rfl (lv_at hl 0 rfl) ?_
      refine lv_icmp_ge (tgt := 20) hx hb dJ7_fill_53178_7 (by decide) (fun c => absurd c (nI_ge (a := i_1) (b := 11) (by omega) (by omega))) (fun _ => ?_)
      refine lv_aload_n hx hb dJ7_fill_53178_10 rfl (lv_at hl 2 rfl) ?_
      refine lv_iload_n hx hb dJ7_fill_53178_11 rfl (lv_at hl 1 rfl) ?_
      refine lv_iload_n hx hb dJ7_fill_53178_12 rfl (lv_at hl 3 rfl) ?_
      refine dk_iast hx hb K hP hD hS 0 rfl (dk_fl f v (i_1 + 1)) (fun j _ => by rw [nI_clamp (by omega)]; exact dk_fl_s f v _ j) (vp_in_nI (by omega) (by omega)) dJ7_fill_53178_13 (fun H locs hP hD hS => ?_)
      have hP : va_P D vwCl [(h1, .inl (g 0, 11, .inl (dk_fl f v (i_1 + 1))))] H := hP
      have hD : va_D A [(h1, .inl (g 0, 11, .inl (dk_fl f v (i_1 + 1))))] := hD
      refine lv_iinc (v := (nI (i_1 + 1))) (lv' := [(2, .int (nI (i_1 + 1))), (3, .int 11), (0, .ref h1), (1, .int v)]) hx hb dJ7_fill_53178_14 hl (k := 1) rfl (dk_addc (b := 1) rfl) (by decide) rfl (fun ls hl => ?_)
      refine lv_goto (tgt := 5) hx hb dJ7_fill_53178_17 (by decide) ?_
      have hP := hP.sub (ws' := [(h1, .inl (g 0, 11, .inl (dk_fl f v (i_1 + 1))))]) [0] rfl
      have hD := hD.sub (ws' := [(h1, .inl (g 0, 11, .inl (dk_fl f v (i_1 + 1))))]) [0] (by decide) rfl
      exact ih (i_1 + 1) (by omega)  _ _ hP hD hS _ (lv_sub hl [1, 0, 2, 3] rfl)
  exact loop_2 11 0 rfl  _ _ hP hD hS _ (lv_sub hl [0, 1, 2, 3] rfl)
set_option maxHeartbeats 8000000 in
set_option maxRecDepth 100000 in
/-- Arrays.fill over 10 places -/
theorem c_fill_10 (l : Launch) (g : Nat → ClassId) (D : va_G) (h1 : Nat) (f : Nat → Int32) (v : Int32) (sz : Nat) : Met l yJ7_fill_53178 wsJ7_fill_53178 ({ frames := 1, cells := 0, slots := 0, locals := 32 } : Room) (dk_Pc g D [(h1, .inl (g 0, 10, .inl f))] sz [.ref h1, .int v]) (va_Qv (fun (_ : Unit) => True) (dk_B D (va_A [(h1, .inl (g 0, 10, .inl f))] sz) (fun (_ : Unit) => [(h1, .inl (g 0, 10, .inl (fun _ => v)))])) (va_A [(h1, .inl (g 0, 10, .inl f))] sz)) 0 0 (va_A [(h1, .inl (g 0, 10, .inl f))] sz) := by
  refine dk_met (cc := cJ7_fill_53178) (maxL := 4) (ret := none) (by decide) rfl (Nat.le_of_ble_eq_true rfl) ?_
  intro p e s m args below meth c harg hx hb hr hml hts hown hlocks hin hP K hD hS hA ST hsz ls hl
  subst hsz
  generalize va_A [(h1, .inl (g 0, 10, .inl f))] s.heap.size = A at hD hS hA ST ⊢
  have F : CallFix p m c cJ7_fill_53178 4 s args wsJ7_fill_53178 RJ7 := ⟨hx, hb, hml, hown, hts⟩
  have hl : lv_has ls 4 [(0, .ref h1), (1, .int v)] := hl
  refine lv_iconst (v := 0) hx hb dJ7_fill_53178_0 (by decide +kernel) ?_
  refine lv_istore_n (lv' := [(2, .int 0), (0, .ref h1), (1, .int v)]) hx hb dJ7_fill_53178_1 rfl hl (by decide) rfl (fun ls hl => ?_)
  refine lv_aload_n hx hb dJ7_fill_53178_2 rfl (lv_at hl 1 rfl) ?_
  refine va_alen hx hb K.1 hP 0 0 rfl rfl (v := 10) rfl dJ7_fill_53178_3 ?_
  refine lv_istore_n (lv' := [(3, .int 10), (2, .int 0), (0, .ref h1), (1, .int v)]) hx hb dJ7_fill_53178_4 rfl hl (by decide) rfl (fun ls hl => ?_)
  have hP : va_P D vwCl [(h1, .inl (g 0, 10, .inl (dk_fl f v 0)))] s.heap := by rw [dk_fl_0]; exact hP
  have hD : va_D A [(h1, .inl (g 0, 10, .inl (dk_fl f v 0)))] := by rw [dk_fl_0]; exact hD
  have loop_2 : ∀ (n i_1 : Nat), i_1 + n = 10 → ∀ (H : Heap) (locs : List Loc), va_P D vwCl [(h1, .inl (g 0, 10, .inl (dk_fl f v i_1)))] H → va_D A [(h1, .inl (g 0, 10, .inl (dk_fl f v i_1)))] → va_S A s.heap H locs → ∀ ls : Array Slot, lv_has ls 4 [(3, .int 10), (2, .int (nI i_1)), (0, .ref h1), (1, .int v)] → W p l e ({ frames := 1, cells := 0, slots := 0, locals := 32 } : Room) s m args below meth c H locs (0) (0) (MQ below (va_Qv (fun (_ : Unit) => True) (dk_B D A (fun (_ : Unit) => [(h1, .inl (g 0, 10, .inl (fun _ => v)))])) A) args s 0 0 A) (F0 m 5 ls []) := by
    intro n
    induction n with
    | zero =>
      intro i_1 hi  H locs hP hD hS ls hl
      obtain rfl : i_1 = 10 := by omega
      have hl : lv_has ls 4 [(3, .int 10), (2, .int 10), (0, .ref h1), (1, .int v)] := hl
      have hP : va_P D vwCl [(h1, .inl (g 0, 10, .inl (dk_fl f v 10)))] H := hP
      have hD : va_D A [(h1, .inl (g 0, 10, .inl (dk_fl f v 10)))] := hD
      refine lv_iload_n hx hb dJ7_fill_53178_5 rfl (lv_at hl 1 rfl) ?_
      refine lv_iload_n hx hb dJ7_fill_53178_6 rfl (lv_at hl 0 rfl) ?_
      refine lv_icmp_ge (tgt := 20) hx hb dJ7_fill_53178_7 (by decide) (fun _ => ?_) (fun c => absurd (by decide +kernel) c)
      have hP := dk_recell hP 0 rfl (fun _ => v) (fun j hj => by unfold dk_fl; rw [if_pos hj])
      have hD := hD.set (p := 0) (e := .inl (g 0, 10, .inl (fun _ => v))) rfl
      have hP : va_P D vwCl [(h1, .inl (g 0, 10, .inl (fun _ => v)))] H := hP
      have hD : va_D A [(h1, .inl (g 0, 10, .inl (fun _ => v)))] := hD
      refine W.widen (k := 0) (n := 0) (Nat.le_of_ble_eq_true rfl) (Nat.le_of_ble_eq_true rfl) ?_
      exact dk_vret hx hb hr hlocks hP hD hS () [0] rfl (by decide) trivial dJ7_fill_53178_20
    | succ n ih =>
      intro i_1 hi  H locs hP hD hS ls hl
      refine lv_iload_n hx hb dJ7_fill_53178_5 rfl (lv_at hl 1 rfl) ?_
      refine lv_iload_n hx hb dJ7_fill_53178_6 rfl (lv_at hl 0 rfl) ?_
      refine lv_icmp_ge (tgt := 20) hx hb dJ7_fill_53178_7 (by decide) (fun c => absurd c (nI_ge (a := i_1) (b := 10) (by omega) (by omega))) (fun _ => ?_)
      refine lv_aload_n hx hb dJ7_fill_53178_10 rfl (lv_at hl 2 rfl) ?_
      refine lv_iload_n hx hb dJ7_fill_53178_11 rfl (lv_at hl 1 rfl) ?_
      refine lv_iload_n hx hb dJ7_fill_53178_12 rfl (lv_at hl 3 rfl) ?_
      refine dk_iast hx hb K hP hD hS 0 rfl (dk_fl f v (i_1 + 1)) (fun j _ => by rw [nI_clamp (by omega)]; exact dk_fl_s f v _ j) (vp_in_nI (by omega) (by omega)) dJ7_fill_53178_13 (fun H locs hP hD hS => ?_)
      have hP : va_P D vwCl [(h1, .inl (g 0, 10, .inl (dk_fl f v (i_1 + 1))))] H := hP
      have hD : va_D A [(h1, .inl (g 0, 10, .inl (dk_fl f v (i_1 + 1))))] := hD
      refine lv_iinc (v := (nI (i_1 + 1))) (lv' := [(2, .int (nI (i_1 + 1))), (3, .int 10), (0, .ref h1), (1, .int v)]) hx hb dJ7_fill_53178_14 hl (k := 1) rfl (dk_addc (b := 1) rfl) (by decide) rfl (fun ls hl => ?_)
      refine lv_goto (tgt := 5) hx hb dJ7_fill_53178_17 (by decide) ?_
      have hP := hP.sub (ws' := [(h1, .inl (g 0, 10, .inl (dk_fl f v (i_1 + 1))))]) [0] rfl
      have hD := hD.sub (ws' := [(h1, .inl (g 0, 10, .inl (dk_fl f v (i_1 + 1))))]) [0] (by decide) rfl
      exact ih (i_1 + 1) (by omega)  _ _ hP hD hS _ (lv_sub hl [1, 0, 2, 3] rfl)
  exact loop_2 10 0 rfl  _ _ hP hD hS _ (lv_sub hl [0, 1, 2, 3] rfl)
set_option maxHeartbeats 8000000 in
set_option maxRecDepth 100000 in
/-- Arrays.fill over 6 places -/
theorem c_fill_6 (l : Launch) (g : Nat → ClassId) (D : va_G) (h1 : Nat) (f : Nat → Int32) (v : Int32) (sz : Nat) : Met l yJ7_fill_53178 wsJ7_fill_53178 ({ frames := 1, cells := 0, slots := 0, locals := 32 } : Room) (dk_Pc g D [(h1, .inl (g 0, 6, .inl f))] sz [.ref h1, .int v]) (va_Qv (fun (_ : Unit) => True) (dk_B D (va_A [(h1, .inl (g 0, 6, .inl f))] sz) (fun (_ : Unit) => [(h1, .inl (g 0, 6, .inl (fun _ => v)))])) (va_A [(h1, .inl (g 0, 6, .inl f))] sz)) 0 0 (va_A [(h1, .inl (g 0, 6, .inl f))] sz) := by
  refine dk_met (cc := cJ7_fill_53178) (maxL := 4) (ret := none) (by decide) rfl (Nat.le_of_ble_eq_true rfl) ?_
  intro p e s m args below meth c harg hx hb hr hml hts hown hlocks hin hP K hD hS hA ST hsz ls hl
  subst hsz
  generalize va_A [(h1, .inl (g 0, 6, .inl f))] s.heap.size = A at hD hS hA ST ⊢
  have F : CallFix p m c cJ7_fill_53178 4 s args wsJ7_fill_53178 RJ7 := ⟨hx, hb, hml, hown, hts⟩
  have hl : lv_has ls 4 [(0, .ref h1), (1, .int v)] := hl
  refine lv_iconst (v := 0) hx hb dJ7_fill_53178_0 (by decide +kernel) ?_
  refine lv_istore_n (lv' := [(2, .int 0), (0, .ref h1), (1, .int v)]) hx hb dJ7_fill_53178_1 rfl hl (by decide) rfl (fun ls hl => ?_)
  refine lv_aload_n hx hb dJ7_fill_53178_2 rfl (lv_at hl 1 rfl) ?_
  refine va_alen hx hb K.1 hP 0 0 rfl rfl (v := 6) rfl dJ7_fill_53178_3 ?_
  refine lv_istore_n (lv' := [(3, .int 6), (2, .int 0), (0, .ref h1), (1, .int v)]) hx hb dJ7_fill_53178_4 rfl hl (by decide) rfl (fun ls hl => ?_)
  have hP : va_P D vwCl [(h1, .inl (g 0, 6, .inl (dk_fl f v 0)))] s.heap := by rw [dk_fl_0]; exact hP
  have hD : va_D A [(h1, .inl (g 0, 6, .inl (dk_fl f v 0)))] := by rw [dk_fl_0]; exact hD
  have loop_2 : ∀ (n i_1 : Nat), i_1 + n = 6 → ∀ (H : Heap) (locs : List Loc), va_P D vwCl [(h1, .inl (g 0, 6, .inl (dk_fl f v i_1)))] H → va_D A [(h1, .inl (g 0, 6, .inl (dk_fl f v i_1)))] → va_S A s.heap H locs → ∀ ls : Array Slot, lv_has ls 4 [(3, .int 6), (2, .int (nI i_1)), (0, .ref h1), (1, .int v)] → W p l e ({ frames := 1, cells := 0, slots := 0, locals := 32 } : Room) s m args below meth c H locs (0) (0) (MQ below (va_Qv (fun (_ : Unit) => True) (dk_B D A (fun (_ : Unit) => [(h1, .inl (g 0, 6, .inl (fun _ => v)))])) A) args s 0 0 A) (F0 m 5 ls []) := by
    intro n
    induction n with
    | zero =>
      intro i_1 hi  H locs hP hD hS ls hl
      obtain rfl : i_1 = 6 := by omega
      have hl : lv_has ls 4 [(3, .int 6), (2, .int 6), (0, .ref h1), (1, .int v)] := hl
      have hP : va_P D vwCl [(h1, .inl (g 0, 6, .inl (dk_fl f v 6)))] H := hP
      have hD : va_D A [(h1, .inl (g 0, 6, .inl (dk_fl f v 6)))] := hD
      refine lv_iload_n hx hb dJ7_fill_53178_5 rfl (lv_at hl 1 rfl) ?_
      refine lv_iload_n hx hb dJ7_fill_53178_6 rfl (lv_at hl 0 rfl) ?_
      refine lv_icmp_ge (tgt := 20) hx hb dJ7_fill_53178_7 (by decide) (fun _ => ?_) (fun c => absurd (by decide +kernel) c)
      have hP := dk_recell hP 0 rfl (fun _ => v) (fun j hj => by unfold dk_fl; rw [if_pos hj])
      have hD := hD.set (p := 0) (e := .inl (g 0, 6, .inl (fun _ => v))) rfl
      have hP : va_P D vwCl [(h1, .inl (g 0, 6, .inl (fun _ => v)))] H := hP
      have hD : va_D A [(h1, .inl (g 0, 6, .inl (fun _ => v)))] := hD
      refine W.widen (k := 0) (n := 0) (Nat.le_of_ble_eq_true rfl) (Nat.le_of_ble_eq_true rfl) ?_
      exact dk_vret hx hb hr hlocks hP hD hS () [0] rfl (by decide) trivial dJ7_fill_53178_20
    | succ n ih =>
      intro i_1 hi  H locs hP hD hS ls hl
      refine lv_iload_n hx hb dJ7_fill_53178_5 rfl (lv_at hl 1 rfl) ?_
      refine lv_iload_n hx hb dJ7_fill_53178_6 rfl (lv_at hl 0 rfl) ?_
      refine lv_icmp_ge (tgt := 20) hx hb dJ7_fill_53178_7 (by decide) (fun c => absurd c (nI_ge (a := i_1) (b := 6) (by omega) (by omega))) (fun _ => ?_)
      refine lv_aload_n hx hb dJ7_fill_53178_10 rfl (lv_at hl 2 rfl) ?_
      refine lv_iload_n hx hb dJ7_fill_53178_11 rfl (lv_at hl 1 rfl) ?_
      refine lv_iload_n hx hb dJ7_fill_53178_12 rfl (lv_at hl 3 rfl) ?_
      refine dk_iast hx hb K hP hD hS 0 rfl (dk_fl f v (i_1 + 1)) (fun j _ => by rw [nI_clamp (by omega)]; exact dk_fl_s f v _ j) (vp_in_nI (by omega) (by omega)) dJ7_fill_53178_13 (fun H locs hP hD hS => ?_)
      have hP : va_P D vwCl [(h1, .inl (g 0, 6, .inl (dk_fl f v (i_1 + 1))))] H := hP
      have hD : va_D A [(h1, .inl (g 0, 6, .inl (dk_fl f v (i_1 + 1))))] := hD
      refine lv_iinc (v := (nI (i_1 + 1))) (lv' := [(2, .int (nI (i_1 + 1))), (3, .int 6), (0, .ref h1), (1, .int v)]) hx hb dJ7_fill_53178_14 hl (k := 1) rfl (dk_addc (b := 1) rfl) (by decide) rfl (fun ls hl => ?_)
      refine lv_goto (tgt := 5) hx hb dJ7_fill_53178_17 (by decide) ?_
      have hP := hP.sub (ws' := [(h1, .inl (g 0, 6, .inl (dk_fl f v (i_1 + 1))))]) [0] rfl
      have hD := hD.sub (ws' := [(h1, .inl (g 0, 6, .inl (dk_fl f v (i_1 + 1))))]) [0] (by decide) rfl
      exact ih (i_1 + 1) (by omega)  _ _ hP hD hS _ (lv_sub hl [1, 0, 2, 3] rfl)
  exact loop_2 6 0 rfl  _ _ hP hD hS _ (lv_sub hl [0, 1, 2, 3] rfl)
set_option maxHeartbeats 8000000 in
set_option maxRecDepth 100000 in
/-- Arrays.fill over 5 places -/
theorem c_fill_5 (l : Launch) (g : Nat → ClassId) (D : va_G) (h1 : Nat) (f : Nat → Int32) (v : Int32) (sz : Nat) : Met l yJ7_fill_53178 wsJ7_fill_53178 ({ frames := 1, cells := 0, slots := 0, locals := 32 } : Room) (dk_Pc g D [(h1, .inl (g 0, 5, .inl f))] sz [.ref h1, .int v]) (va_Qv (fun (_ : Unit) => True) (dk_B D (va_A [(h1, .inl (g 0, 5, .inl f))] sz) (fun (_ : Unit) => [(h1, .inl (g 0, 5, .inl (fun _ => v)))])) (va_A [(h1, .inl (g 0, 5, .inl f))] sz)) 0 0 (va_A [(h1, .inl (g 0, 5, .inl f))] sz) := by
  refine dk_met (cc := cJ7_fill_53178) (maxL := 4) (ret := none) (by decide) rfl (Nat.le_of_ble_eq_true rfl) ?_
  intro p e s m args below meth c harg hx hb hr hml hts hown hlocks hin hP K hD hS hA ST hsz ls hl
  subst hsz
  generalize va_A [(h1, .inl (g 0, 5, .inl f))] s.heap.size = A at hD hS hA ST ⊢
  have F : CallFix p m c cJ7_fill_53178 4 s args wsJ7_fill_53178 RJ7 := ⟨hx, hb, hml, hown, hts⟩
  have hl : lv_has ls 4 [(0, .ref h1), (1, .int v)] := hl
  refine lv_iconst (v := 0) hx hb dJ7_fill_53178_0 (by decide +kernel) ?_
  refine lv_istore_n (lv' := [(2, .int 0), (0, .ref h1), (1, .int v)]) hx hb dJ7_fill_53178_1 rfl hl (by decide) rfl (fun ls hl => ?_)
  refine lv_aload_n hx hb dJ7_fill_53178_2 rfl (lv_at hl 1 rfl) ?_
  refine va_alen hx hb K.1 hP 0 0 rfl rfl (v := 5) rfl dJ7_fill_53178_3 ?_
  refine lv_istore_n (lv' := [(3, .int 5), (2, .int 0), (0, .ref h1), (1, .int v)]) hx hb dJ7_fill_53178_4 rfl hl (by decide) rfl (fun ls hl => ?_)
  have hP : va_P D vwCl [(h1, .inl (g 0, 5, .inl (dk_fl f v 0)))] s.heap := by rw [dk_fl_0]; exact hP
  have hD : va_D A [(h1, .inl (g 0, 5, .inl (dk_fl f v 0)))] := by rw [dk_fl_0]; exact hD
  have loop_2 : ∀ (n i_1 : Nat), i_1 + n = 5 → ∀ (H : Heap) (locs : List Loc), va_P D vwCl [(h1, .inl (g 0, 5, .inl (dk_fl f v i_1)))] H → va_D A [(h1, .inl (g 0, 5, .inl (dk_fl f v i_1)))] → va_S A s.heap H locs → ∀ ls : Array Slot, lv_has ls 4 [(3, .int 5), (2, .int (nI i_1)), (0, .ref h1), (1, .int v)] → W p l e ({ frames := 1, cells := 0, slots := 0, locals := 32 } : Room) s m args below meth c H locs (0) (0) (MQ below (va_Qv (fun (_ : Unit) => True) (dk_B D A (fun (_ : Unit) => [(h1, .inl (g 0, 5, .inl (fun _ => v)))])) A) args s 0 0 A) (F0 m 5 ls []) := by
    intro n
    induction n with
    | zero =>
      intro i_1 hi  H locs hP hD hS ls hl
      obtain rfl : i_1 = 5 := by omega
      have hl : lv_has ls 4 [(3, .int 5), (2, .int 5), (0, .ref h1), (1, .int v)] := hl
      have hP : va_P D vwCl [(h1, .inl (g 0, 5, .inl (dk_fl f v 5)))] H := hP
      have hD : va_D A [(h1, .inl (g 0, 5, .inl (dk_fl f v 5)))] := hD
      refine lv_iload_n hx hb dJ7_fill_53178_5 rfl (lv_at hl 1 rfl) ?_
      refine lv_iload_n hx hb dJ7_fill_53178_6 rfl (lv_at hl 0 rfl) ?_
      refine lv_icmp_ge (tgt := 20) hx hb dJ7_fill_53178_7 (by decide) (fun _ => ?_) (fun c => absurd (by decide +kernel) c)
      have hP := dk_recell hP 0 rfl (fun _ => v) (fun j hj => by unfold dk_fl; rw [if_pos hj])
      have hD := hD.set (p := 0) (e := .inl (g 0, 5, .inl (fun _ => v))) rfl
      have hP : va_P D vwCl [(h1, .inl (g 0, 5, .inl (fun _ => v)))] H := hP
      have hD : va_D A [(h1, .inl (g 0, 5, .inl (fun _ => v)))] := hD
      refine W.widen (k := 0) (n := 0) (Nat.le_of_ble_eq_true rfl) (Nat.le_of_ble_eq_true rfl) ?_
      exact dk_vret hx hb hr hlocks hP hD hS () [0] rfl (by decide) trivial dJ7_fill_53178_20
    | succ n ih =>
      intro i_1 hi  H locs hP hD hS ls hl
      refine lv_iload_n hx hb dJ7_fill_53178_5 rfl (lv_at hl 1 rfl) ?_
      refine lv_iload_n hx hb dJ7_fill_53178_6 rfl (lv_at hl 0 rfl) ?_
      refine lv_icmp_ge (tgt := 20) hx hb dJ7_fill_53178_7 (by decide) (fun c => absurd c (nI_ge (a := i_1) (b := 5) (by omega) (by omega))) (fun _ => ?_)
      refine lv_aload_n hx hb dJ7_fill_53178_10 rfl (lv_at hl 2 rfl) ?_
      refine lv_iload_n hx hb dJ7_fill_53178_11 rfl (lv_at hl 1 rfl) ?_
      refine lv_iload_n hx hb dJ7_fill_53178_12 rfl (lv_at hl 3 rfl) ?_
      refine dk_iast hx hb K hP hD hS 0 rfl (dk_fl f v (i_1 + 1)) (fun j _ => by rw [nI_clamp (by omega)]; exact dk_fl_s f v _ j) (vp_in_nI (by omega) (by omega)) dJ7_fill_53178_13 (fun H locs hP hD hS => ?_)
      have hP : va_P D vwCl [(h1, .inl (g 0, 5, .inl (dk_fl f v (i_1 + 1))))] H := hP
      have hD : va_D A [(h1, .inl (g 0, 5, .inl (dk_fl f v (i_1 + 1))))] := hD
      refine lv_iinc (v := (nI (i_1 + 1))) (lv' := [(2, .int (nI (i_1 + 1))), (3, .int 5), (0, .ref h1), (1, .int v)]) hx hb dJ7_fill_53178_14 hl (k := 1) rfl (dk_addc (b := 1) rfl) (by decide) rfl (fun ls hl => ?_)
      refine lv_goto (tgt := 5) hx hb dJ7_fill_53178_17 (by decide) ?_
      have hP := hP.sub (ws' := [(h1, .inl (g 0, 5, .inl (dk_fl f v (i_1 + 1))))]) [0] rfl
      have hD := hD.sub (ws' := [(h1, .inl (g 0, 5, .inl (dk_fl f v (i_1 + 1))))]) [0] (by decide) rfl
      exact ih (i_1 + 1) (by omega)  _ _ hP hD hS _ (lv_sub hl [1, 0, 2, 3] rfl)
  exact loop_2 5 0 rfl  _ _ hP hD hS _ (lv_sub hl [0, 1, 2, 3] rfl)
set_option maxHeartbeats 8000000 in
set_option maxRecDepth 100000 in
/-- Arrays.fill over 3 places -/
theorem c_fill_3 (l : Launch) (g : Nat → ClassId) (D : va_G) (h1 : Nat) (f : Nat → Int32) (v : Int32) (sz : Nat) : Met l yJ7_fill_53178 wsJ7_fill_53178 ({ frames := 1, cells := 0, slots := 0, locals := 32 } : Room) (dk_Pc g D [(h1, .inl (g 0, 3, .inl f))] sz [.ref h1, .int v]) (va_Qv (fun (_ : Unit) => True) (dk_B D (va_A [(h1, .inl (g 0, 3, .inl f))] sz) (fun (_ : Unit) => [(h1, .inl (g 0, 3, .inl (fun _ => v)))])) (va_A [(h1, .inl (g 0, 3, .inl f))] sz)) 0 0 (va_A [(h1, .inl (g 0, 3, .inl f))] sz) := by
  refine dk_met (cc := cJ7_fill_53178) (maxL := 4) (ret := none) (by decide) rfl (Nat.le_of_ble_eq_true rfl) ?_
  intro p e s m args below meth c harg hx hb hr hml hts hown hlocks hin hP K hD hS hA ST hsz ls hl
  subst hsz
  generalize va_A [(h1, .inl (g 0, 3, .inl f))] s.heap.size = A at hD hS hA ST ⊢
  have F : CallFix p m c cJ7_fill_53178 4 s args wsJ7_fill_53178 RJ7 := ⟨hx, hb, hml, hown, hts⟩
  have hl : lv_has ls 4 [(0, .ref h1), (1, .int v)] := hl
  refine lv_iconst (v := 0) hx hb dJ7_fill_53178_0 (by decide +kernel) ?_
  refine lv_istore_n (lv' := [(2, .int 0), (0, .ref h1), (1, .int v)]) hx hb dJ7_fill_53178_1 rfl hl (by decide) rfl (fun ls hl => ?_)
  refine lv_aload_n hx hb dJ7_fill_53178_2 rfl (lv_at hl 1 rfl) ?_
  refine va_alen hx hb K.1 hP 0 0 rfl rfl (v := 3) rfl dJ7_fill_53178_3 ?_
  refine lv_istore_n (lv' := [(3, .int 3), (2, .int 0), (0, .ref h1), (1, .int v)]) hx hb dJ7_fill_53178_4 rfl hl (by decide) rfl (fun ls hl => ?_)
  have hP : va_P D vwCl [(h1, .inl (g 0, 3, .inl (dk_fl f v 0)))] s.heap := by rw [dk_fl_0]; exact hP
  have hD : va_D A [(h1, .inl (g 0, 3, .inl (dk_fl f v 0)))] := by rw [dk_fl_0]; exact hD
  have loop_2 : ∀ (n i_1 : Nat), i_1 + n = 3 → ∀ (H : Heap) (locs : List Loc), va_P D vwCl [(h1, .inl (g 0, 3, .inl (dk_fl f v i_1)))] H → va_D A [(h1, .inl (g 0, 3, .inl (dk_fl f v i_1)))] → va_S A s.heap H locs → ∀ ls : Array Slot, lv_has ls 4 [(3, .int 3), (2, .int (nI i_1)), (0, .ref h1), (1, .int v)] → W p l e ({ frames := 1, cells := 0, slots := 0, locals := 32 } : Room) s m args below meth c H locs (0) (0) (MQ below (va_Qv (fun (_ : Unit) => True) (dk_B D A (fun (_ : Unit) => [(h1, .inl (g 0, 3, .inl (fun _ => v)))])) A) args s 0 0 A) (F0 m 5 ls []) := by
    intro n
    induction n with
    | zero =>
      intro i_1 hi  H locs hP hD hS ls hl
      obtain rfl : i_1 = 3 := by omega
      have hl : lv_has ls 4 [(3, .int 3), (2, .int 3), (0, .ref h1), (1, .int v)] := hl
      have hP : va_P D vwCl [(h1, .inl (g 0, 3, .inl (dk_fl f v 3)))] H := hP
      have hD : va_D A [(h1, .inl (g 0, 3, .inl (dk_fl f v 3)))] := hD
      refine lv_iload_n hx hb dJ7_fill_53178_5 rfl (lv_at hl 1 rfl) ?_
      refine lv_iload_n hx hb dJ7_fill_53178_6 rfl (lv_at hl 0 rfl) ?_
      refine lv_icmp_ge (tgt := 20) hx hb dJ7_fill_53178_7 (by decide) (fun _ => ?_) (fun c => absurd (by decide +kernel) c)
      have hP := dk_recell hP 0 rfl (fun _ => v) (fun j hj => by unfold dk_fl; rw [if_pos hj])
      have hD := hD.set (p := 0) (e := .inl (g 0, 3, .inl (fun _ => v))) rfl
      have hP : va_P D vwCl [(h1, .inl (g 0, 3, .inl (fun _ => v)))] H := hP
      have hD : va_D A [(h1, .inl (g 0, 3, .inl (fun _ => v)))] := hD
      refine W.widen (k := 0) (n := 0) (Nat.le_of_ble_eq_true rfl) (Nat.le_of_ble_eq_true rfl) ?_
      exact dk_vret hx hb hr hlocks hP hD hS () [0] rfl (by decide) trivial dJ7_fill_53178_20
    | succ n ih =>
      intro i_1 hi  H locs hP hD hS ls hl
      refine lv_iload_n hx hb dJ7_fill_53178_5 rfl (lv_at hl 1 rfl) ?_
      refine lv_iload_n hx hb dJ7_fill_53178_6 rfl (lv_at hl 0 rfl) ?_
      refine lv_icmp_ge (tgt := 20) hx hb dJ7_fill_53178_7 (by decide) (fun c => absurd c (nI_ge (a := i_1) (b := 3) (by omega) (by omega))) (fun _ => ?_)
      refine lv_aload_n hx hb dJ7_fill_53178_10 rfl (lv_at hl 2 rfl) ?_
      refine lv_iload_n hx hb dJ7_fill_53178_11 rfl (lv_at hl 1 rfl) ?_
      refine lv_iload_n hx hb dJ7_fill_53178_12 rfl (lv_at hl 3 rfl) ?_
      refine dk_iast hx hb K hP hD hS 0 rfl (dk_fl f v (i_1 + 1)) (fun j _ => by rw [nI_clamp (by omega)]; exact dk_fl_s f v _ j) (vp_in_nI (by omega) (by omega)) dJ7_fill_53178_13 (fun H locs hP hD hS => ?_)
      have hP : va_P D vwCl [(h1, .inl (g 0, 3, .inl (dk_fl f v (i_1 + 1))))] H := hP
      have hD : va_D A [(h1, .inl (g 0, 3, .inl (dk_fl f v (i_1 + 1))))] := hD
      refine lv_iinc (v := (nI (i_1 + 1))) (lv' := [(2, .int (nI (i_1 + 1))), (3, .int 3), (0, .ref h1), (1, .int v)]) hx hb dJ7_fill_53178_14 hl (k := 1) rfl (dk_addc (b := 1) rfl) (by decide) rfl (fun ls hl => ?_)
      refine lv_goto (tgt := 5) hx hb dJ7_fill_53178_17 (by decide) ?_
      have hP := hP.sub (ws' := [(h1, .inl (g 0, 3, .inl (dk_fl f v (i_1 + 1))))]) [0] rfl
      have hD := hD.sub (ws' := [(h1, .inl (g 0, 3, .inl (dk_fl f v (i_1 + 1))))]) [0] (by decide) rfl
      exact ih (i_1 + 1) (by omega)  _ _ hP hD hS _ (lv_sub hl [1, 0, 2, 3] rfl)
  exact loop_2 3 0 rfl  _ _ hP hD hS _ (lv_sub hl [0, 1, 2, 3] rfl)
