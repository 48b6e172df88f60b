/-! 10.qmath.lean.txt -/
def RJ9 : String := "java/lang/Math"
abbrev cJ9_floorDiv_7cf53 : ByteArray := prog_16_method_47_code
def yJ9_floorDiv_7cf53 : MethodName := ⟨RJ9, "floorDiv", "(II)I"⟩
abbrev cJ9_floorMod_7cf53 : ByteArray := prog_16_method_50_code
def yJ9_floorMod_7cf53 : MethodName := ⟨RJ9, "floorMod", "(II)I"⟩
theorem dJ9_floorDiv_7cf53_0 : decode cJ9_floorDiv_7cf53 0 = .ok (.iload_n 0, 1) := dk_o26 (by decide +kernel)
theorem dJ9_floorDiv_7cf53_1 : decode cJ9_floorDiv_7cf53 1 = .ok (.iload_n 1, 1) := dk_o27 (by decide +kernel)
theorem dJ9_floorDiv_7cf53_2 : decode cJ9_floorDiv_7cf53 2 = .ok (.idiv, 1) := dk_o108 (by decide +kernel)
theorem dJ9_floorDiv_7cf53_3 : decode cJ9_floorDiv_7cf53 3 = .ok (.istore_n 2, 1) := dk_o61 (by decide +kernel)
theorem dJ9_floorDiv_7cf53_4 : decode cJ9_floorDiv_7cf53 4 = .ok (.iload_n 0, 1) := dk_o26 (by decide +kernel)
theorem dJ9_floorDiv_7cf53_5 : decode cJ9_floorDiv_7cf53 5 = .ok (.iload_n 1, 1) := dk_o27 (by decide +kernel)
theorem dJ9_floorDiv_7cf53_6 : decode cJ9_floorDiv_7cf53 6 = .ok (.ixor, 1) := dk_o130 (by decide +kernel)
theorem dJ9_floorDiv_7cf53_7 : decode cJ9_floorDiv_7cf53 7 = .ok (.ifCond .ge 14, 3) := dk_o156 (by decide +kernel)
theorem dJ9_floorDiv_7cf53_10 : decode cJ9_floorDiv_7cf53 10 = .ok (.iload_n 2, 1) := dk_o28 (by decide +kernel)
theorem dJ9_floorDiv_7cf53_11 : decode cJ9_floorDiv_7cf53 11 = .ok (.iload_n 1, 1) := dk_o27 (by decide +kernel)
theorem dJ9_floorDiv_7cf53_12 : decode cJ9_floorDiv_7cf53 12 = .ok (.imul, 1) := dk_o104 (by decide +kernel)
theorem dJ9_floorDiv_7cf53_13 : decode cJ9_floorDiv_7cf53 13 = .ok (.iload_n 0, 1) := dk_o26 (by decide +kernel)
theorem dJ9_floorDiv_7cf53_14 : decode cJ9_floorDiv_7cf53 14 = .ok (.if_icmp .eq 7, 3) := dk_o159 (by decide +kernel)
theorem dJ9_floorDiv_7cf53_17 : decode cJ9_floorDiv_7cf53 17 = .ok (.iload_n 2, 1) := dk_o28 (by decide +kernel)
theorem dJ9_floorDiv_7cf53_18 : decode cJ9_floorDiv_7cf53 18 = .ok (.iconst 1, 1) := dk_o4 (by decide +kernel)
theorem dJ9_floorDiv_7cf53_19 : decode cJ9_floorDiv_7cf53 19 = .ok (.isub, 1) := dk_o100 (by decide +kernel)
theorem dJ9_floorDiv_7cf53_20 : decode cJ9_floorDiv_7cf53 20 = .ok (.ireturn, 1) := dk_o172 (by decide +kernel)
theorem dJ9_floorDiv_7cf53_21 : decode cJ9_floorDiv_7cf53 21 = .ok (.iload_n 2, 1) := dk_o28 (by decide +kernel)
theorem dJ9_floorDiv_7cf53_22 : decode cJ9_floorDiv_7cf53 22 = .ok (.ireturn, 1) := dk_o172 (by decide +kernel)
theorem dJ9_floorMod_7cf53_0 : decode cJ9_floorMod_7cf53 0 = .ok (.iload_n 0, 1) := dk_o26 (by decide +kernel)
theorem dJ9_floorMod_7cf53_1 : decode cJ9_floorMod_7cf53 1 = .ok (.iload_n 1, 1) := dk_o27 (by decide +kernel)
theorem dJ9_floorMod_7cf53_2 : decode cJ9_floorMod_7cf53 2 = .ok (.irem, 1) := dk_o112 (by decide +kernel)
theorem dJ9_floorMod_7cf53_3 : decode cJ9_floorMod_7cf53 3 = .ok (.istore_n 2, 1) := dk_o61 (by decide +kernel)
theorem dJ9_floorMod_7cf53_4 : decode cJ9_floorMod_7cf53 4 = .ok (.iload_n 0, 1) := dk_o26 (by decide +kernel)
theorem dJ9_floorMod_7cf53_5 : decode cJ9_floorMod_7cf53 5 = .ok (.iload_n 1, 1) := dk_o27 (by decide +kernel)
theorem dJ9_floorMod_7cf53_6 : decode cJ9_floorMod_7cf53 6 = .ok (.ixor, 1) := dk_o130 (by decide +kernel)
theorem dJ9_floorMod_7cf53_7 : decode cJ9_floorMod_7cf53 7 = .ok (.ifCond .ge 11, 3) := dk_o156 (by decide +kernel)
theorem dJ9_floorMod_7cf53_10 : decode cJ9_floorMod_7cf53 10 = .ok (.iload_n 2, 1) := dk_o28 (by decide +kernel)
theorem dJ9_floorMod_7cf53_11 : decode cJ9_floorMod_7cf53 11 = .ok (.ifCond .eq 7, 3) := dk_o153 (by decide +kernel)
theorem dJ9_floorMod_7cf53_14 : decode cJ9_floorMod_7cf53 14 = .ok (.iload_n 2, 1) := dk_o28 (by decide +kernel)
theorem dJ9_floorMod_7cf53_15 : decode cJ9_floorMod_7cf53 15 = .ok (.iload_n 1, 1) := dk_o27 (by decide +kernel)
theorem dJ9_floorMod_7cf53_16 : decode cJ9_floorMod_7cf53 16 = .ok (.iadd, 1) := dk_o96 (by decide +kernel)
theorem dJ9_floorMod_7cf53_17 : decode cJ9_floorMod_7cf53 17 = .ok (.ireturn, 1) := dk_o172 (by decide +kernel)
theorem dJ9_floorMod_7cf53_18 : decode cJ9_floorMod_7cf53 18 = .ok (.iload_n 2, 1) := dk_o28 (by decide +kernel)
theorem dJ9_floorMod_7cf53_19 : decode cJ9_floorMod_7cf53 19 = .ok (.ireturn, 1) := dk_o172 (by decide +kernel)
set_option maxHeartbeats 4000000 in
theorem dk_metF {l : Launch} {y : MethodName} {ws ws' : List Cond} {rm : Room} {g : Nat → ClassId} {D : va_G} {W0 : va_W} {sz : Nat} {av : List Value} {Qc : Array Value → State → Outcome → State → Prop} {mc ms : Nat} {cc : ByteArray} {maxL : Nat} {ret : Option FieldType}
    (hy : plainFor y = true) (hw : ws = Cond.code y cc maxL ret :: ws') (hav : (lg_sl av).length ≤ maxL)
    (body : ∀ (p : Program) (e : Env) (s : State) (m : MethodId) (args : Array Value) (below : List Frame) (meth : Method) (c : Code), args = av.toArray → p.tables.exec = Jvm.exec → c.code = cc → meth.sig.returnType = ret → c.maxLocals = maxL → (∀ w ∈ ws, w.before args s = true) → s.vm.findClass y.cls = some m.cls → meth.locks = false → meth.name = y.name →
      va_P D vwCl W0 s.heap → dk_K g D s → va_D (va_A W0 s.heap.size) W0 → va_S (va_A W0 s.heap.size) s.heap s.heap [] → (∀ q : Nat, s.heap.size ≤ q → va_A W0 s.heap.size q) → dk_ST (va_A W0 s.heap.size) s s.heap → s.heap.size = sz → ∀ ls : Array Slot, lv_has ls maxL (lv_args 0 av) →
      W p l e rm s m args below meth c s.heap [] 0 0 (MQ below Qc args s mc ms (va_A W0 s.heap.size)) (F0 m 0 ls [])) : Met l y ws rm (dk_Pc g D W0 sz av) Qc mc ms (va_A W0 sz) := by
  refine MetFree.of_bodySF (code := cc) (maxLocals := maxL) (ret := ret) hy (fun args s m h hn => by
    obtain ⟨meth, c, h1, h2, h3, h4, h5, h6, -, -⟩ := Cond.code_spec hn (atoms_spec (ws := ws) h _ (by rw [hw]; exact List.mem_cons_self))
    exact ⟨meth, c, h1, h2, h3, h4, h5, h6⟩) ?_
  intro p e s m args below meth c s₁ B hml hv _
  have hh0 : s₁.heap = s.heap := by rw [B.state]; rfl
  have HH : W p l e (headSpec ws rm).room s m args below meth c s.heap [] 0 0 (MQ below Qc args s mc ms (va_A W0 sz)) (entryFrame m args maxL) := by
    obtain ⟨rfl, hsz, hP, hK, hD0, hST⟩ := hv
    have hl := lv_entry av (n := maxL) hav
    have hE : entryFrame m av.toArray maxL = F0 m 0 ((lg_sl av ++ List.replicate (maxL - (lg_sl av).length) Slot.unset).toArray) [] := lg_entry_eq ..
    rw [hE]
    subst hsz
    exact body p e s m _ below meth c rfl B.exec B.bytes B.returns hml (atoms_spec (ws := ws) B.pre) (findClass_of_methodNamed B.named) B.notSynchronized (name_of_methodNamed B.named B.method).1 hP hK hD0.self va_S.rf (fun q h => Or.inr h) hST rfl _ hl
  obtain ⟨t, a1, o, b1, b2, b3⟩ := HH s₁ hh0 (Stand.of_body B)
  exact ⟨t, o, a1, b1, b2, ⟨b3.1, b3.2⟩⟩
set_option maxHeartbeats 4000000 in
theorem dg_metF {l : Launch} {y : MethodName} {ws ws' : List Cond} {rm : Room} {g : Nat → ClassId} {D : va_G} {sh : List dg_q} {o : Nat} {rf : dg_R} {S : dg_S} {sz : Nat} {av : List Value} {Qc : Array Value → State → Outcome → State → Prop} {mc ms : Nat} {cc : ByteArray} {maxL : Nat} {ret : Option FieldType}
    (hy : plainFor y = true) (hw : ws = Cond.code y cc maxL ret :: ws') (hav : (lg_sl av).length ≤ maxL)
    (body : ∀ (p : Program) (e : Env) (s : State) (m : MethodId) (args : Array Value) (below : List Frame) (meth : Method) (c : Code) (A : Nat → Prop), A = dg_A o sh.length sz → args = av.toArray → p.tables.exec = Jvm.exec → c.code = cc → meth.sig.returnType = ret → c.maxLocals = maxL → (∀ w ∈ ws, w.before args s = true) → s.vm.findClass y.cls = some m.cls → meth.locks = false → meth.name = y.name →
      va_P D vwCl (dg_w g sh o rf S) s.heap → dk_K g D s → va_S A s.heap s.heap [] → (∀ i, i < sh.length → A (o + i)) → (∀ q : Nat, s.heap.size ≤ q → A q) → dk_ST A s s.heap → s.heap.size = sz → ∀ ls : Array Slot, lv_has ls maxL (lv_args 0 av) →
      W p l e rm s m args below meth c s.heap [] 0 0 (MQ below Qc args s mc ms A) (F0 m 0 ls [])) : Met l y ws rm (dk_Pc g D (dg_w g sh o rf S) sz av) Qc mc ms (dg_A o sh.length sz) := by
  have h := dk_metF (l := l) (rm := rm) (g := g) (D := D) (W0 := dg_w g sh o rf S) (sz := sz) (Qc := Qc) (mc := mc) (ms := ms) hy hw hav (fun p e s m args below meth c harg hx hb hr hml hts hown hlocks hin hP K _ hS hA ST hsz ls hl => by
    subst hsz
    rw [dg_A_eq] at hS hA ST ⊢
    exact body p e s m args below meth c _ rfl harg hx hb hr hml hts hown hlocks hin hP K hS (fun i hi => dg_A_in hi) hA ST rfl ls hl)
  rw [dg_A_eq] at h
  exact h
noncomputable def F_floorDiv (o : Nat) (S : dg_S) (a1 : Int32) (a2 : Int32) : Int32 := let x_1 : Int32 := a1 / a2; let x_2 : Int32 := a1 ^^^ a2; (if (0 : Int32) ≤ x_2 then x_1 else let x_4 : Int32 := x_1 * a2; (if x_4 = a1 then x_1 else let x_10 : Int32 := x_1 - (1 : Int32); x_10))
theorem F_floorDiv_p0 {o : Nat} {S : dg_S} {a1 : Int32} {a2 : Int32} {x_1 : Int32} {x_2 : Int32} (h0 : x_1 = a1 / a2) (h1 : x_2 = a1 ^^^ a2) (h2 : (0 : Int32) ≤ x_2) : F_floorDiv o S a1 a2 = x_1 := by
  replace h0 := Eq.symm h0
  subst h0
  replace h1 := Eq.symm h1
  subst h1
  exact (Eq.trans (if_pos h2) rfl)
theorem F_floorDiv_p1 {o : Nat} {S : dg_S} {a1 : Int32} {a2 : Int32} {x_1 : Int32} {x_2 : Int32} {x_4 : Int32} (h0 : x_1 = a1 / a2) (h1 : x_2 = a1 ^^^ a2) (h2 : ¬ ((0 : Int32) ≤ x_2)) (h3 : x_4 = x_1 * a2) (h4 : x_4 = a1) : F_floorDiv o S a1 a2 = x_1 := by
  replace h0 := Eq.symm h0
  subst h0
  replace h1 := Eq.symm h1
  subst h1
  replace h3 := Eq.symm h3
  subst h3
  exact (Eq.trans (if_neg h2) (Eq.trans (if_pos h4) rfl))
theorem F_floorDiv_p2 {o : Nat} {S : dg_S} {a1 : Int32} {a2 : Int32} {x_10 : Int32} {x_1 : Int32} {x_2 : Int32} {x_4 : Int32} (h0 : x_1 = a1 / a2) (h1 : x_2 = a1 ^^^ a2) (h2 : ¬ ((0 : Int32) ≤ x_2)) (h3 : x_4 = x_1 * a2) (h4 : ¬ (x_4 = a1)) (h5 : x_10 = x_1 - (1 : Int32)) : F_floorDiv o S a1 a2 = x_10 := by
  replace h0 := Eq.symm h0
  subst h0
  replace h1 := Eq.symm h1
  subst h1
  replace h3 := Eq.symm h3
  subst h3
  replace h5 := Eq.symm h5
  subst h5
  exact (Eq.trans (if_neg h2) (Eq.trans (if_neg h4) rfl))
set_option maxHeartbeats 8000000 in
set_option maxRecDepth 100000 in
theorem c_floorDiv (l : Launch) (g : Nat → ClassId) (D : va_G) (o : Nat) (S : dg_S) (a1 : Int32) (a2 : Int32) (hy : (a2).toInt ≠ 0) (I : CX o S) (sz : Nat) : Met l yJ9_floorDiv_7cf53 (bw yJ9_floorDiv_7cf53 cJ9_floorDiv_7cf53 3 (some .int)) ({ frames := 1, cells := 0, slots := 0, locals := 32 } : Room) (dk_Pc g D (dg_w g shX o rfX S) sz [.int a1, .int a2]) (va_Qi (fun (r : Int32) S' => S' = S ∧ (r = F_floorDiv o S a1 a2) ∧ True) (dg_B g D shX o rfX) (dg_A o shX.length sz)) 0 0 (dg_A o shX.length sz) := by
  refine dg_metF (cc := cJ9_floorDiv_7cf53) (maxL := 3) (ret := (some .int)) (by decide +kernel) rfl (Nat.le_of_ble_eq_true rfl) ?_
  intro p e s m args below meth c A hAe harg hx hb hr hml hts hown hlocks hin hP K hS hA1 hA ST hsz ls hl
  rw [← hAe]
  have F : CallFix p m c cJ9_floorDiv_7cf53 3 s args (bw yJ9_floorDiv_7cf53 cJ9_floorDiv_7cf53 3 (some .int)) RJ9 := ⟨hx, hb, hml, hown, hts⟩
  have hl : lv_has ls 3 [(0, .int a1), (1, .int a2)] := hl
  have M_0 : dg_sm shX [] [] S S := dg_sm.rf
  refine lv_iload_n hx hb dJ9_floorDiv_7cf53_0 rfl (lv_at hl 0 rfl) ?_
  refine lv_iload_n hx hb dJ9_floorDiv_7cf53_1 rfl (lv_at hl 1 rfl) ?_
  refine lv_idiv hx hb dJ9_floorDiv_7cf53_2 (fun z => absurd (dk_eqc (k := 0) (by decide +kernel) z) (by omega)) ?_
  refine lv_topi (fun x_1 ex_1 => ?_)
  refine lv_istore_n (lv' := [(2, .int x_1), (0, .int a1), (1, .int a2)]) hx hb dJ9_floorDiv_7cf53_3 rfl hl (dk_dq rfl) rfl (fun ls hl => ?_)
  refine lv_iload_n hx hb dJ9_floorDiv_7cf53_4 rfl (lv_at hl 1 rfl) ?_
  refine lv_iload_n hx hb dJ9_floorDiv_7cf53_5 rfl (lv_at hl 2 rfl) ?_
  refine lv_ixor hx hb dJ9_floorDiv_7cf53_6 ?_
  refine lv_topi (fun x_2 ex_2 => ?_)
  refine lv_if_ge (tgt := 21) hx hb dJ9_floorDiv_7cf53_7 (dk_dq rfl) (fun c_3 => ?_) (fun c_3 => ?_)
  · have jc_3 := dk_gec (k := 0) (by decide +kernel) c_3
    refine lv_iload_n hx hb dJ9_floorDiv_7cf53_21 rfl (lv_at hl 0 rfl) ?_
    refine W.widen (k := 0) (n := 0) (Nat.le_of_ble_eq_true rfl) (Nat.le_of_ble_eq_true rfl) ?_
    exact dg_iret hx hb hr hlocks rfl hP hS ⟨rfl, (Eq.symm (F_floorDiv_p0 ex_1 ex_2 c_3)), trivial⟩ dJ9_floorDiv_7cf53_22
  · as_aux_lemma =>
      have jc_3 := dk_ngec (k := 0) (by decide +kernel) c_3
      refine lv_iload_n hx hb dJ9_floorDiv_7cf53_10 rfl (lv_at hl 0 rfl) ?_
      refine lv_iload_n hx hb dJ9_floorDiv_7cf53_11 rfl (lv_at hl 2 rfl) ?_
      refine lv_imul hx hb dJ9_floorDiv_7cf53_12 ?_
      refine lv_topi (fun x_4 ex_4 => ?_)
      refine lv_iload_n hx hb dJ9_floorDiv_7cf53_13 rfl (lv_at hl 1 rfl) ?_
      refine lv_icmp_eq (tgt := 21) hx hb dJ9_floorDiv_7cf53_14 (dk_dq rfl) (fun c_5 => ?_) (fun c_5 => ?_)
      · have hf_5 := dk_full x_4
        have hf_6 := dk_full a1
        have jc_5 := dk_eqc (k := (a1).toInt) rfl c_5
        refine lv_iload_n hx hb dJ9_floorDiv_7cf53_21 rfl (lv_at hl 0 rfl) ?_
        refine W.widen (k := 0) (n := 0) (Nat.le_of_ble_eq_true rfl) (Nat.le_of_ble_eq_true rfl) ?_
        exact dg_iret hx hb hr hlocks rfl hP hS ⟨rfl, (Eq.symm (F_floorDiv_p1 ex_1 ex_2 c_3 ex_4 c_5)), trivial⟩ dJ9_floorDiv_7cf53_22
      · have hf_7 := dk_full x_4
        have hf_8 := dk_full a1
        have jc_5 := dk_neqc (k := (a1).toInt) rfl c_5
        refine lv_iload_n hx hb dJ9_floorDiv_7cf53_17 rfl (lv_at hl 0 rfl) ?_
        refine lv_iconst (v := 1) hx hb dJ9_floorDiv_7cf53_18 (by decide +kernel) ?_
        refine lv_isub hx hb dJ9_floorDiv_7cf53_19 ?_
        refine lv_topi (fun x_10 ex_10 => ?_)
        refine W.widen (k := 0) (n := 0) (Nat.le_of_ble_eq_true rfl) (Nat.le_of_ble_eq_true rfl) ?_
        exact dg_iret hx hb hr hlocks rfl hP hS ⟨rfl, (Eq.symm (F_floorDiv_p2 ex_1 ex_2 c_3 ex_4 c_5 ex_10)), trivial⟩ dJ9_floorDiv_7cf53_20
noncomputable def F_floorMod (o : Nat) (S : dg_S) (a1 : Int32) (a2 : Int32) : Int32 := let x_1 : Int32 := a1 - a1 / a2 * a2; let x_2 : Int32 := a1 ^^^ a2; (if (0 : Int32) ≤ x_2 then x_1 else (if x_1 = (0 : Int32) then x_1 else let x_5 : Int32 := x_1 + a2; x_5))
theorem F_floorMod_p0 {o : Nat} {S : dg_S} {a1 : Int32} {a2 : Int32} {x_1 : Int32} {x_2 : Int32} (h0 : x_1 = a1 - a1 / a2 * a2) (h1 : x_2 = a1 ^^^ a2) (h2 : (0 : Int32) ≤ x_2) : F_floorMod o S a1 a2 = x_1 := by
  replace h0 := Eq.symm h0
  subst h0
  replace h1 := Eq.symm h1
  subst h1
  exact (Eq.trans (if_pos h2) rfl)
theorem F_floorMod_p1 {o : Nat} {S : dg_S} {a1 : Int32} {a2 : Int32} {x_1 : Int32} {x_2 : Int32} (h0 : x_1 = a1 - a1 / a2 * a2) (h1 : x_2 = a1 ^^^ a2) (h2 : ¬ ((0 : Int32) ≤ x_2)) (h3 : x_1 = (0 : Int32)) : F_floorMod o S a1 a2 = x_1 := by
  replace h0 := Eq.symm h0
  subst h0
  replace h1 := Eq.symm h1
  subst h1
  exact (Eq.trans (if_neg h2) (Eq.trans (if_pos h3) rfl))
theorem F_floorMod_p2 {o : Nat} {S : dg_S} {a1 : Int32} {a2 : Int32} {x_5 : Int32} {x_1 : Int32} {x_2 : Int32} (h0 : x_1 = a1 - a1 / a2 * a2) (h1 : x_2 = a1 ^^^ a2) (h2 : ¬ ((0 : Int32) ≤ x_2)) (h3 : ¬ (x_1 = (0 : Int32))) (h4 : x_5 = x_1 + a2) : F_floorMod o S a1 a2 = x_5 := by
  replace h0 := Eq.symm h0
  subst h0
  replace h1 := Eq.symm h1
  subst h1
  replace h4 := Eq.symm h4
  subst h4
  exact (Eq.trans (if_neg h2) (Eq.trans (if_neg h3) rfl))
set_option maxHeartbeats 8000000 in
set_option maxRecDepth 100000 in
theorem c_floorMod (l : Launch) (g : Nat → ClassId) (D : va_G) (o : Nat) (S : dg_S) (a1 : Int32) (a2 : Int32) (hy : (a2).toInt ≠ 0) (I : CX o S) (sz : Nat) : Met l yJ9_floorMod_7cf53 (bw yJ9_floorMod_7cf53 cJ9_floorMod_7cf53 3 (some .int)) ({ frames := 1, cells := 0, slots := 0, locals := 32 } : Room) (dk_Pc g D (dg_w g shX o rfX S) sz [.int a1, .int a2]) (va_Qi (fun (r : Int32) S' => S' = S ∧ (r = F_floorMod o S a1 a2) ∧ True) (dg_B g D shX o rfX) (dg_A o shX.length sz)) 0 0 (dg_A o shX.length sz) := by
  refine dg_metF (cc := cJ9_floorMod_7cf53) (maxL := 3) (ret := (some .int)) (by decide +kernel) rfl (Nat.le_of_ble_eq_true rfl) ?_
  intro p e s m args below meth c A hAe harg hx hb hr hml hts hown hlocks hin hP K hS hA1 hA ST hsz ls hl
  rw [← hAe]
  have F : CallFix p m c cJ9_floorMod_7cf53 3 s args (bw yJ9_floorMod_7cf53 cJ9_floorMod_7cf53 3 (some .int)) RJ9 := ⟨hx, hb, hml, hown, hts⟩
  have hl : lv_has ls 3 [(0, .int a1), (1, .int a2)] := hl
  have M_0 : dg_sm shX [] [] S S := dg_sm.rf
  refine lv_iload_n hx hb dJ9_floorMod_7cf53_0 rfl (lv_at hl 0 rfl) ?_
  refine lv_iload_n hx hb dJ9_floorMod_7cf53_1 rfl (lv_at hl 1 rfl) ?_
  refine lv_irem hx hb dJ9_floorMod_7cf53_2 (fun z => absurd (dk_eqc (k := 0) (by decide +kernel) z) (by omega)) ?_
  refine lv_topi (fun x_1 ex_1 => ?_)
  refine lv_istore_n (lv' := [(2, .int x_1), (0, .int a1), (1, .int a2)]) hx hb dJ9_floorMod_7cf53_3 rfl hl (dk_dq rfl) rfl (fun ls hl => ?_)
  refine lv_iload_n hx hb dJ9_floorMod_7cf53_4 rfl (lv_at hl 1 rfl) ?_
  refine lv_iload_n hx hb dJ9_floorMod_7cf53_5 rfl (lv_at hl 2 rfl) ?_
  refine lv_ixor hx hb dJ9_floorMod_7cf53_6 ?_
  refine lv_topi (fun x_2 ex_2 => ?_)
  refine lv_if_ge (tgt := 18) hx hb dJ9_floorMod_7cf53_7 (dk_dq rfl) (fun c_3 => ?_) (fun c_3 => ?_)
  · have jc_3 := dk_gec (k := 0) (by decide +kernel) c_3
    refine lv_iload_n hx hb dJ9_floorMod_7cf53_18 rfl (lv_at hl 0 rfl) ?_
    refine W.widen (k := 0) (n := 0) (Nat.le_of_ble_eq_true rfl) (Nat.le_of_ble_eq_true rfl) ?_
    exact dg_iret hx hb hr hlocks rfl hP hS ⟨rfl, (Eq.symm (F_floorMod_p0 ex_1 ex_2 c_3)), trivial⟩ dJ9_floorMod_7cf53_19
  · have jc_3 := dk_ngec (k := 0) (by decide +kernel) c_3
    refine lv_iload_n hx hb dJ9_floorMod_7cf53_10 rfl (lv_at hl 0 rfl) ?_
    refine lv_if_eq (tgt := 18) hx hb dJ9_floorMod_7cf53_11 (dk_dq rfl) (fun c_4 => ?_) (fun c_4 => ?_)
    · have jc_4 := dk_eqc (k := 0) (by decide +kernel) c_4
      refine lv_iload_n hx hb dJ9_floorMod_7cf53_18 rfl (lv_at hl 0 rfl) ?_
      refine W.widen (k := 0) (n := 0) (Nat.le_of_ble_eq_true rfl) (Nat.le_of_ble_eq_true rfl) ?_
      exact dg_iret hx hb hr hlocks rfl hP hS ⟨rfl, (Eq.symm (F_floorMod_p1 ex_1 ex_2 c_3 c_4)), trivial⟩ dJ9_floorMod_7cf53_19
    · have jc_4 := dk_neqc (k := 0) (by decide +kernel) c_4
      refine lv_iload_n hx hb dJ9_floorMod_7cf53_14 rfl (lv_at hl 0 rfl) ?_
      refine lv_iload_n hx hb dJ9_floorMod_7cf53_15 rfl (lv_at hl 2 rfl) ?_
      refine lv_iadd hx hb dJ9_floorMod_7cf53_16 ?_
      refine lv_topi (fun x_5 ex_5 => ?_)
      refine W.widen (k := 0) (n := 0) (Nat.le_of_ble_eq_true rfl) (Nat.le_of_ble_eq_true rfl) ?_
      exact dg_iret hx hb hr hlocks rfl hP hS ⟨rfl, (Eq.symm (F_floorMod_p2 ex_1 ex_2 c_3 c_4 ex_5)), trivial⟩ dJ9_floorMod_7cf53_17
