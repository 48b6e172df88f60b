/-! dk_: what every walk of this claim takes: the tables, a call in one row, arrays of one class -/
/-- the classes of int, long and boolean arrays -/
abbrev dk_tys (g : Nat → ClassId) : List (ClassId × FieldType) := [(g 0, .int), (g 1, .long), (g 2, .boolean), (g 3, .object "DarkMine$Pit"), (g 4, .array .int)]
def dk_nl : List Cond := [.methodLinkNest RX11 9 yX8_init RX11, .methodLinkNest RX11 18 yX5_init RX11, .methodLinkNest RX3 29 yX5_init RX11, .methodLinkNest RX11 48 yX2_init RX11, .methodLinkNest RX6 17 yX9_init RX11, .methodLinkNest RX10 11 yX7_init RX11, .methodLinkNest RX1 11 yX5_init RX11, .methodLinkNest RX0 38 yX5_init RX11, .methodLinkNest RX10 124 yX11_rowOf RX11, .methodLinkNest RX4 68 yX11_columnOf RX11, .methodLinkNest RX4 72 yX11_rowOf RX11, .fieldLinkNest RX5 73 "DarkMine" "SIDES" "[I" RX11, .fieldLinkNest RX10 157 "DarkMine" "SIDES" "[I" RX11]
/-- what the tables say of int[][] -/
def dk_MM (U : State) : Prop := ∃ (cA comp cc : ClassId) (kA kC : Class), U.vm.findClass "[[I" = some cA ∧ U.vm.classes[cA]? = some kA ∧ kA.kind = .array comp (.array .int) ∧ U.vm.classes[comp]? = some kC ∧ kC.kind = .array cc .int ∧ U.vm.findClass "[I" = some comp
theorem dk_MM.moved {u U : State} (hvm : u.vm.Alike U.vm) (h : dk_MM u) : dk_MM U := by
  obtain ⟨cA, comp, cc, kA, kC, h1, h2, h3, h4, h5, h6⟩ := h
  obtain ⟨kA', g1, e1⟩ := hvm.2.2 _ _ h2
  obtain ⟨kC', g2, e2⟩ := hvm.2.2 _ _ h4
  exact ⟨cA, comp, cc, kA', kC', by rw [hvm.findClass]; exact h1, g1, by rw [e1]; exact h3, g2, by rw [e2]; exact h5, by rw [hvm.findClass]; exact h6⟩
/-- what the tables say, of any state of the launch -/
def dk_N (U : State) : Prop := (∀ w ∈ dk_nl, va_Nw w U) ∧ va_AO "DarkMine$Pit" U ∧ dk_MM U
def dk_K (g : Nat → ClassId) (D : va_G) (U : State) : Prop := va_K D vwCl (dk_tys g) U ∧ dk_N U
theorem dk_N.warm {s U : State} (hW : s.WarmedH U.vm) (h : dk_N s) : dk_N U := by
  refine ⟨fun w hw => ?_, va_AO.moved hW.alike h.2.1, dk_MM.moved hW.alike h.2.2⟩
  have h1 := h.1 w hw
  simp only [dk_nl, List.mem_cons, List.not_mem_nil, or_false] at hw
  rcases hw with rfl | rfl | rfl | rfl | rfl | rfl | rfl | rfl | rfl | rfl | rfl | rfl | rfl <;> first | exact va_Nw.warmM hW h1 | exact va_Nw.warmF hW h1
theorem dk_N.same {u U : State} (hv : u.vm = U.vm) (h : dk_N u) : dk_N U := by
  have hA : u.vm.Alike U.vm := by rw [← hv]; exact Vm.Alike.refl u.vm
  refine ⟨fun w hw => ?_, va_AO.moved hA h.2.1, dk_MM.moved hA h.2.2⟩
  have h1 := h.1 w hw
  simp only [dk_nl, List.mem_cons, List.not_mem_nil, or_false] at hw
  rcases hw with rfl | rfl | rfl | rfl | rfl | rfl | rfl | rfl | rfl | rfl | rfl | rfl | rfl <;> exact va_Nw.same rfl hv h1
theorem dk_K.warm {g : Nat → ClassId} {D : va_G} {s U : State} (hW : s.WarmedH U.vm) (h : dk_K g D s) : dk_K g D U := ⟨va_K.moved hW.alike h.1, h.2.warm hW⟩
/-- the static row of the four sides: which cell holds it, and that nobody's own part holds it -/
def dk_sides : Nat → Value := fun j => .int (if j = 0 then (-8) else if j = 1 then (-1) else if j = 2 then 1 else 8)
/-- the text of the OWN WORDS -/
def dk_tx : String := "seam  by    shaft reach quake grade miner dig   at    order tubs  pays  spoilsfalls gets  depth shift far   open  lit   if    or    and   not   all   min   max   "
def dk_by : List Int32 := [115, 101, 97, 109, 32, 32, 98, 121, 32, 32, 32, 32, 115, 104, 97, 102, 116, 32, 114, 101, 97, 99, 104, 32, 113, 117, 97, 107, 101, 32, 103, 114, 97, 100, 101, 32, 109, 105, 110, 101, 114, 32, 100, 105, 103, 32, 32, 32, 97, 116, 32, 32, 32, 32, 111, 114, 100, 101, 114, 32, 116, 117, 98, 115, 32, 32, 112, 97, 121, 115, 32, 32, 115, 112, 111, 105, 108, 115, 102, 97, 108, 108, 115, 32, 103, 101, 116, 115, 32, 32, 100, 101, 112, 116, 104, 32, 115, 104, 105, 102, 116, 32, 102, 97, 114, 32, 32, 32, 111, 112, 101, 110, 32, 32, 108, 105, 116, 32, 32, 32, 105, 102, 32, 32, 32, 32, 111, 114, 32, 32, 32, 32, 97, 110, 100, 32, 32, 32, 110, 111, 116, 32, 32, 32, 97, 108, 108, 32, 32, 32, 109, 105, 110, 32, 32, 32, 109, 97, 120, 32, 32, 32]
def dk_SS (A : Nat → Prop) (U : State) (H : Heap) : Prop := va_Z "java/lang/String" "COMPACT_STRINGS" "Z" (.int 1) A U H ∧ (∃ r : Value, va_Z "jdk/internal/util/Preconditions" "SIOOBE_FORMATTER" "Ljava/util/function/BiFunction;" r A U H ∧ (r = .null ∨ ∃ q : Nat, r = .ref q)) ∧ ∃ a v : Nat, vk_R RX9 65 dk_tx a U ∧ vk_S 1 [162] [dk_by] (fun _ => a) (fun _ => v) A U H
def dk_ST (A : Nat → Prop) (U : State) (H : Heap) : Prop := (∃ t : Nat, va_Z "DarkMine" "SIDES" "[I" (.ref t) A U H ∧ va_T .int t 4 dk_sides A U H) ∧ dk_SS A U H
theorem dk_ST.same {A : Nat → Prop} {u U : State} {H : Heap} (hv : U.vm = u.vm) (h : dk_ST A u H) : dk_ST A U H := by
  have hvm : u.vm.Alike U.vm := by rw [hv]; exact Vm.Alike.refl u.vm
  obtain ⟨⟨t, h1, h2⟩, h3, ⟨r, h4, h7⟩, a, v, h5, h6⟩ := h
  exact ⟨⟨t, va_Z.moved hvm h1, va_T.moved hvm h2⟩, va_Z.moved hvm h3, ⟨r, va_Z.moved hvm h4, h7⟩, a, v, vk_R.same hv h5, vk_S.moved hvm h6⟩
theorem dk_ST.to {A B : Nat → Prop} {s U : State} {H : Heap} {locs : List Loc} (hW : s.WarmedH U.vm) (hS : va_S A s.heap H locs) (hAB : ∀ q, B q → A q) (h : dk_ST A s s.heap) : dk_ST B U H := by
  have hvm := hW.alike
  obtain ⟨⟨t, h1, h2⟩, h3, ⟨r, h4, h7⟩, a, v, h5, h6⟩ := h
  exact ⟨⟨t, ((va_Z.moved hvm h1).kept hS.2.1).narrow hAB, ((va_T.moved hvm h2).kept hS.2.1).narrow hAB⟩, ((va_Z.moved hvm h3).kept hS.2.1).narrow hAB, ⟨r, ((va_Z.moved hvm h4).kept hS.2.1).narrow hAB, h7⟩, a, v, vk_R.warm hW h5, ((vk_S.moved hvm h6).kept hS.2.1).narrow hAB⟩
/-- a method's start: its world, and the tables -/
def dk_Pc (g : Nat → ClassId) (D : va_G) (W : va_W) (sz : Nat) (av : List Value) : Array Value → State → Prop := va_Pc av (fun U => U.heap.size = sz ∧ va_P D vwCl W U.heap ∧ dk_K g D U ∧ va_D (fun _ => True) W ∧ dk_ST (va_A W sz) U U.heap)
/-- the world behind a method -/
def dk_B {S : Type} (D : va_G) (A : Nat → Prop) (w1 : S → va_W) : S → State → Prop := fun u t => va_P D vwCl (w1 u) t.heap ∧ va_D A (w1 u)
theorem dk_blind {g : Nat → ClassId} {D : va_G} {W : va_W} {sz : Nat} {av : List Value} : FrameBlind (dk_Pc g D W sz av) := by
  intro a U gf mk q
  obtain ⟨q0, q1, qP, qK, qD, qS⟩ := q
  exact ⟨q0, q1, qP, ⟨va_K.moved (u := U) (U := U.calling gf mk a) (Vm.Alike.refl U.vm) qK.1, dk_N.same (u := U) (U := U.calling gf mk a) rfl qK.2⟩, qD, dk_ST.same (u := U) (U := U.calling gf mk a) rfl qS⟩
set_option maxHeartbeats 4000000 in
/-- a method's contract out of its walk -/
theorem dk_met {l : Launch} {y : MethodName} {ws ws' : List Cond} {rm : Room} {g : Nat → ClassId} {D : va_G} {W0 : va_W} {sz : Nat} {av : List Value} {Qc : Array Value → State → Outcome → State → Prop} {mc ms : Nat} {cc : ByteArray} {maxL : Nat} {ret : Option FieldType}
    (hy : plainName y.cls = true) (hw : ws = Cond.code y cc maxL ret :: ws') (hav : (lg_sl av).length ≤ maxL)
    (body : ∀ (p : Program) (e : Env) (s : State) (m : MethodId) (args : Array Value) (below : List Frame) (meth : Method) (c : Code), args = av.toArray → p.tables.exec = Jvm.exec → c.code = cc → meth.sig.returnType = ret → c.maxLocals = maxL → (∀ w ∈ ws, w.before args s = true) → s.vm.findClass y.cls = some m.cls → meth.locks = false → meth.name = y.name →
      va_P D vwCl W0 s.heap → dk_K g D s → va_D (va_A W0 s.heap.size) W0 → va_S (va_A W0 s.heap.size) s.heap s.heap [] → (∀ q : Nat, s.heap.size ≤ q → va_A W0 s.heap.size q) → dk_ST (va_A W0 s.heap.size) s s.heap → s.heap.size = sz → ∀ ls : Array Slot, lv_has ls maxL (lv_args 0 av) →
      W p l e rm s m args below meth c s.heap [] 0 0 (MQ below Qc args s mc ms (va_A W0 s.heap.size)) (F0 m 0 ls [])) : Met l y ws rm (dk_Pc g D W0 sz av) Qc mc ms (va_A W0 sz) := by
  refine Met.ofW (cc := cc) (maxL := maxL) (ret := ret) hy hw ?_
  intro p e s m args below meth c s₁ B hml hv
  obtain ⟨rfl, hsz, hP, hK, hD0, hST⟩ := hv
  have hl := lv_entry av (n := maxL) hav
  have hE : entryFrame m av.toArray maxL = F0 m 0 ((lg_sl av ++ List.replicate (maxL - (lg_sl av).length) Slot.unset).toArray) [] := lg_entry_eq ..
  rw [hE]
  subst hsz
  exact body p e s m _ below meth c rfl B.exec B.bytes B.returns hml (atoms_spec (ws := ws) B.pre) (findClass_of_methodNamed B.named) B.notSynchronized (name_of_methodNamed B.named B.method).1 hP hK hD0.self va_S.rf (fun q h => Or.inr h) hST rfl _ hl

theorem dk_arr (cA : ClassId) (n : Nat) {F G : Nat → Value} (h : ∀ j, j < n → F j = G j) : arrV cA n F = arrV cA n G := by
  have e : (fun j : Fin n => F j.val) = fun j => G j.val := funext fun j => h j.1 j.2
  unfold arrV
  rw [e]
theorem dk_fm {α : Type} {f : Nat → Option α} : ∀ {is : List Nat} {w : List α}, is.map f = w.map some → is.filterMap f = w
  | [], [], _ => rfl
  | [], _ :: _, h => by simp at h
  | _ :: _, [], h => by simp at h
  | i :: is, a :: w, h => by
    simp only [List.map_cons, List.cons.injEq] at h
    rw [List.filterMap_cons, h.1, dk_fm h.2]
section DKC
variable {p : Program} {l : Launch} {e : Env} {R : Room} {s : State} {m : MethodId} {args : Array Value} {below : List Frame} {meth : Method} {c : Code} {H : Heap} {locs : List Loc} {cells slots : Nat} {Q : State → Prop}
variable {cc : ByteArray} {pc : Nat} {ls : Array Slot} {rest : List Value} {D : va_G} {A : Nat → Prop} {a : Nat} {ws : va_W} {H0 : Heap} {g : Nat → ClassId}
/-- a callee's start: its cells out of the caller's -/
theorem dk_preS {wc : va_W} {As : List Value} (K : dk_K g D s) (ST : dk_ST A s s.heap) (hP : va_P D vwCl ws H) (hD : va_D A ws) (hS : va_S A s.heap H locs) (hA : ∀ q, s.heap.size ≤ q → A q) (isC : List Nat) (hC : isC.map (fun i => ws[i]?) = wc.map some) (hn : va_nd isC = true) : PreS s H (dk_Pc g D wc H.size As) As :=
  ⟨dk_blind, fun U hU hW => ⟨rfl, by rw [hU], by rw [hU]; exact hP.sub isC (dk_fm hC), K.warm hW, (hD.sub isC hn hC).weaken (fun _ _ _ _ => trivial), by rw [hU]; exact dk_ST.to hW hS (va_free hD hS hA isC hC) ST⟩⟩
theorem dk_preV {wc : va_W} {As : List Value} {b ci : Nat} {fs : List Value} {q : vw_C} (K : dk_K g D s) (ST : dk_ST A s s.heap) (hP : va_P D vwCl ws H) (hD : va_D A ws) (hS : va_S A s.heap H locs) (hA : ∀ q, s.heap.size ≤ q → A q) (isC : List Nat) (hC : isC.map (fun i => ws[i]?) = wc.map some) (hn : va_nd isC = true) (q0 : Nat) (he : ws[q0]? = some (b, .inr (ci, fs))) (hc : vwCl[ci]? = some q) : PreV s H q.1 b (dk_Pc g D wc H.size (.ref b :: As)) As :=
  ⟨dk_blind, va_recv K.1 hP hc he, fun U hU hW => ⟨rfl, by rw [hU], by rw [hU]; exact hP.sub isC (dk_fm hC), K.warm hW, (hD.sub isC hn hC).weaken (fun _ _ _ _ => trivial), by rw [hU]; exact dk_ST.to hW hS (va_free hD hS hA isC hC) ST⟩⟩
variable {st0 : List Value} {av : Array Value} {mc ms : Nat}
theorem dk_backi {S : Type} {post : Int32 → S → Prop} {w1 : S → va_W} {wc wr : va_W} (hP : va_P D vwCl ws H) (hD : va_D A ws) (hS : va_S A H0 H locs) (hA : ∀ q, H0.size ≤ q → A q) (isC isR : List Nat) (hC : isC.map (fun i => ws[i]?) = wc.map some) (hR : isR.map (fun i => ws[i]?) = wr.map some) (hn : va_nd isR = true) (hdis : ∀ i ∈ isR, i ∉ isC)
    (hr : va_Run p l e R s m args below meth c H locs cells slots mc ms (F0 m pc ls st0) rest (va_Qi post (dk_B D (va_A wc H.size) w1) (va_A wc H.size) av) (va_A wc H.size))
    (kk : ∀ (r : Int32) (u : S) (H1 : Heap) (locs1 : List Loc), post r u → va_P D vwCl (wr ++ w1 u) H1 → va_D A (wr ++ w1 u) → va_S A H0 H1 locs1 → W p l e R s m args below meth c H1 locs1 (cells + mc) (slots + ms) Q (F0 m (pc + 3) ls (.int r :: rest))) : W p l e R s m args below meth c H locs cells slots Q (F0 m pc ls st0) := by
  have hF := va_free (wc := wc) hD hS hA isC hC
  refine va_calli hr hS (fun q _ h => hF q h) hF (fun r u t H1 locs1 ht hvm hw hB hz1 hk1 hS1 => ?_)
  obtain ⟨hP1, hD1⟩ := hB
  rw [ht] at hP1
  obtain ⟨hP2, hD2⟩ := va_join (wr := wr) (w1 := w1 u) hP hD isC isR hC hR hn hdis hk1 hF hP1 hD1
  exact kk r u H1 locs1 hw hP2 hD2 hS1
theorem dk_backv {S : Type} {post : S → Prop} {w1 : S → va_W} {wc wr : va_W} (hP : va_P D vwCl ws H) (hD : va_D A ws) (hS : va_S A H0 H locs) (hA : ∀ q, H0.size ≤ q → A q) (isC isR : List Nat) (hC : isC.map (fun i => ws[i]?) = wc.map some) (hR : isR.map (fun i => ws[i]?) = wr.map some) (hn : va_nd isR = true) (hdis : ∀ i ∈ isR, i ∉ isC)
    (hr : va_Run p l e R s m args below meth c H locs cells slots mc ms (F0 m pc ls st0) rest (va_Qv post (dk_B D (va_A wc H.size) w1) (va_A wc H.size) av) (va_A wc H.size))
    (kk : ∀ (u : S) (H1 : Heap) (locs1 : List Loc), post u → va_P D vwCl (wr ++ w1 u) H1 → va_D A (wr ++ w1 u) → va_S A H0 H1 locs1 → W p l e R s m args below meth c H1 locs1 (cells + mc) (slots + ms) Q (F0 m (pc + 3) ls rest)) : W p l e R s m args below meth c H locs cells slots Q (F0 m pc ls st0) := by
  have hF := va_free (wc := wc) hD hS hA isC hC
  refine va_callv hr hS (fun q _ h => hF q h) hF (fun u t H1 locs1 ht hvm hw hB hz1 hk1 hS1 => ?_)
  obtain ⟨hP1, hD1⟩ := hB
  rw [ht] at hP1
  obtain ⟨hP2, hD2⟩ := va_join (wr := wr) (w1 := w1 u) hP hD isC isR hC hR hn hdis hk1 hF hP1 hD1
  exact kk u H1 locs1 hw hP2 hD2 hS1
/-- the ends -/
theorem dk_iret {S : Type} {post : Int32 → S → Prop} {w1 : S → va_W} {v : Int32} {ty : FieldType} (hx : p.tables.exec = Jvm.exec) (hb : c.code = cc) (hr : meth.sig.returnType = some ty) (hlocks : meth.locks = false) (hn : narrow ty (.int v) = .int v) (hP : va_P D vwCl ws H) (hD : va_D A ws) (hS : va_S A s.heap H locs) (u : S) (is : List Nat) (hi : is.map (fun i => ws[i]?) = (w1 u).map some) (hnd : va_nd is = true) (hp : post v u) (hdg : decode cc pc = .ok (.ireturn, 1)) : W p l e R s m args below meth c H locs cells slots (MQ below (va_Qi post (dk_B D A w1) A) args s cells slots A) (F0 m pc ls [.int v]) :=
  W.zret hx hb hr hn (fun t ht hW => ⟨⟨v, u, rfl, hp, by rw [ht]; exact hP.sub is (dk_fm hi), hD.sub is hnd hi⟩, hS.F ht⟩) hS.2.2 hdg hlocks
theorem dk_vret {S : Type} {post : S → Prop} {w1 : S → va_W} (hx : p.tables.exec = Jvm.exec) (hb : c.code = cc) (hr : meth.sig.returnType = none) (hlocks : meth.locks = false) (hP : va_P D vwCl ws H) (hD : va_D A ws) (hS : va_S A s.heap H locs) (u : S) (is : List Nat) (hi : is.map (fun i => ws[i]?) = (w1 u).map some) (hnd : va_nd is = true) (hp : post u) (hdg : decode cc pc = .ok (.return_, 1)) : W p l e R s m args below meth c H locs cells slots (MQ below (va_Qv post (dk_B D A w1) A) args s cells slots A) (F0 m pc ls []) :=
  W.vret hx hb hr (fun t ht hW => ⟨⟨u, rfl, hp, by rw [ht]; exact hP.sub is (dk_fm hi), hD.sub is hnd hi⟩, hS.F ht⟩) hS.2.2 hdg hlocks
theorem dk_in {i : Int32} {n : Nat} (h : (!decide (i < 0) && decide (i.toNatClampNeg < n)) = true) : vp_in i n := by
  simp only [Bool.and_eq_true, Bool.not_eq_true', decide_eq_true_eq, decide_eq_false_iff_not] at h
  rintro (q | q)
  · exact h.1 q
  · exact Nat.not_le.mpr h.2 q
theorem dk_iald (hx : p.tables.exec = Jvm.exec) (hb : c.code = cc) (K : dk_K g D s) (hP : va_P D vwCl ws H) (q0 : Nat) {n : Nat} {f : Nat → Int32} (ha : ws[q0]? = some (a, .inl (g 0, n, .inl f))) {i v : Int32} (hin : vp_in i n) (hv : f i.toNatClampNeg = v) (hdg : decode cc pc = .ok (.iaload, 1))
    (kk : W p l e R s m args below meth c H locs cells slots Q (F0 m (pc + 1) ls (.int v :: rest))) : W p l e R s m args below meth c H locs cells slots Q (F0 m pc ls (.int i :: .ref a :: rest)) := by
  subst hv
  exact va_iald hx hb K.1 hP q0 0 ha rfl hin hdg kk
theorem dk_iast (hx : p.tables.exec = Jvm.exec) (hb : c.code = cc) (K : dk_K g D s) (hP : va_P D vwCl ws H) (hD : va_D A ws) (hS : va_S A H0 H locs) (q0 : Nat) {n : Nat} {f : Nat → Int32} (ha : ws[q0]? = some (a, .inl (g 0, n, .inl f))) {i : Int32} {x : Int32} (f' : Nat → Int32) (hf : ∀ j, j < n → upd f i.toNatClampNeg x j = f' j) (hin : vp_in i n) (hdg : decode cc pc = .ok (.iastore, 1))
    (kk : ∀ (H1 : Heap) (locs1 : List Loc), va_P D vwCl (ws.set q0 (a, .inl (g 0, n, .inl f'))) H1 → va_D A (ws.set q0 (a, .inl (g 0, n, .inl f'))) → va_S A H0 H1 locs1 → W p l e R s m args below meth c H1 locs1 cells slots Q (F0 m (pc + 1) ls rest)) : W p l e R s m args below meth c H locs cells slots Q (F0 m pc ls (.int x :: .int i :: .ref a :: rest)) := by
  refine va_iast hx hb K.1 hP hD hS q0 0 ha rfl hin hdg (fun H1 locs1 hP1 hD1 hS1 => kk H1 locs1 (fun k q hk => ?_) (hD.set ha) hS1)
  have hl := (List.getElem?_eq_some_iff.mp ha).1
  by_cases hkp : k = q0
  · subst hkp
    rw [List.getElem?_set_self hl] at hk
    cases hk
    have h1 := hP1 k (a, .inl (g 0, n, .inl (upd f i.toNatClampNeg x))) (by rw [List.getElem?_set_self hl])
    have h2 : H1[a]? = some (vp_cell (g 0) (n, .inl (upd f i.toNatClampNeg x))) := h1
    show H1[a]? = some (vp_cell (g 0) (n, .inl f'))
    rw [h2, vp_cell_i, vp_cell_i]
    exact congrArg some (dk_arr (g 0) n (fun j hj => by rw [hf j hj]))
  · rw [List.getElem?_set_ne (Ne.symm hkp)] at hk
    exact hP1 k q (by rw [List.getElem?_set_ne (Ne.symm hkp)]; exact hk)
theorem dk_newa (hx : p.tables.exec = Jvm.exec) (hb : c.code = cc) (k : Nat) {atype : ArrayType} {ty : FieldType} (hk : (dk_tys g)[k]? = some (g k, ty)) (hty : newarray.typeOf atype = ty) (harr : (Cond.arrayClass ty).before args s = true) (K : dk_K g D s) (hP : va_P D vwCl ws H) (hD : va_D A ws) (hS : va_S A H0 H locs) (hA : ∀ q, H0.size ≤ q → A q)
    {n : Int32} {N' : Nat} {a0 : vp_A} (ha : ∀ cA : ClassId, vp_cell cA a0 = arrV cA N' (fun _ => defaultValue ty)) (hn : ¬ n < 0) (hN : n.toNatClampNeg = N') (hbytes : N' * componentBytes ty ≤ 536870912) (hcells : cells + 1 ≤ R.cells) (hslots : slots + N' ≤ R.slots) (hdg : decode cc pc = .ok (.newarray atype, 2))
    (kk : ∀ (q : Nat) (H1 : Heap), va_P D vwCl (ws ++ [(q, .inl (g k, a0))]) H1 → va_D A (ws ++ [(q, .inl (g k, a0))]) → va_S A H0 H1 locs →
      W p l e R s m args below meth c H1 locs (cells + 1) (slots + N') Q (F0 m (pc + 2) ls (.ref q :: rest))) : W p l e R s m args below meth c H locs cells slots Q (F0 m pc ls (.int n :: rest)) := by
  refine va_newa hx hb (by rw [hty]; exact harr) hty K.1 hP hD hS hA ha hn hN hbytes hcells hslots hdg (fun q cA H1 hK1 hP1 hD1 hS1 => ?_)
  have e1 := (hK1.2 (dk_tys g).length (cA, ty) (by rw [List.getElem?_append_right (Nat.le_refl _), Nat.sub_self]; rfl)).2
  have e2 := (K.1.2 k _ hk).2
  have hc : cA = g k := by
    match k, hk with
    | 0, hk => cases hk; exact Option.some.inj (e1.symm.trans e2)
    | 1, hk => cases hk; exact Option.some.inj (e1.symm.trans e2)
    | 2, hk => cases hk; exact Option.some.inj (e1.symm.trans e2)
    | 3, hk => cases hk; cases atype <;> cases hty
    | 4, hk => cases hk; exact Option.some.inj (e1.symm.trans e2)
    | k + 5, hk => simp [dk_tys] at hk
  subst hc
  exact kk q H1 hP1 hD1 hS1
end DKC
/-! numbers: an int beside a literal -/
theorem dk_ltc {x c : Int32} {k : Int} (hk : c.toInt = k) (h : x < c) : x.toInt < k := by subst hk; exact Int32.lt_iff_toInt_lt.mp h
theorem dk_nltc {x c : Int32} {k : Int} (hk : c.toInt = k) (h : ¬ x < c) : k ≤ x.toInt := by subst hk; exact Int.not_lt.mp (fun q => h (Int32.lt_iff_toInt_lt.mpr q))
theorem dk_gtc {x c : Int32} {k : Int} (hk : c.toInt = k) (h : c < x) : k < x.toInt := by subst hk; exact Int32.lt_iff_toInt_lt.mp h
theorem dk_ngtc {x c : Int32} {k : Int} (hk : c.toInt = k) (h : ¬ c < x) : x.toInt ≤ k := by subst hk; exact Int.not_lt.mp (fun q => h (Int32.lt_iff_toInt_lt.mpr q))
theorem dk_lec {x c : Int32} {k : Int} (hk : c.toInt = k) (h : x ≤ c) : x.toInt ≤ k := by subst hk; exact Int32.le_iff_toInt_le.mp h
theorem dk_nlec {x c : Int32} {k : Int} (hk : c.toInt = k) (h : ¬ x ≤ c) : k < x.toInt := by subst hk; exact Int.not_le.mp (fun q => h (Int32.le_iff_toInt_le.mpr q))
theorem dk_gec {x c : Int32} {k : Int} (hk : c.toInt = k) (h : c ≤ x) : k ≤ x.toInt := by subst hk; exact Int32.le_iff_toInt_le.mp h
theorem dk_ngec {x c : Int32} {k : Int} (hk : c.toInt = k) (h : ¬ c ≤ x) : x.toInt < k := by subst hk; exact Int.not_le.mp (fun q => h (Int32.le_iff_toInt_le.mpr q))
theorem dk_eqc {x c : Int32} {k : Int} (hk : c.toInt = k) (h : x = c) : x.toInt = k := by subst hk; rw [h]
theorem dk_neqc {x c : Int32} {k : Int} (hk : c.toInt = k) (h : ¬ x = c) : x.toInt ≠ k := by subst hk; exact fun q => h (Int32.toInt_inj.mp q)
/-- the same, from the number back -/
theorem dk_ltp {x c : Int32} {k : Int} (hk : c.toInt = k) (h : x.toInt < k) : x < c := by subst hk; exact Int32.lt_iff_toInt_lt.mpr h
theorem dk_lep {x c : Int32} {k : Int} (hk : c.toInt = k) (h : x.toInt ≤ k) : x ≤ c := by subst hk; exact Int32.le_iff_toInt_le.mpr h
theorem dk_gtp {x c : Int32} {k : Int} (hk : c.toInt = k) (h : k < x.toInt) : c < x := by subst hk; exact Int32.lt_iff_toInt_lt.mpr h
theorem dk_gep {x c : Int32} {k : Int} (hk : c.toInt = k) (h : k ≤ x.toInt) : c ≤ x := by subst hk; exact Int32.le_iff_toInt_le.mpr h
theorem dk_eqp {x c : Int32} {k : Int} (hk : c.toInt = k) (h : x.toInt = k) : x = c := Int32.toInt_inj.mp (h.trans hk.symm)
theorem dk_nI_toInt {n : Nat} (h : n < 2 ^ 31) : (nI n).toInt = (n : Int) := nI_toInt h
theorem dk_addc {a b : Nat} {c : Int32} (hc : nI b = c) : nI a + c = nI (a + b) := by subst hc; exact nI_add a b
section DKO
variable {p : Program} {l : Launch} {e : Env} {R : Room} {s : State} {m : MethodId} {args : Array Value} {below : List Frame} {meth : Method} {c : Code} {H : Heap} {locs : List Loc} {cells slots : Nat} {Q : State → Prop}
variable {cc : ByteArray} {pc : Nat} {ls : Array Slot} {rest : List Value}
/-- the number on top, by another word -/
theorem dk_top {x y : Int32} (h : x = y) (k : W p l e R s m args below meth c H locs cells slots Q (F0 m pc ls (.int y :: rest))) : W p l e R s m args below meth c H locs cells slots Q (F0 m pc ls (.int x :: rest)) := by subst h; exact k
theorem dk_topl {x y : Int64} (h : x = y) (k : W p l e R s m args below meth c H locs cells slots Q (F0 m pc ls (.long y :: rest))) : W p l e R s m args below meth c H locs cells slots Q (F0 m pc ls (.long x :: rest)) := by subst h; exact k
end DKO
/-! a row's contents by another word -/
def dk_fl (f : Nat → Int32) (v : Int32) (i : Nat) : Nat → Int32 := fun j => if j < i then v else f j
theorem dk_fl_0 (f : Nat → Int32) (v : Int32) : dk_fl f v 0 = f := by funext j; simp [dk_fl]
theorem dk_fl_s (f : Nat → Int32) (v : Int32) (i j : Nat) : upd (dk_fl f v i) i v j = dk_fl f v (i + 1) j := by
  unfold upd dk_fl
  by_cases h : j = i
  · subst h; simp
  · rw [if_neg h]
    by_cases h2 : j < i
    · rw [if_pos h2, if_pos (by omega)]
    · rw [if_neg h2, if_neg (by omega)]
theorem dk_recell {D : va_G} {ws : va_W} {H : Heap} {cA : ClassId} {a n : Nat} {f : Nat → Int32} (hP : va_P D vwCl ws H) (q0 : Nat) (ha : ws[q0]? = some (a, .inl (cA, n, .inl f))) (f' : Nat → Int32) (hf : ∀ j, j < n → f j = f' j) : va_P D vwCl (ws.set q0 (a, .inl (cA, n, .inl f'))) H := by
  intro k q hk
  have hl := (List.getElem?_eq_some_iff.mp ha).1
  by_cases hkp : k = q0
  · subst hkp
    rw [List.getElem?_set_self hl] at hk
    cases hk
    have h2 : H[a]? = some (vp_cell cA (n, .inl f)) := hP k _ ha
    show H[a]? = some (vp_cell cA (n, .inl f'))
    rw [h2, vp_cell_i, vp_cell_i]
    exact congrArg some (dk_arr cA n (fun j hj => by rw [hf j hj]))
  · rw [List.getElem?_set_ne (Ne.symm hkp)] at hk
    exact hP k q hk
/-! new int[n][k], of the model itself: the outer row, then the inner ones, one behind another -/
section DKW
variable {E : CtlPost} {e : Env} {d : Bool} {acts : List Action} {s : State}
theorem dk_make1 {comp cc : ClassId} {kC : Class} {k : Int32} (hC : s.vm.classes[comp]? = some kC) (hkC : kC.kind = .array cc .int) (hk : ¬ k < 0) (l2 : ¬ k.toNatClampNeg > e.platform.arrayLengthLimit) (b2 : ¬ k.toNatClampNeg * 4 > e.platform.maxHeapBytes)
    (r1 : s.heap.size < e.platform.maxCells) (r2 : s.slotsUsed + k.toNatClampNeg ≤ e.platform.maxSlots) {Q : Addr → Pre} (hq : ∀ acts', Q s.heap.size d acts' (s.pushCell { cls := comp, slots := Array.replicate k.toNatClampNeg (.int 0) })) : wp (multianewarray.make comp [k]) Q E e d acts s := by
  rw [multianewarray.make]
  simp only [wp_bind', W.ite, hk, if_false, wp_pure', W.theClass, hC, hkC, Option.some.injEq, exists_eq_left']
  exact W.newArray_of hC hkC l2 b2 r1 r2 rfl hq
theorem dk_make2 {c comp cc : ClassId} {kA kC : Class} {n k : Int32} {N M : Nat} (hA : s.vm.classes[c]? = some kA) (hkA : kA.kind = .array comp (.array .int)) (hC : s.vm.classes[comp]? = some kC) (hkC : kC.kind = .array cc .int) (hn : ¬ n < 0) (hk : ¬ k < 0) (hN : n.toNatClampNeg = N) (hM : k.toNatClampNeg = M)
    (l1 : ¬ N > e.platform.arrayLengthLimit) (l2 : ¬ M > e.platform.arrayLengthLimit) (b1 : ¬ N * 4 > e.platform.maxHeapBytes) (b2 : ¬ M * 4 > e.platform.maxHeapBytes) (r1 : s.heap.size + 1 + N ≤ e.platform.maxCells) (r2 : s.slotsUsed + N + N * M ≤ e.platform.maxSlots)
    (I : Nat → State → Prop) (h0 : I 0 (s.pushCell { cls := c, slots := Array.replicate N .null }))
    (hf : ∀ (i : Nat) (u : State), i ≤ N → I i u → u.vm = s.vm ∧ u.heap.size = s.heap.size + 1 + i ∧ u.slotsUsed = s.slotsUsed + N + i * M ∧ ∃ o : Cell, u.heap[s.heap.size]? = some o ∧ o.cls = c ∧ o.vm = .none ∧ o.slots.size = N)
    (hs : ∀ (i : Nat) (u : State) (o : Cell), i < N → I i u → u.heap[s.heap.size]? = some o → I (i + 1) ((u.pushCell { cls := comp, slots := Array.replicate M (.int 0) }).setCell s.heap.size (o.setSlot i (.ref u.heap.size))))
    {Q : Addr → Pre} (hq : ∀ (u : State) (d' : Bool) (acts' : List Action), I N u → Q s.heap.size d' acts' u) : wp (multianewarray.make c [n, k]) Q E e d acts s := by
  subst hN
  subst hM
  have hfind : ([k].find? (· < 0)) = none := by simp [hk]
  rw [multianewarray.make]
  simp only [wp_bind', W.ite, hn, if_false, wp_pure', W.theClass, hA, hkA, Option.some.injEq, exists_eq_left']
  refine W.newArray_of hA hkA l1 b1 (by omega) (by have := Nat.zero_le (n.toNatClampNeg * k.toNatClampNeg); omega) rfl (fun acts1 => ?_)
  simp only [hfind]
  rw [ite_self, wp_bind', Std.Legacy.Range.forIn_eq_forIn_range']
  have hsz : ([:n.toNatClampNeg] : Std.Legacy.Range).size = n.toNatClampNeg := by simp [Std.Legacy.Range.size]
  rw [hsz]
  show wp (forIn (List.range' 0 n.toNatClampNeg 1) PUnit.unit _) _ E e d acts1 _
  refine wp_forIn_inv (fun todo u => ∃ i, i + todo.length = n.toNatClampNeg ∧ todo = List.range' i todo.length ∧ I i u) _ _ ⟨0, by simp, by simp, h0⟩ ?_ ?_
  · rintro x todo u d2 acts2 Q2 ⟨i, hi, hl, hI⟩ next
    have hlt : i < n.toNatClampNeg := by simp only [List.length_cons] at hi; omega
    rw [List.length_cons, List.range'_succ] at hl
    obtain ⟨rfl, hl2⟩ := List.cons.inj hl
    obtain ⟨f1, f2, f3, o, o1, o2, o3, o4⟩ := hf x u (Nat.le_of_lt hlt) hI
    have hmul : x * k.toNatClampNeg + k.toNatClampNeg ≤ n.toNatClampNeg * k.toNatClampNeg := by
      have h := Nat.mul_le_mul_right k.toNatClampNeg (show x + 1 ≤ n.toNatClampNeg from hlt)
      rwa [Nat.succ_mul] at h
    simp only [wp_bind']
    refine dk_make1 (by rw [f1]; exact hC) hkC hk l2 b2 (by rw [f2]; omega) (by rw [f3]; omega) (fun acts3 => ?_)
    have hin : s.heap.size < u.heap.size := by rw [f2]; omega
    simp only [wp_bind', W.writeLoc, wp_pure']
    refine ⟨o, by rw [State.heap_pushCell_of_lt (h := hin)]; exact o1, by rw [o3]; simp, by rw [o4]; exact hlt, ?_, next _ _ _ ⟨x + 1, ?_, hl2, hs x u o hlt hI o1⟩⟩
    · rw [o2, o3]
      simp [State.fitsSlot, State.slotType?, f1, hA, hkA, fits]
    · simp only [List.length_cons] at hi
      omega
  · rintro u d2 acts2 ⟨i, hi, -, hI⟩
    simp only [List.length_nil, Nat.add_zero] at hi
    subst hi
    simp only [wp_pure']
    exact hq _ _ _ hI
end DKW
/-- the model's state with the outer row and i inner ones -/
def dk_rows (c comp : ClassId) (N M : Nat) (s : State) : Nat → State
  | 0 => s.pushCell { cls := c, slots := Array.replicate N .null }
  | i + 1 => ((dk_rows c comp N M s i).pushCell { cls := comp, slots := Array.replicate M (.int 0) }).setCell s.heap.size (((dk_rows c comp N M s i).heap[s.heap.size]?.getD { cls := c, slots := #[] }).setSlot i (.ref (dk_rows c comp N M s i).heap.size))
theorem dk_rows_facts (c comp : ClassId) (N M : Nat) (s : State) : ∀ i : Nat, (dk_rows c comp N M s i).vm = s.vm ∧ (dk_rows c comp N M s i).heap.size = s.heap.size + 1 + i ∧ (dk_rows c comp N M s i).slotsUsed = s.slotsUsed + N + i * M ∧ (∃ o : Cell, (dk_rows c comp N M s i).heap[s.heap.size]? = some o ∧ o.cls = c ∧ o.vm = .none ∧ o.slots.size = N) ∧ ∀ q : Nat, q < s.heap.size → (dk_rows c comp N M s i).heap[q]? = s.heap[q]?
  | 0 => ⟨rfl, by simp [dk_rows], by simp [dk_rows], ⟨_, State.heap_pushCell_size .., rfl, rfl, by simp⟩, fun q hq => State.heap_pushCell_of_lt (h := hq) ..⟩
  | i + 1 => by
    obtain ⟨h1, h2, h3, ⟨o, o1, o2, o3, o4⟩, h5⟩ := dk_rows_facts c comp N M s i
    have hin : s.heap.size < (dk_rows c comp N M s i).heap.size := by rw [h2]; omega
    have hb : ((dk_rows c comp N M s i).pushCell { cls := comp, slots := Array.replicate M (.int 0) }).heap[s.heap.size]? = some o := by rw [State.heap_pushCell_of_lt (h := hin)]; exact o1
    refine ⟨by simp [dk_rows, h1], ?_, ?_, ⟨_, State.heap_setCell_self hb, ?_, ?_, ?_⟩, fun q hq => ?_⟩
    · simp [dk_rows, State.setCell, h2]; omega
    · simp [dk_rows, h3, Nat.succ_mul]; omega
    · rw [o1]; simp [Cell.setSlot, o2]
    · rw [o1]; simp [Cell.setSlot, o3]
    · rw [o1]; simp [Cell.setSlot, o4]
    · have hq2 : q < (dk_rows c comp N M s i).heap.size := by
        rw [h2]
        omega
      show (((dk_rows c comp N M s i).pushCell _).setCell s.heap.size _).heap[q]? = _
      rw [State.heap_setCell_other (Nat.ne_of_gt hq), State.heap_pushCell_of_lt (h := hq2)]
      exact h5 q hq
theorem dk_rows_top (c comp : ClassId) (N M : Nat) (s : State) (f : JFrame) : ∀ i : Nat, dk_rows c comp N M (s.setTop f) i = (dk_rows c comp N M s i).setTop f
  | 0 => rfl
  | i + 1 => by simp only [dk_rows, dk_rows_top c comp N M s f i, State.heap_setTop, State.pushCell_setTop, State.setCell_setTop]
section DKS
variable {p : Program} {l : Launch} {e : Env} {R : Room} {s : State} {m : MethodId} {args : Array Value} {below : List Frame} {meth : Method} {cd : Code} {T : State} {locs : List Loc} {cells slots : Nat}
theorem dk_rows_stand (X : Stand p l e R s m args below meth cd T locs cells slots) (c comp : ClassId) (N M : Nat) : ∀ i : Nat, ∃ L : List Loc, (∀ y ∈ L, y.base = T.heap.size) ∧ Stand p l e R s m args below meth cd (dk_rows c comp N M T i) (locs ++ L) (cells + 1 + i) (slots + N + i * M)
  | 0 => by
    have h := X.pushed { cls := c, slots := Array.replicate N .null }
    exact ⟨[], (fun y hy => absurd hy List.not_mem_nil), by simpa [dk_rows] using h⟩
  | i + 1 => by
    obtain ⟨L, hL, Xi⟩ := dk_rows_stand X c comp N M i
    obtain ⟨h1, h2, h3, ⟨o, o1, o2, o3, o4⟩, h5⟩ := dk_rows_facts c comp N M T i
    have hin : T.heap.size < (dk_rows c comp N M T i).heap.size := by rw [h2]; omega
    have hb : ((dk_rows c comp N M T i).pushCell { cls := comp, slots := Array.replicate M (.int 0) }).heap[T.heap.size]? = some o := by rw [State.heap_pushCell_of_lt (h := hin)]; exact o1
    have h := (Xi.pushed { cls := comp, slots := Array.replicate M (.int 0) }).stored hb i (.ref (dk_rows c comp N M T i).heap.size)
    refine ⟨L ++ [⟨T.heap.size, i⟩], fun y hy => ?_, ?_⟩
    · rcases List.mem_append.mp hy with q | q
      · exact hL y q
      · rw [List.mem_singleton.mp q]
    · have e1 : slots + N + (i + 1) * M = slots + N + i * M + M := by rw [Nat.succ_mul]; omega
      rw [← List.append_assoc, e1]
      have e2 : (dk_rows c comp N M T i).heap[T.heap.size]?.getD { cls := c, slots := #[] } = o := by rw [o1]; rfl
      show Stand p l e R s m args below meth cd (((dk_rows c comp N M T i).pushCell _).setCell T.heap.size (Cell.setSlot _ i _)) _ _ _
      rw [e2]
      simpa [Nat.add_assoc] using h
end DKS
section DKM
variable {p : Program} {l : Launch} {e : Env} {R : Room} {s : State} {m : MethodId} {args : Array Value} {below : List Frame} {meth : Method} {c : Code} {H : Heap} {locs : List Loc} {cells slots : Nat} {Q : State → Prop}
variable {cc : ByteArray} {pc : Nat} {ls : Array Slot} {rest : List Value} {D : va_G} {A : Nat → Prop} {ws : va_W} {H0 : Heap} {g : Nat → ClassId}
/-- new int[n][k], of which only the outer row's address is kept -/
theorem dk_mna (hx : p.tables.exec = Jvm.exec) (hb : c.code = cc) {own : String} {index : Nat} (hown : s.vm.findClass own = some m.cls) (hclink : (Cond.classLink own index "[[I").before args s = true) (harr : (Cond.arrayClass .int).before args s = true)
    (K : dk_K g D s) (hP : va_P D vwCl ws H) (hD : va_D A ws) (hS : va_S A H0 H locs) (hA : ∀ q, H0.size ≤ q → A q) {n k : Int32} {N' K' : Nat} (hn : ¬ n < 0) (hk : ¬ k < 0) (hN : n.toNatClampNeg = N') (hM : k.toNatClampNeg = K')
    (hb1 : N' * 4 ≤ 536870912) (hb2 : K' * 4 ≤ 536870912) (hcells : cells + (1 + N') ≤ R.cells) (hslots : slots + (N' + N' * K') ≤ R.slots) (hdg : decode cc pc = .ok (.multianewarray index 2, 4))
    (kk : ∀ (q : Nat) (H1 : Heap), va_P D vwCl ws H1 → va_D A ws → va_S A H0 H1 locs → W p l e R s m args below meth c H1 locs (cells + (1 + N')) (slots + (N' + N' * K')) Q (F0 m (pc + 4) ls (.ref q :: rest))) : W p l e R s m args below meth c H locs cells slots Q (F0 m pc ls (.int k :: .int n :: rest)) := by
  obtain ⟨cA, comp, cC, kA, kC, m1, m2, m3, m4, m5, m6⟩ := K.2.2.2
  subst hN
  subst hM
  subst hb
  intro T hT X
  have hpl : e.platform.magicAccessors = ({} : Platform).magicAccessors := by rw [X.admits.platform]
  obtain ⟨c0, hfc0, hcl⟩ := Cond.classLink_spec hown hclink e.platform hpl
  cases m1.symm.trans hfc0
  obtain ⟨hg1, hwarm, hready⟩ := State.classEntry (e := e) X.warmed hcl
  generalize T.vm.noted m.cls index (.cls cA) = vm1 at hg1 hwarm hready
  have hal : s.vm.Alike vm1 := hwarm.alike
  obtain ⟨kA1, a1, a2⟩ := hal.2.2 _ _ m2
  obtain ⟨kC1, a3, a4⟩ := hal.2.2 _ _ m4
  have X1 := X.noted hwarm
  obtain ⟨r1, r2⟩ := X.roomAbove hcells hslots
  obtain ⟨h1, h2, h3, h4, h5⟩ := dk_rows_facts cA comp n.toNatClampNeg k.toNatClampNeg (T.setVm vm1) n.toNatClampNeg
  obtain ⟨L, hL, XF⟩ := dk_rows_stand X1 cA comp n.toNatClampNeg k.toNatClampNeg n.toNatClampNeg
  have XD := XF.forget (fun y hy => by rw [hL y hy]; exact X.heapGrown)
  have hsz : (T.setVm vm1).heap.size = H.size := by rw [← hT]; rfl
  have hold : ∀ q : Nat, q < H.size → (dk_rows cA comp n.toNatClampNeg k.toNatClampNeg (T.setVm vm1) n.toNatClampNeg).heap[q]? = H[q]? := fun q hq => by
    rw [h5 q (by rw [hsz]; exact hq), ← hT]
    rfl
  obtain ⟨t, t1, t2⟩ := kk H.size (dk_rows cA comp n.toNatClampNeg k.toNatClampNeg (T.setVm vm1) n.toNatClampNeg).heap (hP.kept (fun i x hx => hold x.1 ((hP i x hx).lt))) hD ⟨Nat.le_trans hS.1 (by rw [h2, hsz]; omega), fun q q1 q2 => (hold q (Nat.lt_of_lt_of_le q1 hS.1)).trans (hS.2.1 q q1 q2), hS.2.2⟩ _ rfl (by simpa [Nat.add_assoc] using XD)
  refine ⟨t, ?_, t2⟩
  have l1 : ¬ n.toNatClampNeg > e.platform.arrayLengthLimit := by rw [Launch.admits_arrayLengthLimit X.admits]; omega
  have l2 : ¬ k.toNatClampNeg > e.platform.arrayLengthLimit := by rw [Launch.admits_arrayLengthLimit X.admits]; omega
  have l3 : ¬ n.toNatClampNeg * 4 > e.platform.maxHeapBytes := by rw [Launch.admits_maxHeapBytes X.admits]; omega
  have l4 : ¬ k.toNatClampNeg * 4 > e.platform.maxHeapBytes := by rw [Launch.admits_maxHeapBytes X.admits]; omega
  jvm_step X.here [hx, hdg]
  simp only [multianewarray.sem, wp_bind', W.resolveClassAt_links (State.method?_setTop (F0 m pc ls (.int k :: .int n :: rest)) X.here.top) hg1]
  rw [W.popN, if_neg (by decide)]
  refine ⟨F0 m pc ls (.int k :: .int n :: rest), State.topJava?_setTop' (s := T.setVm vm1) (F0 m pc ls (.int k :: .int n :: rest)) X.here.top, [.int n, .int k], rest, rfl, rfl, ?_⟩
  simp only [List.mapM_cons, List.mapM_nil, wp_bind', wp_pure']
  have eS : ((T.setTop (F0 m pc ls (.int k :: .int n :: rest))).setVm vm1).setTop (F0 m pc ls rest) = (T.setVm vm1).setTop (F0 m pc ls rest) := by
    show ((T.setVm vm1).setTop _).setTop _ = _
    rw [State.setTop_setTop]
  show wp (multianewarray.make cA [n, k]) _ _ _ _ _ (((T.setTop (F0 m pc ls (.int k :: .int n :: rest))).setVm vm1).setTop (F0 m pc ls rest))
  rw [eS]
  refine dk_make2 (c := cA) (comp := comp) (kA := kA1) (kC := kC1) (cc := cC) a1 (by rw [a2]; exact m3) a3 (by rw [a4]; exact m5) hn hk rfl rfl l1 l2 l3 l4 (by show T.heap.size + 1 + _ ≤ _; omega) (by show T.slotsUsed + _ + _ ≤ _; omega)
    (fun i u => u = dk_rows cA comp n.toNatClampNeg k.toNatClampNeg ((T.setVm vm1).setTop (F0 m pc ls rest)) i) rfl (fun i u _ hu => ?_) (fun i u o _ hu ho => ?_) (fun u d' acts' hu => ?_)
  · subst hu
    obtain ⟨f1, f2, f3, f4, -⟩ := dk_rows_facts cA comp n.toNatClampNeg k.toNatClampNeg ((T.setVm vm1).setTop (F0 m pc ls rest)) i
    exact ⟨f1, f2, f3, f4⟩
  · subst hu
    show _ = State.setCell _ _ (Cell.setSlot _ i _)
    rw [ho]
    rfl
  · subst hu
    rw [dk_rows_top]
    simp only [wp_bind', W.mark, W.pushRef, State.topJava?_setTop' _ XF.here.top, Option.some.injEq, exists_eq_left', State.setTop_setTop, State.heap_setTop]
    intro acts
    simp [jvm, XF.here.top]
    rw [hT]
    exact t1
end DKM
