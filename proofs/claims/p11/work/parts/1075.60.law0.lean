/-! 60.law0.lean.txt -/
theorem wB_1400 : Cond.instantiable RX11 13 ∈ dgB := List.mem_filter.mpr ⟨tbl_1 _ (List.mem_of_getElem? (i := 23) (by decide +kernel)), by decide +kernel⟩
theorem wB_1401 : Cond.instantiable RX12 77 ∈ dgB := List.mem_filter.mpr ⟨tbl_6 _ (List.mem_of_getElem? (i := 157) (by decide +kernel)), by decide +kernel⟩
/-! the law: its frame; the two regions side by side -/
def R_law : String := "DarkMineLaw"
def lw_P (b : Addr) (xs : List Int32) (args : Array Value) (s : State) : Prop := args = #[.ref b] ∧ s.IntsAt b xs ∧ xs.length ≤ 3072 ∧ (Jvm.Cond.and given_1 narrow_1).before args s = true
def lw_Q (_ : Array Value) (s : State) (o : Outcome) (t : State) : Prop := o = .returned (some (.int 1)) ∧ Framed s o t [] 600000 7302249
def lw_Z (below : List Frame) (a : Array Value) (s : State) : State → Prop := fun t => ∃ o, t.status = .running ∧ Ended t below o ∧ lw_Q a s o t
/-- the law's own end, with 1 on the stack, nothing written that was there before, its room as the claim has it -/
theorem lw_ret {p : Program} {l : Launch} {e : Env} {s : State} {m : MethodId} {below : List Frame} {meth : Method} {c : Code} {b : Nat} (hx : p.tables.exec = Jvm.exec) (hb : c.code = code) (hr : meth.sig.returnType = ret) (hlocks : meth.locks = false) {pc : Nat} {H : Heap} {ls : Array Slot} (hdg : decode code pc = .ok (.ireturn, 1)) : W p l e room_1 s m #[Value.ref b] below meth c H [] 600000 7302249 (lw_Z below #[Value.ref b] s) (F0 m pc ls [.int 1]) := by
  intro T hT X
  obtain ⟨fs, hret, hrun, hended, hW, hframe⟩ := X.leave (v := some (.int 1)) (hlocks := hlocks) (fun h => by rw [hr] at h; cases h)
  have hmeth' : T.vm.method? m = some meth := X.method'
  refine ⟨T.setFrames fs, ?_, .returned (some (.int 1)), hrun, hended, rfl, ⟨_, rfl⟩, hW, hframe⟩
  jvm_step X.here [X.here.top, hx, hb, hdg, hmeth', hr, ret, narrow_b1]
  (try refine ⟨rfl, ?_⟩); (try refine ⟨rfl, ?_⟩)
  first | (intro acts; rw [hret _ acts rfl rfl rfl]) | rw [hret _ _ rfl rfl rfl]
  exact Steps.refl _
def lw_At (p : Program) (s : State) (m : MethodId) (meth : Method) (c : Code) (b L : Nat) (xs : Nat → Int32) : Prop :=
  p.tables.exec = Jvm.exec ∧ c.code = code ∧ meth.sig.returnType = ret ∧ c.maxLocals = 4 ∧ s.vm.findClass R_law = some m.cls ∧ (∀ w ∈ lw_tbl, w.before #[Value.ref b] s = true) ∧ va_X b L xs s s.heap ∧ b < s.heap.size ∧ meth.locks = false ∧ (Jvm.Cond.and given_1 narrow_1).before #[Value.ref b] s = true
def law_X (o : Nat) (S : dg_S) : Prop := CX o S ∧ Z1X S ∧ Z2X S ∧ Z3X o S ∧ Z4X S ∧ Z6X S
def law_M (o : Nat) (S : dg_S) : Prop := CM o S ∧ ZBM S ∧ ZSM S ∧ ZWM S ∧ ZDM S
def law_T (SX SM : dg_S) : Prop := ∃ t : Int32, SX.1 1 1 = .int t ∧ SM.1 0 1 = .int t ∧ ∀ j, j < t.toNatClampNeg → SX.2.1 2 j = SM.2.1 1 j
def law_L (oX : Nat) (SX SM : dg_S) : Prop := ∃ gD gE : Nat, LW oX gD gE SX SM
def law_St (p : Program) (s : State) (m : MethodId) (meth : Method) (c : Code) (b L : Nat) (xs : Nat → Int32) (g : Nat → ClassId) (D : va_G) (A : Nat → Prop) : Prop := p.tables.exec = Jvm.exec ∧ c.code = cL_law ∧ meth.sig.returnType = ret ∧ c.maxLocals = 4 ∧ s.vm.findClass RL = some m.cls ∧ (∀ w ∈ lw_tbl, w.before #[Value.ref b] s = true) ∧ va_X b L xs s s.heap ∧ b < s.heap.size ∧ meth.locks = false ∧ dk_K g D s ∧ (∀ q : Nat, s.heap.size ≤ q → A q) ∧ (∀ q : Nat, A q → s.heap.size ≤ q)
theorem lw_mem {w : Cond} (h : w ∈ dgB) : w ∈ lw_tbl := (List.mem_filter.mp h).1
theorem lw_bw {y : MethodName} {c : ByteArray} {n : Nat} {r : Option FieldType} (h : Cond.code y c n r ∈ dgB) : GoodIn lw_tbl (bw y c n r) := by
  intro w hw
  rcases List.mem_cons.mp hw with e | e
  · subst e
    exact ⟨lw_mem h, dgB_good h⟩
  · exact ⟨lw_mem e, dgB_good e⟩
theorem lw_cons {a : Cond} {l : List Cond} (h : a ∈ dgB) (hl : GoodIn lw_tbl l) : GoodIn lw_tbl (a :: l) := by
  intro w hw
  rcases List.mem_cons.mp hw with e | e
  · subst e
    exact ⟨lw_mem h, dgB_good h⟩
  · exact hl w e
theorem lw_V {y1 : MethodName} {c1 : ByteArray} {n1 : Nat} {r1 : Option FieldType} {own C : String} {idx : Nat} (h1 : Cond.methodLink own idx y1 ∈ dgB) (h2 : Cond.instanceMethod y1 ∈ dgB) (h3 : Cond.selects C y1 y1 ∈ dgB) (h4 : Cond.initialized C ∈ dgB) (h5 : Cond.code y1 c1 n1 r1 ∈ dgB) : GoodIn lw_tbl (wsV own idx C y1 (bw y1 c1 n1 r1)) := lw_cons h1 (lw_cons h2 (lw_cons h3 (lw_cons h4 (lw_bw h5))))
theorem dg_w_key {g : Nat → ClassId} {sh : List dg_q} {o : Nat} {rf : dg_R} {S : dg_S} {k : Nat} {q : Nat × va_E} (h : (dg_w g sh o rf S)[k]? = some q) : k < sh.length ∧ q.1 = o + k := by
  have hl : k < sh.length := by
    have h1 := (List.getElem?_eq_some_iff.mp h).1
    rwa [dg_w_len] at h1
  rw [dg_w_get hl] at h
  exact ⟨hl, by rw [← Option.some.inj h]⟩
theorem shX_len : shX.length = 380 := by decide +kernel
theorem shM_len : shM.length = 51 := by decide +kernel
theorem lw_apX {g : Nat → ClassId} {oX oM : Nat} {rf : dg_R} {S : dg_S} (hO : oX + 380 ≤ oM) : ∀ (k : Nat) (q : Nat × va_E), (dg_w g shM oM rf S)[k]? = some q → ¬ (oX ≤ q.1 ∧ q.1 < oX + shX.length) := by
  intro k q h
  have h1 := dg_w_key h
  rw [shX_len]
  omega
theorem lw_apM {g : Nat → ClassId} {oX oM : Nat} {rf : dg_R} {S : dg_S} (hO : oX + 380 ≤ oM) : ∀ (k : Nat) (q : Nat × va_E), (dg_w g shX oX rf S)[k]? = some q → ¬ (oM ≤ q.1 ∧ q.1 < oM + shM.length) := by
  intro k q h
  have h1 := dg_w_key h
  rw [shX_len] at h1
  rw [shM_len]
  omega
section LWC
variable {p : Program} {l : Launch} {e : Env} {R : Room} {s : State} {m : MethodId} {args : Array Value} {below : List Frame} {meth : Method} {c : Code} {H : Heap} {locs : List Loc} {cells slots : Nat} {Q : State → Prop}
variable {cc : ByteArray} {pc : Nat} {ls : Array Slot} {rest : List Value} {D : va_G} {A : Nat → Prop} {H0 : Heap} {g : Nat → ClassId} {sh sh1 : List dg_q} {o k z : Nat} {rf rf1 : dg_R} {S : dg_S} {st0 : List Value} {av : Array Value} {mc ms : Nat} {W2 : va_W}
/-- a call on one region, beside another -/
theorem lw_calli {post : Int32 → dg_S → Prop} (hS : va_S A s.heap H locs) (hA1 : ∀ i, i < sh.length → A (o + i)) (hA : ∀ q, s.heap.size ≤ q → A q)
    (hr : va_Run p l e R s m args below meth c H locs cells slots mc ms (F0 m pc ls st0) rest (va_Qi post (dg_B g D sh o rf) (dg_A o sh.length H.size) av) (dg_A o sh.length H.size))
    (hW : va_P D vwCl W2 H) (hd : ∀ (k : Nat) (q : Nat × va_E), W2[k]? = some q → ¬ (o ≤ q.1 ∧ q.1 < o + sh.length))
    (kk : ∀ (r : Int32) (S1 : dg_S), post r S1 → ∀ (H1 : Heap) (locs1 : List Loc), va_P D vwCl (dg_w g sh o rf S1) H1 → va_P D vwCl W2 H1 → va_S A s.heap H1 locs1 → W p l e R s m args below meth c H1 locs1 (cells + mc) (slots + ms) Q (F0 m (pc + 3) ls (.int r :: rest))) : W p l e R s m args below meth c H locs cells slots Q (F0 m pc ls st0) := by
  have hF := dg_A_sub hA1 hA hS
  refine va_calli hr hS (fun q _ h => hF q h) hF (fun r u t H1 locs1 ht _ hw hB _ hk1 hS1 => kk r u hw H1 locs1 ?_ (hW.kept (fun k q hk => hk1 q.1 (hW k q hk).lt (fun h => ?_))) hS1)
  · rw [← ht]
    exact hB
  · rcases h with h | h
    · exact hd k q hk h
    · exact Nat.not_lt.mpr h (hW k q hk).lt
/-- a constructor's call, beside another region -/
theorem lw_gcallv {post : dg_S → Prop} (hz : H.size = z) (hS : va_S A s.heap H locs) (hA1 : ∀ i, i < sh.length → A (o + i)) (hA : ∀ q, s.heap.size ≤ q → A q)
    (hr : va_Run p l e R s m args below meth c H locs cells slots mc ms (F0 m pc ls st0) rest (va_Qv post (dg_B g D sh1 o rf1) (dg_A o sh.length z) av) (dg_A o sh.length z))
    (hW : va_P D vwCl W2 H) (hd : ∀ (k : Nat) (q : Nat × va_E), W2[k]? = some q → ¬ (o ≤ q.1 ∧ q.1 < o + sh.length))
    (kk : ∀ (S1 : dg_S), post S1 → ∀ (H1 : Heap) (locs1 : List Loc), va_P D vwCl (dg_w g sh1 o rf1 S1) H1 → va_P D vwCl W2 H1 → va_S A s.heap H1 locs1 → W p l e R s m args below meth c H1 locs1 (cells + mc) (slots + ms) Q (F0 m (pc + 3) ls rest)) : W p l e R s m args below meth c H locs cells slots Q (F0 m pc ls st0) := by
  subst hz
  have hF := dg_A_sub hA1 hA hS
  refine va_callv hr hS (fun q _ h => hF q h) hF (fun u t H1 locs1 ht _ hw hB _ hk1 hS1 => kk u hw H1 locs1 ?_ (hW.kept (fun k q hk => hk1 q.1 (hW k q hk).lt (fun h => ?_))) hS1)
  · rw [← ht]
    exact hB
  · rcases h with h | h
    · exact hd k q hk h
    · exact Nat.not_lt.mpr h (hW k q hk).lt
/-- a region's first cell, beside another region -/
theorem lw_newo (hx : p.tables.exec = Jvm.exec) (hb : c.code = cc) {own C : String} {T : u_T} {N ci index : Nat} {Ts : List Cond} (hts : ∀ w ∈ Ts, w.before args s = true) (hin : ∀ w ∈ u_ws C T N, w ∈ Ts) (ty : Nat → FieldType) (hty : ∀ k, k < N → parseFieldDescriptor (T k).2.2.1 = some (ty k)) (hown : s.vm.findClass own = some m.cls) (hcl : (Cond.classLink own index C).before args s = true) (hinst : (Cond.instantiable C N).before args s = true) (hini : (Cond.initialized C).before args s = true)
    (K : dk_K g D s) (hW : va_P D vwCl W2 H) (hS : va_S A H0 H locs) (hz : H.size = o) {ro : Nat} (hk : sh[0]? = some (0, ci, N, ro)) (hc : vwCl[ci]? = some (C, T, N)) (hcells : cells + 1 ≤ R.cells) (hslots : slots + N ≤ R.slots) (hdg : decode cc pc = .ok (.new index, 3))
    (kk : ∀ (S1 : dg_S) (_ : ∀ b, S1.1 0 b = defaultValue (ty b)) (H1 : Heap), va_P D vwCl (dg_w g (sh.take 1) o rf S1) H1 → va_P D vwCl W2 H1 → va_S A H0 H1 locs → H1.size = o + 1 → W p l e R s m args below meth c H1 locs (cells + 1) (slots + N) Q (F0 m (pc + 3) ls (.ref (o + 0) :: rest))) : W p l e R s m args below meth c H locs cells slots Q (F0 m pc ls rest) := by
  have hKn := K.1.1 ci _ hc
  refine W.newcK hx hb hown hcl hinst hini rfl hdg hcells hslots hKn.2.1 hz fun H1 kC hkC e1 z1 o1 => ?_
  refine kk ((fun _ b => defaultValue (ty b)), fun _ _ => 0, fun _ _ => 0) (fun _ => rfl) H1 ?_ (hW.kept (fun k q hk => o1 q.1 (by rw [← hz]; exact (hW k q hk).lt))) ⟨by rw [z1, ← hz]; exact Nat.le_trans hS.1 (Nat.le_succ _), fun x h1 h2 => (o1 x (by rw [← hz]; exact Nat.lt_of_lt_of_le h1 hS.1)).trans (hS.2.1 x h1 h2), hS.2.2⟩ z1
  refine dg_app (k := 0) (H := H) (rf := rf) (S := ((fun _ b => defaultValue (ty b)), fun _ _ => 0, fun _ _ => 0)) (fun k q h => by simp [dg_w] at h) hk (fun j hj r => absurd hj (Nat.not_lt_zero j)) (fun x hx2 => o1 x (by rw [← hz]; exact hx2)) ?_
  intro i x hx3
  have hz0 : i < 1 := (List.getElem?_eq_some_iff.mp hx3).1
  rw [show i = 0 by omega] at hx3
  cases hx3
  exact ⟨_, hc, (u_born ty hts hin hKn hkC e1 hty).to (fun j hj => by
    show _ = vp_V ((List.range N).map _) j
    rw [dg_vpV hj])⟩
end LWC
theorem lw_len {L : Nat} (hL : L ≤ 3072) : (Int32.ofNat L - 6).toInt = (L : Int) - 6 := dk_subT (a := (L : Int)) (b := 6) (nI_toInt (by omega)) (by decide +kernel) (by omega) (by omega)
theorem lw_and (x : Int32) : 0 ≤ (x &&& 63).toInt ∧ (x &&& 63).toInt ≤ 63 := by
  obtain ⟨j, hj, e⟩ := pk_andE x (m := 63) 6 (by decide +kernel)
  rw [e, nI_toInt (by omega)]
  omega
/-! the tables at the law's entry -/
theorem law_arr {args : Array Value} {s : State} {ty : FieldType} (h : (Cond.arrayClass ty).before args s = true) : ∃ cA : ClassId, ArrOfT s cA ty ∧ s.vm.findClass ("[" ++ ty.toString) = some cA := by
  obtain ⟨cA, kA, comp, h1, h2, h3⟩ := Cond.arrayClass_spec h
  exact ⟨cA, fun n z => ⟨fun k h => (by cases h), kA, h2, comp, h3⟩, h1⟩
theorem law_over {args : Array Value} {s : State} (h : (Cond.arrayOver (.array .int)).before args s = true) : ∃ (comp c : ClassId) (k : Class), s.vm.findClass (FieldType.array .int).toString = some comp ∧ s.vm.classes[c]? = some k ∧ k.kind = .array comp (.array .int) ∧ s.vm.findClass ("[" ++ (FieldType.array .int).toString) = some c := by
  unfold Cond.before Cond.holds at h
  simp only [Cond.value, beq_iff_eq] at h
  cases hc : s.vm.findClass (FieldType.array .int).toString with
  | none => simp [hc] at h
  | some comp =>
    simp only [hc, Option.bind_some, Option.bind_eq_some_iff, Option.map_eq_some_iff] at h
    obtain ⟨c, hi, k, hk, hb⟩ := h
    obtain ⟨hlt, hp, -⟩ := Array.findIdx?_eq_some_iff_getElem.mp hi
    rw [(Array.getElem?_eq_some_iff.mp hk).2] at hp
    cases hkind : k.kind with
    | array cm ty =>
      rw [hkind] at hb hp
      simp at hb hp
      exact ⟨comp, c, k, rfl, hk, by rw [hkind, hp, hb.1], hb.2⟩
    | _ => rw [hkind] at hb; simp at hb
theorem law_overP {args : Array Value} {s : State} {C : String} (h : (Cond.arrayOver (.object C)).before args s = true) : ∃ (comp c : ClassId) (k : Class), s.vm.findClass C = some comp ∧ s.vm.classes[c]? = some k ∧ k.kind = .array comp (.object C) ∧ s.vm.findClass ("[" ++ (FieldType.object C).toString) = some c := by
  unfold Cond.before Cond.holds at h
  simp only [Cond.value, beq_iff_eq] at h
  cases hc : s.vm.findClass C with
  | none => simp [hc] at h
  | some comp =>
    simp only [hc, Option.bind_some, Option.bind_eq_some_iff, Option.map_eq_some_iff] at h
    obtain ⟨c, hi, k, hk, hb⟩ := h
    obtain ⟨hlt, hp, -⟩ := Array.findIdx?_eq_some_iff_getElem.mp hi
    rw [(Array.getElem?_eq_some_iff.mp hk).2] at hp
    cases hkind : k.kind with
    | array cm ty =>
      rw [hkind] at hb hp
      simp at hb hp
      exact ⟨comp, c, k, rfl, hk, by rw [hkind, hp, hb.1], hb.2⟩
    | _ => rw [hkind] at hb; simp at hb
theorem law_known {args : Array Value} {s : State} (hts : ∀ w ∈ lw_tbl, w.before args s = true) : ∀ (k : Nat) (q : vw_C), vwCl[k]? = some q → ∃ (c : ClassId) (i : Nat → Nat), u_Kn s q.1 q.2.1 q.2.2 c i := by
  intro k q hq
  match k, hq with
  | 0, hq => cases hq; exact u_known (C := RX0) (T := TX0) (N := 9) (n := 9) hts (fun w h => lw_mem (wU_X0 w h)) (hts _ (lw_mem wB_1393))
  | 1, hq => cases hq; exact u_known (C := RX1) (T := TX1) (N := 9) (n := 9) hts (fun w h => lw_mem (wU_X1 w h)) (hts _ (lw_mem wB_1388))
  | 2, hq => cases hq; exact u_known (C := RX2) (T := TX2) (N := 19) (n := 19) hts (fun w h => lw_mem (wU_X2 w h)) (hts _ (lw_mem wB_1374))
  | 3, hq => cases hq; exact u_known (C := RX3) (T := TX3) (N := 7) (n := 7) hts (fun w h => lw_mem (wU_X3 w h)) (hts _ (lw_mem wB_1364))
  | 4, hq => cases hq; exact u_known (C := RX4) (T := TX4) (N := 6) (n := 6) hts (fun w h => lw_mem (wU_X4 w h)) (hts _ (lw_mem wB_1369))
  | 5, hq => cases hq; exact u_known (C := RX5) (T := TX5) (N := 8) (n := 8) hts (fun w h => lw_mem (wU_X5 w h)) (hts _ (lw_mem wB_1337))
  | 6, hq => cases hq; exact u_known (C := RX6) (T := TX6) (N := 8) (n := 8) hts (fun w h => lw_mem (wU_X6 w h)) (hts _ (lw_mem wB_1378))
  | 7, hq => cases hq; exact u_known (C := RX7) (T := TX7) (N := 8) (n := 8) hts (fun w h => lw_mem (wU_X7 w h)) (hts _ (lw_mem wB_1350))
  | 8, hq => cases hq; exact u_known (C := RX8) (T := TX8) (N := 2) (n := 2) hts (fun w h => lw_mem (wU_X8 w h)) (hts _ (lw_mem wB_1359))
  | 9, hq => cases hq; exact u_known (C := RX9) (T := TX9) (N := 5) (n := 5) hts (fun w h => lw_mem (wU_X9 w h)) (hts _ (lw_mem wB_1344))
  | 10, hq => cases hq; exact u_known (C := RX10) (T := TX10) (N := 13) (n := 13) hts (fun w h => lw_mem (wU_X10 w h)) (hts _ (lw_mem wB_1383))
  | 11, hq => cases hq; exact u_known (C := RX11) (T := TX11) (N := 13) (n := 13) hts (fun w h => lw_mem (wU_X11 w h)) (hts _ (lw_mem wB_1400))
  | 12, hq => cases hq; exact u_known (C := RX12) (T := TX12) (N := 77) (n := 77) hts (fun w h => lw_mem (wU_X12 w h)) (hts _ (lw_mem wB_1401))
  | k + 13, hq => simp [vwCl] at hq
theorem law_tables {b : Nat} {s : State} (hts0 : ∀ w ∈ lw_tbl, w.before #[Value.ref b] s = true) : ∃ (D : va_G) (g : Nat → ClassId), dk_K g D s := by
  have hts := hts0
  have htb : ∀ w ∈ tables_1, w.before #[Value.ref b] s = true := fun w h => hts0 w (List.mem_append_right _ h)
  have h2 : ∀ k : Nat, ∃ d : ClassId × (Nat → Nat), ∀ q : vw_C, vwCl[k]? = some q → u_Kn s q.1 q.2.1 q.2.2 d.1 d.2 := by
    intro k
    cases hk : vwCl[k]? with
    | none => exact ⟨(0, fun _ => 0), fun q h => by cases h⟩
    | some q =>
      obtain ⟨c, i, h⟩ := law_known hts k q hk
      exact ⟨(c, i), fun q' h' => by cases h'; exact h⟩
  obtain ⟨cI, i1, i2⟩ := law_arr (hts _ (lw_mem wB_1325))
  obtain ⟨cJ, j1, j2⟩ := law_arr (hts _ (lw_mem wB_1398))
  obtain ⟨cZ, z1, z2⟩ := law_arr (hts _ (lw_mem wB_1399))
  have hov := htb (.arrayOver (.object "DarkMine$Pit")) (by decide +kernel)
  obtain ⟨compP, cP, kP, p1, p2, p3, p4⟩ := law_overP hov
  obtain ⟨comp, cA, kA, o1, o2, o3, o4⟩ := law_over (htb (.arrayOver (.array .int)) (by decide +kernel))
  refine ⟨(fun k => (Classical.choose (h2 k)).1, fun k => (Classical.choose (h2 k)).2), (fun k => if k = 0 then cI else if k = 1 then cJ else if k = 2 then cZ else if k = 3 then cP else cA), ⟨fun k q hk => Classical.choose_spec (h2 k) q hk, fun k q hk => ?_⟩, fun w hw => ?_, va_AO.of hov, ?_⟩
  · match k, hk with
    | 0, hk => cases hk; exact ⟨i1, i2⟩
    | 1, hk => cases hk; exact ⟨j1, j2⟩
    | 2, hk => cases hk; exact ⟨z1, z2⟩
    | 3, hk => cases hk; exact ⟨fun N z => ⟨fun k h => (by cases h), kP, p2, compP, p3⟩, kP, compP, p2, p3, p1, p4⟩
    | 4, hk => cases hk; exact ⟨fun N z => ⟨fun k h => (by cases h), kA, o2, comp, o3⟩, o4⟩
    | k + 5, hk => simp [dk_tys] at hk
  · have hm : w ∈ tables_1 := by
      revert w
      decide +kernel
    have h3 := htb w hm
    simp only [dk_nl, List.mem_cons, List.not_mem_nil, or_false] at hw
    rcases hw with rfl | rfl | rfl | rfl | rfl | rfl | rfl | rfl | rfl | rfl | rfl | rfl | rfl <;> exact va_Nw.of rfl h3
  · obtain ⟨c2, kC, cc, q1, q2, q3⟩ := Cond.arrayClass_spec (hts _ (lw_mem wB_1325))
    have e1 : "[" ++ (FieldType.array .int).toString = "[[I" := by decide +kernel
    have e2 : (FieldType.array .int).toString = "[" ++ FieldType.int.toString := by decide +kernel
    have e3 : (FieldType.array .int).toString = "[I" := by decide +kernel
    have o5 := o1
    rw [e1] at o4
    rw [e2] at o1
    rw [e3] at o5
    cases Option.some.inj (o1.symm.trans q1)
    exact ⟨cA, comp, cc, kA, kC, o4, o2, o3, q2, q3, o5⟩
/-- what the statics and the OWN WORDS hold at the start -/
theorem law_ST {b : Nat} {s : State} {A : Nat → Prop} (hts0 : ∀ w ∈ lw_tbl, w.before #[Value.ref b] s = true) (hgv : (Jvm.Cond.and given_1 narrow_1).before #[Value.ref b] s = true) (hA : ∀ a : Nat, a < s.heap.size → ¬ A a) : dk_ST A s s.heap := by
  have hs := flat_of_before _ hgv
  have htb : ∀ w ∈ tables_1, w.before #[Value.ref b] s = true := fun w h => hts0 w (List.mem_append_right _ h)
  have hel : ∀ j : Nat, j < 4 → (Term.elem (.static "DarkMine" "SIDES" "[I") (.int (Int32.ofNat j))).eval #[Value.ref b] s none [] s = some (dk_sides j) := by
    intro j hj
    match j, hj with
    | 0, _ => exact va_eqt (hs (.eq (.elem (.static "DarkMine" "SIDES" "[I") (.int 0)) (.int (-8))) (by decide +kernel))
    | 1, _ => exact va_eqt (hs (.eq (.elem (.static "DarkMine" "SIDES" "[I") (.int 1)) (.int (-1))) (by decide +kernel))
    | 2, _ => exact va_eqt (hs (.eq (.elem (.static "DarkMine" "SIDES" "[I") (.int 2)) (.int 1)) (by decide +kernel))
    | 3, _ => exact va_eqt (hs (.eq (.elem (.static "DarkMine" "SIDES" "[I") (.int 3)) (.int 8)) (by decide +kernel))
  obtain ⟨t, ht, hT⟩ := va_Tof (tm := .static "DarkMine" "SIDES" "[I") (ty := .int) (N := 4) (f := dk_sides) (A := A) (dk_dq rfl) (hs (.arrayOf (.static "DarkMine" "SIDES" "[I") .int) (by decide +kernel)) (va_eqt (hs (.eq (.length (.static "DarkMine" "SIDES" "[I")) (.int 4)) (by decide +kernel))) hel hA
  refine ⟨⟨t, va_Zof (htb (.laysStatic "DarkMine" "SIDES" "[I") (by decide +kernel)) (htb (.initialized "DarkMine") (by decide +kernel)) ht hA, hT⟩, va_Zof (htb (.laysStatic "java/lang/String" "COMPACT_STRINGS" "Z") (by decide +kernel)) (htb (.initialized "java/lang/String") (by decide +kernel)) (va_eqi (hs (.eq (.static "java/lang/String" "COMPACT_STRINGS" "Z") (.int 1)) (by decide +kernel))) hA, ?_, ?_⟩
  · rcases va_Zqof (htb (.laysStatic "jdk/internal/util/Preconditions" "SIOOBE_FORMATTER" "Ljava/util/function/BiFunction;") (by decide +kernel)) (htb (.initialized "jdk/internal/util/Preconditions") (by decide +kernel)) (hs (.isRef (.static "jdk/internal/util/Preconditions" "SIOOBE_FORMATTER" "Ljava/util/function/BiFunction;")) (by decide +kernel)) hA with h | ⟨q, h⟩
    · exact ⟨_, h, Or.inl rfl⟩
    · exact ⟨_, h, Or.inr ⟨q, rfl⟩⟩
  · have hby0 : ((flatC (Jvm.Cond.and given_1 narrow_1)).drop 20).take 162 = (List.range 162).map (fun j => Cond.eq (.elem (.field (.string "DarkMine$Words" 65) "java/lang/String" "value" "[B") (.int (Int32.ofNat j))) (.int (dk_by.getD j 0))) := by decide +kernel
    have hby : ∀ j : Nat, j < 162 → (Cond.eq (.elem (.field (.string "DarkMine$Words" 65) "java/lang/String" "value" "[B") (.int (Int32.ofNat j))) (.int (dk_by.getD j 0))) ∈ flatC (Jvm.Cond.and given_1 narrow_1) := fun j hj => List.mem_of_mem_drop (List.mem_of_mem_take (by rw [hby0]; exact List.mem_map.mpr ⟨j, List.mem_range.mpr hj, rfl⟩))
    have hl1 : ∀ i : Nat, i < 1 → ([162] : List Nat).getD i 0 < 2 ^ 31 := fun i hi => (by
      have h9 : i = 0 := by omega
      subst h9
      decide)
    have hl2 : ∀ i : Nat, i < 1 → (Cond.eq (.length (.field (.string "DarkMine$Words" 65) "java/lang/String" "value" "[B")) (.int (Int32.ofNat (([162] : List Nat).getD i 0)))).before #[Value.ref b] s = true := fun i hi => (by
      have h9 : i = 0 := by omega
      subst h9
      exact hs _ (by decide +kernel))
    have hl3 : ∀ i : Nat, i < 1 → ∀ j : Nat, j < ([162] : List Nat).getD i 0 → (Cond.eq (.elem (.field (.string "DarkMine$Words" 65) "java/lang/String" "value" "[B") (.int (Int32.ofNat j))) (.int ((([dk_by] : List (List Int32)).getD i []).getD j 0))).before #[Value.ref b] s = true := fun i hi j hj => (by
      have h9 : i = 0 := by omega
      subst h9
      exact hs _ (hby j hj))
    obtain ⟨adK, adV, h1, h2⟩ := vk_Sof (N := 1) (tm := fun _ => .string "DarkMine$Words" 65) (len := [162]) (byt := [dk_by]) (A := A) (args := #[Value.ref b]) (s := s) hl1 (fun i _ => hs _ (by decide +kernel)) (fun i _ => hs _ (by decide +kernel)) (fun i _ => hs _ (by decide +kernel)) hl2 hl3 (fun i j hi hj hne => absurd (show i = j by omega) hne) hA
    refine ⟨adK 0, adV 0, vk_R.of (htb (.stringRef RX9 65 dk_tx) (by decide +kernel)) (h2 0 (by omega)), ⟨fun i hi => ?_, fun i j hi hj _ => by omega⟩⟩
    have h9 : i = 0 := by omega
    subst h9
    exact h1.1 0 (by omega)
