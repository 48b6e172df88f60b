/-! dg_: the machine's rows over a region -/
def dg_B (g : Nat → ClassId) (D : va_G) (sh : List dg_q) (o : Nat) (rf : dg_R) : dg_S → State → Prop := fun S t => va_P D vwCl (dg_w g sh o rf S) t.heap
theorem dg_A_in {o n sz i : Nat} (h : i < n) : dg_A o n sz (o + i) := Or.inl ⟨by omega, by omega⟩
theorem dg_A_sub {A : Nat → Prop} {H0 H : Heap} {locs : List Loc} {o n : Nat} (hA1 : ∀ i, i < n → A (o + i)) (hA : ∀ q, H0.size ≤ q → A q) (hS : va_S A H0 H locs) : ∀ q, dg_A o n H.size q → A q := by
  intro q h
  rcases h with ⟨h1, h2⟩ | h
  · have := hA1 (q - o) (by omega)
    rwa [show o + (q - o) = q by omega] at this
  · exact hA q (Nat.le_trans hS.1 h)
set_option maxHeartbeats 4000000 in
theorem dg_met {l : Launch} {y : MethodName} {ws ws' : List Cond} {rm : Room} {g : Nat → ClassId} {D : va_G} {sh : List dg_q} {o : Nat} {rf : dg_R} {S : dg_S} {sz : Nat} {av : List Value} {Qc : Array Value → State → Outcome → State → Prop} {mc ms : Nat} {cc : ByteArray} {maxL : Nat} {ret : Option FieldType}
    (hy : plainName y.cls = true) (hw : ws = Cond.code y cc maxL ret :: ws') (hav : (lg_sl av).length ≤ maxL)
    (body : ∀ (p : Program) (e : Env) (s : State) (m : MethodId) (args : Array Value) (below : List Frame) (meth : Method) (c : Code) (A : Nat → Prop), A = dg_A o sh.length sz → args = av.toArray → p.tables.exec = Jvm.exec → c.code = cc → meth.sig.returnType = ret → c.maxLocals = maxL → (∀ w ∈ ws, w.before args s = true) → s.vm.findClass y.cls = some m.cls → meth.locks = false → meth.name = y.name →
      va_P D vwCl (dg_w g sh o rf S) s.heap → dk_K g D s → va_S A s.heap s.heap [] → (∀ i, i < sh.length → A (o + i)) → (∀ q : Nat, s.heap.size ≤ q → A q) → dk_ST A s s.heap → s.heap.size = sz → ∀ ls : Array Slot, lv_has ls maxL (lv_args 0 av) →
      W p l e rm s m args below meth c s.heap [] 0 0 (MQ below Qc args s mc ms A) (F0 m 0 ls [])) : Met l y ws rm (dk_Pc g D (dg_w g sh o rf S) sz av) Qc mc ms (dg_A o sh.length sz) := by
  have h := dk_met (l := l) (rm := rm) (g := g) (D := D) (W0 := dg_w g sh o rf S) (sz := sz) (Qc := Qc) (mc := mc) (ms := ms) hy hw hav (fun p e s m args below meth c harg hx hb hr hml hts hown hlocks hin hP K _ hS hA ST hsz ls hl => by
    subst hsz
    rw [dg_A_eq] at hS hA ST ⊢
    exact body p e s m args below meth c _ rfl harg hx hb hr hml hts hown hlocks hin hP K hS (fun i hi => dg_A_in hi) hA ST rfl ls hl)
  rw [dg_A_eq] at h
  exact h
section DGW
variable {p : Program} {l : Launch} {e : Env} {R : Room} {s : State} {m : MethodId} {args : Array Value} {below : List Frame} {meth : Method} {c : Code} {H : Heap} {locs : List Loc} {cells slots : Nat} {Q : State → Prop}
variable {cc : ByteArray} {pc : Nat} {ls : Array Slot} {rest : List Value} {D : va_G} {A : Nat → Prop} {H0 : Heap} {g : Nat → ClassId} {sh : List dg_q} {o : Nat} {rf : dg_R} {S : dg_S}
theorem dg_get (hx : p.tables.exec = Jvm.exec) (hb : c.code = cc) {own ref C : String} {T : u_T} {N ci index : Nat} {Ts : List Cond} (hts : ∀ w ∈ Ts, w.before args s = true) (hin : ∀ w ∈ u_ws C T N, w ∈ Ts) (hown : s.vm.findClass own = some m.cls) (K : dk_K g D s) (hP : va_P D vwCl (dg_w g sh o rf S) H) {i ro : Nat} (hi : sh[i]? = some (0, ci, N, ro)) (hc : vwCl[ci]? = some (C, T, N)) (k : Nat) (hk : k < N) (hlink : (Cond.fieldLink own index ref (T k).2.1 (T k).2.2.1).before args s = true) (hsame : ∀ x, s.fieldFound? (T k).1 (T k).2.1 (T k).2.2.1 = some x → s.fieldFound? ref (T k).2.1 (T k).2.2.1 = some x) {v : Value} (hv : S.1 i k = v) (hdg : decode cc pc = .ok (.getfield index, 3))
    (kk : W p l e R s m args below meth c H locs cells slots Q (F0 m (pc + 3) ls (v :: rest))) : W p l e R s m args below meth c H locs cells slots Q (F0 m pc ls (.ref (o + i) :: rest)) :=
  va_get hx hb hts hin hown K.1 hP i (dg_w_at hi) hc k hk hlink hsame (by rw [List.getElem?_map, List.getElem?_range hk, ← hv]; rfl) hdg kk
theorem dg_put (hx : p.tables.exec = Jvm.exec) (hb : c.code = cc) {own ref C : String} {T : u_T} {N ci index : Nat} {Ts : List Cond} (hts : ∀ w ∈ Ts, w.before args s = true) (hin : ∀ w ∈ u_ws C T N, w ∈ Ts) (ty0 : Nat → FieldType) (hty : ∀ k, k < N → parseFieldDescriptor (T k).2.2.1 = some (ty0 k)) (hnm : ∀ a, a < N → ∀ b, b < N → a ≠ b → (T a).2.1 ≠ (T b).2.1) (hown : s.vm.findClass own = some m.cls) (K : dk_K g D s) (hP : va_P D vwCl (dg_w g sh o rf S) H) (hS : va_S A H0 H locs) (hA1 : ∀ i, i < sh.length → A (o + i)) {i ro : Nat} (hi : sh[i]? = some (0, ci, N, ro)) (hc : vwCl[ci]? = some (C, T, N)) (k : Nat) (hk : k < N) (hlink : (Cond.fieldLink own index ref (T k).2.1 (T k).2.2.1).before args s = true) (hsame : ∀ x, s.fieldFound? (T k).1 (T k).2.1 (T k).2.2.1 = some x → s.fieldFound? ref (T k).2.1 (T k).2.2.1 = some x) (hfin : (T k).2.2.2 = false) {ty : FieldType} {v : Value} (hd : parseFieldDescriptor (T k).2.2.1 = some ty) (hn : narrow ty v = v) (hfit : fits ty v = true)
    (hdg : decode cc pc = .ok (.putfield index, 3)) (kk : ∀ (S1 : dg_S) (_ : S1 = dg_uF S i k v) (H1 : Heap) (locs1 : List Loc), va_P D vwCl (dg_w g sh o rf S1) H1 → va_S A H0 H1 locs1 → W p l e R s m args below meth c H1 locs1 cells slots Q (F0 m (pc + 3) ls rest)) : W p l e R s m args below meth c H locs cells slots Q (F0 m pc ls (v :: .ref (o + i) :: rest)) := by
  refine va_put hx hb hts hin ty0 hty hnm hown K.1 hP (dg_D hA1) hS i (dg_w_at hi) hc k hk hlink hsame hfin hd hn hfit (by simpa using hk) hdg (fun H1 locs1 hP1 _ hS1 => kk _ rfl H1 locs1 ?_ hS1)
  have e1 : (dg_w g sh o rf S).set i (o + i, .inr (ci, ((List.range N).map (S.1 i)).set k v)) = dg_w g sh o rf (dg_uF S i k v) := by
    have h2 := dg_w_set (g := g) (o := o) (rf := rf) (S := S) (S' := dg_uF S i k v) hi (fun j hj r => by simp [dg_e, dg_uF, hj])
    rw [← h2, dg_mapset]
    simp [dg_e, dg_uF]
  rw [← e1]
  exact hP1
theorem dg_iald (hx : p.tables.exec = Jvm.exec) (hb : c.code = cc) (K : dk_K g D s) (hP : va_P D vwCl (dg_w g sh o rf S) H) {i c0 n ro : Nat} (hi : sh[i]? = some (1, c0, n, ro)) {x : Int32} (hin : vp_in x n) (hdg : decode cc pc = .ok (.iaload, 1))
    (kk : ∀ v, v = S.2.1 i x.toNatClampNeg → W p l e R s m args below meth c H locs cells slots Q (F0 m (pc + 1) ls (.int v :: rest))) : W p l e R s m args below meth c H locs cells slots Q (F0 m pc ls (.int x :: .ref (o + i) :: rest)) :=
  va_iald hx hb K.1 hP i 0 (dg_w_at hi) rfl hin hdg (kk _ rfl)
theorem dg_zald (hx : p.tables.exec = Jvm.exec) (hb : c.code = cc) (K : dk_K g D s) (hP : va_P D vwCl (dg_w g sh o rf S) H) {i c0 n ro : Nat} (hi : sh[i]? = some (3, c0, n, ro)) {x : Int32} (hin : vp_in x n) (hdg : decode cc pc = .ok (.baload, 1))
    (kk : ∀ v, v = S.2.1 i x.toNatClampNeg → W p l e R s m args below meth c H locs cells slots Q (F0 m (pc + 1) ls (.int v :: rest))) : W p l e R s m args below meth c H locs cells slots Q (F0 m pc ls (.int x :: .ref (o + i) :: rest)) :=
  va_zald hx hb K.1 hP i 2 (dg_w_at hi) rfl hin hdg (kk _ rfl)
theorem dg_lald (hx : p.tables.exec = Jvm.exec) (hb : c.code = cc) (K : dk_K g D s) (hP : va_P D vwCl (dg_w g sh o rf S) H) {i c0 n ro : Nat} (hi : sh[i]? = some (2, c0, n, ro)) {x : Int32} (hin : vp_in x n) (hdg : decode cc pc = .ok (.laload, 1))
    (kk : ∀ v, v = S.2.2 i x.toNatClampNeg → W p l e R s m args below meth c H locs cells slots Q (F0 m (pc + 1) ls (.long v :: rest))) : W p l e R s m args below meth c H locs cells slots Q (F0 m pc ls (.int x :: .ref (o + i) :: rest)) :=
  va_lald hx hb K.1 hP i 1 (dg_w_at hi) rfl hin hdg (kk _ rfl)
theorem dg_iast (hx : p.tables.exec = Jvm.exec) (hb : c.code = cc) (K : dk_K g D s) (hP : va_P D vwCl (dg_w g sh o rf S) H) (hS : va_S A H0 H locs) (hA1 : ∀ i, i < sh.length → A (o + i)) {i c0 n ro : Nat} (hi : sh[i]? = some (1, c0, n, ro)) {x v : Int32} (hin : vp_in x n) (hdg : decode cc pc = .ok (.iastore, 1))
    (kk : ∀ (S1 : dg_S) (_ : S1 = dg_uf S i (upd (S.2.1 i) x.toNatClampNeg v)) (H1 : Heap) (locs1 : List Loc), va_P D vwCl (dg_w g sh o rf S1) H1 → va_S A H0 H1 locs1 → W p l e R s m args below meth c H1 locs1 cells slots Q (F0 m (pc + 1) ls rest)) : W p l e R s m args below meth c H locs cells slots Q (F0 m pc ls (.int v :: .int x :: .ref (o + i) :: rest)) := by
  refine va_iast hx hb K.1 hP (dg_D hA1) hS i 0 (dg_w_at hi) rfl hin hdg (fun H1 locs1 hP1 _ hS1 => kk _ rfl H1 locs1 ?_ hS1)
  have h2 := dg_w_set (g := g) (o := o) (rf := rf) (S := S) (S' := dg_uf S i (upd (S.2.1 i) x.toNatClampNeg v)) hi (fun j hj r => by simp [dg_e, dg_uf, hj])
  rw [← h2]
  simpa [dg_e, dg_uf] using hP1
theorem dg_zast (hx : p.tables.exec = Jvm.exec) (hb : c.code = cc) (K : dk_K g D s) (hP : va_P D vwCl (dg_w g sh o rf S) H) (hS : va_S A H0 H locs) (hA1 : ∀ i, i < sh.length → A (o + i)) {i c0 n ro : Nat} (hi : sh[i]? = some (3, c0, n, ro)) {x v : Int32} (hin : vp_in x n) (hv : narrow .boolean (.int v) = .int v) (hdg : decode cc pc = .ok (.bastore, 1))
    (kk : ∀ (S1 : dg_S) (_ : S1 = dg_uf S i (upd (S.2.1 i) x.toNatClampNeg v)) (H1 : Heap) (locs1 : List Loc), va_P D vwCl (dg_w g sh o rf S1) H1 → va_S A H0 H1 locs1 → W p l e R s m args below meth c H1 locs1 cells slots Q (F0 m (pc + 1) ls rest)) : W p l e R s m args below meth c H locs cells slots Q (F0 m pc ls (.int v :: .int x :: .ref (o + i) :: rest)) := by
  have hv2 : vp_nar .boolean v = v := by
    unfold vp_nar
    rw [hv]
  refine va_zast hx hb K.1 hP (dg_D hA1) hS i 2 (dg_w_at hi) rfl hin hdg (fun H1 locs1 hP1 _ hS1 => kk _ rfl H1 locs1 ?_ hS1)
  rw [hv2] at hP1
  have h2 := dg_w_set (g := g) (o := o) (rf := rf) (S := S) (S' := dg_uf S i (upd (S.2.1 i) x.toNatClampNeg v)) hi (fun j hj r => by simp [dg_e, dg_uf, hj])
  rw [← h2]
  simpa [dg_e, dg_uf] using hP1
theorem dg_last (hx : p.tables.exec = Jvm.exec) (hb : c.code = cc) (K : dk_K g D s) (hP : va_P D vwCl (dg_w g sh o rf S) H) (hS : va_S A H0 H locs) (hA1 : ∀ i, i < sh.length → A (o + i)) {i c0 n ro : Nat} (hi : sh[i]? = some (2, c0, n, ro)) {x : Int32} {v : Int64} (hin : vp_in x n) (hdg : decode cc pc = .ok (.lastore, 1))
    (kk : ∀ (S1 : dg_S) (_ : S1 = dg_ul S i (vp_updL (S.2.2 i) x.toNatClampNeg v)) (H1 : Heap) (locs1 : List Loc), va_P D vwCl (dg_w g sh o rf S1) H1 → va_S A H0 H1 locs1 → W p l e R s m args below meth c H1 locs1 cells slots Q (F0 m (pc + 1) ls rest)) : W p l e R s m args below meth c H locs cells slots Q (F0 m pc ls (.long v :: .int x :: .ref (o + i) :: rest)) := by
  refine va_last hx hb K.1 hP (dg_D hA1) hS i 1 (dg_w_at hi) rfl hin hdg (fun H1 locs1 hP1 _ hS1 => kk _ rfl H1 locs1 ?_ hS1)
  have h2 := dg_w_set (g := g) (o := o) (rf := rf) (S := S) (S' := dg_ul S i (vp_updL (S.2.2 i) x.toNatClampNeg v)) hi (fun j hj r => by simp [dg_e, dg_ul, hj])
  rw [← h2]
  simpa [dg_e, dg_ul] using hP1
theorem dg_alen (hx : p.tables.exec = Jvm.exec) (hb : c.code = cc) (K : dk_K g D s) (hP : va_P D vwCl (dg_w g sh o rf S) H) {i c0 n ro : Nat} (hi : sh[i]? = some (1, c0, n, ro)) {v : Int32} (hv : Int32.ofNat n = v) (hdg : decode cc pc = .ok (.arraylength, 1))
    (kk : W p l e R s m args below meth c H locs cells slots Q (F0 m (pc + 1) ls (.int v :: rest))) : W p l e R s m args below meth c H locs cells slots Q (F0 m pc ls (.ref (o + i) :: rest)) :=
  va_alen hx hb K.1 hP i 0 (dg_w_at hi) rfl hv hdg kk
theorem dg_aald (hx : p.tables.exec = Jvm.exec) (hb : c.code = cc) (K : dk_K g D s) (hP : va_P D vwCl (dg_w g sh o rf S) H) {i n ro d : Nat} (hi : sh[i]? = some (4, 3, n, ro)) {x : Int32} (hin : vp_in x n) (hd : rf i x.toNatClampNeg = some d) (hdg : decode cc pc = .ok (.aaload, 1))
    (kk : W p l e R s m args below meth c H locs cells slots Q (F0 m (pc + 1) ls (.ref (o + d) :: rest))) : W p l e R s m args below meth c H locs cells slots Q (F0 m pc ls (.int x :: .ref (o + i) :: rest)) :=
  va_aldq hx hb K.1 hP i 3 (dg_w_at hi) rfl hin hdg (by simp only [hd, Option.map_some]; exact kk)
theorem dg_copyi (hx : p.tables.exec = Jvm.exec) (hb : c.code = cc) (hml : c.maxLocals = ls.size) {own : String} {index : Nat} (hown : s.vm.findClass own = some m.cls) (hlink : (Cond.methodLink own index arraycopyName).before args s = true) (hnat : (Cond.native arraycopyName).before args s = true) (hstat : (Cond.static arraycopyName).before args s = true) (hini : (Cond.initialized "java/lang/System").before args s = true)
    (K : dk_K g D s) (hP : va_P D vwCl (dg_w g sh o rf S) H) (hS : va_S A H0 H locs) (hA1 : ∀ i, i < sh.length → A (o + i)) {i j ci cj ni nj ri rj : Nat} (hi : sh[i]? = some (1, ci, ni, ri)) (hj : sh[j]? = some (1, cj, nj, rj))
    {sp dp n : Int32} (h1 : 0 ≤ sp.toInt) (h2 : 0 ≤ dp.toInt) (h3 : 0 ≤ n.toInt) (h4 : sp.toInt + n.toInt ≤ ni) (h5 : dp.toInt + n.toInt ≤ nj)
    (hframes : 1 ≤ R.frames) (hlocals : (rest.map fun v => v.category).sum + (nativeFrameWords "java/lang/System" "arraycopy" 5 + 11) ≤ R.locals) (hdg : decode cc pc = .ok (.invokestatic index, 3))
    (kk : ∀ (S1 : dg_S) (_ : S1 = dg_uf S j (va_cpy (S.2.1 i) (S.2.1 j) sp.toNatClampNeg dp.toNatClampNeg n.toNatClampNeg)) (H1 : Heap) (locs1 : List Loc), va_P D vwCl (dg_w g sh o rf S1) H1 → va_S A H0 H1 locs1 → W p l e R s m args below meth c H1 locs1 cells slots Q (F0 m (pc + 3) ls rest)) : W p l e R s m args below meth c H locs cells slots Q (F0 m pc ls (.int n :: .int dp :: .ref (o + j) :: .int sp :: .ref (o + i) :: rest)) := by
  refine va_copyi hx hb hml hown hlink hnat hstat hini K.1 hP (dg_D hA1) hS i j 0 0 (dg_w_at hi) (dg_w_at hj) rfl rfl rfl (dk_nneg h1) (dk_nneg h2) (dk_nneg h3) (by show _ ≤ ni; rw [dk_clN, dk_clN]; omega) (by show _ ≤ nj; rw [dk_clN, dk_clN]; omega) (fun _ _ => rfl) hframes hlocals hdg (fun H1 locs1 hP1 _ hS1 => kk _ rfl H1 locs1 ?_ hS1)
  have h2 := dg_w_set (g := g) (o := o) (rf := rf) (S := S) (S' := dg_uf S j (va_cpy (S.2.1 i) (S.2.1 j) sp.toNatClampNeg dp.toNatClampNeg n.toNatClampNeg)) hj (fun j hj r => by simp [dg_e, dg_uf, hj])
  rw [← h2]
  simpa [dg_e, dg_uf] using hP1
/-! calls -/
theorem dg_preS {As : List Value} (K : dk_K g D s) (ST : dk_ST A s s.heap) (hP : va_P D vwCl (dg_w g sh o rf S) H) (hS : va_S A s.heap H locs) (hA1 : ∀ i, i < sh.length → A (o + i)) (hA : ∀ q, s.heap.size ≤ q → A q) : PreS s H (dk_Pc g D (dg_w g sh o rf S) H.size As) As :=
  ⟨dk_blind, fun U hU hW => ⟨rfl, by rw [hU], by rw [hU]; exact hP, K.warm hW, dg_D (fun _ _ => trivial), by rw [hU, dg_A_eq]; exact dk_ST.to hW hS (dg_A_sub hA1 hA hS) ST⟩⟩
theorem dg_preV {As : List Value} {i ci N ro : Nat} {q : vw_C} (hi : sh[i]? = some (0, ci, N, ro)) (hc : vwCl[ci]? = some q) (K : dk_K g D s) (ST : dk_ST A s s.heap) (hP : va_P D vwCl (dg_w g sh o rf S) H) (hS : va_S A s.heap H locs) (hA1 : ∀ i, i < sh.length → A (o + i)) (hA : ∀ q, s.heap.size ≤ q → A q) : PreV s H q.1 (o + i) (dk_Pc g D (dg_w g sh o rf S) H.size (.ref (o + i) :: As)) As :=
  ⟨dk_blind, va_recv K.1 hP hc (dg_w_at hi), fun U hU hW => ⟨rfl, by rw [hU], by rw [hU]; exact hP, K.warm hW, dg_D (fun _ _ => trivial), by rw [hU, dg_A_eq]; exact dk_ST.to hW hS (dg_A_sub hA1 hA hS) ST⟩⟩
variable {st0 : List Value} {av : Array Value} {mc ms : Nat}
theorem dg_calli {post : Int32 → dg_S → Prop} (hS : va_S A s.heap H locs) (hA1 : ∀ i, i < sh.length → A (o + i)) (hA : ∀ q, s.heap.size ≤ q → A q)
    (hr : va_Run p l e R s m args below meth c H locs cells slots mc ms (F0 m pc ls st0) rest (va_Qi post (dg_B g D sh o rf) (dg_A o sh.length H.size) av) (dg_A o sh.length H.size))
    (kk : ∀ (r : Int32) (S1 : dg_S), post r S1 → ∀ (H1 : Heap) (locs1 : List Loc), va_P D vwCl (dg_w g sh o rf S1) H1 → va_S A s.heap H1 locs1 → W p l e R s m args below meth c H1 locs1 (cells + mc) (slots + ms) Q (F0 m (pc + 3) ls (.int r :: rest))) : W p l e R s m args below meth c H locs cells slots Q (F0 m pc ls st0) := by
  have hF := dg_A_sub hA1 hA hS
  refine va_calli hr hS (fun q _ h => hF q h) hF (fun r u t H1 locs1 ht _ hw hB _ _ hS1 => kk r u hw H1 locs1 ?_ hS1)
  rw [← ht]
  exact hB
theorem dg_calll {post : Int64 → dg_S → Prop} (hS : va_S A s.heap H locs) (hA1 : ∀ i, i < sh.length → A (o + i)) (hA : ∀ q, s.heap.size ≤ q → A q)
    (hr : va_Run p l e R s m args below meth c H locs cells slots mc ms (F0 m pc ls st0) rest (va_Ql post (dg_B g D sh o rf) (dg_A o sh.length H.size) av) (dg_A o sh.length H.size))
    (kk : ∀ (r : Int64) (S1 : dg_S), post r S1 → ∀ (H1 : Heap) (locs1 : List Loc), va_P D vwCl (dg_w g sh o rf S1) H1 → va_S A s.heap H1 locs1 → W p l e R s m args below meth c H1 locs1 (cells + mc) (slots + ms) Q (F0 m (pc + 3) ls (.long r :: rest))) : W p l e R s m args below meth c H locs cells slots Q (F0 m pc ls st0) := by
  have hF := dg_A_sub hA1 hA hS
  refine va_calll hr hS (fun q _ h => hF q h) hF (fun r u t H1 locs1 ht _ hw hB _ _ hS1 => kk r u hw H1 locs1 ?_ hS1)
  rw [← ht]
  exact hB
theorem dg_callv {post : dg_S → Prop} (hS : va_S A s.heap H locs) (hA1 : ∀ i, i < sh.length → A (o + i)) (hA : ∀ q, s.heap.size ≤ q → A q)
    (hr : va_Run p l e R s m args below meth c H locs cells slots mc ms (F0 m pc ls st0) rest (va_Qv post (dg_B g D sh o rf) (dg_A o sh.length H.size) av) (dg_A o sh.length H.size))
    (kk : ∀ (S1 : dg_S), post S1 → ∀ (H1 : Heap) (locs1 : List Loc), va_P D vwCl (dg_w g sh o rf S1) H1 → va_S A s.heap H1 locs1 → W p l e R s m args below meth c H1 locs1 (cells + mc) (slots + ms) Q (F0 m (pc + 3) ls rest)) : W p l e R s m args below meth c H locs cells slots Q (F0 m pc ls st0) := by
  have hF := dg_A_sub hA1 hA hS
  refine va_callv hr hS (fun q _ h => hF q h) hF (fun u t H1 locs1 ht _ hw hB _ _ hS1 => kk u hw H1 locs1 ?_ hS1)
  rw [← ht]
  exact hB
/-! ends -/
theorem dg_iret {post : Int32 → dg_S → Prop} {v : Int32} {ty : FieldType} (hx : p.tables.exec = Jvm.exec) (hb : c.code = cc) (hr : meth.sig.returnType = some ty) (hlocks : meth.locks = false) (hn : narrow ty (.int v) = .int v) (hP : va_P D vwCl (dg_w g sh o rf S) H) (hS : va_S A s.heap H locs) (hp : post v S) (hdg : decode cc pc = .ok (.ireturn, 1)) : W p l e R s m args below meth c H locs cells slots (MQ below (va_Qi post (dg_B g D sh o rf) A) args s cells slots A) (F0 m pc ls [.int v]) :=
  W.zret hx hb hr hn (fun t ht hW => ⟨⟨v, S, rfl, hp, by unfold dg_B; rw [ht]; exact hP⟩, hS.F ht⟩) hS.2.2 hdg hlocks
theorem dg_lret {post : Int64 → dg_S → Prop} {v : Int64} (hx : p.tables.exec = Jvm.exec) (hb : c.code = cc) (hr : meth.sig.returnType = some .long) (hlocks : meth.locks = false) (hP : va_P D vwCl (dg_w g sh o rf S) H) (hS : va_S A s.heap H locs) (hp : post v S) (hdg : decode cc pc = .ok (.lreturn, 1)) : W p l e R s m args below meth c H locs cells slots (MQ below (va_Ql post (dg_B g D sh o rf) A) args s cells slots A) (F0 m pc ls [.long v]) :=
  W.lret hx hb hr (fun t ht hW => ⟨⟨v, S, rfl, hp, by unfold dg_B; rw [ht]; exact hP⟩, hS.F ht⟩) hS.2.2 hdg hlocks
theorem dg_vret {post : dg_S → Prop} (hx : p.tables.exec = Jvm.exec) (hb : c.code = cc) (hr : meth.sig.returnType = none) (hlocks : meth.locks = false) (hP : va_P D vwCl (dg_w g sh o rf S) H) (hS : va_S A s.heap H locs) (hp : post S) (hdg : decode cc pc = .ok (.return_, 1)) : W p l e R s m args below meth c H locs cells slots (MQ below (va_Qv post (dg_B g D sh o rf) A) args s cells slots A) (F0 m pc ls []) :=
  W.vret hx hb hr (fun t ht hW => ⟨⟨S, rfl, hp, by unfold dg_B; rw [ht]; exact hP⟩, hS.F ht⟩) hS.2.2 hdg hlocks
end DGW
