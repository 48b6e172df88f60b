/-! the region grows: new cells behind it, one after another -/
def dg_uN (S : dg_S) (k : Nat) (f : Nat → Value) : dg_S := (fun a b => if a = k then f b else S.1 a b, S.2)
theorem dg_uN_at {S S1 : dg_S} {k : Nat} {f : Nat → Value} (e : S1 = dg_uN S k f) (b : Nat) : S1.1 k b = f b := by subst e; simp [dg_uN]
theorem dg_uN_ne {S S1 : dg_S} {k a : Nat} {f : Nat → Value} (e : S1 = dg_uN S k f) (h : ¬ a = k) (b : Nat) : S1.1 a b = S.1 a b := by subst e; simp only [dg_uN]; rw [if_neg h]
theorem dg_uN_r {S S1 : dg_S} {k : Nat} {f : Nat → Value} (e : S1 = dg_uN S k f) : S1.2 = S.2 := by subst e; rfl
theorem dg_tlen {sh : List dg_q} {k : Nat} (h : k ≤ sh.length) : (sh.take k).length = k := by rw [List.length_take]; omega
theorem dg_tk {sh : List dg_q} {i k : Nat} {q : dg_q} (h : sh[i]? = some q) (hi : i < k) : (sh.take k)[i]? = some q := by rw [List.getElem?_take_of_lt hi]; exact h
theorem dg_w_snoc {g : Nat → ClassId} {sh : List dg_q} {o k : Nat} {rf rf' : dg_R} {S S' : dg_S} {q : dg_q} (hq : sh[k]? = some q) (hs : ∀ j, j < k → ∀ r, dg_e g o rf' S' j r = dg_e g o rf S j r) : dg_w g (sh.take (k + 1)) o rf' S' = dg_w g (sh.take k) o rf S ++ [(o + k, dg_e g o rf' S' k q)] := by
  have hl := (List.getElem?_eq_some_iff.mp hq).1
  unfold dg_w
  rw [dg_tlen (show k + 1 ≤ sh.length by omega), dg_tlen (show k ≤ sh.length by omega), List.range_succ, List.map_append]
  congr 1
  · apply List.map_congr_left
    intro j hj
    have hj2 := List.mem_range.mp hj
    have e1 : (sh.take (k + 1)).getD j (0, 0, 0, 0) = (sh.take k).getD j (0, 0, 0, 0) := by rw [List.getD_eq_getElem?_getD, List.getD_eq_getElem?_getD, List.getElem?_take_of_lt (by omega), List.getElem?_take_of_lt hj2]
    rw [e1, hs j hj2]
  · show [(o + k, dg_e g o rf' S' k ((sh.take (k + 1)).getD k (0, 0, 0, 0)))] = _
    rw [List.getD_eq_getElem?_getD, List.getElem?_take_of_lt (by omega), hq]
    rfl
theorem dg_app {D : va_G} {g : Nat → ClassId} {sh : List dg_q} {o k : Nat} {rf rf' : dg_R} {S S' : dg_S} {q : dg_q} {H H1 : Heap} (hP : va_P D vwCl (dg_w g (sh.take k) o rf S) H) (hq : sh[k]? = some q) (hs : ∀ j, j < k → ∀ r, dg_e g o rf' S' j r = dg_e g o rf S j r) (ho : ∀ x : Nat, x < H.size → H1[x]? = H[x]?) (hc : va_P D vwCl [(o + k, dg_e g o rf' S' k q)] H1) : va_P D vwCl (dg_w g (sh.take (k + 1)) o rf' S') H1 := by
  rw [dg_w_snoc hq hs]
  exact (hP.kept (fun i x hx => ho x.1 ((hP i x hx).lt))).app hc
theorem dg_vpV {N : Nat} {F : Nat → Value} {j : Nat} (h : j < N) : vp_V ((List.range N).map F) j = F j := by
  unfold vp_V
  rw [List.getD_eq_getElem?_getD, List.getElem?_map, List.getElem?_range h]
  rfl
section DGN
variable {p : Program} {l : Launch} {e : Env} {R : Room} {s : State} {m : MethodId} {args : Array Value} {below : List Frame} {meth : Method} {c : Code} {H : Heap} {locs : List Loc} {cells slots : Nat} {Q : State → Prop}
variable {cc : ByteArray} {pc : Nat} {ls : Array Slot} {rest : List Value} {D : va_G} {A : Nat → Prop} {H0 : Heap} {g : Nat → ClassId} {sh : List dg_q} {o k : Nat} {rf rf' : dg_R} {S : dg_S}
theorem dg_newo (hx : p.tables.exec = Jvm.exec) (hb : c.code = cc) {own C : String} {T : u_T} {N ci index : Nat} {Ts : List Cond} (hts : ∀ w ∈ Ts, w.before args s = true) (hin : ∀ w ∈ u_ws C T N, w ∈ Ts) (ty : Nat → FieldType) (hty : ∀ k, k < N → parseFieldDescriptor (T k).2.2.1 = some (ty k)) (hown : s.vm.findClass own = some m.cls) (hcl : (Cond.classLink own index C).before args s = true) (hinst : (Cond.instantiable C N).before args s = true) (hini : (Cond.initialized C).before args s = true)
    (K : dk_K g D s) (hP : va_P D vwCl (dg_w g (sh.take k) o rf S) H) (hS : va_S A H0 H locs) (hz : H.size = o + k) {ro : Nat} (hk : sh[k]? = some (0, ci, N, ro)) (hc : vwCl[ci]? = some (C, T, N)) {f : Nat → Value} (hfs : ∀ j, j < N → defaultValue (ty j) = f j) (hcells : cells + 1 ≤ R.cells) (hslots : slots + N ≤ R.slots) (hdg : decode cc pc = .ok (.new index, 3))
    (kk : ∀ (S1 : dg_S) (_ : S1 = dg_uN S k f) (H1 : Heap), va_P D vwCl (dg_w g (sh.take (k + 1)) o rf S1) H1 → va_S A H0 H1 locs → H1.size = o + (k + 1) → W p l e R s m args below meth c H1 locs (cells + 1) (slots + N) Q (F0 m (pc + 3) ls (.ref (o + k) :: rest))) : W p l e R s m args below meth c H locs cells slots Q (F0 m pc ls rest) := by
  have hKn := K.1.1 ci _ hc
  refine W.newcK hx hb hown hcl hinst hini rfl hdg hcells hslots hKn.2.1 hz fun H1 kC hkC e1 z1 o1 => ?_
  refine kk _ rfl H1 ?_ ⟨by rw [z1, ← hz]; exact Nat.le_trans hS.1 (Nat.le_succ _), fun x h1 h2 => (o1 x (by rw [← hz]; exact Nat.lt_of_lt_of_le h1 hS.1)).trans (hS.2.1 x h1 h2), hS.2.2⟩ z1
  refine dg_app hP hk (fun j hj r => ?_) (fun x hx2 => o1 x (by rw [← hz]; exact hx2)) ?_
  · simp [dg_e, dg_uN, Nat.ne_of_lt hj]
  · intro i x hx3
    have hz0 : i < 1 := (List.getElem?_eq_some_iff.mp hx3).1
    rw [show i = 0 by omega] at hx3
    cases hx3
    exact ⟨_, hc, (u_born ty hts hin hKn hkC e1 hty).to (fun j hj => by
      rw [hfs j hj]
      show _ = vp_V ((List.range N).map _) j
      rw [dg_vpV hj]
      simp [dg_uN])⟩
theorem dg_newi (hx : p.tables.exec = Jvm.exec) (hb : c.code = cc) (harr : (Cond.arrayClass .int).before args s = true) (K : dk_K g D s) (hP : va_P D vwCl (dg_w g (sh.take k) o rf S) H) (hS : va_S A H0 H locs) (hz : H.size = o + k) {c0 n ro : Nat} (hk : sh[k]? = some (1, c0, n, ro)) {x : Int32} (hn : ¬ x < 0) (hN : x.toNatClampNeg = n) (hbytes : n * 4 ≤ 536870912) (hcells : cells + 1 ≤ R.cells) (hslots : slots + n ≤ R.slots) (hdg : decode cc pc = .ok (.newarray .int, 2))
    (kk : ∀ (S1 : dg_S) (_ : S1 = dg_uf S k (fun _ => 0)) (H1 : Heap), va_P D vwCl (dg_w g (sh.take (k + 1)) o rf S1) H1 → va_S A H0 H1 locs → H1.size = o + (k + 1) → W p l e R s m args below meth c H1 locs (cells + 1) (slots + n) Q (F0 m (pc + 2) ls (.ref (o + k) :: rest))) : W p l e R s m args below meth c H locs cells slots Q (F0 m pc ls (.int x :: rest)) := by
  refine va_newaK (atype := .int) hx hb harr rfl hdg rfl hn hN hbytes hcells hslots hz fun H1 cA e1 z1 o1 hAr hNm => ?_
  have h9 : s.vm.findClass ("[" ++ (newarray.typeOf .int).toString) = some (g 0) := (K.1.2 0 _ rfl).2
  cases Option.some.inj (hNm.symm.trans h9)
  refine kk _ rfl H1 ?_ ⟨by rw [z1, ← hz]; exact Nat.le_trans hS.1 (Nat.le_succ _), fun x h1 h2 => (o1 x (by rw [← hz]; exact Nat.lt_of_lt_of_le h1 hS.1)).trans (hS.2.1 x h1 h2), hS.2.2⟩ z1
  refine dg_app hP hk (fun j hj r => ?_) (fun x hx2 => o1 x (by rw [← hz]; exact hx2)) ?_
  · simp [dg_e, dg_uf, Nat.ne_of_lt hj]
  · intro i x hx3
    have hz0 : i < 1 := (List.getElem?_eq_some_iff.mp hx3).1
    rw [show i = 0 by omega] at hx3
    cases hx3
    show H1[o + k]? = some (vp_cell (g 0) (n, .inl ((dg_uf S k (fun _ => 0)).2.1 k)))
    rw [e1, dg_uf_at rfl, vp_cell_i]
    rfl
theorem dg_newl (hx : p.tables.exec = Jvm.exec) (hb : c.code = cc) (harr : (Cond.arrayClass .long).before args s = true) (K : dk_K g D s) (hP : va_P D vwCl (dg_w g (sh.take k) o rf S) H) (hS : va_S A H0 H locs) (hz : H.size = o + k) {c0 n ro : Nat} (hk : sh[k]? = some (2, c0, n, ro)) {x : Int32} (hn : ¬ x < 0) (hN : x.toNatClampNeg = n) (hbytes : n * 8 ≤ 536870912) (hcells : cells + 1 ≤ R.cells) (hslots : slots + n ≤ R.slots) (hdg : decode cc pc = .ok (.newarray .long, 2))
    (kk : ∀ (S1 : dg_S) (_ : S1 = dg_ul S k (fun _ => 0)) (H1 : Heap), va_P D vwCl (dg_w g (sh.take (k + 1)) o rf S1) H1 → va_S A H0 H1 locs → H1.size = o + (k + 1) → W p l e R s m args below meth c H1 locs (cells + 1) (slots + n) Q (F0 m (pc + 2) ls (.ref (o + k) :: rest))) : W p l e R s m args below meth c H locs cells slots Q (F0 m pc ls (.int x :: rest)) := by
  refine va_newaK (atype := .long) hx hb harr rfl hdg rfl hn hN hbytes hcells hslots hz fun H1 cA e1 z1 o1 hAr hNm => ?_
  have h9 : s.vm.findClass ("[" ++ (newarray.typeOf .long).toString) = some (g 1) := (K.1.2 1 _ rfl).2
  cases Option.some.inj (hNm.symm.trans h9)
  refine kk _ rfl H1 ?_ ⟨by rw [z1, ← hz]; exact Nat.le_trans hS.1 (Nat.le_succ _), fun x h1 h2 => (o1 x (by rw [← hz]; exact Nat.lt_of_lt_of_le h1 hS.1)).trans (hS.2.1 x h1 h2), hS.2.2⟩ z1
  refine dg_app hP hk (fun j hj r => ?_) (fun x hx2 => o1 x (by rw [← hz]; exact hx2)) ?_
  · simp [dg_e, dg_ul, Nat.ne_of_lt hj]
  · intro i x hx3
    have hz0 : i < 1 := (List.getElem?_eq_some_iff.mp hx3).1
    rw [show i = 0 by omega] at hx3
    cases hx3
    show H1[o + k]? = some (vp_cell (g 1) (n, .inr (.inl ((dg_ul S k (fun _ => 0)).2.2 k))))
    rw [e1, dg_ul_at rfl]
    rfl
theorem dg_newz (hx : p.tables.exec = Jvm.exec) (hb : c.code = cc) (harr : (Cond.arrayClass .boolean).before args s = true) (K : dk_K g D s) (hP : va_P D vwCl (dg_w g (sh.take k) o rf S) H) (hS : va_S A H0 H locs) (hz : H.size = o + k) {c0 n ro : Nat} (hk : sh[k]? = some (3, c0, n, ro)) {x : Int32} (hn : ¬ x < 0) (hN : x.toNatClampNeg = n) (hbytes : n * 1 ≤ 536870912) (hcells : cells + 1 ≤ R.cells) (hslots : slots + n ≤ R.slots) (hdg : decode cc pc = .ok (.newarray .boolean, 2))
    (kk : ∀ (S1 : dg_S) (_ : S1 = dg_uf S k (fun _ => 0)) (H1 : Heap), va_P D vwCl (dg_w g (sh.take (k + 1)) o rf S1) H1 → va_S A H0 H1 locs → H1.size = o + (k + 1) → W p l e R s m args below meth c H1 locs (cells + 1) (slots + n) Q (F0 m (pc + 2) ls (.ref (o + k) :: rest))) : W p l e R s m args below meth c H locs cells slots Q (F0 m pc ls (.int x :: rest)) := by
  refine va_newaK (atype := .boolean) hx hb harr rfl hdg rfl hn hN hbytes hcells hslots hz fun H1 cA e1 z1 o1 hAr hNm => ?_
  have h9 : s.vm.findClass ("[" ++ (newarray.typeOf .boolean).toString) = some (g 2) := (K.1.2 2 _ rfl).2
  cases Option.some.inj (hNm.symm.trans h9)
  refine kk _ rfl H1 ?_ ⟨by rw [z1, ← hz]; exact Nat.le_trans hS.1 (Nat.le_succ _), fun x h1 h2 => (o1 x (by rw [← hz]; exact Nat.lt_of_lt_of_le h1 hS.1)).trans (hS.2.1 x h1 h2), hS.2.2⟩ z1
  refine dg_app hP hk (fun j hj r => ?_) (fun x hx2 => o1 x (by rw [← hz]; exact hx2)) ?_
  · simp [dg_e, dg_uf, Nat.ne_of_lt hj]
  · intro i x hx3
    have hz0 : i < 1 := (List.getElem?_eq_some_iff.mp hx3).1
    rw [show i = 0 by omega] at hx3
    cases hx3
    show H1[o + k]? = some (vp_cell (g 2) (n, .inl ((dg_uf S k (fun _ => 0)).2.1 k)))
    rw [e1, dg_uf_at rfl, vp_cell_i]
    rfl
/-- how large the heap is, by what was made -/
theorem dg_size {z : Nat} {f : JFrame} (hP : va_P D vwCl (dg_w g (sh.take k) o rf S) H) (hk : 0 < k) (hl : k ≤ sh.length) (hs : s.heap.size = z) (hz : z + cells = o + k) (kk : H.size = o + k → W p l e R s m args below meth c H locs cells slots Q f) : W p l e R s m args below meth c H locs cells slots Q f := by
  intro T hT X
  have h1 := X.heapSize
  rw [hT] at h1
  have h2 := (hP (k - 1) _ (dg_w_get (by rw [dg_tlen hl]; omega))).lt
  have h3 : o + (k - 1) < H.size := h2
  exact kk (by omega) T hT X
theorem dg_putF (hx : p.tables.exec = Jvm.exec) (hb : c.code = cc) {own ref C : String} {T : u_T} {N ci index : Nat} {Ts : List Cond} (hts : ∀ w ∈ Ts, w.before args s = true) (hin : ∀ w ∈ u_ws C T N, w ∈ Ts) (ty0 : Nat → FieldType) (hty : ∀ k, k < N → parseFieldDescriptor (T k).2.2.1 = some (ty0 k)) (hnm : ∀ a, a < N → ∀ b, b < N → a ≠ b → (T a).2.1 ≠ (T b).2.1) (hown : s.vm.findClass own = some m.cls) (K : dk_K g D s) (hP : va_P D vwCl (dg_w g sh o rf S) H) (hS : va_S A H0 H locs) (hA1 : ∀ i, i < sh.length → A (o + i)) {i ro : Nat} (hi : sh[i]? = some (0, ci, N, ro)) (hc : vwCl[ci]? = some (C, T, N)) (k : Nat) (hk : k < N) (hlink : (Cond.fieldLink own index ref (T k).2.1 (T k).2.2.1).before args s = true) (hsame : ∀ x, s.fieldFound? (T k).1 (T k).2.1 (T k).2.2.1 = some x → s.fieldFound? ref (T k).2.1 (T k).2.2.1 = some x) (hfin : (T k).2.2.2 = true) (hin2 : meth.name = "<init>") (hdecl : (T k).1 = own) {ty : FieldType} {v : Value} (hd : parseFieldDescriptor (T k).2.2.1 = some ty) (hn : narrow ty v = v) (hfit : fits ty v = true)
    (hdg : decode cc pc = .ok (.putfield index, 3)) (kk : ∀ (S1 : dg_S) (_ : S1 = dg_uF S i k v) (H1 : Heap) (locs1 : List Loc), va_P D vwCl (dg_w g sh o rf S1) H1 → va_S A H0 H1 locs1 → W p l e R s m args below meth c H1 locs1 cells slots Q (F0 m (pc + 3) ls rest)) : W p l e R s m args below meth c H locs cells slots Q (F0 m pc ls (v :: .ref (o + i) :: rest)) := by
  refine va_putF hx hb hts hin ty0 hty hnm hown K.1 hP (dg_D hA1) hS i (dg_w_at hi) hc k hk hlink hsame hfin hin2 hdecl hd hn hfit (by simpa using hk) hdg (fun H1 locs1 hP1 _ hS1 => kk _ rfl H1 locs1 ?_ hS1)
  have e1 : (dg_w g sh o rf S).set i (o + i, .inr (ci, ((List.range N).map (S.1 i)).set k v)) = dg_w g sh o rf (dg_uF S i k v) := by
    have h2 := dg_w_set (g := g) (o := o) (rf := rf) (S := S) (S' := dg_uF S i k v) hi (fun j hj r => by simp [dg_e, dg_uF, hj])
    rw [← h2, dg_mapset]
    simp [dg_e, dg_uF]
  rw [← e1]
  exact hP1
/-- a row of references is made: none yet -/
theorem dg_newq (hx : p.tables.exec = Jvm.exec) (hb : c.code = cc) {own : String} {index : Nat} (hown : s.vm.findClass own = some m.cls) (hclink : (Cond.classLink own index "DarkMine$Pit").before args s = true) (K : dk_K g D s) (hP : va_P D vwCl (dg_w g (sh.take k) o rf S) H) (hS : va_S A H0 H locs) (hz : H.size = o + k) {n ro : Nat} (hk : sh[k]? = some (4, 3, n, ro)) (hrf : ∀ j, rf k j = none) {x : Int32} (hn : ¬ x < 0) (hN : x.toNatClampNeg = n) (hbytes : n * 4 ≤ 536870912) (hcells : cells + 1 ≤ R.cells) (hslots : slots + n ≤ R.slots) (hdg : decode cc pc = .ok (.anewarray index, 3))
    (kk : ∀ H1 : Heap, va_P D vwCl (dg_w g (sh.take (k + 1)) o rf S) H1 → va_S A H0 H1 locs → H1.size = o + (k + 1) → W p l e R s m args below meth c H1 locs (cells + 1) (slots + n) Q (F0 m (pc + 3) ls (.ref (o + k) :: rest))) : W p l e R s m args below meth c H locs cells slots Q (F0 m pc ls (.int x :: rest)) := by
  subst hN
  rw [← hz] at kk
  refine W.anew hx hb hown hclink (va_AO.use K.2.2.1) rfl hdg rfl hn hbytes hcells hslots fun cA kA comp f1 f2 f3 f4 => ?_
  generalize hH1 : H.push ({ cls := cA, slots := Array.replicate x.toNatClampNeg .null, vm := .none } : Cell) = H1
  have z1 : H1.size = H.size + 1 := by rw [← hH1, Array.size_push]
  have e1 : H1[H.size]? = some (arrV cA x.toNatClampNeg (fun _ => .null)) := by rw [← hH1, Array.getElem?_push_size, ← arrV_new]
  have o1 : ∀ q : Nat, q < H.size → H1[q]? = H[q]? := fun q hq => by rw [← hH1, Array.getElem?_push, if_neg (Nat.ne_of_lt hq)]
  obtain ⟨-, -, -, -, -, h9⟩ := (K.1.2 3 _ rfl).2
  cases Option.some.inj (f1.symm.trans h9)
  refine kk H1 ?_ ⟨by rw [z1]; exact Nat.le_trans hS.1 (Nat.le_succ _), fun x h1 h2 => (o1 x (Nat.lt_of_lt_of_le h1 hS.1)).trans (hS.2.1 x h1 h2), hS.2.2⟩ (by rw [z1, hz]; omega)
  refine dg_app hP hk (fun j hj r => rfl) o1 ?_
  intro i y hx3
  have hz0 : i < 1 := (List.getElem?_eq_some_iff.mp hx3).1
  rw [show i = 0 by omega] at hx3
  cases hx3
  show H1[o + k]? = some (vp_cell (g 3) (x.toNatClampNeg, .inr (.inr (.inr (.inr (fun j => (rf k j).map (o + ·)))))))
  rw [← hz, e1, vp_cell_q]
  congr 2
  funext j
  rw [hrf j]
  rfl
/-- a pit is put into its row -/
theorem dg_astq (hx : p.tables.exec = Jvm.exec) (hb : c.code = cc) (K : dk_K g D s) (hP : va_P D vwCl (dg_w g sh o rf S) H) (hS : va_S A H0 H locs) (hA1 : ∀ i, i < sh.length → A (o + i)) {i n ro j N rp : Nat} (hi : sh[i]? = some (4, 3, n, ro)) (hj : sh[j]? = some (0, 5, N, rp)) {x : Int32} (hin : vp_in x n) (h1 : ∀ a, ¬ a = i → ∀ b, rf' a b = rf a b) (h2 : ∀ b, rf' i b = if b = x.toNatClampNeg then some j else rf i b) (hc : ∃ r, vwCl[5]? = some r ∧ r.1 = "DarkMine$Pit") (hdg : decode cc pc = .ok (.aastore, 1))
    (kk : ∀ (H1 : Heap) (locs1 : List Loc), va_P D vwCl (dg_w g sh o rf' S) H1 → va_S A H0 H1 locs1 → W p l e R s m args below meth c H1 locs1 cells slots Q (F0 m (pc + 1) ls rest)) : W p l e R s m args below meth c H locs cells slots Q (F0 m pc ls (.ref (o + j) :: .int x :: .ref (o + i) :: rest)) := by
  obtain ⟨r, hr, hr2⟩ := hc
  refine va_astq hx hb K.1 hP (dg_D hA1) hS i 3 j 5 (r := r) (dg_w_at hi) (by rw [hr2]; rfl) (dg_w_at hj) hr hin hdg (fun H1 locs1 hP1 _ hS1 => kk H1 locs1 ?_ hS1)
  have hl := (List.getElem?_eq_some_iff.mp hi).1
  intro a y hy
  by_cases ha : a = i
  · subst ha
    rw [dg_w_at hi] at hy
    cases hy
    have h3 := hP1 a _ (List.getElem?_set_self (by rw [dg_w_len]; exact hl))
    have e9 : (fun b => (rf' a b).map (o + ·)) = va_up (fun b => (rf a b).map (o + ·)) x.toNatClampNeg (some (o + j)) := by
      funext b
      rw [h2 b]
      unfold va_up
      by_cases hb9 : b = x.toNatClampNeg
      · rw [if_pos hb9, if_pos hb9]; rfl
      · rw [if_neg hb9, if_neg hb9]
    show va_at D vwCl (o + a, .inl (g 3, n, .inr (.inr (.inr (.inr (fun b => (rf' a b).map (o + ·)))))) ) H1
    rw [e9]
    exact h3
  · have hal : a < sh.length := by
      have := (List.getElem?_eq_some_iff.mp hy).1
      rwa [dg_w_len] at this
    rw [dg_w_get hal] at hy
    refine hP1 a y ?_
    rw [List.getElem?_set_ne (fun z => ha z.symm), dg_w_get hal, ← hy]
    have a4 : rf a = rf' a := funext (fun b => (h1 a ha b).symm)
    unfold dg_e
    rw [a4]
end DGN
theorem dk_rows_cells (c comp : ClassId) (N M : Nat) (s : State) : ∀ i : Nat, (dk_rows c comp N M s i).heap[s.heap.size]? = some (arrV c N (fun j => if j < i then .ref (s.heap.size + 1 + j) else .null)) ∧ ∀ j, j < i → (dk_rows c comp N M s i).heap[s.heap.size + 1 + j]? = some (arrV comp M (fun _ => .int 0))
  | 0 => ⟨by
      show (s.pushCell _).heap[s.heap.size]? = _
      rw [State.heap_pushCell_size, arrV_new]
      congr 2, fun j hj => absurd hj (Nat.not_lt_zero j)⟩
  | i + 1 => by
    obtain ⟨h1, h2, h3, -, h5⟩ := dk_rows_facts c comp N M s i
    obtain ⟨c1, c2⟩ := dk_rows_cells c comp N M s i
    have hin : s.heap.size < (dk_rows c comp N M s i).heap.size := by rw [h2]; omega
    have hb : ((dk_rows c comp N M s i).pushCell { cls := comp, slots := Array.replicate M (.int 0) }).heap[s.heap.size]? = some (arrV c N (fun j => if j < i then .ref (s.heap.size + 1 + j) else .null)) := by rw [State.heap_pushCell_of_lt (h := hin)]; exact c1
    refine ⟨?_, fun j hj => ?_⟩
    · show (((dk_rows c comp N M s i).pushCell _).setCell s.heap.size _).heap[s.heap.size]? = _
      rw [State.heap_setCell_self hb, c1]
      show some (Cell.setSlot _ _ _) = _
      rw [show (some (arrV c N (fun j => if j < i then .ref (s.heap.size + 1 + j) else .null))).getD { cls := c, slots := #[] } = arrV c N (fun j => if j < i then .ref (s.heap.size + 1 + j) else .null) from rfl, arrV_store, h2]
      congr 2
      funext j
      unfold updV
      show (if j = i then Value.ref (s.heap.size + 1 + i) else if j < i then Value.ref (s.heap.size + 1 + j) else Value.null) = _
      by_cases hj : j = i
      · subst hj
        rw [if_pos rfl, if_pos (Nat.lt_succ_self _)]
      · rw [if_neg hj]
        by_cases hj2 : j < i
        · rw [if_pos hj2, if_pos (by omega)]
        · rw [if_neg hj2, if_neg (by omega)]
    · show (((dk_rows c comp N M s i).pushCell _).setCell s.heap.size _).heap[s.heap.size + 1 + j]? = _
      rw [State.heap_setCell_other (show s.heap.size ≠ s.heap.size + 1 + j by omega)]
      by_cases hj2 : j = i
      · subst hj2
        rw [← h2, State.heap_pushCell_size, arrV_new]
      · rw [State.heap_pushCell_of_lt (h := (by rw [h2]; omega : s.heap.size + 1 + j < (dk_rows c comp N M s i).heap.size))]
        exact c2 j (by omega)
section DKM9
variable {p : Program} {l : Launch} {e : Env} {R : Room} {s : State} {m : MethodId} {args : Array Value} {below : List Frame} {meth : Method} {c : Code} {H : Heap} {locs : List Loc} {cells slots : Nat} {Q : State → Prop}
variable {cc : ByteArray} {pc : Nat} {ls : Array Slot} {rest : List Value} {D : va_G} {A : Nat → Prop} {ws : va_W} {H0 : Heap} {g : Nat → ClassId}
/-- new int[n][k]: the heap behind it -/
theorem dg_mna0 (hx : p.tables.exec = Jvm.exec) (hb : c.code = cc) {own : String} {index : Nat} (hown : s.vm.findClass own = some m.cls) (hclink : (Cond.classLink own index "[[I").before args s = true) (harr : (Cond.arrayClass .int).before args s = true)
    (K : dk_K g D s) (hP : va_P D vwCl ws H) (hS : va_S A H0 H locs) {n k : Int32} {N' K' : Nat} (hn : ¬ n < 0) (hk : ¬ k < 0) (hN : n.toNatClampNeg = N') (hM : k.toNatClampNeg = K')
    (hb1 : N' * 4 ≤ 536870912) (hb2 : K' * 4 ≤ 536870912) (hcells : cells + (1 + N') ≤ R.cells) (hslots : slots + (N' + N' * K') ≤ R.slots) (hdg : decode cc pc = .ok (.multianewarray index 2, 4))
    (kk : ∀ (H1 : Heap), va_P D vwCl ws H1 → va_S A H0 H1 locs → H1.size = H.size + 1 + N' → (∀ q : Nat, q < H.size → H1[q]? = H[q]?) → H1[H.size]? = some (arrV (g 4) N' (fun j => if j < N' then .ref (H.size + 1 + j) else .null)) → (∀ j, j < N' → H1[H.size + 1 + j]? = some (arrV (g 0) K' (fun _ => .int 0))) → W p l e R s m args below meth c H1 locs (cells + (1 + N')) (slots + (N' + N' * K')) Q (F0 m (pc + 4) ls (.ref H.size :: rest))) : W p l e R s m args below meth c H locs cells slots Q (F0 m pc ls (.int k :: .int n :: rest)) := by
  obtain ⟨cA, comp, cC, kA, kC, m1, m2, m3, m4, m5, m6⟩ := K.2.2.2
  subst hN
  subst hM
  subst hb
  intro T hT X
  have hpl : e.platform.magicAccessors = ({} : Platform).magicAccessors := by rw [X.admits.platform]
  obtain ⟨c0, hfc0, hcl⟩ := Cond.classLink_spec hown hclink e.platform hpl
  cases m1.symm.trans hfc0
  obtain ⟨hg1, hwarm, hready⟩ := State.classEntry (e := e) X.warmed hcl
  generalize T.vm.noted m.cls index (.cls cA) = vm1 at hg1 hwarm hready
  have hal : s.vm.Alike vm1 := hwarm.alike
  obtain ⟨kA1, a1, a2⟩ := hal.2.2 _ _ m2
  obtain ⟨kC1, a3, a4⟩ := hal.2.2 _ _ m4
  have X1 := X.noted hwarm
  obtain ⟨r1, r2⟩ := X.roomAbove hcells hslots
  obtain ⟨h1, h2, h3, h4, h5⟩ := dk_rows_facts cA comp n.toNatClampNeg k.toNatClampNeg (T.setVm vm1) n.toNatClampNeg
  obtain ⟨L, hL, XF⟩ := dk_rows_stand X1 cA comp n.toNatClampNeg k.toNatClampNeg n.toNatClampNeg
  have XD := XF.forget (fun y hy => by rw [hL y hy]; exact X.heapGrown)
  have hsz : (T.setVm vm1).heap.size = H.size := by rw [← hT]; rfl
  have hold : ∀ q : Nat, q < H.size → (dk_rows cA comp n.toNatClampNeg k.toNatClampNeg (T.setVm vm1) n.toNatClampNeg).heap[q]? = H[q]? := fun q hq => by
    rw [h5 q (by rw [hsz]; exact hq), ← hT]
    rfl
  have h90 : s.vm.findClass ("[" ++ FieldType.int.toString) = some (g 0) := (K.1.2 0 _ rfl).2
  have h94 : s.vm.findClass ("[" ++ (FieldType.array .int).toString) = some (g 4) := (K.1.2 4 _ rfl).2
  have e4 : cA = g 4 := Option.some.inj (m1.symm.trans h94)
  have e0 : comp = g 0 := Option.some.inj (m6.symm.trans h90)
  obtain ⟨c1, c2⟩ := dk_rows_cells cA comp n.toNatClampNeg k.toNatClampNeg (T.setVm vm1) n.toNatClampNeg
  rw [hsz] at c1
  obtain ⟨t, t1, t2⟩ := kk (dk_rows cA comp n.toNatClampNeg k.toNatClampNeg (T.setVm vm1) n.toNatClampNeg).heap (hP.kept (fun i x hx => hold x.1 ((hP i x hx).lt))) ⟨Nat.le_trans hS.1 (by rw [h2, hsz]; omega), fun q q1 q2 => (hold q (Nat.lt_of_lt_of_le q1 hS.1)).trans (hS.2.1 q q1 q2), hS.2.2⟩ (by rw [h2, hsz]) hold (by rw [c1, e4]) (fun j hj => by
    have h9 := c2 j hj
    rw [hsz] at h9
    rw [h9, e0]) _ rfl (by simpa [Nat.add_assoc] using XD)
  refine ⟨t, ?_, t2⟩
  have l1 : ¬ n.toNatClampNeg > e.platform.arrayLengthLimit := by rw [Launch.admits_arrayLengthLimit X.admits]; omega
  have l2 : ¬ k.toNatClampNeg > e.platform.arrayLengthLimit := by rw [Launch.admits_arrayLengthLimit X.admits]; omega
  have l3 : ¬ n.toNatClampNeg * 4 > e.platform.maxHeapBytes := by rw [Launch.admits_maxHeapBytes X.admits]; omega
  have l4 : ¬ k.toNatClampNeg * 4 > e.platform.maxHeapBytes := by rw [Launch.admits_maxHeapBytes X.admits]; omega
  jvm_step X.here [hx, hdg]
  simp only [multianewarray.sem, wp_bind', W.resolveClassAt_links (State.method?_setTop (F0 m pc ls (.int k :: .int n :: rest)) X.here.top) hg1]
  rw [W.popN, if_neg (by decide)]
  refine ⟨F0 m pc ls (.int k :: .int n :: rest), State.topJava?_setTop' (s := T.setVm vm1) (F0 m pc ls (.int k :: .int n :: rest)) X.here.top, [.int n, .int k], rest, rfl, rfl, ?_⟩
  simp only [List.mapM_cons, List.mapM_nil, wp_bind', wp_pure']
  have eS : ((T.setTop (F0 m pc ls (.int k :: .int n :: rest))).setVm vm1).setTop (F0 m pc ls rest) = (T.setVm vm1).setTop (F0 m pc ls rest) := by
    show ((T.setVm vm1).setTop _).setTop _ = _
    rw [State.setTop_setTop]
  show wp (multianewarray.make cA [n, k]) _ _ _ _ _ (((T.setTop (F0 m pc ls (.int k :: .int n :: rest))).setVm vm1).setTop (F0 m pc ls rest))
  rw [eS]
  refine dk_make2 (c := cA) (comp := comp) (kA := kA1) (kC := kC1) (cc := cC) a1 (by rw [a2]; exact m3) a3 (by rw [a4]; exact m5) hn hk rfl rfl l1 l2 l3 l4 (by show T.heap.size + 1 + _ ≤ _; omega) (by show T.slotsUsed + _ + _ ≤ _; omega)
    (fun i u => u = dk_rows cA comp n.toNatClampNeg k.toNatClampNeg ((T.setVm vm1).setTop (F0 m pc ls rest)) i) rfl (fun i u _ hu => ?_) (fun i u o _ hu ho => ?_) (fun u d' acts' hu => ?_)
  · subst hu
    obtain ⟨f1, f2, f3, f4, -⟩ := dk_rows_facts cA comp n.toNatClampNeg k.toNatClampNeg ((T.setVm vm1).setTop (F0 m pc ls rest)) i
    exact ⟨f1, f2, f3, f4⟩
  · subst hu
    show _ = State.setCell _ _ (Cell.setSlot _ i _)
    rw [ho]
    rfl
  · subst hu
    rw [dk_rows_top]
    simp only [wp_bind', W.mark, W.pushRef, State.topJava?_setTop' _ XF.here.top, Option.some.injEq, exists_eq_left', State.setTop_setTop, State.heap_setTop]
    intro acts
    simp [jvm, XF.here.top]
    rw [hT]
    exact t1
end DKM9
/-! cells that are whole: what the shape says of each -/
section JC
variable {al : List (List Nat)} {tF : List (List dg_t)} {tA : List dg_t} {sh : List dg_q} {o : Nat} {S S1 : dg_S} {a k d : Nat} {q : dg_q}
def dg_Jc (al : List (List Nat)) (tF : List (List dg_t)) (tA : List dg_t) (sh : List dg_q) (o : Nat) (S : dg_S) (i : Nat) : Prop := ∀ q : dg_q, sh[i]? = some q → (∀ (k : Nat) (t : dg_t), (tF.getD q.2.2.2 [])[k]? = some t → dg_V al o i t (S.1 i k)) ∧ ∀ t : dg_t, tA[q.2.2.2]? = some t → dg_T t q.2.2.1 (S.2.1 i)
def dg_Jr (al : List (List Nat)) (tF : List (List dg_t)) (tA : List dg_t) (sh : List dg_q) (o : Nat) (S : dg_S) (a k : Nat) : Prop := ∀ i, a ≤ i → i < k → dg_Jc al tF tA sh o S i
/-- a cell is as it was -/
def dg_ag (S S1 : dg_S) (i : Nat) : Prop := (∀ b, S1.1 i b = S.1 i b) ∧ S1.2.1 i = S.2.1 i ∧ S1.2.2 i = S.2.2 i
def dg_Ag (S S1 : dg_S) (k : Nat) : Prop := ∀ i, i < k → dg_ag S S1 i
theorem dg_Ag.rf : dg_Ag S S k := fun _ _ => ⟨fun _ => rfl, rfl, rfl⟩
theorem dg_Ag.tr {S2 : dg_S} {k2 : Nat} (h : dg_Ag S S1 k) (h2 : dg_Ag S1 S2 k2) (hk : k ≤ k2) : dg_Ag S S2 k := fun i hi => ⟨fun b => ((h2 i (by omega)).1 b).trans ((h i hi).1 b), (h2 i (by omega)).2.1.trans (h i hi).2.1, (h2 i (by omega)).2.2.trans (h i hi).2.2⟩
theorem dg_Ag.tk {S2 : dg_S} (h : dg_Ag S S1 k) (h2 : dg_Ag S1 S2 k) : dg_Ag S S2 k := h.tr h2 (Nat.le_refl k)
theorem dg_Ag.uF {i b : Nat} {v : Value} (e : S1 = dg_uF S i b v) (h : k ≤ i) : dg_Ag S S1 k := fun j hj => ⟨fun c => dg_uF_ne e (fun z => by omega), dg_uF_f e j, dg_uF_l e j⟩
theorem dg_Ag.uN {i : Nat} {f : Nat → Value} (e : S1 = dg_uN S i f) (h : k ≤ i) : dg_Ag S S1 k := fun j hj => ⟨fun c => dg_uN_ne e (by omega) c, by rw [dg_uN_r e], by rw [dg_uN_r e]⟩
theorem dg_Ag.uf {i : Nat} {r : Nat → Int32} (e : S1 = dg_uf S i r) (h : k ≤ i) : dg_Ag S S1 k := fun j hj => ⟨fun c => dg_uf_F e j c, dg_uf_ne e (by omega), dg_uf_l e j⟩
theorem dg_Ag.ul {i : Nat} {r : Nat → Int64} (e : S1 = dg_ul S i r) (h : k ≤ i) : dg_Ag S S1 k := fun j hj => ⟨fun c => dg_ul_F e j c, dg_ul_f e j, dg_ul_ne e (by omega)⟩
theorem dg_Jc.ag {i : Nat} (h : dg_Jc al tF tA sh o S i) (g : dg_ag S S1 i) : dg_Jc al tF tA sh o S1 i := fun q hq => ⟨fun k t ht => by rw [g.1 k]; exact (h q hq).1 k t ht, fun t ht => by rw [g.2.1]; exact (h q hq).2 t ht⟩
theorem dg_Jr.nil : dg_Jr al tF tA sh o S a a := fun i h1 h2 => by omega
theorem dg_Jr.ag (h : dg_Jr al tF tA sh o S a k) (g : ∀ i, a ≤ i → i < k → dg_ag S S1 i) : dg_Jr al tF tA sh o S1 a k := fun i h1 h2 => (h i h1 h2).ag (g i h1 h2)
theorem dg_Jr.Ag {k2 : Nat} (h : dg_Jr al tF tA sh o S a k) (g : dg_Ag S S1 k2) (hk : k ≤ k2) : dg_Jr al tF tA sh o S1 a k := h.ag (fun i _ h2 => g i (by omega))
/-- a field of a cell before them is set -/
theorem dg_Jr.uF {i b : Nat} {v : Value} (h : dg_Jr al tF tA sh o S a k) (e : S1 = dg_uF S i b v) (hi : i < a) : dg_Jr al tF tA sh o S1 a k := h.ag (fun j h1 _ => ⟨fun c => dg_uF_ne e (fun z => by omega), dg_uF_f e j, dg_uF_l e j⟩)
theorem dg_Jr.ext {k2 : Nat} (h : dg_Jr al tF tA sh o S a k) (g : dg_Jr al tF tA sh o S k k2) : dg_Jr al tF tA sh o S a k2 := fun i h1 h2 => if hi : i < k then h i h1 hi else g i (by omega) h2
theorem dg_T0 {t : dg_t} {n : Nat} (h : t.1 = 1 → t.2.1 ≤ 0 ∧ 0 ≤ t.2.2) : dg_T t n (fun _ => 0) := by
  obtain ⟨t1, t2, t3⟩ := t
  unfold dg_T
  split
  · rename_i h9
    exact fun j hj => by
      have e0 : ((fun _ => 0 : Nat → Int32) j).toInt = 0 := by show (0 : Int32).toInt = 0; decide +kernel
      rw [e0]
      exact h h9
  · have e0 : (0 : Int32).toInt = 0 := by decide +kernel
    refine ⟨fun j hj => ?_, fun q => ?_⟩
    · show dg_Pc0 (j : Int) (0 : Int32).toInt
      rw [e0]
      exact ⟨by decide, by decide, fun q => absurd q (by decide)⟩
    · have q1 : (0 : Int32).toInt = 100 := q
      rw [e0] at q1
      exact absurd q1 (by decide)
  · trivial
/-- a row of zeros -/
theorem dg_Jc.row (hq : sh[k]? = some q) (hF : tF.getD q.2.2.2 [] = []) (hr : S.2.1 k = fun _ => 0) (ht : ∀ t, tA[q.2.2.2]? = some t → t.1 = 1 → t.2.1 ≤ 0 ∧ 0 ≤ t.2.2) : dg_Jc al tF tA sh o S k := by
  intro q1 h1
  cases hq.symm.trans h1
  exact ⟨fun k t h => by rw [hF] at h; simp at h, fun t h => by rw [hr]; exact dg_T0 (ht t h)⟩
/-- a row that isn't of ints -/
theorem dg_Jc.rowx (hq : sh[k]? = some q) (hF : tF.getD q.2.2.2 [] = []) (ht : ∀ t, tA[q.2.2.2]? = some t → t.1 = 0) : dg_Jc al tF tA sh o S k := by
  intro q1 h1
  cases hq.symm.trans h1
  refine ⟨fun k t h => by rw [hF] at h; simp at h, fun t h => ?_⟩
  have h9 := ht t h
  obtain ⟨t1, t2, t3⟩ := t
  cases h9
  trivial
def dg_VO (al : List (List Nat)) (o : Nat) (S : dg_S) (k : Nat) : Nat → List dg_t → Prop
  | _, [] => True
  | n, t :: L => dg_V al o k t (S.1 k n) ∧ dg_VO al o S k (n + 1) L
theorem dg_VO.nil {n : Nat} : dg_VO al o S k n [] := trivial
theorem dg_VO.cons {n : Nat} {t : dg_t} {L : List dg_t} (h1 : dg_V al o k t (S.1 k n)) (h2 : dg_VO al o S k (n + 1) L) : dg_VO al o S k n (t :: L) := ⟨h1, h2⟩
theorem dg_VO.get : ∀ (L : List dg_t) (n : Nat), dg_VO al o S k n L → ∀ (j : Nat) (t : dg_t), L[j]? = some t → dg_V al o k t (S.1 k (n + j))
  | [], _, _, j, t, h => by simp at h
  | x :: L, n, h, 0, t, e => by cases e; exact h.1
  | x :: L, n, h, j + 1, t, e => by
    have h9 := dg_VO.get L (n + 1) h.2 j t (by simpa using e)
    rwa [show n + (j + 1) = n + 1 + j by omega]
theorem dg_V.i1 {v : Value} {lo hi : Int} (x : Int32) (h : v = .int x) (h1 : lo ≤ x.toInt) (h2 : x.toInt ≤ hi) : dg_V al o k (1, lo, hi) v := ⟨x, h, h1, h2⟩
theorem dg_V.l1 {v : Value} {a b : Int} {x : Int64} (h : v = .long x) : dg_V al o k (2, a, b) v := ⟨x, h⟩
theorem dg_V.r1 {v : Value} {a b : Int} (h : v = .ref (o + (k + a.toNat))) : dg_V al o k (3, a, b) v := h
theorem dg_V.a1 {v : Value} {a b : Int} (h : v = .ref (o + a.toNat)) : dg_V al o k (4, a, b) v := h
theorem dg_V.o1 {v : Value} {a b : Int} (d : Nat) (hd : d ∈ al.getD a.toNat []) (h : v = .ref (o + d)) : dg_V al o k (5, a, b) v := ⟨d, hd, h⟩
/-- an object whose fields are as its shape says -/
theorem dg_Jc.obj {L : List dg_t} (hq : sh[k]? = some q) (hF : tF.getD q.2.2.2 [] = L) (hv : dg_VO al o S k 0 L) (ht : ∀ t, tA[q.2.2.2]? = some t → t.1 = 0) : dg_Jc al tF tA sh o S k := by
  intro q1 h1
  cases hq.symm.trans h1
  refine ⟨fun j t h => ?_, fun t h => ?_⟩
  · rw [hF] at h
    have h9 := dg_VO.get L 0 hv j t h
    rwa [Nat.zero_add] at h9
  · have h9 := ht t h
    obtain ⟨t1, t2, t3⟩ := t
    cases h9
    trivial
theorem dg_Jr.one (h : dg_Jc al tF tA sh o S k) : dg_Jr al tF tA sh o S k (k + 1) := fun i h1 h2 => by
  have : i = k := by omega
  subst this
  exact h
theorem dg_Jr.I (h : dg_Jr al tF tA sh o S 0 sh.length) : dg_I al tF tA sh o S := by
  refine ⟨fun i q hq => ?_, fun i q hq => ?_⟩
  · exact (h i (Nat.zero_le _) (List.getElem?_eq_some_iff.mp hq).1 q hq).1
  · exact (h i (Nat.zero_le _) (List.getElem?_eq_some_iff.mp hq).1 q hq).2
end JC
theorem dg_Aall {A : Nat → Prop} {o k : Nat} (h : A = dg_A o k (o + k)) : ∀ n i : Nat, i < n → A (o + i) := by
  intro n i hi
  rw [h]
  by_cases hk : i < k
  · exact dg_A_in hk
  · exact Or.inr (by omega)
section DGG
variable {p : Program} {l : Launch} {e : Env} {R : Room} {s : State} {m : MethodId} {args : Array Value} {below : List Frame} {meth : Method} {c : Code} {H : Heap} {locs : List Loc} {cells slots : Nat} {Q : State → Prop}
variable {cc : ByteArray} {pc : Nat} {ls : Array Slot} {rest : List Value} {D : va_G} {A : Nat → Prop} {g : Nat → ClassId} {sh sh1 : List dg_q} {o : Nat} {rf1 : dg_R} {st0 : List Value} {av : Array Value} {mc ms z : Nat}
/-- a call behind which the region is larger -/
theorem dg_gcallv {post : dg_S → Prop} (hz : H.size = z) (hS : va_S A s.heap H locs) (hA1 : ∀ i, i < sh.length → A (o + i)) (hA : ∀ q, s.heap.size ≤ q → A q)
    (hr : va_Run p l e R s m args below meth c H locs cells slots mc ms (F0 m pc ls st0) rest (va_Qv post (dg_B g D sh1 o rf1) (dg_A o sh.length z) av) (dg_A o sh.length z))
    (kk : ∀ (S1 : dg_S), post S1 → ∀ (H1 : Heap) (locs1 : List Loc), va_P D vwCl (dg_w g sh1 o rf1 S1) H1 → va_S A s.heap H1 locs1 → W p l e R s m args below meth c H1 locs1 (cells + mc) (slots + ms) Q (F0 m (pc + 3) ls rest)) : W p l e R s m args below meth c H locs cells slots Q (F0 m pc ls st0) := by
  subst hz
  have hF := dg_A_sub hA1 hA hS
  refine va_callv hr hS (fun q _ h => hF q h) hF (fun u t H1 locs1 ht _ hw hB _ _ hS1 => kk u hw H1 locs1 ?_ hS1)
  rw [← ht]
  exact hB
end DGG
/-! which cell a row of references names, while they are made -/
def dg_rf0 : dg_R := fun _ _ => none
def dg_rfH (j : Nat) : dg_R := fun i k => if i = 19 then (if k < j then some (42 + 7 * k) else none) else if i = 20 then (if k < 20 then some (21 + k) else none) else none
def dg_rfF (j : Nat) : dg_R := fun i k => if i = 19 then (if k < 20 then some (42 + 7 * k) else none) else if i = 20 then (if k < 20 then some (21 + k) else none) else if i = 231 then (if k < j then some (233 + 7 * k) else none) else none
theorem dg_rfF0 : dg_rfF 0 = dg_rfH 20 := by
  funext i k
  unfold dg_rfF dg_rfH
  split
  · rfl
  · split
    · rfl
    · split
      · rw [if_neg (Nat.not_lt_zero k)]
      · rfl
theorem dg_rfF21 : dg_rfF 21 = rfX := rfl
theorem dg_rfH_ne (n : Nat) : ∀ a, ¬ a = 19 → ∀ b, dg_rfH (n + 1) a b = dg_rfH n a b := fun a h b => by unfold dg_rfH; rw [if_neg h, if_neg h]
theorem dg_rfF_ne (n : Nat) : ∀ a, ¬ a = 231 → ∀ b, dg_rfF (n + 1) a b = dg_rfF n a b := fun a h b => by unfold dg_rfF; rw [if_neg h, if_neg h]
theorem dg_rfH_s {i d : Nat} (hi : i < 20) (hd : d = 42 + 7 * i) : ∀ b, dg_rfH (i + 1) 19 b = if b = (nI i).toNatClampNeg then some d else dg_rfH i 19 b := by
  intro b
  rw [nI_clamp (by omega), hd]
  unfold dg_rfH
  rw [if_pos rfl, if_pos rfl]
  by_cases hb : b = i
  · subst hb
    rw [if_pos (by omega), if_pos rfl]
  · rw [if_neg hb]
    by_cases hb2 : b < i
    · rw [if_pos (by omega), if_pos hb2]
    · rw [if_neg (by omega), if_neg hb2]
theorem dg_rfF_s {i d : Nat} (hi : i < 21) (hd : d = 233 + 7 * i) : ∀ b, dg_rfF (i + 1) 231 b = if b = (nI i).toNatClampNeg then some d else dg_rfF i 231 b := by
  intro b
  rw [nI_clamp (by omega), hd]
  have q1 : ∀ n : Nat, dg_rfF n 231 b = if b < n then some (233 + 7 * b) else none := fun n => by
    unfold dg_rfF
    rw [if_neg (show ¬ 231 = 19 by decide), if_neg (show ¬ 231 = 20 by decide), if_pos rfl]
  rw [q1, q1]
  by_cases hb : b = i
  · subst hb
    rw [if_pos (by omega), if_pos rfl]
  · rw [if_neg hb]
    by_cases hb2 : b < i
    · rw [if_pos (by omega), if_pos hb2]
    · rw [if_neg (by omega), if_neg hb2]
theorem pX_le : ∀ p, pX p → p + 7 ≤ shX.length := by unfold pX; decide +kernel
theorem rX_le : ∀ p, rX p → p + 12 ≤ shX.length := by unfold rX; decide +kernel
theorem dg_tkX : shX.take 380 = shX := List.take_of_length_le (by decide +kernel)
theorem dg_tkM : shM.take 51 = shM := List.take_of_length_le (by decide +kernel)
/-- several rows of zeros behind the region, all of one heap -/
theorem dg_apps {D : va_G} {g : Nat → ClassId} {sh : List dg_q} {o k : Nat} {rf : dg_R} {S : dg_S} {H : Heap} {c0 n ro : Nat} (hP : va_P D vwCl (dg_w g (sh.take k) o rf S) H) : ∀ j : Nat, (∀ i, i < j → sh[k + i]? = some (1, c0, n, ro) ∧ S.2.1 (k + i) = (fun _ => 0) ∧ H[o + (k + i)]? = some (arrV (g 0) n (fun _ => .int 0))) → va_P D vwCl (dg_w g (sh.take (k + j)) o rf S) H
  | 0, _ => hP
  | j + 1, h => by
    have h1 := dg_apps hP j (fun i hi => h i (by omega))
    obtain ⟨a1, a2, a3⟩ := h j (by omega)
    refine dg_app h1 a1 (fun _ _ _ => rfl) (fun _ _ => rfl) ?_
    intro i x hx
    have hz0 : i < 1 := (List.getElem?_eq_some_iff.mp hx).1
    rw [show i = 0 by omega] at hx
    cases hx
    show H[o + (k + j)]? = some (vp_cell (g 0) (n, .inl (S.2.1 (k + j))))
    rw [a2, a3]
    rfl
section DGMN
variable {p : Program} {l : Launch} {e : Env} {R : Room} {s : State} {m : MethodId} {args : Array Value} {below : List Frame} {meth : Method} {c : Code} {H : Heap} {locs : List Loc} {cells slots : Nat} {Q : State → Prop}
variable {cc : ByteArray} {pc : Nat} {ls : Array Slot} {rest : List Value} {D : va_G} {A : Nat → Prop} {H0 : Heap} {g : Nat → ClassId} {o : Nat} {S : dg_S}
/-- the history's rows: new int[20][160] -/
theorem dg_mna (hx : p.tables.exec = Jvm.exec) (hb : c.code = cc) {own : String} {index : Nat} (hown : s.vm.findClass own = some m.cls) (hclink : (Cond.classLink own index "[[I").before args s = true) (harr : (Cond.arrayClass .int).before args s = true)
    (K : dk_K g D s) (hP : va_P D vwCl (dg_w g (shX.take 20) o dg_rf0 S) H) (hS : va_S A H0 H locs) (hz : H.size = o + 20) {q : dg_q} (hq : shX[20]? = some q) {n k : Int32} (hn : n.toNatClampNeg = 20) (hk : k.toNatClampNeg = 160) (hcells : cells + 21 ≤ R.cells) (hslots : slots + 3220 ≤ R.slots) (hdg : decode cc pc = .ok (.multianewarray index 2, 4))
    (kk : ∀ S1 : dg_S, dg_Ag S S1 20 → dg_Jr alX tFX tAX shX o S1 20 41 → ∀ H1 : Heap, va_P D vwCl (dg_w g (shX.take 41) o (dg_rfH 0) S1) H1 → va_S A H0 H1 locs → H1.size = o + 41 → W p l e R s m args below meth c H1 locs (cells + 21) (slots + 3220) Q (F0 m (pc + 4) ls (.ref (o + 20) :: rest))) : W p l e R s m args below meth c H locs cells slots Q (F0 m pc ls (.int k :: .int n :: rest)) := by
  have hn0 : ¬ n < 0 := fun h => by have h1 := Int32.lt_iff_toInt_lt.mp h; rw [dk_clN] at hn; have h2 : (0 : Int32).toInt = 0 := by decide +kernel
                                    omega
  have hk0 : ¬ k < 0 := fun h => by have h1 := Int32.lt_iff_toInt_lt.mp h; rw [dk_clN] at hk; have h2 : (0 : Int32).toInt = 0 := by decide +kernel
                                    omega
  refine dg_mna0 hx hb hown hclink harr K hP hS hn0 hk0 hn hk (by decide) (by decide) hcells hslots hdg (fun H1 hP1 hS1 z1 o1 c1 c2 => ?_)
  have hr : ∀ i, i < 20 → shX[21 + i]? = some (1, 0, 160, 14) := sX_k
  obtain ⟨S1, e1⟩ : ∃ S1 : dg_S, S1 = (S.1, (fun a => if 20 ≤ a then (fun _ => 0) else S.2.1 a), S.2.2) := ⟨_, rfl⟩
  have hag : dg_Ag S S1 20 := fun i hi => by subst e1; exact ⟨fun _ => rfl, if_neg (by omega), rfl⟩
  have h0 : ∀ i, 20 ≤ i → S1.2.1 i = fun _ => 0 := fun i hi => by subst e1; exact if_pos hi
  have hr0 : ∀ j, j < 20 → dg_rfH 0 j = dg_rf0 j := fun j hj => by
    funext k
    unfold dg_rfH dg_rf0
    by_cases h9 : j = 19
    · rw [if_pos h9, if_neg (Nat.not_lt_zero k)]
    · rw [if_neg h9, if_neg (by omega)]
  have w1 : va_P D vwCl (dg_w g (shX.take (20 + 1)) o (dg_rfH 0) S1) H1 := by
    refine dg_app (H := H1) (rf := dg_rf0) (S := S) hP1 sX_20 (fun j hj r => ?_) (fun _ _ => rfl) ?_
    · have a1 : S1.1 j = S.1 j := funext (hag j hj).1
      unfold dg_e
      rw [a1, (hag j hj).2.1, (hag j hj).2.2, hr0 j hj]
    · intro i x hx
      have hz0 : i < 1 := (List.getElem?_eq_some_iff.mp hx).1
      rw [show i = 0 by omega] at hx
      cases hx
      show H1[o + 20]? = some (vp_cell (g 4) (20, .inr (.inr (.inr (.inr (fun k => (dg_rfH 0 20 k).map (o + ·)))))))
      rw [← hz, c1, vp_cell_q]
      congr 2
      funext j
      by_cases h9 : j < 20
      · have h8 : dg_rfH 0 20 j = some (21 + j) := by
          unfold dg_rfH
          rw [if_neg (by decide), if_pos rfl, if_pos h9]
        rw [if_pos h9, h8]
        show Value.ref (H.size + 1 + j) = .ref (o + (21 + j))
        rw [hz]
        exact congrArg Value.ref (show o + 20 + 1 + j = o + (21 + j) by omega)
      · have h8 : dg_rfH 0 20 j = none := by
          unfold dg_rfH
          rw [if_neg (by decide), if_pos rfl, if_neg h9]
        rw [if_neg h9, h8]
        rfl
  have w2 := dg_apps (k := 20 + 1) (S := S1) (rf := dg_rfH 0) w1 20 (fun i hi => ⟨hr i hi, h0 _ (by omega), by
    have h9 := c2 i hi
    rw [hz] at h9
    rw [show o + (20 + 1 + i) = o + 20 + 1 + i by omega]
    exact h9⟩)
  rw [← hz] at kk
  refine kk S1 hag (fun i h1 h2 => ?_) H1 w2 hS1 (by rw [z1, hz])
  by_cases h9 : i = 20
  · subst h9
    exact dg_Jc.rowx sX_20 rfl (by intro t h; have h2 : tAX[13]? = some (0, 0, 0) := (by decide +kernel); rw [h2] at h; cases h; rfl)
  · obtain ⟨j, rfl⟩ : ∃ j, i = 21 + j := ⟨i - 21, by omega⟩
    exact dg_Jc.row (hr j (by omega)) rfl (h0 _ (by omega)) (by intro t h; have h2 : tAX[14]? = some (0, 0, 0) := (by decide +kernel); rw [h2] at h; cases h; exact fun _ => (by decide))
end DGMN
theorem Z1X.zero {S : dg_S} (h1 : S.1 185 0 = .int 0) (h2 : S.1 197 0 = .int 0) : Z1X S := by
  intro d hd c x y hc _ _ h9
  have hz : S.1 d 0 = .int 0 := by
    have h3 : d = 185 ∨ d = 197 := by
      unfold rX at hd
      revert hd
      show d ∈ [185, 197] → _
      simp
    rcases h3 with rfl | rfl
    · exact h1
    · exact h2
  have h4 := hz.symm.trans hc
  cases h4
  exact absurd h9 (by decide)
theorem Z3X.of {o p : Nat} {S : dg_S} (h : S.1 214 7 = .ref (o + p)) (hf : dg_fil S p) : Z3X o S := by
  intro d hd e
  have h9 := h.symm.trans e
  have h8 : o + p = o + d := by injection h9
  have h7 : p = d := by omega
  rw [← h7]
  exact hf
theorem ZBM.zero {S : dg_S} (h1 : S.1 0 13 = .int 0) (h2 : S.1 0 47 = .int 0) (h3 : S.2.1 2 = fun _ => 0) (h4 : S.2.1 3 = fun _ => 0) (h5 : S.2.1 4 = fun _ => 0) : ZBM S := by
  intro b sm hb hs
  have e0 : (0 : Int32).toInt = 0 := by decide +kernel
  cases h2.symm.trans hs
  rw [h3, h4, h5, e0]
  exact ⟨by decide, by decide, by decide, fun q => absurd q (by decide)⟩
theorem ZSM.zero {S : dg_S} (h : S.2.1 29 = fun _ => 0) : ZSM S := by
  intro j _ _
  have e0 : (0 : Int32).toInt = 0 := by decide +kernel
  rw [h, e0]
  decide
theorem ZDM.one {S : dg_S} (h : S.1 0 62 = .long 1) : ZDM S := by
  intro x hx
  cases h.symm.trans hx
  decide +kernel
theorem dg_sumv {S1 S2 : dg_S} {i : Nat} (hi : i < 6) (e : S2 = dg_uf S1 16 (upd (S1.2.1 16) (nI i).toNatClampNeg (-1))) (hv : ∀ j, j < i → S1.2.1 16 j = -1) {j : Nat} (hj : j < i + 1) : S2.2.1 16 j = -1 := by
  rw [dg_uf_at e, nI_clamp (by omega)]
  unfold upd
  by_cases h : j = i
  · rw [if_pos h]
  · rw [if_neg h]
    exact hv j (by omega)
theorem ZWM.none {S : dg_S} (h : S.1 0 13 = .int 0) (hv : ∀ j, j < 6 → S.2.1 16 j = -1) : ZWM S := by
  intro b hb w hw
  cases h.symm.trans hb
  intro q
  have e0 : (0 : Int32).toNatClampNeg = 0 := by decide +kernel
  rw [e0, hv (3 * 0 + w) (by omega)] at q
  exact absurd (by decide +kernel) q
theorem dg_sumI {o : Nat} {S1 S2 : dg_S} {x : Nat} (I : CM o S1) (e : S2 = dg_uf S1 16 (upd (S1.2.1 16) x (-1))) : CM o S2 := dg_I.ufu I e sM_16 (lo := -1) (hi := 1600) (by decide +kernel) (by decide +kernel)
