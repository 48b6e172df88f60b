/-! pits that are filled: the place 0 of their cells is a wall -/
def dg_fil (S : dg_S) (d : Nat) : Prop := (S.2.1 (d + 1) 0).toInt = 100
def dg_FG (S S' : dg_S) : Prop := ∀ d, pX d → dg_fil S d → dg_fil S' d
theorem dg_FG.rf {S : dg_S} : dg_FG S S := fun _ _ h => h
theorem dg_FG.tr {S S1 S2 : dg_S} (h : dg_FG S S1) (h2 : dg_FG S1 S2) : dg_FG S S2 := fun d hd q => h2 d hd (h d hd q)
theorem dg_FG.sm {S S' : dg_S} {WF : List (Nat × Nat)} {WA : List Nat} (m : dg_sm shX WF WA S S') (h : 4 ∉ WA) : dg_FG S S' := fun d hd h1 => by
  unfold dg_fil
  rw [(m.2 (d + 1) _ (pX_1 d hd) h).1]
  exact h1
theorem dg_FG.uF {S S1 : dg_S} {i k : Nat} {v : Value} (e : S1 = dg_uF S i k v) : dg_FG S S1 := fun d _ h => by
  unfold dg_fil
  rw [dg_uF_f e]
  exact h
theorem dg_FG.ul {S S1 : dg_S} {i : Nat} {r : Nat → Int64} (e : S1 = dg_ul S i r) : dg_FG S S1 := fun d _ h => by
  unfold dg_fil
  rw [dg_ul_f e]
  exact h
theorem dg_FG.uf {S S1 : dg_S} {i : Nat} {r : Nat → Int32} {q : dg_q} (e : S1 = dg_uf S i r) (hq : shX[i]? = some q) (hr : q.2.2.2 ≠ 4) : dg_FG S S1 := fun d hd h => by
  unfold dg_fil
  rw [dg_uf_ne e (fun z => hr (by
    have h9 := pX_1 d hd
    rw [z, hq] at h9
    rw [Option.some.inj h9]))]
  exact h
theorem dg_FG.to {S S1 : dg_S} {i : Nat} {r : Nat → Int32} (e : S1 = dg_uf S i r) (h : (S.2.1 i 0).toInt = 100 → (r 0).toInt = 100) : dg_FG S S1 := fun d hd h1 => by
  unfold dg_fil at h1 ⊢
  by_cases z : d + 1 = i
  · rw [z] at h1
    rw [z, dg_uf_at e]
    exact h h1
  · rw [dg_uf_ne e z]
    exact h1
theorem dg_FG.st {S S1 : dg_S} {i : Nat} {x v : Int32} (e : S1 = dg_uf S i (upd (S.2.1 i) x.toNatClampNeg v)) (hx : 1 ≤ x.toInt) : dg_FG S S1 := dg_FG.to e (fun h => by
  unfold upd
  rw [if_neg (by have := dk_clN x; omega)]
  exact h)
theorem dg_FG.cpg {S S1 : dg_S} {i : Nat} {f : Nat → Int32} {sp dp n : Nat} (e : S1 = dg_uf S i (va_cpy f (S.2.1 i) sp dp n)) (hx : 1 ≤ dp) : dg_FG S S1 := dg_FG.to e (fun h => by
  rw [pk_cpy_out (by omega)]
  exact h)
theorem dg_fil.cp {S S1 : dg_S} {d : Nat} {f : Nat → Int32} {sp dp n : Nat} (e : S1 = dg_uf S (d + 1) (va_cpy f (S.2.1 (d + 1)) sp dp n)) (h : (f 0).toInt = 100) (h1 : sp = 0) (h2 : dp = 0) (h3 : 1 ≤ n) : dg_fil S1 d := by
  unfold dg_fil
  rw [dg_uf_at e, h1, h2, pk_cpy_in (Nat.le_refl 0) (by omega)]
  exact h
theorem dg_FG.cp {S S1 : dg_S} {d : Nat} {f : Nat → Int32} {sp dp n : Nat} (e : S1 = dg_uf S (d + 1) (va_cpy f (S.2.1 (d + 1)) sp dp n)) (h : (f 0).toInt = 100) (h1 : sp = 0) (h2 : dp = 0) (h3 : 1 ≤ n) : dg_FG S S1 := dg_FG.to e (fun _ => by
  rw [h1, h2, pk_cpy_in (Nat.le_refl 0) (by omega)]
  exact h)
theorem dg_fil.fi {S S1 : dg_S} {d n : Nat} {r : Nat → Int32} {v : Int32} (e : S1 = dg_uf S (d + 1) r) (hr : ∀ j, j < n → r j = v) (hn : 1 ≤ n) (hv : v.toInt = 100) : dg_fil S1 d := by
  unfold dg_fil
  rw [dg_uf_at e, hr 0 (by omega)]
  exact hv
theorem dg_FG.fi {S S1 : dg_S} {i n : Nat} {r : Nat → Int32} {v : Int32} (e : S1 = dg_uf S i r) (hr : ∀ j, j < n → r j = v) (hn : 1 ≤ n) (hv : v.toInt = 100) : dg_FG S S1 := dg_FG.to e (fun _ => by
  rw [hr 0 (by omega)]
  exact hv)
/-- the pit that the works have entered is filled -/
def Z3X (o : Nat) (S : dg_S) : Prop := ∀ d : Nat, pX d → S.1 214 7 = .ref (o + d) → dg_fil S d
theorem Z3X.keep {o : Nat} {S S1 : dg_S} {WF : List (Nat × Nat)} {WA : List Nat} (h : Z3X o S) (m : dg_sm shX WF WA S S1) (g : dg_FG S S1) (h1 : (36, 7) ∉ WF) : Z3X o S1 := by
  intro d hd q
  rw [m.1 214 7 _ sX_214 h1] at q
  exact g d hd (h d hd q)
theorem Z3X.put {o p : Nat} {S S1 : dg_S} (e : S1 = dg_uF S 214 7 (.ref (o + p))) (hf : dg_fil S p) (hp : pX p) : Z3X o S1 := by
  intro d hd q
  rw [dg_uF_at e] at q
  have h9 : o + p = o + d := Value.ref.inj q
  have e2 : d = p := by omega
  subst e2
  exact dg_FG.uF e d hp hf
/-- the class's own pit is filled -/
def Z6X (S : dg_S) : Prop := dg_fil S 3
theorem Z6X.keep {S S1 : dg_S} {WF : List (Nat × Nat)} {WA : List Nat} (h : Z6X S) (_m : dg_sm shX WF WA S S1) (g : dg_FG S S1) : Z6X S1 := g 3 (by unfold pX; decide) h
/-- the ring of what was is filled, as far as acts can be undone -/
def Z4X (S : dg_S) : Prop := ∀ a n : Int32, S.1 17 2 = .int a → S.1 17 3 = .int n → ∀ i : Nat, (i : Int) < a.toInt → dg_fil S (42 + 7 * ((n.toInt.toNat + 39 - i) % 20))
theorem Z4X.keep {S S1 : dg_S} {WF : List (Nat × Nat)} {WA : List Nat} (h : Z4X S) (m : dg_sm shX WF WA S S1) (g : dg_FG S S1) (h1 : (10, 2) ∉ WF) (h2 : (10, 3) ∉ WF) : Z4X S1 := by
  intro a n q1 q2 i hi
  rw [m.1 17 2 _ sX_17 h1] at q1
  rw [m.1 17 3 _ sX_17 h2] at q2
  exact g _ (pX_h9 _ (Nat.mod_lt _ (by decide))) (h a n q1 q2 i hi)
theorem Z4X.zero {S1 : dg_S} (q : S1.1 17 2 = .int 0) : Z4X S1 := by
  intro a n q1 q2 i hi
  rw [q] at q1
  cases q1
  have h3 : (0 : Int32).toInt = 0 := by decide +kernel
  omega
theorem Z4X.put {S S1 S2 : dg_S} {a n a' n' : Int32} (h : Z4X S) (fa : S.1 17 2 = .int a) (fn : S.1 17 3 = .int n) (hf : dg_fil S (42 + 7 * n.toNatClampNeg)) (hn : 0 ≤ n.toInt ∧ n.toInt ≤ 19) (ha : 0 ≤ a.toInt ∧ a.toInt ≤ 20) (hn' : n'.toInt = (n.toInt + 1) % 20) (ha' : a'.toInt ≤ a.toInt + 1 ∧ a'.toInt ≤ 20) (e1 : S1 = dg_uF S 17 3 (.int n')) (e2 : S2 = dg_uF S1 17 2 (.int a')) : Z4X S2 := by
  intro a2 n2 q1 q2 i hi
  rw [dg_uF_at e2] at q1
  rw [dg_uF_ne e2 (fun z => absurd z.2 (by decide)), dg_uF_at e1] at q2
  cases q1
  cases q2
  have g : dg_FG S S2 := (dg_FG.uF e1).tr (dg_FG.uF e2)
  refine g _ (pX_h9 _ (Nat.mod_lt _ (by decide))) ?_
  have e3 := dk_clN n
  by_cases z : i = 0
  · have e4 : (n'.toInt.toNat + 39 - i) % 20 = n.toNatClampNeg := by omega
    rw [e4]
    exact hf
  · have h9 := h a n fa fn (i - 1) (by omega)
    have e4 : (n'.toInt.toNat + 39 - i) % 20 = (n.toInt.toNat + 39 - (i - 1)) % 20 := by omega
    rw [e4]
    exact h9
theorem Z4X.take {S S1 S2 : dg_S} {a n a' n' : Int32} (h : Z4X S) (fa : S.1 17 2 = .int a) (fn : S.1 17 3 = .int n) (hn : 0 ≤ n.toInt ∧ n.toInt ≤ 19) (ha : 1 ≤ a.toInt ∧ a.toInt ≤ 20) (hn' : n'.toInt = (n.toInt + 19) % 20) (ha' : a'.toInt = a.toInt - 1) (e1 : S1 = dg_uF S 17 2 (.int a')) (e2 : S2 = dg_uF S1 17 3 (.int n')) : Z4X S2 ∧ dg_fil S2 (42 + 7 * n'.toNatClampNeg) := by
  have g : dg_FG S S2 := (dg_FG.uF e1).tr (dg_FG.uF e2)
  have e3 := dk_clN n'
  refine ⟨fun a2 n2 q1 q2 i hi => ?_, ?_⟩
  · rw [dg_uF_at e2] at q2
    rw [dg_uF_ne e2 (fun z => absurd z.2 (by decide)), dg_uF_at e1] at q1
    cases q1
    cases q2
    refine g _ (pX_h9 _ (Nat.mod_lt _ (by decide))) ?_
    have h9 := h a n fa fn (i + 1) (by omega)
    have e4 : (n'.toInt.toNat + 39 - i) % 20 = (n.toInt.toNat + 39 - (i + 1)) % 20 := by omega
    rw [e4]
    exact h9
  · have h9 := h a n fa fn 0 (by omega)
    have e4 : (n.toInt.toNat + 39 - 0) % 20 = n'.toNatClampNeg := by omega
    rw [e4] at h9
    exact g _ (pX_h9 _ (by omega)) h9
/-- the pits of the reaches that are tried, as far as k -/
def dg_felk (S : dg_S) (k : Int) : Prop := ∀ j : Nat, j < 21 → (j : Int) < k → dg_fil S (233 + 7 * j)
theorem dg_felk.keep {S S1 : dg_S} {k : Int} (h : dg_felk S k) (g : dg_FG S S1) : dg_felk S1 k := fun j hj h1 => g _ (pX_f9 j hj) (h j hj h1)
theorem dg_felk.none {S : dg_S} {k : Int} (h : k ≤ 0) : dg_felk S k := fun j _ h1 => absurd h1 (by omega)
theorem dg_felk.more {S S1 : dg_S} {x : Int32} {k : Int} (h : dg_felk S x.toInt) (g : dg_FG S S1) (hf : dg_fil S1 (233 + 7 * x.toNatClampNeg)) (hx : 0 ≤ x.toInt) (hk : k = x.toInt + 1) : dg_felk S1 k := fun j hj h1 => by
  have e := dk_clN x
  by_cases z : j = x.toNatClampNeg
  · rw [z]
    exact hf
  · exact g _ (pX_f9 j hj) (h j hj (by omega))
theorem dg_felk.at {S : dg_S} {x : Int32} {k : Int} {d : Nat} (h : dg_felk S k) (hd : d = 233 + 7 * x.toNatClampNeg) (hx : 0 ≤ x.toInt ∧ x.toInt ≤ 20) (hk : x.toInt < k) : dg_fil S d := by
  have e := dk_clN x
  rw [hd]
  exact h _ (by omega) (by omega)
