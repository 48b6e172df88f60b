/-! a rule's steps have their sorts -/
/-- what may stand in rule w -/
def y_P (w s : Int) : Prop := (w = 0 → s ≠ -5 ∧ s ≠ -6) ∧ (w ≠ 0 → s ≠ -4)
/-- what is taken by p is written by c: steps that leave one value more, of sort b, over D at most -/
def y_T (w : Int) (c : d_C) (p : Nat → Option Nat) (b : Bool) (D : Nat) : Prop := ∀ k k', p k = some k' → (∀ s ∈ c k, y_P w s) ∧ ∀ t : List Bool, t.length + D ≤ 60 → e_ty (c k) t = some (b :: t)
section LF
variable {kd vl : Nat → Int32} {w : Int} {c c1 c2 : d_C} {p s t : Nat → Option Nat} {b : Bool} {D D' E k k' : Nat}
theorem y_T.up (h : y_T w c p b D) (hD : D ≤ D') : y_T w c p b D' := fun k k' e => ⟨(h k k' e).1, fun t ht => (h k k' e).2 t (by omega)⟩
theorem y_P_lo {s : Int} (h : s ≤ -7 ∨ 0 ≤ s) : y_P w s := ⟨fun _ => ⟨by omega, by omega⟩, fun _ => by omega⟩
theorem e_ty1 {a : Int} {t t' : List Bool} (h : e_t1 a t = some t') : e_ty [a] t = some t' := by
  show (e_t1 a t).bind (e_ty []) = _
  rw [h]
  rfl
theorem e_ty2 {a b : List Int} {t t1 t2 : List Bool} (h : e_ty a t = some t1) (h2 : e_ty b t1 = some t2) : e_ty (a ++ b) t = some t2 := by
  rw [e_ty_app, h]
  exact h2
theorem e_p1 {a : Int} (ha : -6 ≤ a ∧ a ≤ 9999) {t : List Bool} (ht : t.length + 1 ≤ 60) : e_t1 a t = some (false :: t) := by
  unfold e_t1
  by_cases q : 0 ≤ a
  · rw [if_pos q, if_pos ⟨ha.2, by omega⟩]
  · rw [if_neg q, if_pos ha.1, if_pos (by omega)]
theorem e_p7 {t : List Bool} (ht : t.length + 1 ≤ 60) : e_t1 (-7) t = some (true :: t) := by
  unfold e_t1
  rw [if_neg (by decide), if_neg (by decide), if_pos rfl, if_pos (by omega)]
theorem e_p8 {t : List Bool} : e_t1 (-8) (true :: t) = some (true :: t) := rfl
theorem e_p9 {t : List Bool} : e_t1 (-9) (false :: false :: true :: t) = some (false :: t) := rfl
theorem e_pa {a : Int} (ha : -16 ≤ a ∧ a ≤ -10) {t : List Bool} : e_t1 a (false :: false :: t) = some (false :: t) := by
  unfold e_t1
  rw [if_neg (by omega), if_neg (by omega), if_neg (by omega), if_neg (by omega), if_neg (by omega), if_pos ha.1]
theorem e_pc {a : Int} (ha : -19 ≤ a ∧ a ≤ -17) {t : List Bool} : e_t1 a (false :: false :: t) = some (true :: t) := by
  unfold e_t1
  rw [if_neg (by omega), if_neg (by omega), if_neg (by omega), if_neg (by omega), if_neg (by omega), if_neg (by omega), if_pos ha.1]
theorem e_pb {a : Int} (ha : -21 ≤ a ∧ a ≤ -20) {t : List Bool} : e_t1 a (true :: true :: t) = some (true :: t) := by
  unfold e_t1
  rw [if_neg (by omega), if_neg (by omega), if_neg (by omega), if_neg (by omega), if_neg (by omega), if_neg (by omega), if_neg (by omega), if_pos ha.1]
/-- more of them behind signs -/
theorem y_loop {op : Nat → Bool} {st : Nat → Int} (h : y_T w c p b D) (hst : ∀ k, op k = true → st k ≤ -7 ∧ ∀ t, e_t1 (st k) (b :: b :: t) = some (b :: t)) : ∀ (f k k' : Nat), x_loop op p f k = some k' → (∀ s ∈ d_loop op p c st f k, y_P w s) ∧ ∀ t : List Bool, t.length + 1 + D ≤ 60 → e_ty (d_loop op p c st f k) (b :: t) = some (b :: t)
  | 0, k, k', e => ⟨fun s hs => (by cases hs), fun t _ => rfl⟩
  | f + 1, k, k', e => by
    unfold d_loop
    cases q : op k with
    | false =>
      rw [if_neg (by decide)]
      exact ⟨fun s hs => (by cases hs), fun t _ => rfl⟩
    | true =>
      rw [if_pos rfl]
      obtain ⟨j, h1, h2⟩ := x_loop_in e q
      rw [h1]
      show (∀ s ∈ c (k + 1) ++ st k :: d_loop op p c st f j, y_P w s) ∧ _
      obtain ⟨a1, a2⟩ := h _ _ h1
      obtain ⟨b1, b2⟩ := y_loop h hst f j k' h2
      obtain ⟨s1, s2⟩ := hst k q
      refine ⟨fun s hs => ?_, fun t ht => ?_⟩
      · rcases List.mem_append.mp hs with z | z
        · exact a1 s z
        · rcases List.mem_cons.mp z with z | z
          · rw [z]
            exact y_P_lo (Or.inl s1)
          · exact b1 s z
      · refine e_ty2 (a2 (b :: t) (by show t.length + 1 + D ≤ 60; exact ht)) ?_
        show (e_t1 (st k) (b :: b :: t)).bind (e_ty (d_loop op p c st f j)) = _
        rw [s2]
        exact b2 t ht
theorem y_chain {op : Nat → Bool} {st : Nat → Int} (h : y_T w c p b D) (hst : ∀ k, op k = true → st k ≤ -7 ∧ ∀ t, e_t1 (st k) (b :: b :: t) = some (b :: t)) : y_T w (fun k => c k ++ d_loop op p c st 1600 ((p k).getD 0)) (fun k => (p k).bind (x_loop op p 1600)) b (D + 1) := by
  intro k k' e
  obtain ⟨j, h1, h2⟩ := g_bind e
  show (∀ s ∈ c k ++ d_loop op p c st 1600 ((p k).getD 0), y_P w s) ∧ ∀ t : List Bool, t.length + (D + 1) ≤ 60 → e_ty (c k ++ d_loop op p c st 1600 ((p k).getD 0)) t = _
  rw [h1]
  show (∀ s ∈ c k ++ d_loop op p c st 1600 j, y_P w s) ∧ ∀ t : List Bool, t.length + (D + 1) ≤ 60 → e_ty (c k ++ d_loop op p c st 1600 j) t = _
  obtain ⟨a1, a2⟩ := h _ _ h1
  obtain ⟨b1, b2⟩ := y_loop h hst 1600 j k' h2
  refine ⟨fun s hs => ?_, fun t ht => e_ty2 (a2 t (by omega)) (b2 t (by omega))⟩
  rcases List.mem_append.mp hs with z | z
  · exact a1 s z
  · exact b1 s z
theorem y_po (k : Nat) (_ : g_po kd vl k = true) : d_po kd vl k ≤ -7 ∧ ∀ t, e_t1 (d_po kd vl k) (false :: false :: t) = some (false :: t) := by
  have h : -16 ≤ d_po kd vl k ∧ d_po kd vl k ≤ -10 := by
    unfold d_po
    split
    · decide
    · split <;> decide
  exact ⟨by omega, fun t => e_pa h⟩
theorem y_so (k : Nat) (_ : g_so kd vl k = true) : d_so kd vl k ≤ -7 ∧ ∀ t, e_t1 (d_so kd vl k) (false :: false :: t) = some (false :: t) := by
  have h : -16 ≤ d_so kd vl k ∧ d_so kd vl k ≤ -10 := by
    unfold d_so
    split <;> decide
  exact ⟨by omega, fun t => e_pa h⟩
theorem y_sum (h : y_T w c p false D) : y_T w (d_sum kd vl p c) (x_sum kd vl p) false (D + 2) := y_chain (y_chain h (op := g_po kd vl) (st := d_po kd vl) y_po) (op := g_so kd vl) (st := d_so kd vl) y_so
theorem y_test (h : y_T w c p true D) : y_T w (d_test kd vl p c) (x_test kd vl p) true (D + 2) := y_chain (y_chain h (op := g_o kd vl 22) (st := fun _ => -20) (fun k _ => ⟨by decide, fun t => e_pb ⟨by decide, by decide⟩⟩)) (op := g_o kd vl 21) (st := fun _ => -21) (fun k _ => ⟨by decide, fun t => e_pb ⟨by decide, by decide⟩⟩)
/-- two of them -/
theorem y_pair (h : y_T w c s false D) (e : x_pair kd vl s k = some k') : (∀ x ∈ d_pair s c k, y_P w x) ∧ ∀ t : List Bool, t.length + D + 1 ≤ 60 → e_ty (d_pair s c k) t = some (false :: false :: t) := by
  unfold x_pair at e
  obtain ⟨k1, h1, e⟩ := g_bind e
  obtain ⟨k2, h2, e⟩ := g_bind e
  obtain ⟨k3, h3, e⟩ := g_bind e
  have e2 := (g_tk_some h2).2
  rw [e2] at h3
  unfold d_pair
  rw [h1]
  show (∀ x ∈ c k ++ c (k1 + 1), y_P w x) ∧ ∀ t : List Bool, t.length + D + 1 ≤ 60 → e_ty (c k ++ c (k1 + 1)) t = some (false :: false :: t)
  obtain ⟨a1, a2⟩ := h _ _ h1
  obtain ⟨b1, b2⟩ := h _ _ h3
  refine ⟨fun x hx => ?_, fun t ht => e_ty2 (a2 t (by omega)) (b2 (false :: t) (by show t.length + 1 + D ≤ 60; omega))⟩
  rcases List.mem_append.mp hx with z | z
  · exact a1 x z
  · exact b1 x z
theorem y_fw (h : g_fw kd vl w k = true) : (-6 ≤ d_fw kd vl k ∧ d_fw kd vl k ≤ -1) ∧ y_P w (d_fw kd vl k) := by
  unfold g_fw at h
  simp only [Bool.or_eq_true, Bool.and_eq_true, decide_eq_true_eq, Bool.not_eq_true', decide_eq_false_iff_not] at h
  unfold d_fw y_P
  by_cases q5 : g_o kd vl 5 k = true
  · rw [if_pos q5]
    exact ⟨by decide, fun _ => by decide, fun _ => by decide⟩
  rw [if_neg q5]
  by_cases q15 : g_o kd vl 15 k = true
  · rw [if_pos q15]
    exact ⟨by decide, fun _ => by decide, fun _ => by decide⟩
  rw [if_neg q15]
  by_cases q16 : g_o kd vl 16 k = true
  · rw [if_pos q16]
    exact ⟨by decide, fun _ => by decide, fun _ => by decide⟩
  rw [if_neg q16]
  by_cases q17 : g_o kd vl 17 k = true
  · rw [if_pos q17]
    refine ⟨by decide, fun _ => by decide, fun hw => ?_⟩
    exfalso
    have v17 := (g_o_iff.mp q17).2
    rcases h with (((h | h) | h) | h) | h
    · exact q5 h
    · exact q15 h
    · exact q16 h
    · exact hw h.2
    · rcases h.1 with h | h
      · have := (g_o_iff.mp h).2; omega
      · have := (g_o_iff.mp h).2; omega
  rw [if_neg q17]
  have hw : w ≠ 0 := by
    rcases h with (((h | h) | h) | h) | h
    · exact absurd h q5
    · exact absurd h q15
    · exact absurd h q16
    · exact absurd h.1 q17
    · exact h.2
  by_cases q18 : g_o kd vl 18 k = true
  · rw [if_pos q18]
    exact ⟨by decide, fun z => absurd z hw, fun _ => by decide⟩
  · rw [if_neg q18]
    exact ⟨by decide, fun z => absurd z hw, fun _ => by decide⟩
/-- a PART -/
theorem y_part (hn : ∀ k, (kd k).toInt = 3 → 0 ≤ (vl k).toInt ∧ (vl k).toInt ≤ 9999) (hs : y_T w c s false D) (ht : y_T w c1 t true E) (h1 : D + 2 ≤ D') (h2 : E ≤ D') : y_T w (d_part kd vl s t c c1) (x_part kd vl w s t) false D' := by
  intro k k' e
  unfold x_part at e
  unfold d_part
  by_cases q1 : g_s kd vl 40 k = true
  · rw [if_pos q1] at e ⊢
    obtain ⟨k1, e1, -⟩ := g_bind e
    exact ⟨(hs _ _ e1).1, fun u hu => (hs _ _ e1).2 u (by omega)⟩
  rw [if_neg q1] at e ⊢
  by_cases q2 : g_o kd vl 20 k = true
  · rw [if_pos q2] at e ⊢
    unfold x_choice at e
    by_cases q3 : g_s kd vl 40 (k + 1) = true
    · rw [if_pos q3] at e
      obtain ⟨k1, e1, e⟩ := g_bind e
      obtain ⟨k2, e2, e⟩ := g_bind e
      rw [(g_tk_some e2).2] at e
      unfold d_choice
      rw [e1]
      show (∀ x ∈ c1 (k + 2) ++ d_pair s c (k1 + 1) ++ [-9], y_P w x) ∧ ∀ u : List Bool, u.length + D' ≤ 60 → e_ty (c1 (k + 2) ++ d_pair s c (k1 + 1) ++ [-9]) u = some (false :: u)
      obtain ⟨a1, a2⟩ := ht _ _ e1
      obtain ⟨b1, b2⟩ := y_pair hs e
      refine ⟨fun x hx => ?_, fun u hu => e_ty2 (e_ty2 (a2 u (by omega)) (b2 (true :: u) (by show u.length + 1 + D + 1 ≤ 60; omega))) (e_ty1 e_p9)⟩
      rcases List.mem_append.mp hx with z | z
      · rcases List.mem_append.mp z with z | z
        · exact a1 x z
        · exact b1 x z
      · rw [List.mem_singleton.mp z]
        exact y_P_lo (Or.inl (by decide))
    · rw [if_neg q3] at e
      cases e
  rw [if_neg q2] at e ⊢
  by_cases q4 : (g_o kd vl 25 k || g_o kd vl 26 k) = true
  · rw [if_pos q4] at e ⊢
    unfold x_prs at e
    by_cases q3 : g_s kd vl 40 (k + 1) = true
    · rw [if_pos q3] at e
      unfold d_prs
      obtain ⟨b1, b2⟩ := y_pair hs e
      have hv : -16 ≤ (if g_o kd vl 25 k = true then (-15 : Int) else -16) ∧ (if g_o kd vl 25 k = true then (-15 : Int) else -16) ≤ -10 := by split <;> decide
      refine ⟨fun x hx => ?_, fun u hu => e_ty2 (b2 u (by omega)) (e_ty1 (e_pa hv))⟩
      rcases List.mem_append.mp hx with z | z
      · exact b1 x z
      · rw [List.mem_singleton.mp z]
        exact y_P_lo (Or.inl (by omega))
    · rw [if_neg q3] at e
      cases e
  rw [if_neg q4] at e ⊢
  by_cases q5 : (g_n kd k || g_fw kd vl w k) = true
  · by_cases q6 : g_n kd k = true
    · rw [if_pos q6]
      have v := hn k (g_n_iff.mp q6)
      exact ⟨fun x hx => by rw [List.mem_singleton.mp hx]; exact y_P_lo (Or.inr v.1), fun u hu => e_ty1 (e_p1 ⟨by omega, v.2⟩ (by omega))⟩
    · rw [if_neg q6]
      have q7 : g_fw kd vl w k = true := by
        rcases Bool.or_eq_true_iff.mp q5 with z | z
        · exact absurd z q6
        · exact z
      obtain ⟨v1, v2⟩ := y_fw q7
      exact ⟨fun x hx => by rw [List.mem_singleton.mp hx]; exact v2, fun u hu => e_ty1 (e_p1 ⟨v1.1, by omega⟩ (by omega))⟩
  · rw [if_neg q5] at e
    cases e
/-- a FACT -/
theorem y_fact (hf : y_T w c1 p true D) (ht : y_T w c2 t true E) (hs : y_T w c s false D') (h1 : D ≤ k) (h2 : E ≤ k) (h3 : D' + 1 ≤ k) : y_T w (d_fact kd vl s c1 c2 c) (x_fact kd vl p t s) true k := by
  intro i i' e
  unfold x_fact at e
  unfold d_fact
  by_cases q1 : g_o kd vl 23 i = true
  · rw [if_pos q1] at e ⊢
    obtain ⟨a1, a2⟩ := hf _ _ e
    refine ⟨fun x hx => ?_, fun u hu => e_ty2 (a2 u (by omega)) (e_ty1 e_p8)⟩
    rcases List.mem_append.mp hx with z | z
    · exact a1 x z
    · rw [List.mem_singleton.mp z]
      exact y_P_lo (Or.inl (by decide))
  rw [if_neg q1] at e ⊢
  by_cases q2 : g_s kd vl 91 i = true
  · rw [if_pos q2] at e ⊢
    obtain ⟨k1, e1, -⟩ := g_bind e
    exact ⟨(ht _ _ e1).1, fun u hu => (ht _ _ e1).2 u (by omega)⟩
  rw [if_neg q2] at e ⊢
  by_cases q3 : g_o kd vl 24 i = true
  · rw [if_pos q3] at e ⊢
    exact ⟨fun x hx => by rw [List.mem_singleton.mp hx]; exact y_P_lo (Or.inl (by decide)), fun u hu => e_ty1 (e_p7 (by omega))⟩
  rw [if_neg q3] at e ⊢
  unfold x_comp at e
  obtain ⟨k1, e1, e⟩ := g_bind e
  by_cases q4 : g_co kd vl k1 = true
  · rw [if_pos q4] at e
    unfold d_comp
    rw [e1]
    show (∀ x ∈ c i ++ c (k1 + 1) ++ [d_co kd vl k1], y_P w x) ∧ ∀ u : List Bool, u.length + k ≤ 60 → e_ty (c i ++ c (k1 + 1) ++ [d_co kd vl k1]) u = some (true :: u)
    obtain ⟨a1, a2⟩ := hs _ _ e1
    obtain ⟨b1, b2⟩ := hs _ _ e
    have hv : -19 ≤ d_co kd vl k1 ∧ d_co kd vl k1 ≤ -17 := by
      unfold d_co
      split
      · decide
      · split <;> decide
    refine ⟨fun x hx => ?_, fun u hu => e_ty2 (e_ty2 (a2 u (by omega)) (b2 (false :: u) (by show u.length + 1 + D' ≤ 60; omega))) (e_ty1 (e_pc hv))⟩
    rcases List.mem_append.mp hx with z | z
    · rcases List.mem_append.mp z with z | z
      · exact a1 x z
      · exact b1 x z
    · rw [List.mem_singleton.mp z]
      exact y_P_lo (Or.inl (by omega))
  · rw [if_neg q4] at e
    cases e
theorem y_lv (hn : ∀ k, (kd k).toInt = 3 → 0 ≤ (vl k).toInt ∧ (vl k).toInt ≤ 9999) : ∀ e : Nat, y_T w (d_lv kd vl w e).1 (x_lv kd vl w e).1 false (6 * e) ∧ y_T w (d_lv kd vl w e).2.1 (x_lv kd vl w e).2.1 true (6 * e + 3) ∧ y_T w (d_lv kd vl w e).2.2 (x_lv kd vl w e).2.2 true (6 * e + 1)
  | 0 => ⟨fun k k' h => (by cases h), fun k k' h => (by cases h), fun k k' h => (by cases h)⟩
  | e + 1 => by
    obtain ⟨h1, h2, h3⟩ := y_lv hn e
    have s := y_sum (kd := kd) (vl := vl) (y_part hn h1 h2 (D' := 6 * e + 3) (by omega) (by omega))
    have f := y_fact (kd := kd) (vl := vl) h3 h2 s (k := 6 * e + 6) (by omega) (by omega) (by omega)
    have t := y_test (kd := kd) (vl := vl) f
    exact ⟨s.up (by omega), t.up (by omega), f.up (by omega)⟩
/-- a rule -/
theorem y_rule_T (hn : ∀ k, (kd k).toInt = 3 → 0 ≤ (vl k).toInt ∧ (vl k).toInt ≤ 9999) (e : y_rule kd vl w k = some k') : e_ty (d_rule kd vl w k) [] = some [w == 1] ∧ (∀ x ∈ d_rule kd vl w k, y_P w x) := by
  unfold y_rule at e
  unfold d_rule
  by_cases q : w = 1
  · rw [if_pos q] at e ⊢
    have h := (y_lv (w := w) hn 8).2.1 _ _ e
    refine ⟨(h.2 [] (by decide)).trans ?_, h.1⟩
    rw [q]
    rfl
  · rw [if_neg q] at e ⊢
    have h := (y_lv (w := w) hn 8).1 _ _ e
    refine ⟨(h.2 [] (by decide)).trans ?_, h.1⟩
    rw [show (w == 1) = false from by simpa using q]
end LF
