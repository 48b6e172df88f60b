section
/-! a rule's steps have their sorts -/
/-- what may stand in rule w -/
def y_P (w s : Int) : Prop := (w = 0 → s ≠ -5 ∧ s ≠ -6) ∧ (w ≠ 0 → s ≠ -4)
/-- what is taken by p is written by c: steps that leave one value more, of sort b, over D at most -/
def y_T (w : Int) (c : d_C) (p : Nat → Option Nat) (b : Bool) (D : Nat) : Prop := ∀ k k', p k = some k' → (∀ s ∈ c k, y_P w s) ∧ ∀ t : List Bool, t.length + D ≤ 60 → e_ty (c k) t = some (b :: t)
section LF
variable {kd vl : Nat → Int32} {w : Int} {c c1 c2 : d_C} {p s t : Nat → Option Nat} {b : Bool} {D D' E k k' : Nat}
theorem y_T.up (h : y_T w c p b D) (hD : D ≤ D') : y_T w c p b D' := fun k k' e => ⟨(h k k' e).1, fun t ht => (h k k' e).2 t (by omega)⟩
theorem y_P_lo {s : Int} (h : s ≤ -7 ∨ 0 ≤ s) : y_P w s := ⟨fun _ => ⟨by omega, by omega⟩, fun _ => by omega⟩
theorem e_ty1 {a : Int} {t t' : List Bool} (h : e_t1 a t = some t') : e_ty [a] t = some t' := by
  show (e_t1 a t).bind (e_ty []) = _
  rw [h]
  rfl
theorem e_ty2 {a b : List Int} {t t1 t2 : List Bool} (h : e_ty a t = some t1) (h2 : e_ty b t1 = some t2) : e_ty (a ++ b) t = some t2 := by
  rw [e_ty_app, h]
  exact h2
theorem e_p1 {a : Int} (ha : -6 ≤ a ∧ a ≤ 9999) {t : List Bool} (ht : t.length + 1 ≤ 60) : e_t1 a t = some (false :: t) := by
  unfold e_t1
  by_cases q : 0 ≤ a
  · rw [if_pos q, if_pos ⟨ha.2, by omega⟩]
  · rw [if_neg q, if_pos ha.1, if_pos (by omega)]
theorem e_p7 {t : List Bool} (ht : t.length + 1 ≤ 60) : e_t1 (-7) t = some (true :: t) := by
  unfold e_t1
  rw [if_neg (by decide), if_neg (by decide), if_pos rfl, if_pos (by omega)]
theorem e_p8 {t : List Bool} : e_t1 (-8) (true :: t) = some (true :: t) := rfl
theorem e_p9 {t : List Bool} : e_t1 (-9) (false :: false :: true :: t) = some (false :: t) := rfl
theorem e_pa {a : Int} (ha : -16 ≤ a ∧ a ≤ -10) {t : List Bool} : e_t1 a (false :: false :: t) = some (false :: t) := by
  unfold e_t1
  rw [if_neg (by omega), if_neg (by omega), if_neg (by omega), if_neg (by omega), if_neg (by omega), if_pos ha.1]
theorem e_pc {a : Int} (ha : -19 ≤ a ∧ a ≤ -17) {t : List Bool} : e_t1 a (false :: false :: t) = some (true :: t) := by
  unfold e_t1
  rw [if_neg (by omega), if_neg (by omega), if_neg (by omega), if_neg (by omega), if_neg (by omega), if_neg (by omega), if_pos ha.1]
theorem e_pb {a : Int} (ha : -21 ≤ a ∧ a ≤ -20) {t : List Bool} : e_t1 a (true :: true :: t) = some (true :: t) := by
  unfold e_t1
  rw [if_neg (by omega), if_neg (by omega), if_neg (by omega), if_neg (by omega), if_neg (by omega), if_neg (by omega), if_neg (by omega), if_pos ha.1]
/-- more of them behind signs -/
theorem y_loop {op : Nat → Bool} {st : Nat → Int} (h : y_T w c p b D) (hst : ∀ k, op k = true → st k ≤ -7 ∧ ∀ t, e_t1 (st k) (b :: b :: t) = some (b :: t)) : ∀ (f k k' : Nat), x_loop op p f k = some k' → (∀ s ∈ d_loop op p c st f k, y_P w s) ∧ ∀ t : List Bool, t.length + 1 + D ≤ 60 → e_ty (d_loop op p c st f k) (b :: t) = some (b :: t)
  | 0, k, k', e => ⟨fun s hs => (by cases hs), fun t _ => rfl⟩
  | f + 1, k, k', e => by
    unfold d_loop
    cases q : op k with
    | false =>
      rw [if_neg (by decide)]
      exact ⟨fun s hs => (by cases hs), fun t _ => rfl⟩
    | true =>
      rw [if_pos rfl]
      obtain ⟨j, h1, h2⟩ := x_loop_in e q
      rw [h1]
      show (∀ s ∈ c (k + 1) ++ st k :: d_loop op p c st f j, y_P w s) ∧ _
      obtain ⟨a1, a2⟩ := h _ _ h1
      obtain ⟨b1, b2⟩ := y_loop h hst f j k' h2
      obtain ⟨s1, s2⟩ := hst k q
      refine ⟨fun s hs => ?_, fun t ht => ?_⟩
      · rcases List.mem_append.mp hs with z | z
        · exact a1 s z
        · rcases List.mem_cons.mp z with z | z
          · rw [z]
            exact y_P_lo (Or.inl s1)
          · exact b1 s z
      · refine e_ty2 (a2 (b :: t) (by show t.length + 1 + D ≤ 60; exact ht)) ?_
        show (e_t1 (st k) (b :: b :: t)).bind (e_ty (d_loop op p c st f j)) = _
        rw [s2]
        exact b2 t ht
theorem y_chain {op : Nat → Bool} {st : Nat → Int} (h : y_T w c p b D) (hst : ∀ k, op k = true → st k ≤ -7 ∧ ∀ t, e_t1 (st k) (b :: b :: t) = some (b :: t)) : y_T w (fun k => c k ++ d_loop op p c st 1600 ((p k).getD 0)) (fun k => (p k).bind (x_loop op p 1600)) b (D + 1) := by
  intro k k' e
  obtain ⟨j, h1, h2⟩ := g_bind e
  show (∀ s ∈ c k ++ d_loop op p c st 1600 ((p k).getD 0), y_P w s) ∧ ∀ t : List Bool, t.length + (D + 1) ≤ 60 → e_ty (c k ++ d_loop op p c st 1600 ((p k).getD 0)) t = _
  rw [h1]
  show (∀ s ∈ c k ++ d_loop op p c st 1600 j, y_P w s) ∧ ∀ t : List Bool, t.length + (D + 1) ≤ 60 → e_ty (c k ++ d_loop op p c st 1600 j) t = _
  obtain ⟨a1, a2⟩ := h _ _ h1
  obtain ⟨b1, b2⟩ := y_loop h hst 1600 j k' h2
  refine ⟨fun s hs => ?_, fun t ht => e_ty2 (a2 t (by omega)) (b2 t (by omega))⟩
  rcases List.mem_append.mp hs with z | z
  · exact a1 s z
  · exact b1 s z
theorem y_po (k : Nat) (_ : g_po kd vl k = true) : d_po kd vl k ≤ -7 ∧ ∀ t, e_t1 (d_po kd vl k) (false :: false :: t) = some (false :: t) := by
  have h : -16 ≤ d_po kd vl k ∧ d_po kd vl k ≤ -10 := by
    unfold d_po
    split
    · decide
    · split <;> decide
  exact ⟨by omega, fun t => e_pa h⟩
theorem y_so (k : Nat) (_ : g_so kd vl k = true) : d_so kd vl k ≤ -7 ∧ ∀ t, e_t1 (d_so kd vl k) (false :: false :: t) = some (false :: t) := by
  have h : -16 ≤ d_so kd vl k ∧ d_so kd vl k ≤ -10 := by
    unfold d_so
    split <;> decide
  exact ⟨by omega, fun t => e_pa h⟩
theorem y_sum (h : y_T w c p false D) : y_T w (d_sum kd vl p c) (x_sum kd vl p) false (D + 2) := y_chain (y_chain h (op := g_po kd vl) (st := d_po kd vl) y_po) (op := g_so kd vl) (st := d_so kd vl) y_so
theorem y_test (h : y_T w c p true D) : y_T w (d_test kd vl p c) (x_test kd vl p) true (D + 2) := y_chain (y_chain h (op := g_o kd vl 22) (st := fun _ => -20) (fun k _ => ⟨by decide, fun t => e_pb ⟨by decide, by decide⟩⟩)) (op := g_o kd vl 21) (st := fun _ => -21) (fun k _ => ⟨by decide, fun t => e_pb ⟨by decide, by decide⟩⟩)
/-- two of them -/
theorem y_pair (h : y_T w c s false D) (e : x_pair kd vl s k = some k') : (∀ x ∈ d_pair s c k, y_P w x) ∧ ∀ t : List Bool, t.length + D + 1 ≤ 60 → e_ty (d_pair s c k) t = some (false :: false :: t) := by
  unfold x_pair at e
  obtain ⟨k1, h1, e⟩ := g_bind e
  obtain ⟨k2, h2, e⟩ := g_bind e
  obtain ⟨k3, h3, e⟩ := g_bind e
  have e2 := (g_tk_some h2).2
  rw [e2] at h3
  unfold d_pair
  rw [h1]
  show (∀ x ∈ c k ++ c (k1 + 1), y_P w x) ∧ ∀ t : List Bool, t.length + D + 1 ≤ 60 → e_ty (c k ++ c (k1 + 1)) t = some (false :: false :: t)
  obtain ⟨a1, a2⟩ := h _ _ h1
  obtain ⟨b1, b2⟩ := h _ _ h3
  refine ⟨fun x hx => ?_, fun t ht => e_ty2 (a2 t (by omega)) (b2 (false :: t) (by show t.length + 1 + D ≤ 60; omega))⟩
  rcases List.mem_append.mp hx with z | z
  · exact a1 x z
  · exact b1 x z
theorem y_fw (h : g_fw kd vl w k = true) : (-6 ≤ d_fw kd vl k ∧ d_fw kd vl k ≤ -1) ∧ y_P w (d_fw kd vl k) := by
  unfold g_fw at h
  simp only [Bool.or_eq_true, Bool.and_eq_true, decide_eq_true_eq, Bool.not_eq_true', decide_eq_false_iff_not] at h
  unfold d_fw y_P
  by_cases q5 : g_o kd vl 5 k = true
  · rw [if_pos q5]
    exact ⟨by decide, fun _ => by decide, fun _ => by decide⟩
  rw [if_neg q5]
  by_cases q15 : g_o kd vl 15 k = true
  · rw [if_pos q15]
    exact ⟨by decide, fun _ => by decide, fun _ => by decide⟩
  rw [if_neg q15]
  by_cases q16 : g_o kd vl 16 k = true
  · rw [if_pos q16]
    exact ⟨by decide, fun _ => by decide, fun _ => by decide⟩
  rw [if_neg q16]
  by_cases q17 : g_o kd vl 17 k = true
  · rw [if_pos q17]
    refine ⟨by decide, fun _ => by decide, fun hw => ?_⟩
    exfalso
    have v17 := (g_o_iff.mp q17).2
    rcases h with (((h | h) | h) | h) | h
    · exact q5 h
    · exact q15 h
    · exact q16 h
    · exact hw h.2
    · rcases h.1 with h | h
      · have := (g_o_iff.mp h).2; omega
      · have := (g_o_iff.mp h).2; omega
  rw [if_neg q17]
  have hw : w ≠ 0 := by
    rcases h with (((h | h) | h) | h) | h
    · exact absurd h q5
    · exact absurd h q15
    · exact absurd h q16
    · exact absurd h.1 q17
    · exact h.2
  by_cases q18 : g_o kd vl 18 k = true
  · rw [if_pos q18]
    exact ⟨by decide, fun z => absurd z hw, fun _ => by decide⟩
  · rw [if_neg q18]
    exact ⟨by decide, fun z => absurd z hw, fun _ => by decide⟩
/-- a PART -/
theorem y_part (hn : ∀ k, (kd k).toInt = 3 → 0 ≤ (vl k).toInt ∧ (vl k).toInt ≤ 9999) (hs : y_T w c s false D) (ht : y_T w c1 t true E) (h1 : D + 2 ≤ D') (h2 : E ≤ D') : y_T w (d_part kd vl s t c c1) (x_part kd vl w s t) false D' := by
  intro k k' e
  unfold x_part at e
  unfold d_part
  by_cases q1 : g_s kd vl 40 k = true
  · rw [if_pos q1] at e ⊢
    obtain ⟨k1, e1, -⟩ := g_bind e
    exact ⟨(hs _ _ e1).1, fun u hu => (hs _ _ e1).2 u (by omega)⟩
  rw [if_neg q1] at e ⊢
  by_cases q2 : g_o kd vl 20 k = true
  · rw [if_pos q2] at e ⊢
    unfold x_choice at e
    by_cases q3 : g_s kd vl 40 (k + 1) = true
    · rw [if_pos q3] at e
      obtain ⟨k1, e1, e⟩ := g_bind e
      obtain ⟨k2, e2, e⟩ := g_bind e
      rw [(g_tk_some e2).2] at e
      unfold d_choice
      rw [e1]
      show (∀ x ∈ c1 (k + 2) ++ d_pair s c (k1 + 1) ++ [-9], y_P w x) ∧ ∀ u : List Bool, u.length + D' ≤ 60 → e_ty (c1 (k + 2) ++ d_pair s c (k1 + 1) ++ [-9]) u = some (false :: u)
      obtain ⟨a1, a2⟩ := ht _ _ e1
      obtain ⟨b1, b2⟩ := y_pair hs e
      refine ⟨fun x hx => ?_, fun u hu => e_ty2 (e_ty2 (a2 u (by omega)) (b2 (true :: u) (by show u.length + 1 + D + 1 ≤ 60; omega))) (e_ty1 e_p9)⟩
      rcases List.mem_append.mp hx with z | z
      · rcases List.mem_append.mp z with z | z
        · exact a1 x z
        · exact b1 x z
      · rw [List.mem_singleton.mp z]
        exact y_P_lo (Or.inl (by decide))
    · rw [if_neg q3] at e
      cases e
  rw [if_neg q2] at e ⊢
  by_cases q4 : (g_o kd vl 25 k || g_o kd vl 26 k) = true
  · rw [if_pos q4] at e ⊢
    unfold x_prs at e
    by_cases q3 : g_s kd vl 40 (k + 1) = true
    · rw [if_pos q3] at e
      unfold d_prs
      obtain ⟨b1, b2⟩ := y_pair hs e
      have hv : -16 ≤ (if g_o kd vl 25 k = true then (-15 : Int) else -16) ∧ (if g_o kd vl 25 k = true then (-15 : Int) else -16) ≤ -10 := by split <;> decide
      refine ⟨fun x hx => ?_, fun u hu => e_ty2 (b2 u (by omega)) (e_ty1 (e_pa hv))⟩
      rcases List.mem_append.mp hx with z | z
      · exact b1 x z
      · rw [List.mem_singleton.mp z]
        exact y_P_lo (Or.inl (by omega))
    · rw [if_neg q3] at e
      cases e
  rw [if_neg q4] at e ⊢
  by_cases q5 : (g_n kd k || g_fw kd vl w k) = true
  · by_cases q6 : g_n kd k = true
    · rw [if_pos q6]
      have v := hn k (g_n_iff.mp q6)
      exact ⟨fun x hx => by rw [List.mem_singleton.mp hx]; exact y_P_lo (Or.inr v.1), fun u hu => e_ty1 (e_p1 ⟨by omega, v.2⟩ (by omega))⟩
    · rw [if_neg q6]
      have q7 : g_fw kd vl w k = true := by
        rcases Bool.or_eq_true_iff.mp q5 with z | z
        · exact absurd z q6
        · exact z
      obtain ⟨v1, v2⟩ := y_fw q7
      exact ⟨fun x hx => by rw [List.mem_singleton.mp hx]; exact v2, fun u hu => e_ty1 (e_p1 ⟨v1.1, by omega⟩ (by omega))⟩
  · rw [if_neg q5] at e
    cases e
/-- a FACT -/
theorem y_fact (hf : y_T w c1 p true D) (ht : y_T w c2 t true E) (hs : y_T w c s false D') (h1 : D ≤ k) (h2 : E ≤ k) (h3 : D' + 1 ≤ k) : y_T w (d_fact kd vl s c1 c2 c) (x_fact kd vl p t s) true k := by
  intro i i' e
  unfold x_fact at e
  unfold d_fact
  by_cases q1 : g_o kd vl 23 i = true
  · rw [if_pos q1] at e ⊢
    obtain ⟨a1, a2⟩ := hf _ _ e
    refine ⟨fun x hx => ?_, fun u hu => e_ty2 (a2 u (by omega)) (e_ty1 e_p8)⟩
    rcases List.mem_append.mp hx with z | z
    · exact a1 x z
    · rw [List.mem_singleton.mp z]
      exact y_P_lo (Or.inl (by decide))
  rw [if_neg q1] at e ⊢
  by_cases q2 : g_s kd vl 91 i = true
  · rw [if_pos q2] at e ⊢
    obtain ⟨k1, e1, -⟩ := g_bind e
    exact ⟨(ht _ _ e1).1, fun u hu => (ht _ _ e1).2 u (by omega)⟩
  rw [if_neg q2] at e ⊢
  by_cases q3 : g_o kd vl 24 i = true
  · rw [if_pos q3] at e ⊢
    exact ⟨fun x hx => by rw [List.mem_singleton.mp hx]; exact y_P_lo (Or.inl (by decide)), fun u hu => e_ty1 (e_p7 (by omega))⟩
  rw [if_neg q3] at e ⊢
  unfold x_comp at e
  obtain ⟨k1, e1, e⟩ := g_bind e
  by_cases q4 : g_co kd vl k1 = true
  · rw [if_pos q4] at e
    unfold d_comp
    rw [e1]
    show (∀ x ∈ c i ++ c (k1 + 1) ++ [d_co kd vl k1], y_P w x) ∧ ∀ u : List Bool, u.length + k ≤ 60 → e_ty (c i ++ c (k1 + 1) ++ [d_co kd vl k1]) u = some (true :: u)
    obtain ⟨a1, a2⟩ := hs _ _ e1
    obtain ⟨b1, b2⟩ := hs _ _ e
    have hv : -19 ≤ d_co kd vl k1 ∧ d_co kd vl k1 ≤ -17 := by
      unfold d_co
      split
      · decide
      · split <;> decide
    refine ⟨fun x hx => ?_, fun u hu => e_ty2 (e_ty2 (a2 u (by omega)) (b2 (false :: u) (by show u.length + 1 + D' ≤ 60; omega))) (e_ty1 (e_pc hv))⟩
    rcases List.mem_append.mp hx with z | z
    · rcases List.mem_append.mp z with z | z
      · exact a1 x z
      · exact b1 x z
    · rw [List.mem_singleton.mp z]
      exact y_P_lo (Or.inl (by omega))
  · rw [if_neg q4] at e
    cases e
theorem y_lv (hn : ∀ k, (kd k).toInt = 3 → 0 ≤ (vl k).toInt ∧ (vl k).toInt ≤ 9999) : ∀ e : Nat, y_T w (d_lv kd vl w e).1 (x_lv kd vl w e).1 false (6 * e) ∧ y_T w (d_lv kd vl w e).2.1 (x_lv kd vl w e).2.1 true (6 * e + 3) ∧ y_T w (d_lv kd vl w e).2.2 (x_lv kd vl w e).2.2 true (6 * e + 1)
  | 0 => ⟨fun k k' h => (by cases h), fun k k' h => (by cases h), fun k k' h => (by cases h)⟩
  | e + 1 => by
    obtain ⟨h1, h2, h3⟩ := y_lv hn e
    have s := y_sum (kd := kd) (vl := vl) (y_part hn h1 h2 (D' := 6 * e + 3) (by omega) (by omega))
    have f := y_fact (kd := kd) (vl := vl) h3 h2 s (k := 6 * e + 6) (by omega) (by omega) (by omega)
    have t := y_test (kd := kd) (vl := vl) f
    exact ⟨s.up (by omega), t.up (by omega), f.up (by omega)⟩
/-- a rule -/
theorem y_rule_T (hn : ∀ k, (kd k).toInt = 3 → 0 ≤ (vl k).toInt ∧ (vl k).toInt ≤ 9999) (e : y_rule kd vl w k = some k') : e_ty (d_rule kd vl w k) [] = some [w == 1] ∧ (∀ x ∈ d_rule kd vl w k, y_P w x) := by
  unfold y_rule at e
  unfold d_rule
  by_cases q : w = 1
  · rw [if_pos q] at e ⊢
    have h := (y_lv (w := w) hn 8).2.1 _ _ e
    refine ⟨(h.2 [] (by decide)).trans ?_, h.1⟩
    rw [q]
    rfl
  · rw [if_neg q] at e ⊢
    have h := (y_lv (w := w) hn 8).1 _ _ e
    refine ⟨(h.2 [] (by decide)).trans ?_, h.1⟩
    rw [show (w == 1) = false from by simpa using q]
end LF
end
section
/-! what a text tells can be: bounds -/
theorem T_num_b {tb : Nat → Int32} {n k : Nat} (h : (T_kd tb n k).toInt = 3) : 0 ≤ (T_vl tb n k).toInt ∧ (T_vl tb n k).toInt ≤ 9999 := by
  by_cases hs : t_s tb n k < n
  rotate_left
  · rw [T_kd_at (v := 0) (by unfold t_kd; rw [if_neg hs]) (by decide) (by decide)] at h
    omega
  by_cases hl : t_l (tb (t_s tb n k)) = true
  · exfalso
    have e : t_kd tb n k = 5 ∨ t_kd tb n k = 2 ∨ t_kd tb n k = 1 := by
      unfold t_kd t_K
      rw [if_pos hs, if_pos hl]
      split
      · exact Or.inl rfl
      · split
        · exact Or.inr (Or.inl rfl)
        · exact Or.inr (Or.inr rfl)
    rcases e with e | e | e
    · rw [T_kd_at e (by decide) (by decide)] at h
      omega
    · rw [T_kd_at e (by decide) (by decide)] at h
      omega
    · rw [T_kd_at e (by decide) (by decide)] at h
      omega
  by_cases hd : t_d (tb (t_s tb n k)) = true
  rotate_left
  · exfalso
    rw [T_kd_at (v := 4) (by unfold t_kd t_K; rw [if_pos hs, if_neg hl, if_neg hd]) (by decide) (by decide)] at h
    omega
  by_cases q : 4 < t_P tb n (k + 1) - t_s tb n k ∨ t_adj tb (t_s tb n k) = true
  · exfalso
    rw [T_kd_at (v := 5) (by unfold t_kd t_K; rw [if_pos hs, if_neg hl, if_pos hd, if_pos q]) (by decide) (by decide)] at h
    omega
  have eP : t_P tb n (k + 1) = t_run (t_nm tb n) 1600 (t_s tb n k) := by
    show (if t_sk tb n (t_P tb n k) < n then t_en tb n (t_sk tb n (t_P tb n k)) else t_sk tb n (t_P tb n k)) = _
    rw [if_pos (show t_sk tb n (t_P tb n k) < n from hs)]
    show t_en tb n (t_s tb n k) = _
    unfold t_en
    rw [if_neg hl, if_pos hd]
  have b := t_num_b (tb := tb) (s := t_s tb n k) (t_P tb n (k + 1) - t_s tb n k) (fun j h1 h2 => by
    have z := t_run_in 1600 (t_s tb n k) j h1 (by rw [← eP]; omega)
    unfold t_nm at z
    rw [Bool.and_eq_true] at z
    exact z.2)
  have m : t_P tb n (k + 1) - t_s tb n k ≤ 4 := by
    by_cases z : 4 < t_P tb n (k + 1) - t_s tb n k
    · exact absurd (Or.inl z) q
    · omega
  have p : (10 : Int) ^ (t_P tb n (k + 1) - t_s tb n k) ≤ 10 ^ 4 := by
    have h1 : (10 : Nat) ^ (t_P tb n (k + 1) - t_s tb n k) ≤ 10 ^ 4 := Nat.pow_le_pow_right (by decide) m
    exact_mod_cast h1
  have e4 : (10 : Int) ^ 4 = 10000 := by decide
  rw [e4] at p
  have ad : ¬ t_adj tb (t_s tb n k) = true := fun z => q (Or.inr z)
  have ev : t_vl tb n k = t_num tb (t_s tb n k) (t_P tb n (k + 1) - t_s tb n k) := by
    unfold t_vl t_V
    rw [if_pos hs, if_neg hl, if_pos hd, if_neg (by omega), if_neg ad]
  rw [T_vl_at ev (by omega) (by omega)]
  omega
/-- what holds of it behind each STATEMENT -/
def kOK (σ : y_S) (d : k_D) : Prop := kI σ d ∧ ((3 ≤ σ.1.1 ∧ σ.1.1 ≤ 7) ∧ 3 ≤ σ.1.2 ∧ σ.1.2 ≤ 7) ∧ (σ.2.1.length ≤ 6 ∧ σ.2.2.1 ≤ 16 ∧ σ.2.2.2.1.length ≤ 5) ∧ ((0 ≤ d.1 0 2 ∧ d.1 0 2 < σ.1.1) ∧ (0 ≤ d.1 0 3 ∧ d.1 0 3 ≤ 20) ∧ 0 ≤ d.1 0 4 ∧ d.1 0 4 ≤ 100) ∧ (∀ c : Nat, 0 ≤ d.1 1 c ∧ d.1 1 c ≤ 9) ∧ (∀ k : Nat, k < σ.2.2.1 → (0 ≤ d.1 5 k ∧ d.1 5 k < σ.2.1.length) ∧ ∃ x y : Int, (0 ≤ x ∧ x < σ.1.1) ∧ (0 ≤ y ∧ y < σ.1.2) ∧ d.1 6 k = 8 * y + x) ∧ (∀ k : Nat, k < σ.2.2.2.1.length → (0 ≤ d.1 2 k ∧ d.1 2 k ≤ 9) ∧ (1 ≤ d.1 3 k ∧ d.1 3 k ≤ 9) ∧ 0 ≤ d.1 4 k ∧ d.1 4 k ≤ 999) ∧ s_cd d.2 ∧ (σ.2.2.2.2.1 = true ↔ d.2 0 ≠ []) ∧ (σ.2.2.2.2.2.1 = true ↔ d.2 1 ≠ []) ∧ (σ.2.2.2.2.2.2 = true ↔ d.2 2 ≠ [])
section LG
variable {kd vl : Nat → Int32} {σ σ' : y_S} {d : k_D} {k k' i : Nat}
theorem z_ix_lt {v : Int} : ∀ {M : List Int}, M.contains v = true → 0 ≤ z_ix M v ∧ z_ix M v < M.length
  | [], h => by cases h
  | x :: r, h => by
    show 0 ≤ (if x = v then (0 : Int) else z_ix r v + 1) ∧ (if x = v then (0 : Int) else z_ix r v + 1) < ((x :: r).length : Nat)
    rw [List.length_cons]
    by_cases q : x = v
    · rw [if_pos q]
      omega
    · rw [if_neg q]
      have h2 : r.contains v = true := by
        rw [List.contains_iff_mem] at h ⊢
        rcases List.mem_cons.mp h with z | z
        · exact absurd z.symm q
        · exact z
      have ih := z_ix_lt h2
      omega
theorem y_cell_b {q : Int × Int} (h : y_cell kd vl q k = some k') : (0 ≤ (vl k).toInt ∧ (vl k).toInt < q.1) ∧ 0 ≤ (vl (k + 1)).toInt ∧ (vl (k + 1)).toInt < q.2 := by
  unfold y_cell at h
  obtain ⟨k1, h1, h2⟩ := Option.bind_eq_some_iff.mp h
  obtain ⟨-, a1, a2, a3⟩ := y_num_o h1
  obtain ⟨-, b1, b2, -⟩ := y_num_o h2
  rw [a3] at b1 b2
  omega
theorem kOK.first (h : y_one kd vl 0 y_0 k = some (σ', k')) (hk : (vl k).toInt = 0) : kOK σ' (k_st kd vl y_0 k k_0) := by
  have I := kI.step h kI.z
  unfold y_one at h
  rw [if_pos rfl] at h
  obtain ⟨x, hx, e⟩ := Option.map_eq_some_iff.mp h
  cases e
  unfold y_seam at hx
  obtain ⟨k1, h1, hx⟩ := Option.bind_eq_some_iff.mp hx
  obtain ⟨k2, h2, hx⟩ := Option.bind_eq_some_iff.mp hx
  obtain ⟨k3, h3, h4⟩ := Option.bind_eq_some_iff.mp hx
  have e1 := (y_own_o h1).2
  obtain ⟨-, a1, a2, a3⟩ := y_num_o h2
  have e3 := (y_own_o h3).2
  obtain ⟨-, b1, b2, -⟩ := y_num_o h4
  have n3 : k3 = k + 3 := by omega
  rw [e1] at a1 a2
  rw [n3] at b1 b2
  rw [k_st_0 hk] at I ⊢
  have u : ∀ (r j : Nat), r ≠ 0 ∨ (j ≠ 0 ∧ j ≠ 1 ∧ j ≠ 2) → s_up (s_up (s_up k_0.1 0 0 (vl (k + 1)).toInt) 0 1 (vl (k + 3)).toInt) 0 2 0 r j = k_0.1 r j := fun r j q => by
    rw [s_up_ne (by omega), s_up_ne (by omega), s_up_ne (by omega)]
  refine ⟨I, ⟨⟨a1, a2⟩, b1, b2⟩, ⟨show (0 : Nat) ≤ 6 by decide, show (0 : Nat) ≤ 16 by decide, show (0 : Nat) ≤ 5 by decide⟩, ⟨⟨?_, ?_⟩, ⟨?_, ?_⟩, ?_, ?_⟩, fun c => ?_, fun k hk => absurd hk (Nat.not_lt_zero k), fun k hk => absurd hk (Nat.not_lt_zero k), fun w _ z => absurd rfl z, ⟨fun z => (by cases z), fun z => absurd rfl z⟩, ⟨fun z => (by cases z), fun z => absurd rfl z⟩, ⟨fun z => (by cases z), fun z => absurd rfl z⟩⟩
  · show 0 ≤ s_up (s_up (s_up k_0.1 0 0 (vl (k + 1)).toInt) 0 1 (vl (k + 3)).toInt) 0 2 0 0 2
    rw [s_up_at]
    decide
  · show s_up (s_up (s_up k_0.1 0 0 (vl (k + 1)).toInt) 0 1 (vl (k + 3)).toInt) 0 2 0 0 2 < (vl (k + 1)).toInt
    rw [s_up_at]
    omega
  · show 0 ≤ s_up (s_up (s_up k_0.1 0 0 (vl (k + 1)).toInt) 0 1 (vl (k + 3)).toInt) 0 2 0 0 3
    rw [u 0 3 (by decide)]
    decide
  · show s_up (s_up (s_up k_0.1 0 0 (vl (k + 1)).toInt) 0 1 (vl (k + 3)).toInt) 0 2 0 0 3 ≤ 20
    rw [u 0 3 (by decide)]
    decide
  · show 0 ≤ s_up (s_up (s_up k_0.1 0 0 (vl (k + 1)).toInt) 0 1 (vl (k + 3)).toInt) 0 2 0 0 4
    rw [u 0 4 (by decide)]
    decide
  · show s_up (s_up (s_up k_0.1 0 0 (vl (k + 1)).toInt) 0 1 (vl (k + 3)).toInt) 0 2 0 0 4 ≤ 100
    rw [u 0 4 (by decide)]
    decide
  · show 0 ≤ s_up (s_up (s_up k_0.1 0 0 (vl (k + 1)).toInt) 0 1 (vl (k + 3)).toInt) 0 2 0 1 c ∧ s_up (s_up (s_up k_0.1 0 0 (vl (k + 1)).toInt) 0 1 (vl (k + 3)).toInt) 0 2 0 1 c ≤ 9
    rw [u 1 c (Or.inl (by decide))]
    show 0 ≤ (5 : Int) ∧ (5 : Int) ≤ 9
    decide
theorem kOK.num {j : Nat} {v : Int} (h : kOK σ d) (hI : kI σ (s_up d.1 0 j v, d.2)) (hv : (j = 2 ∧ 0 ≤ v ∧ v < σ.1.1) ∨ (j = 3 ∧ 0 ≤ v ∧ v ≤ 20) ∨ (j = 4 ∧ 0 ≤ v ∧ v ≤ 100)) : kOK σ (s_up d.1 0 j v, d.2) := by
  obtain ⟨I, D, C, ⟨⟨n1, n2⟩, ⟨n3, n4⟩, n5, n6⟩, g, p, o, c⟩ := h
  have u : ∀ r b : Nat, r ≠ 0 → s_up d.1 0 j v r b = d.1 r b := fun r b hr => s_up_r hr
  have z : ∀ b : Nat, s_up d.1 0 j v 0 b = if b = j then v else d.1 0 b := fun b => by
    by_cases q : b = j
    · rw [if_pos q, q, s_up_at]
    · rw [if_neg q, s_up_i q]
  refine ⟨hI, D, C, ⟨⟨?_, ?_⟩, ⟨?_, ?_⟩, ?_, ?_⟩, fun x => ?_, fun k hk => ?_, fun k hk => ?_, c⟩
  · show 0 ≤ s_up d.1 0 j v 0 2
    rw [z]
    split <;> omega
  · show s_up d.1 0 j v 0 2 < σ.1.1
    rw [z]
    split <;> omega
  · show 0 ≤ s_up d.1 0 j v 0 3
    rw [z]
    split <;> omega
  · show s_up d.1 0 j v 0 3 ≤ 20
    rw [z]
    split <;> omega
  · show 0 ≤ s_up d.1 0 j v 0 4
    rw [z]
    split <;> omega
  · show s_up d.1 0 j v 0 4 ≤ 100
    rw [z]
    split <;> omega
  · show 0 ≤ s_up d.1 0 j v 1 x ∧ s_up d.1 0 j v 1 x ≤ 9
    rw [u 1 x (by decide)]
    exact g x
  · show (0 ≤ s_up d.1 0 j v 5 k ∧ s_up d.1 0 j v 5 k < σ.2.1.length) ∧ ∃ x y : Int, (0 ≤ x ∧ x < σ.1.1) ∧ (0 ≤ y ∧ y < σ.1.2) ∧ s_up d.1 0 j v 6 k = 8 * y + x
    rw [u 5 k (by decide), u 6 k (by decide)]
    exact p k hk
  · show (0 ≤ s_up d.1 0 j v 2 k ∧ s_up d.1 0 j v 2 k ≤ 9) ∧ (1 ≤ s_up d.1 0 j v 3 k ∧ s_up d.1 0 j v 3 k ≤ 9) ∧ 0 ≤ s_up d.1 0 j v 4 k ∧ s_up d.1 0 j v 4 k ≤ 999
    rw [u 2 k (by decide), u 3 k (by decide), u 4 k (by decide)]
    exact o k hk
theorem kOK.grade {j : Nat} {v : Int} (h : kOK σ d) (hI : kI σ (s_up d.1 1 j v, d.2)) (hv : 0 ≤ v ∧ v ≤ 9) : kOK σ (s_up d.1 1 j v, d.2) := by
  obtain ⟨I, D, C, N, g, p, o, c⟩ := h
  have u : ∀ r b : Nat, r ≠ 1 → s_up d.1 1 j v r b = d.1 r b := fun r b hr => s_up_r hr
  refine ⟨hI, D, C, ?_, fun x => ?_, fun k hk => ?_, fun k hk => ?_, c⟩
  · show (0 ≤ s_up d.1 1 j v 0 2 ∧ s_up d.1 1 j v 0 2 < σ.1.1) ∧ (0 ≤ s_up d.1 1 j v 0 3 ∧ s_up d.1 1 j v 0 3 ≤ 20) ∧ 0 ≤ s_up d.1 1 j v 0 4 ∧ s_up d.1 1 j v 0 4 ≤ 100
    rw [u 0 2 (by decide), u 0 3 (by decide), u 0 4 (by decide)]
    exact N
  · show 0 ≤ s_up d.1 1 j v 1 x ∧ s_up d.1 1 j v 1 x ≤ 9
    by_cases q : x = j
    · rw [q, s_up_at]
      exact hv
    · rw [s_up_i q]
      exact g x
  · show (0 ≤ s_up d.1 1 j v 5 k ∧ s_up d.1 1 j v 5 k < σ.2.1.length) ∧ ∃ x y : Int, (0 ≤ x ∧ x < σ.1.1) ∧ (0 ≤ y ∧ y < σ.1.2) ∧ s_up d.1 1 j v 6 k = 8 * y + x
    rw [u 5 k (by decide), u 6 k (by decide)]
    exact p k hk
  · show (0 ≤ s_up d.1 1 j v 2 k ∧ s_up d.1 1 j v 2 k ≤ 9) ∧ (1 ≤ s_up d.1 1 j v 3 k ∧ s_up d.1 1 j v 3 k ≤ 9) ∧ 0 ≤ s_up d.1 1 j v 4 k ∧ s_up d.1 1 j v 4 k ≤ 999
    rw [u 2 k (by decide), u 3 k (by decide), u 4 k (by decide)]
    exact o k hk
/-- a rule is told -/
theorem s_cd.rule {K : Nat → List Int} {w : Nat} {v : Int} (h : s_cd K) (hw : v = w) (hn : ∀ k, (kd k).toInt = 3 → 0 ≤ (vl k).toInt ∧ (vl k).toInt ≤ 9999) (e : y_rule kd vl v k = some k') : s_cd (fun j : Nat => if (j : Int) = v then d_rule kd vl v k else K j) ∧ d_rule kd vl v k ≠ [] := by
  subst hw
  obtain ⟨t1, t2⟩ := y_rule_T hn e
  have ne : d_rule kd vl (w : Int) k ≠ [] := fun z => by
    rw [z] at t1
    cases t1
  refine ⟨fun j hj hK => ?_, ne⟩
  by_cases q : (j : Int) = (w : Int)
  · have q2 : j = w := by omega
    subst q2
    show e_ty (if (j : Int) = (j : Int) then d_rule kd vl (j : Int) k else K j) [] = some [j == 1] ∧ (j = 0 → -5 ∉ (if (j : Int) = (j : Int) then d_rule kd vl (j : Int) k else K j) ∧ -6 ∉ (if (j : Int) = (j : Int) then d_rule kd vl (j : Int) k else K j)) ∧ (j ≠ 0 → -4 ∉ (if (j : Int) = (j : Int) then d_rule kd vl (j : Int) k else K j))
    rw [if_pos rfl]
    refine ⟨?_, fun z => ⟨fun m => ((t2 _ m).1 (by omega)).1 rfl, fun m => ((t2 _ m).1 (by omega)).2 rfl⟩, fun z m => (t2 _ m).2 (by omega) rfl⟩
    rw [t1]
    by_cases q1 : j = 1
    · subst q1
      rfl
    · rw [show ((j : Int) == 1) = false from by simp; omega, show (j == 1) = false from by simpa using q1]
  · show e_ty (if (j : Int) = (w : Int) then d_rule kd vl (w : Int) k else K j) [] = some [j == 1] ∧ (j = 0 → -5 ∉ (if (j : Int) = (w : Int) then d_rule kd vl (w : Int) k else K j) ∧ -6 ∉ (if (j : Int) = (w : Int) then d_rule kd vl (w : Int) k else K j)) ∧ (j ≠ 0 → -4 ∉ (if (j : Int) = (w : Int) then d_rule kd vl (w : Int) k else K j))
    rw [if_neg q]
    exact h j hj (fun z => hK (by show (if (j : Int) = (w : Int) then d_rule kd vl (w : Int) k else K j) = []; rw [if_neg q]; exact z))
set_option maxHeartbeats 1000000 in
theorem kOK.step (hn : ∀ k, (kd k).toInt = 3 → 0 ≤ (vl k).toInt ∧ (vl k).toInt ≤ 9999) (h : y_st kd vl σ k = some (σ', k')) (H : kOK σ d) : kOK σ' (k_st kd vl σ k d) := by
  have I' := kI.step (i := 1) (by rw [y_one_n (by decide)]; exact h) H.1
  obtain ⟨q0, M, P, O, r0, r1, r2⟩ := σ
  obtain ⟨I, D, C, N, g, p, o, c, f0, f1, f2⟩ := id H
  have j5 : d.1 0 5 = M.length := I.2.2.1
  have j6 : d.1 0 6 = P := I.2.2.2.1
  have j7 : d.1 0 7 = O.length := I.2.2.2.2
  have C : M.length ≤ 6 ∧ P ≤ 16 ∧ O.length ≤ 5 := C
  by_cases hk : (kd k).toInt = 1
  rotate_left
  · rw [y_st_no (Or.inl hk)] at h
    cases h
  by_cases w2 : (vl k).toInt = 2
  · rw [y_st_2 hk w2] at h
    obtain ⟨x, hx, e⟩ := Option.map_eq_some_iff.mp h
    cases e
    rw [k_st_2 w2] at I' ⊢
    obtain ⟨-, a1, a2, -⟩ := y_num_o hx
    exact H.num I' (Or.inl ⟨rfl, a1, by show _ < q0.1; omega⟩)
  by_cases w3 : (vl k).toInt = 3
  · rw [y_st_3 hk w3] at h
    obtain ⟨x, hx, e⟩ := Option.map_eq_some_iff.mp h
    cases e
    rw [k_st_3 w3] at I' ⊢
    obtain ⟨-, a1, a2, -⟩ := y_num_o hx
    exact H.num I' (Or.inr (Or.inl ⟨rfl, a1, a2⟩))
  by_cases w4 : (vl k).toInt = 4
  · rw [y_st_4 hk w4] at h
    obtain ⟨x, hx, e⟩ := Option.map_eq_some_iff.mp h
    cases e
    rw [k_st_4 w4] at I' ⊢
    obtain ⟨-, a1, a2, -⟩ := y_num_o hx
    exact H.num I' (Or.inr (Or.inr ⟨rfl, a1, a2⟩))
  by_cases w5 : (vl k).toInt = 5
  · rw [y_st_5 hk w5] at h
    obtain ⟨x, hx, e⟩ := Option.map_eq_some_iff.mp h
    cases e
    rw [k_st_5 w5] at I' ⊢
    obtain ⟨k1, b1, b2⟩ := Option.bind_eq_some_iff.mp hx
    have e1 := y_cell_k b1
    obtain ⟨-, a1, a2, -⟩ := y_num_o b2
    rw [show k1 = k + 3 by omega] at a1 a2
    exact H.grade I' ⟨a1, a2⟩
  by_cases w6 : (vl k).toInt = 6
  · rw [y_st_6 hk w6] at h
    by_cases z : M.length = 6
    · rw [if_pos z] at h
      cases h
    rw [if_neg z] at h
    obtain ⟨x, -, e⟩ := Option.map_eq_some_iff.mp h
    cases e
    rw [k_st_6 w6] at I' ⊢
    have l : (M ++ [(vl (k + 1)).toInt]).length = M.length + 1 := by rw [List.length_append]; rfl
    have u : ∀ r b : Nat, r ≠ 0 ∨ b ≠ 5 → s_up d.1 0 5 (d.1 0 5 + 1) r b = d.1 r b := fun r b hr => s_up_ne (by omega)
    refine ⟨I', D, ⟨by show (M ++ [(vl (k + 1)).toInt]).length ≤ 6; omega, C.2.1, C.2.2⟩, ?_, fun x => ?_, fun i hi => ?_, fun i hi => ?_, c, f0, f1, f2⟩
    · show (0 ≤ s_up d.1 0 5 (d.1 0 5 + 1) 0 2 ∧ s_up d.1 0 5 (d.1 0 5 + 1) 0 2 < q0.1) ∧ (0 ≤ s_up d.1 0 5 (d.1 0 5 + 1) 0 3 ∧ s_up d.1 0 5 (d.1 0 5 + 1) 0 3 ≤ 20) ∧ 0 ≤ s_up d.1 0 5 (d.1 0 5 + 1) 0 4 ∧ s_up d.1 0 5 (d.1 0 5 + 1) 0 4 ≤ 100
      rw [u 0 2 (by decide), u 0 3 (by decide), u 0 4 (by decide)]
      exact N
    · show 0 ≤ s_up d.1 0 5 (d.1 0 5 + 1) 1 x ∧ s_up d.1 0 5 (d.1 0 5 + 1) 1 x ≤ 9
      rw [u 1 x (Or.inl (by decide))]
      exact g x
    · show (0 ≤ s_up d.1 0 5 (d.1 0 5 + 1) 5 i ∧ s_up d.1 0 5 (d.1 0 5 + 1) 5 i < (M ++ [(vl (k + 1)).toInt]).length) ∧ ∃ x y : Int, (0 ≤ x ∧ x < q0.1) ∧ (0 ≤ y ∧ y < q0.2) ∧ s_up d.1 0 5 (d.1 0 5 + 1) 6 i = 8 * y + x
      rw [u 5 i (Or.inl (by decide)), u 6 i (Or.inl (by decide)), l]
      obtain ⟨⟨p1, p2⟩, p3⟩ := p i hi
      have p2 : d.1 5 i < M.length := p2
      exact ⟨⟨p1, by omega⟩, p3⟩
    · show (0 ≤ s_up d.1 0 5 (d.1 0 5 + 1) 2 i ∧ s_up d.1 0 5 (d.1 0 5 + 1) 2 i ≤ 9) ∧ (1 ≤ s_up d.1 0 5 (d.1 0 5 + 1) 3 i ∧ s_up d.1 0 5 (d.1 0 5 + 1) 3 i ≤ 9) ∧ 0 ≤ s_up d.1 0 5 (d.1 0 5 + 1) 4 i ∧ s_up d.1 0 5 (d.1 0 5 + 1) 4 i ≤ 999
      rw [u 2 i (Or.inl (by decide)), u 3 i (Or.inl (by decide)), u 4 i (Or.inl (by decide))]
      exact o i hi
  by_cases w7 : (vl k).toInt = 7
  · rw [y_st_7 hk w7] at h
    by_cases z : P = 16
    · rw [if_pos z] at h
      cases h
    rw [if_neg z] at h
    obtain ⟨x, hx, e⟩ := Option.map_eq_some_iff.mp h
    cases e
    rw [k_st_7 w7] at I' ⊢
    obtain ⟨k1, b1, hx⟩ := Option.bind_eq_some_iff.mp hx
    obtain ⟨k2, b2, b3⟩ := Option.bind_eq_some_iff.mp hx
    have e1 := y_old_k b1
    have e2 := (y_own_o b2).2
    have hM : M.contains (vl (k + 1)).toInt = true := by
      unfold y_old at b1
      split at b1
      · rename_i qq
        rw [Bool.and_eq_true] at qq
        exact qq.2
      · cases b1
    have zx := z_ix_lt hM
    have cb := y_cell_b b3
    rw [show k2 = k + 3 by omega] at cb
    have eP : (d.1 0 6).toNat = P := by omega
    obtain ⟨E, hE⟩ : ∃ E, E = s_up (s_up (s_up d.1 5 (d.1 0 6).toNat (z_ix M (vl (k + 1)).toInt)) 6 (d.1 0 6).toNat (8 * (vl (k + 4)).toInt + (vl (k + 3)).toInt)) 0 6 (d.1 0 6 + 1) := ⟨_, rfl⟩
    have u : ∀ r b : Nat, r ≠ 5 → r ≠ 6 → (r ≠ 0 ∨ b ≠ 6) → E r b = d.1 r b := fun r b h5 h6 h0 => by rw [hE, s_up_ne (by omega), s_up_r h6, s_up_r h5]
    have v5 : ∀ b : Nat, E 5 b = if b = P then z_ix M (vl (k + 1)).toInt else d.1 5 b := fun b => by
      rw [hE, s_up_ne (by omega), s_up_ne (by omega), eP]
      by_cases q : b = P
      · rw [if_pos q, q, s_up_at]
      · rw [if_neg q, s_up_i q]
    have v6 : ∀ b : Nat, E 6 b = if b = P then 8 * (vl (k + 4)).toInt + (vl (k + 3)).toInt else d.1 6 b := fun b => by
      rw [hE, s_up_ne (by omega), eP]
      by_cases q : b = P
      · rw [if_pos q, q, s_up_at]
      · rw [if_neg q, s_up_i q, s_up_ne (by omega)]
    have I' : kI (q0, M, P + 1, O, r0, r1, r2) (E, d.2) := by rw [hE]; exact I'
    show kOK (q0, M, P + 1, O, r0, r1, r2) (s_up (s_up (s_up d.1 5 (d.1 0 6).toNat (z_ix M (vl (k + 1)).toInt)) 6 (d.1 0 6).toNat (8 * (vl (k + 4)).toInt + (vl (k + 3)).toInt)) 0 6 (d.1 0 6 + 1), d.2)
    rw [← hE]
    refine ⟨I', D, ⟨C.1, by show P + 1 ≤ 16; omega, C.2.2⟩, ?_, fun x => ?_, fun i hi => ?_, fun i hi => ?_, c, f0, f1, f2⟩
    · show (0 ≤ E 0 2 ∧ E 0 2 < q0.1) ∧ (0 ≤ E 0 3 ∧ E 0 3 ≤ 20) ∧ 0 ≤ E 0 4 ∧ E 0 4 ≤ 100
      rw [u 0 2 (by decide) (by decide) (by decide), u 0 3 (by decide) (by decide) (by decide), u 0 4 (by decide) (by decide) (by decide)]
      exact N
    · show 0 ≤ E 1 x ∧ E 1 x ≤ 9
      rw [u 1 x (by decide) (by decide) (Or.inl (by decide))]
      exact g x
    · have hi : i < P + 1 := hi
      show (0 ≤ E 5 i ∧ E 5 i < M.length) ∧ ∃ x y : Int, (0 ≤ x ∧ x < q0.1) ∧ (0 ≤ y ∧ y < q0.2) ∧ E 6 i = 8 * y + x
      rw [v5, v6]
      by_cases q : i = P
      · rw [if_pos q, if_pos q]
        exact ⟨zx, (vl (k + 3)).toInt, (vl (k + 4)).toInt, cb.1, cb.2, rfl⟩
      · rw [if_neg q, if_neg q]
        exact p i (show i < P by omega)
    · show (0 ≤ E 2 i ∧ E 2 i ≤ 9) ∧ (1 ≤ E 3 i ∧ E 3 i ≤ 9) ∧ 0 ≤ E 4 i ∧ E 4 i ≤ 999
      rw [u 2 i (by decide) (by decide) (Or.inl (by decide)), u 3 i (by decide) (by decide) (Or.inl (by decide)), u 4 i (by decide) (by decide) (Or.inl (by decide))]
      exact o i hi
  by_cases w9 : (vl k).toInt = 9
  · rw [y_st_9 hk w9] at h
    by_cases z : O.length = 5
    · rw [if_pos z] at h
      cases h
    rw [if_neg z] at h
    obtain ⟨x, hx, e⟩ := Option.map_eq_some_iff.mp h
    cases e
    rw [k_st_9 w9] at I' ⊢
    obtain ⟨k1, b1, hx⟩ := Option.bind_eq_some_iff.mp hx
    obtain ⟨k2, b2, hx⟩ := Option.bind_eq_some_iff.mp hx
    obtain ⟨k3, b3, hx⟩ := Option.bind_eq_some_iff.mp hx
    obtain ⟨k4, b4, hx⟩ := Option.bind_eq_some_iff.mp hx
    obtain ⟨k5, b5, hx⟩ := Option.bind_eq_some_iff.mp hx
    obtain ⟨k6, b6, b7⟩ := Option.bind_eq_some_iff.mp hx
    have e1 := (y_new_o b1).2
    have e2 := (y_own_o b2).2
    obtain ⟨-, a1, a2, e3⟩ := y_num_o b3
    have e4 := (y_own_o b4).2
    obtain ⟨-, a3, a4, e5⟩ := y_num_o b5
    have e6 := (y_own_o b6).2
    obtain ⟨-, a5, a6, -⟩ := y_num_o b7
    rw [show k2 = k + 3 by omega] at a1 a2
    rw [show k4 = k + 5 by omega] at a3 a4
    rw [show k6 = k + 7 by omega] at a5 a6
    have eO : (d.1 0 7).toNat = O.length := by omega
    have l : (O ++ [(vl (k + 1)).toInt]).length = O.length + 1 := by rw [List.length_append]; rfl
    obtain ⟨E, hE⟩ : ∃ E, E = s_up (s_up (s_up (s_up d.1 2 (d.1 0 7).toNat (vl (k + 3)).toInt) 3 (d.1 0 7).toNat (vl (k + 5)).toInt) 4 (d.1 0 7).toNat (vl (k + 7)).toInt) 0 7 (d.1 0 7 + 1) := ⟨_, rfl⟩
    have u : ∀ r b : Nat, r ≠ 2 → r ≠ 3 → r ≠ 4 → (r ≠ 0 ∨ b ≠ 7) → E r b = d.1 r b := fun r b h2 h3 h4 h0 => by rw [hE, s_up_ne (by omega), s_up_r h4, s_up_r h3, s_up_r h2]
    have v2 : ∀ b : Nat, E 2 b = if b = O.length then (vl (k + 3)).toInt else d.1 2 b := fun b => by
      rw [hE, s_up_ne (by omega), s_up_ne (by omega), s_up_ne (by omega), eO]
      by_cases q : b = O.length
      · rw [if_pos q, q, s_up_at]
      · rw [if_neg q, s_up_i q]
    have v3 : ∀ b : Nat, E 3 b = if b = O.length then (vl (k + 5)).toInt else d.1 3 b := fun b => by
      rw [hE, s_up_ne (by omega), s_up_ne (by omega), eO]
      by_cases q : b = O.length
      · rw [if_pos q, q, s_up_at]
      · rw [if_neg q, s_up_i q, s_up_ne (by omega)]
    have v4 : ∀ b : Nat, E 4 b = if b = O.length then (vl (k + 7)).toInt else d.1 4 b := fun b => by
      rw [hE, s_up_ne (by omega), eO]
      by_cases q : b = O.length
      · rw [if_pos q, q, s_up_at]
      · rw [if_neg q, s_up_i q, s_up_ne (by omega), s_up_ne (by omega)]
    have I' : kI (q0, M, P, O ++ [(vl (k + 1)).toInt], r0, r1, r2) (E, d.2) := by rw [hE]; exact I'
    show kOK (q0, M, P, O ++ [(vl (k + 1)).toInt], r0, r1, r2) (s_up (s_up (s_up (s_up d.1 2 (d.1 0 7).toNat (vl (k + 3)).toInt) 3 (d.1 0 7).toNat (vl (k + 5)).toInt) 4 (d.1 0 7).toNat (vl (k + 7)).toInt) 0 7 (d.1 0 7 + 1), d.2)
    rw [← hE]
    refine ⟨I', D, ⟨C.1, C.2.1, by show (O ++ [(vl (k + 1)).toInt]).length ≤ 5; omega⟩, ?_, fun x => ?_, fun i hi => ?_, fun i hi => ?_, c, f0, f1, f2⟩
    · show (0 ≤ E 0 2 ∧ E 0 2 < q0.1) ∧ (0 ≤ E 0 3 ∧ E 0 3 ≤ 20) ∧ 0 ≤ E 0 4 ∧ E 0 4 ≤ 100
      rw [u 0 2 (by decide) (by decide) (by decide) (by decide), u 0 3 (by decide) (by decide) (by decide) (by decide), u 0 4 (by decide) (by decide) (by decide) (by decide)]
      exact N
    · show 0 ≤ E 1 x ∧ E 1 x ≤ 9
      rw [u 1 x (by decide) (by decide) (by decide) (Or.inl (by decide))]
      exact g x
    · show (0 ≤ E 5 i ∧ E 5 i < M.length) ∧ ∃ x y : Int, (0 ≤ x ∧ x < q0.1) ∧ (0 ≤ y ∧ y < q0.2) ∧ E 6 i = 8 * y + x
      rw [u 5 i (by decide) (by decide) (by decide) (Or.inl (by decide)), u 6 i (by decide) (by decide) (by decide) (Or.inl (by decide))]
      exact p i hi
    · have hi : i < (O ++ [(vl (k + 1)).toInt]).length := hi
      show (0 ≤ E 2 i ∧ E 2 i ≤ 9) ∧ (1 ≤ E 3 i ∧ E 3 i ≤ 9) ∧ 0 ≤ E 4 i ∧ E 4 i ≤ 999
      rw [v2, v3, v4]
      by_cases q : i = O.length
      · rw [if_pos q, if_pos q, if_pos q]
        exact ⟨⟨a1, a2⟩, ⟨a3, a4⟩, a5, a6⟩
      · rw [if_neg q, if_neg q, if_neg q]
        exact o i (show i < O.length by omega)
  by_cases w12 : (vl k).toInt = 12
  · rw [y_st_12 hk w12] at h
    cases r0 with
    | true => cases h
    | false =>
      obtain ⟨x, hx, e⟩ := Option.map_eq_some_iff.mp h
      cases e
      rw [k_st_r (by omega)] at I' ⊢
      rw [show (vl k).toInt - 12 = 0 by omega] at I' ⊢
      obtain ⟨s1, s2⟩ := s_cd.rule (w := 0) c rfl hn hx
      exact ⟨I', D, C, N, g, p, o, s1, ⟨fun _ => s2, fun _ => rfl⟩, f1, f2⟩
  by_cases w13 : (vl k).toInt = 13
  · rw [y_st_13 hk w13] at h
    cases r1 with
    | true => cases h
    | false =>
      obtain ⟨x, hx, e⟩ := Option.map_eq_some_iff.mp h
      cases e
      rw [k_st_r (by omega)] at I' ⊢
      rw [show (vl k).toInt - 12 = 1 by omega] at I' ⊢
      obtain ⟨s1, s2⟩ := s_cd.rule (w := 1) c rfl hn hx
      exact ⟨I', D, C, N, g, p, o, s1, f0, ⟨fun _ => s2, fun _ => rfl⟩, f2⟩
  by_cases w14 : (vl k).toInt = 14
  · rw [y_st_14 hk w14] at h
    cases r2 with
    | true => cases h
    | false =>
      obtain ⟨x, hx, e⟩ := Option.map_eq_some_iff.mp h
      cases e
      rw [k_st_r (by omega)] at I' ⊢
      rw [show (vl k).toInt - 12 = 2 by omega] at I' ⊢
      obtain ⟨s1, s2⟩ := s_cd.rule (w := 2) c rfl hn hx
      exact ⟨I', D, C, N, g, p, o, s1, f0, f1, ⟨fun _ => s2, fun _ => rfl⟩⟩
  rw [y_st_no (Or.inr ⟨w2, w3, w4, w5, w6, w7, w9, w12, w13, w14⟩)] at h
  cases h
/-- of a whole text -/
theorem kOK.go (hn : ∀ k, (kd k).toInt = 3 → 0 ≤ (vl k).toInt ∧ (vl k).toInt ≤ 9999) {m : Nat} {σe : y_S} : ∀ (f i : Nat) (σ : y_S) (d : k_D) (k : Nat), (i = 0 ∧ σ = y_0 ∧ d = k_0) ∨ (i ≠ 0 ∧ kOK σ d) → y_go kd vl f i σ k = some (m, σe) → kOK σe (z_go kd vl (k_st kd vl) f i σ d k)
  | 0, i, σ, d, k, H, e => by
    unfold y_go at e
    by_cases q : i ≠ 0 ∧ (kd k).toInt = 0
    · rw [if_pos q] at e
      cases e
      rcases H with ⟨h0, -, -⟩ | H
      · exact absurd h0 q.1
      · exact H.2
    · rw [if_neg q] at e
      cases e
  | f + 1, i, σ, d, k, H, e => by
    unfold y_go at e
    by_cases q : i ≠ 0 ∧ (kd k).toInt = 0
    · rw [if_pos q] at e
      cases e
      show kOK σe (if m ≠ 0 ∧ (kd k).toInt = 0 then d else _)
      rw [if_pos q]
      rcases H with ⟨h0, -, -⟩ | H
      · exact absurd h0 q.1
      · exact H.2
    · rw [if_neg q] at e
      obtain ⟨⟨σ', yk⟩, e1, e⟩ := Option.bind_eq_some_iff.mp e
      obtain ⟨k', e2, e⟩ := Option.bind_eq_some_iff.mp e
      show kOK σe (if i ≠ 0 ∧ (kd k).toInt = 0 then d else _)
      rw [if_neg q, e1]
      show kOK σe (match g_tk kd vl 59 yk with | none => d | some k' => z_go kd vl (k_st kd vl) f (i + 1) σ' (k_st kd vl σ k d) k')
      have e2 : g_tk kd vl 59 yk = some k' := e2
      rw [e2]
      refine kOK.go hn f (i + 1) σ' (k_st kd vl σ k d) k' (Or.inr ⟨Nat.succ_ne_zero i, ?_⟩) e
      rcases H with ⟨h0, h1, h2⟩ | H
      · rw [h0] at e1
        rw [h1] at e1 ⊢
        rw [h2]
        refine kOK.first e1 ?_
        unfold y_one at e1
        rw [if_pos rfl] at e1
        obtain ⟨x, hx, -⟩ := Option.map_eq_some_iff.mp e1
        unfold y_seam at hx
        obtain ⟨k1, h1, -⟩ := Option.bind_eq_some_iff.mp hx
        exact (g_o_iff.mp (y_own_o h1).1).2
      · rw [y_one_n H.1] at e1
        exact kOK.step hn e1 H.2
theorem kOK.all {tb : Nat → Int32} {n m : Nat} (e : y_mine (T_kd tb n) (T_vl tb n) = some (m, σ)) : kOK σ (z_all (T_kd tb n) (T_vl tb n) (k_st (T_kd tb n) (T_vl tb n)) k_0) := kOK.go (fun k => T_num_b) 80 0 y_0 k_0 0 (Or.inl ⟨rfl, rfl, rfl⟩) e
/-- bounds as the mine wants them -/
theorem kOK.gx (h : kOK σ d) : s_gx d.1 ∧ s_cd d.2 := by
  obtain ⟨⟨i0, i1, i5, i6, i7⟩, ⟨⟨a1, a2⟩, a3, a4⟩, ⟨c1, c2, c3⟩, ⟨⟨n1, n2⟩, n3, n4⟩, g, p, o, c, -⟩ := h
  refine ⟨⟨⟨⟨⟨by omega, by omega⟩, by omega, by omega⟩, ⟨n1, by omega⟩, by omega, by omega⟩, n3, n4, ⟨by omega, by omega⟩, ⟨by omega, by omega⟩, fun x hx => g x.toNat, fun k hk => ?_, fun k hk => o k (by omega)⟩, c⟩
  obtain ⟨⟨p1, p2⟩, x, y, p3, p4, p5⟩ := p k (by omega)
  refine ⟨⟨p1, by omega⟩, ?_⟩
  rw [p5]
  refine ⟨⟨?_, ?_⟩, ?_, ?_⟩ <;> omega
end LG
end
section
/-! what a text has told, as both sides hold it -/
section LH
variable {o oX oM g gD gE n k i : Nat} {WF : List (Nat × Nat)} {WA : List Nat} {S S0 S1 S2 SX SM : dg_S} {G A : aR} {K : Nat → List Int} {d : k_D} {σ : y_S} {C : List Int} {w : Nat}
theorem kc.code (h : kc S g w C) (b : (zI S 209 7).toInt ≤ 1600) : cx_code S g w C := by
  obtain ⟨fr, h0, h1, h2, h3, h4⟩ := h
  exact ⟨fr, h0, by omega, h2, h3, h4⟩
theorem kx.gg (h : kx d S g) (b : (zI S 209 7).toInt ≤ 1600) : cx_g d.1 d.2 S g := by
  obtain ⟨⟨hg, ⟨a0, a1, a3, a4, a6, a8, a11⟩, b1, b2, b3, b4⟩, a2⟩ := h
  refine ⟨⟨hg, a2, a8, fun w hw => (b4 w hw).code b⟩, ⟨a0, a1, a3, a4, a6, a11⟩, fun c hc => ?_, b2, b3⟩
  have h0 := hc.1
  have e := b1 c.toNat (by omega)
  rw [show (c + 8).toNat = c.toNat + 8 by omega]
  exact e
theorem d_2_so {t v s : Int} (e : d_2 t v = s) (ht : (0 ≤ t ∧ t ≤ 6) ∨ (30 ≤ t ∧ t ≤ 44)) (hv : 0 ≤ v) : t = mx_so s ∧ (0 ≤ s → v = s) := by
  unfold d_2 d_st at e
  unfold mx_so
  by_cases q0 : t = 0
  · rw [if_pos q0] at e
    rw [if_pos (by omega)]
    exact ⟨q0, fun _ => e⟩
  rw [if_neg q0] at e
  by_cases q1 : t ≤ 6
  · rw [if_pos q1] at e
    rw [if_neg (by omega), if_pos (by omega)]
    exact ⟨by omega, fun _ => by omega⟩
  rw [if_neg q1] at e
  by_cases q2 : t = 30
  · rw [if_pos q2] at e
    rw [if_neg (by omega), if_neg (by omega), if_pos (by omega)]
    exact ⟨q2, fun _ => by omega⟩
  rw [if_neg q2] at e
  by_cases q3 : t = 43
  · rw [if_pos q3] at e
    rw [if_neg (by omega), if_neg (by omega), if_neg (by omega), if_pos (by omega)]
    exact ⟨q3, fun _ => by omega⟩
  rw [if_neg q3] at e
  by_cases q4 : t = 44
  · rw [if_pos q4] at e
    rw [if_neg (by omega), if_neg (by omega), if_neg (by omega), if_neg (by omega), if_pos (by omega)]
    exact ⟨q4, fun _ => by omega⟩
  rw [if_neg q4] at e
  rw [if_neg (by omega), if_neg (by omega), if_neg (by omega), if_neg (by omega), if_neg (by omega)]
  exact ⟨by omega, fun _ => by omega⟩
theorem dk_ok.sort {f : Nat → Int32} {m : Int} : ∀ {k s : Nat} {n : Int} (_ : dk_ok f k s n m) (i : Nat), i < k → (0 ≤ (f (s + i)).toInt ∧ (f (s + i)).toInt ≤ 6) ∨ (30 ≤ (f (s + i)).toInt ∧ (f (s + i)).toInt ≤ 44)
  | 0, s, n, _, i, hi => absurd hi (Nat.not_lt_zero i)
  | k + 1, s, n, h, i, hi => by
    obtain ⟨n', h1, h2⟩ := h
    by_cases q : i = 0
    · subst q
      unfold dk_st at h1
      rw [Nat.add_zero]
      omega
    · have z := dk_ok.sort h2 (i - 1) (by omega)
      rw [show s + 1 + (i - 1) = s + i by omega] at z
      exact z
theorem kOK.flag (H : kOK σ d) {S : dg_S} {b : Nat} (es : σ = GSv S b) (hw : w < 3) (h : (S.2.1 16 (3 * b + w)).toInt ≠ -1) : d.2 w ≠ [] := by
  subst es
  obtain ⟨-, -, -, -, -, -, -, -, f0, f1, f2⟩ := H
  match w, hw with
  | 0, _ => exact f0.mp (decide_eq_true h)
  | 1, _ => exact f1.mp (decide_eq_true h)
  | 2, _ => exact f2.mp (decide_eq_true h)
/-- the bank that was read into, as a ground -/
theorem km.gf {b9 : Int32} (f13 : S.1 0 13 = .int b9) (f35 : S.1 0 35 = .int b9) (f47 : S.1 0 47 = .int 1) (I : CM o S) (ZW : ZWM S) (es : σ = GSv S b9.toNatClampNeg) (H : kOK σ d) (h : km d S) : mx_gf d.1 d.2 S := by
  have hb := dg_I.intb (lo := 0) (hi := 1) I sM_0 (by decide +kernel) f13
  have z13 := zI_eq f13
  have z47 := zI_eq f47
  have one : (1 : Int32).toInt = 1 := by decide +kernel
  have cb := dk_clN b9
  have hin : vp_in b9 2 := dk_inv hb.1 (by omega)
  have b8 := dk_all_at (dg_I.row (lo := 0) (hi := 6) I sM_8 (by decide +kernel)) hin (rfl : S.2.1 8 b9.toNatClampNeg = _)
  have b9' := dk_all_at (dg_I.row (lo := 0) (hi := 16) I sM_9 (by decide +kernel)) hin (rfl : S.2.1 9 b9.toNatClampNeg = _)
  have b12 := dk_all_at (dg_I.row (lo := 0) (hi := 5) I sM_12 (by decide +kernel)) hin (rfl : S.2.1 12 b9.toNatClampNeg = _)
  have v19 : dk_all 3200 (S.2.1 19) 0 9999 := dg_I.row (lo := 0) (hi := 9999) I sM_19 (by decide +kernel)
  obtain ⟨ii, f, h0, e4, e5, e6, e7, e10, e13, ec⟩ := h
  cases f.symm.trans f35
  obtain ⟨i0, i1, i5, i6, i7⟩ := H.1
  have hx := H.gx.1
  have h6 := hx.1.2.2
  have h7 := hx.2.2.2.2.1
  have i0 : d.1 0 0 = (S.2.1 2 b9.toNatClampNeg).toInt := by rw [i0, es]; rfl
  have i1 : d.1 0 1 = (S.2.1 3 b9.toNatClampNeg).toInt := by rw [i1, es]; rfl
  have i5 : d.1 0 5 = (S.2.1 8 b9.toNatClampNeg).toInt := by
    rw [i5, es]
    show ((m_nm (S.2.2 20) (6 * b9.toNatClampNeg) (S.2.1 8 b9.toNatClampNeg).toNatClampNeg).length : Int) = _
    rw [m_nm_len, dk_clN]
    omega
  have i6 : d.1 0 6 = (S.2.1 9 b9.toNatClampNeg).toInt := by
    rw [i6, es]
    show (((S.2.1 9 b9.toNatClampNeg).toNatClampNeg : Nat) : Int) = _
    rw [dk_clN]
    omega
  have i7 : d.1 0 7 = (S.2.1 12 b9.toNatClampNeg).toInt := by
    rw [i7, es]
    show ((m_nm (S.2.2 21) (5 * b9.toNatClampNeg) (S.2.1 12 b9.toNatClampNeg).toNatClampNeg).length : Int) = _
    rw [m_nm_len, dk_clN]
    omega
  unfold mx_gf mx_g mx_gd
  rw [← z13, ← z47]
  refine ⟨⟨⟨by rw [one]; decide, i0.symm, i1.symm, e4, i6.symm⟩, b9.toNatClampNeg, by omega, by omega, fun w hw => ?_⟩, ⟨e5, e6, i5.symm, i7.symm⟩, fun c hc => ?_, fun k hk => e10 k (by omega) hk, fun k hk => e13 k (by omega) hk⟩
  · rcases ec w hw with ⟨c0, c1⟩ | ⟨fr, cd, c0, f34, hl, e16, e17, el⟩
    · exact Or.inl ⟨c0, c1⟩
    · have hcd := dg_I.intb (lo := 0) (hi := 1600) I sM_0 (by decide +kernel) f34
      have ne := H.flag (w := w) es hw (by rw [e16]; omega)
      refine Or.inr ⟨ne, fr, c0, by omega, e16, e17, fun i hi => ?_⟩
      obtain ⟨-, -, -, m, ok⟩ := ZW b9 f13 w hw (by rw [e16]; omega)
      rw [e16, e17] at ok
      have so := ok.sort i (by omega)
      have av := v19 (1600 * b9.toNatClampNeg + fr.toNat + i) (by omega)
      unfold mx_c1
      rw [show (1600 * ((b9.toNatClampNeg : Nat) : Int) + fr + (i : Int)).toNat = 1600 * b9.toNatClampNeg + fr.toNat + i by omega]
      exact d_2_so (el i hi) so av.1
  · have c0 := hc.1
    exact e7 c.toNat (by omega)
/-- the ground in use stays while the other is read into -/
theorem cx_g.keep1 (h : cx_g G K S g) (e : ∀ j, 1 ≤ j → j ≤ 11 → S1.2.1 (g + j) = S.2.1 (g + j)) (e2 : ∀ b, zI S1 g b = zI S g b) : cx_g G K S1 g := by
  unfold cx_g cx_gt cx_code at h ⊢
  simp only [e2, e 1 (by decide) (by decide), e 3 (by decide) (by decide), e 4 (by decide) (by decide), e 6 (by decide) (by decide), e 7 (by decide) (by decide), e 8 (by decide) (by decide), e 9 (by decide) (by decide), e 10 (by decide) (by decide), e 11 (by decide) (by decide)]
  exact h
theorem GOX.zf (h : GOX S gD S1) (b : Nat) : zI S1 gD b = zI S gD b := by
  unfold zI
  rw [h.2.1 b]
theorem cx_g.go (h : cx_g G K S gD) (go : GOX S gD S1) (g9 : G9X S gD S1) : cx_g G K S1 gD := by
  refine h.keep1 (fun j h1 h2 => ?_) (fun b => go.zf b)
  by_cases q : j = 9
  · rw [q]
    exact g9.2
  · exact go.2.2 j h1 (by omega) q
theorem mx_gf.gb (h : mx_gf G K S) (h6 : G 0 6 ≤ 16) (h7 : G 0 7 ≤ 5) (gb : GBM S S1) (g8 : G8M S S1) : mx_gf G K S1 := by
  obtain ⟨b, f0, f1, f47, hb, R⟩ := gb
  obtain ⟨b', f0', -, -, R8⟩ := g8
  cases f0'.symm.trans f0
  have z0 := zI_eq f0
  have z1 := zI_eq f1
  have z47 : zI S1 0 47 = zI S 0 47 := by
    unfold zI
    rw [f47]
  have cb := dk_clN b
  have r1 : ∀ r, gb_w r = 1 → S1.2.1 r b.toNatClampNeg = S.2.1 r b.toNatClampNeg := fun r hr => by
    have e := (R r 0 (by omega)).1
    rw [hr, Nat.one_mul, Nat.add_zero] at e
    exact e
  have rr : ∀ r w k, gb_w r = w → k < w → S1.2.1 r (w * b.toNatClampNeg + k) = S.2.1 r (w * b.toNatClampNeg + k) := fun r w k hr hk => by
    have e := (R r k (by omega)).1
    rw [hr] at e
    exact e
  unfold mx_gf mx_g mx_gd at h ⊢
  rw [← z0] at h
  rw [← z1, z47]
  obtain ⟨⟨⟨q47, q2, q3, q4, q9⟩, b2, hb2, e2, qc⟩, ⟨q5, q6, q8, q12⟩, q7, q10, q13⟩ := h
  refine ⟨⟨⟨q47, ?_, ?_, ?_, ?_⟩, b2, hb2, e2, fun w hw => ?_⟩, ⟨?_, ?_, ?_, ?_⟩, fun c hc => ?_, fun k hk => ?_, fun k hk => ?_⟩
  · rw [r1 2 (by decide)]; exact q2
  · rw [r1 3 (by decide)]; exact q3
  · rw [r1 4 (by decide)]; exact q4
  · rw [r1 9 (by decide)]; exact q9
  · have eb : b2 = b.toNatClampNeg := by omega
    subst eb
    have h16 := rr 16 3 w (by decide) hw
    have h17 := rr 17 3 w (by decide) hw
    rcases qc w hw with ⟨c0, c1⟩ | ⟨ne, fr, c0, hl, e16, e17, el⟩
    · exact Or.inl ⟨c0, by rw [h16]; exact c1⟩
    · refine Or.inr ⟨ne, fr, c0, hl, by rw [h16]; exact e16, by rw [h17]; exact e17, fun i hi => ?_⟩
      have ei := el i hi
      unfold mx_c1 at ei ⊢
      rw [show (1600 * ((b.toNatClampNeg : Nat) : Int) + fr + (i : Int)).toNat = 1600 * b.toNatClampNeg + (fr.toNat + i) by omega] at ei ⊢
      rw [R8 18 _ (Or.inl rfl) (by omega), R8 19 _ (Or.inr rfl) (by omega)]
      exact ei
  · rw [r1 5 (by decide)]; exact q5
  · rw [r1 6 (by decide)]; exact q6
  · rw [r1 8 (by decide)]; exact q8
  · rw [r1 12 (by decide)]; exact q12
  · have c0 := hc.1
    rw [rr 7 64 c.toNat (by decide) (by omega)]
    exact q7 c hc
  · rw [rr 10 16 k (by decide) (by omega), rr 11 16 k (by decide) (by omega)]
    exact q10 k hk
  · rw [rr 13 5 k (by decide) (by omega), rr 14 5 k (by decide) (by omega), rr 15 5 k (by decide) (by omega)]
    exact q13 k hk
theorem mx_0.gb {x : Int} (h : mx_0 x S) (gb : GBM S S1) (e29 : S1.2.1 29 = S.2.1 29) (e30 : S1.2.1 30 = S.2.1 30) (e33 : S1.2.1 33 = S.2.1 33) (e38 : S1.2.1 38 = S.2.1 38) (e37 : S1.2.1 37 = S.2.1 37) (e61 : zI S1 0 61 = zI S 0 61) (e62 : zL S1 0 62 = zL S 0 62) : mx_0 x S1 := by
  obtain ⟨b, f0, f1, f47, hb, R⟩ := gb
  have z0 := zI_eq f0
  have z1 := zI_eq f1
  have z47 : zI S1 0 47 = zI S 0 47 := by
    unfold zI
    rw [f47]
  have r1 : ∀ r, gb_w r = 1 → S1.2.1 r b.toNatClampNeg = S.2.1 r b.toNatClampNeg := fun r hr => by
    have e := (R r 0 (by omega)).1
    rw [hr, Nat.one_mul, Nat.add_zero] at e
    exact e
  unfold mx_0 at h ⊢
  rw [← z0] at h
  rw [← z1, z47, e29, e30, e33, e38, e37, e61, e62, r1 2 (by decide), r1 3 (by decide), r1 8 (by decide), r1 9 (by decide), r1 12 (by decide)]
  exact h
/-- cells that a reading leaves alone -/
theorem sm_kX (m : dg_sm shX WF WA S S1) (c1 : WF.all (fun p => decide (p.1 = 1 ∨ (p.1 = 0 ∧ (p.2 = 6 ∨ p.2 = 7)) ∨ 19 ≤ p.1)) = true) (c2 : WA.all (fun r => decide (19 ≤ r)) = true) : kp (fun a b => a = 1 ∨ (a = 0 ∧ (b = 6 ∨ b = 7)) ∨ 185 ≤ a) (fun a => 185 ≤ a) S S1 := by
  have hs : ∀ a, a < 185 → (shX[a]?).elim false (fun q => decide (q.2.2.2 ≤ 18 ∧ (q.2.2.2 = 1 → a = 1) ∧ (q.2.2.2 = 0 → a = 0))) = true := by decide +kernel
  refine ⟨fun a b n => ?_, fun a n => ?_⟩
  · have z := hs a (by omega)
    cases e : shX[a]? with
    | none => rw [e] at z; cases z
    | some q =>
      rw [e] at z
      have z := of_decide_eq_true z
      exact m.1 a b q e (fun y => by have := of_decide_eq_true (List.all_eq_true.mp c1 _ y); omega)
  · have z := hs a (by omega)
    cases e : shX[a]? with
    | none => rw [e] at z; cases z
    | some q =>
      rw [e] at z
      have z := of_decide_eq_true z
      exact m.2 a q e (fun y => by have := of_decide_eq_true (List.all_eq_true.mp c2 _ y); omega)
theorem sm_kM (m : dg_sm shM WF WA S S1) (c2 : WA.all (fun r => decide (2 ≤ r ∧ r ≤ 27)) = true) : kp (fun a b => (a, b) ∈ WF ∨ 51 ≤ a) (fun a => (2 ≤ a ∧ a ≤ 27) ∨ 51 ≤ a) S S1 := by
  have hs : ∀ a, a < 51 → (shM[a]?).elim false (fun q => decide (q.2.2.2 = a)) = true := by decide +kernel
  refine ⟨fun a b n => ?_, fun a n => ?_⟩
  · have z := hs a (by omega)
    cases e : shM[a]? with
    | none => rw [e] at z; cases z
    | some q =>
      rw [e] at z
      have z := of_decide_eq_true z
      exact m.1 a b q e (fun y => n (Or.inl (by rw [← z]; exact y)))
  · have z := hs a (by omega)
    cases e : shM[a]? with
    | none => rw [e] at z; cases z
    | some q =>
      rw [e] at z
      have z := of_decide_eq_true z
      exact m.2 a q e (fun y => by have := of_decide_eq_true (List.all_eq_true.mp c2 _ y); omega)
end LH
end
section
/-! the law: MINE -/
section LI
variable {o oX oM g gD gE n k i tn m1 m2 : Nat} {WF WF2 WF3 WF4 WF5 : List (Nat × Nat)} {WA WA2 WA3 WA4 WA5 : List Nat} {S S0 S1 S2 SX SM T : dg_S} {G A : aR} {K : Nat → List Int} {L : s_L} {U : s_U} {F : s_F} {x : Int} {rX' rM' : Int32} {f1 f2 : Nat → Int32} {TX : Option (Nat × y_S)}
/-- a text that is refused -/
theorem LW.mineNo (w : LW oX gD gE SX SM) (tX : (zI (r_X 1 S1) 1 1).toInt = 0) (tM : (zI (r_M 1 S2) 0 1).toInt = 0) (f6 : (r_X 1 S1).1 0 6 = .ref (oX + gD)) (f7 : (r_X 1 S1).1 0 7 = .ref (oX + gE)) (go : GOX SX gD (r_X 1 S1)) (g9 : G9X SX gD (r_X 1 S1)) (gb : GBM SM (r_M 1 S2)) (g8 : G8M SM (r_M 1 S2)) (m1 : dg_sm shX WF WA SX S1) (m2 : dg_sm shM WF2 WA2 SM S2)
    (c1 : WF.all (fun p => decide (p.1 = 1 ∨ (p.1 = 0 ∧ (p.2 = 6 ∨ p.2 = 7)) ∨ 19 ≤ p.1)) = true) (c2 : WA.all (fun r => decide (19 ≤ r)) = true) (c3 : ckS WF) (c4 : 45 ∉ WA) (c5 : WA2.all (fun r => decide (2 ≤ r ∧ r ≤ 27)) = true) (c6 : (0, 60) ∉ WF2 ∧ (0, 61) ∉ WF2 ∧ (0, 62) ∉ WF2 ∧ (0, 63) ∉ WF2 ∧ (0, 69) ∉ WF2 ∧ (0, 76) ∉ WF2) : LW oX gD gE (r_X 1 S1) (r_M 1 S2) := by
  have t1 := sm_kX m1 c1 c2
  have t2 := sm_kM m2 c5
  have t1' : kp (fun a b => a = 1 ∨ (a = 0 ∧ (b = 6 ∨ b = 7)) ∨ 185 ≤ a) (fun a => 184 ≤ a) SX (r_X 1 S1) := (t1.w (fun a b z => z) (fun a z => by omega)).tr (r_X.kp.w (fun a b z => z.elim) (fun a z => by omega))
  have t2' : kp (fun a b => (a, b) ∈ WF2 ∨ 51 ≤ a) (fun a => (2 ≤ a ∧ a ≤ 28) ∨ 51 ≤ a) SM (r_M 1 S2) := (t2.w (fun a b z => z) (fun a z => by omega)).tr (r_M.kp.w (fun a b z => z.elim) (fun a z => by omega))
  have sk := k_sk.m m1 c3 c4
  have s221 : ∀ b, zI (r_X 1 S1) 221 b = zI SX 221 b := fun b => sk.1 b
  have s229 : ∀ b, zI (r_X 1 S1) 229 b = zI SX 229 b := fun b => sk.2.1 b
  have s230 : (r_X 1 S1).2.1 230 = SX.2.1 230 := by
    unfold r_X
    rw [w_f, if_neg (by decide)]
    exact sk.2.2
  have no : ∀ b, (0, b) ∉ WF2 → zI (r_M 1 S2) 0 b = zI SM 0 b := fun b hb => t2'.I (fun z => by
    rcases z with z | z
    · exact hb z
    · omega)
  have e69 := no 69 c6.2.2.2.2.1
  refine ⟨LT.z tX tM, w.2.1.up (k := 1) (by decide) ?_ ?_, w.2.2.1.eq (t1'.I (by omega)) (t1'.2 183 (by omega)).1 (no 76 c6.2.2.2.2.2) (t2'.2 50 (by omega)).1, ⟨w.2.2.2.1.1, f6, f7⟩, ?_⟩
  · unfold r_X
    rw [w_f, if_pos rfl, (t1.2 184 (by omega)).1]
  · unfold r_M
    rw [w_f, if_pos rfl, (t2.2 28 (by omega)).1]
  rcases w.2.2.2.2 with ⟨g, G, K, A, L, U, x, F, h⟩ | ⟨g, x, h⟩
  · obtain ⟨h1, ⟨⟨x1, x2, x3, x4, x5, x6⟩, y1, y2, y3, y4, y5⟩, ⟨h4, h5⟩, h6, h7, h8⟩ := h
    have eg : g = gD := x1.symm.trans (zR_eq w.2.2.2.1.2.1).symm
    subst eg
    have hb := h1.1.1.1.2.2.2
    have h17 := h1.1.1.2.2.2.2.1
    refine Or.inl ⟨g, G, K, A, L, U, x, F, h1, ⟨⟨(zR_eq f6).symm, x2.go go g9, x3.keep (fun i i0 i1 => (t1'.2 i (by omega)).1) (fun b _ => t1'.I (by omega)), x4.keep (t1'.I (by omega)) (t1'.2 18 (by omega)).1, x5.keep (t1'.I (by omega)) (t1'.I (by omega)) (fun i i0 i1 => (t1'.2 i (by omega)).1) (fun a b a0 a1 => t1'.I (by omega)), by rw [t1'.I (by omega)]; exact x6⟩, ⟨y1.gb hb h17.2 gb g8, y2.keep hb (fun a a0 a1 j _ _ => by rw [(t2'.2 a (by omega)).1]), y3.keep hb (no 60 c6.1) (no 61 c6.2.1) (fun a a0 a1 j _ => by rw [(t2'.2 a (by omega)).1]), by rw [no 63 c6.2.2.2.1]; exact y4, ?_⟩⟩, ⟨h4.f (s229 5) s230, h5.f e69 (t2'.2 45 (by omega)).1 (t2'.2 46 (by omega)).1 (t2'.2 47 (by omega)).1⟩, h6.f (fun b _ => s221 b), h7.f (fun b _ => s221 b), h8.f (fun b _ => s229 b)⟩
    rw [t2'.L (fun z => by
      rcases z with z | z
      · exact c6.2.2.1 z
      · omega)]
    exact y5
  · obtain ⟨hx, ⟨⟨x1, ⟨a0, a1, a6, a8, a11⟩, ⟨p0, p1, p4, p9⟩, ⟨q1, q2⟩, x6⟩, y⟩, h5⟩ := h
    have eg : g = gD := x1.symm.trans (zR_eq w.2.2.2.1.2.1).symm
    subst eg
    refine Or.inr ⟨g, x, hx, ⟨⟨(zR_eq f6).symm, ⟨by rw [go.zf]; exact a0, by rw [go.zf]; exact a1, by rw [go.zf]; exact a6, by rw [go.zf]; exact a8, by rw [go.zf]; exact a11⟩, ⟨by rw [t1'.I (by omega)]; exact p0, by rw [t1'.I (by omega)]; exact p1, fun k => by rw [(t1'.2 4 (by omega)).1]; exact p4 k, fun k => by rw [(t1'.2 9 (by omega)).1]; exact p9 k⟩, ⟨by rw [t1'.I (by omega)]; exact q1, by rw [t1'.I (by omega)]; exact q2⟩, by rw [t1'.I (by omega)]; exact x6⟩, y.gb gb (t2'.2 29 (by omega)).1 (t2'.2 30 (by omega)).1 (t2'.2 33 (by omega)).1 (t2'.2 38 (by omega)).1 (t2'.2 37 (by omega)).1 (no 61 c6.2.1) (t2'.L (fun z => by
      rcases z with z | z
      · exact c6.2.2.1 z
      · omega))⟩, by rw [s229 5, e69]; exact h5⟩
theorem LW.sd (w : LW oX gD gE SX SM) : ∃ x : Int, (0 ≤ x ∧ x < 2147483648) ∧ (zI SX 0 12).toInt = x ∧ (zL SM 0 62).toInt = x := by
  rcases w.2.2.2.2 with ⟨g, G, K, A, L, U, x, F, h⟩ | ⟨g, x, h⟩
  · exact ⟨x, h.1.2.1, h.2.1.1.2.2.2.2.2, h.2.1.2.2.2.2.2⟩
  · exact ⟨x, h.1, h.2.1.1.2.2.2.2, h.2.1.2.2.2.2.2⟩
theorem sX_17' : shX[17]? = some (0, 3, 7, 10) := by decide +kernel
/-- a text that is taken: behind begin -/
theorem LW.mineYes {σ : y_S} {d : k_D} {b9 : Int32} (w : LW oX gD gE SX SM) (H : kOK σ d) (hkx : kx d S gE) (IX : CX oX S) (m1 : dg_sm shX WF WA SX S) (eX : S1 = F_d_forgetTrials oX (dg_uF (F_h_clear oX (F_p_begin oX S 3 gE)) 229 5 (.int 0))) (f6 : S1.1 0 6 = .ref (oX + gE)) (f7 : S1.1 0 7 = .ref (oX + gD)) (tX : (zI S1 1 1).toInt = 0)
    (f13 : T.1 0 13 = .int b9) (f35 : T.1 0 35 = .int b9) (f47 : T.1 0 47 = .int 1) (IM : CM oM T) (ZW : ZWM T) (es : σ = GSv T b9.toNatClampNeg) (hkm : km d T) (m3 : dg_sm shM WF3 WA3 SM T) (eM : S2 = F_m_begin oM T) (tM : (zI S2 0 1).toInt = 0)
    (c1 : WF.all (fun p => decide (p.1 = 1 ∨ (p.1 = 0 ∧ (p.2 = 6 ∨ p.2 = 7)) ∨ 19 ≤ p.1)) = true) (c2 : WA.all (fun r => decide (19 ≤ r)) = true) (c5 : WA3.all (fun r => decide (2 ≤ r ∧ r ≤ 27)) = true) (c6 : (0, 62) ∉ WF3 ∧ (0, 76) ∉ WF3) : LW oX gE gD S1 S2 := by
  have z0 : (0 : Int32).toInt = 0 := by decide +kernel
  have t1 := sm_kX m1 c1 c2
  have t2 := sm_kM m3 c5
  have hg := hkx.1.1
  have sep := rX_sep hg
  obtain ⟨y, fy, -, by1⟩ := dg_I.int (k := 7) (lo := 0) (hi := 1600) IX sX_209 (by decide +kernel)
  have cg := hkx.gg (by rw [← zI_eq fy]; exact by1)
  obtain ⟨hG, hK⟩ := H.gx
  obtain ⟨x, hx, ex, ey⟩ := w.sd
  obtain ⟨nx, fn, nx0, nx1⟩ := dg_I.int (k := 3) (lo := 0) (hi := 19) IX sX_17' (by decide +kernel)
  obtain ⟨B1, eB, kB, pB⟩ := cx_begin (o := oX) (p := 3) cg hG pX_3'
  rw [eB] at eX
  obtain ⟨V1, v1⟩ : ∃ X, X = dg_uF B1 17 1 (.int (0 : Int32)) := ⟨_, rfl⟩
  obtain ⟨V2, v2⟩ : ∃ X, X = dg_uF V1 17 2 (.int (0 : Int32)) := ⟨_, rfl⟩
  obtain ⟨V3, v3⟩ : ∃ X, X = dg_uF V2 229 5 (.int (0 : Int32)) := ⟨_, rfl⟩
  have ec : F_h_clear oX B1 = V2 := by rw [v2, v1]; rfl
  rw [ec, ← v3] at eX
  have kf := cx_forget (o := oX) (S := V3)
  rw [← eX] at kf
  have kv : kp (fun a b => (a = 17 ∧ (b = 1 ∨ b = 2)) ∨ (a = 229 ∧ b = 5)) (fun _ => False) B1 V3 := by
    rw [v3, v2, v1]
    exact kp.uF (kp.uF (kp.uF kp.rf (by omega)) (by omega)) (by omega)
  have kS : kp (fun a b => (a = 17 ∧ (b = 1 ∨ b = 2)) ∨ (a = 229 ∧ (b = 4 ∨ b = 5)) ∨ (a = 221 ∧ (b = 2 ∨ b = 3))) (fun _ => False) B1 S1 := (kv.w (fun a b z => by omega) (fun a z => z)).tr (kf.w (fun a b z => by omega) (fun a z => z))
  have kA : kp (fun a b => (a = 3 ∧ b < 2) ∨ (a = 17 ∧ (b = 1 ∨ b = 2)) ∨ (a = 229 ∧ (b = 4 ∨ b = 5)) ∨ (a = 221 ∧ (b = 2 ∨ b = 3))) (fun a => 3 < a ∧ a ≤ 9) S S1 := (kB.w (fun a b z => by omega) (fun a z => by omega)).tr (kS.w (fun a b z => by omega) (fun a z => z.elim))
  have eF : S1 = dg_uF (dg_uF (dg_uF V3 221 2 (.int 0)) 221 3 (.int 0)) 229 4 (.int 0) := by
    rw [eX, F_d_forgetTrials_p0 rfl rfl, F_e_forget_p0 rfl, F_f_forget_p0 rfl rfl]
  have gf := km.gf f13 f35 f47 IM ZW es H hkm
  obtain ⟨Y, eY, kY, gY, lY, y63, y61, y69⟩ := mx_begin (o := oM) gf hG
  rw [eY] at eM
  subst eM
  obtain ⟨ny, gn, ny0, ny1⟩ := dg_I.int (k := 60) (lo := 0) (hi := 19) IM sM_0 (by decide +kernel)
  have no : ∀ b, (0, b) ∉ WF3 → zI T 0 b = zI SM 0 b := fun b hb => t2.I (fun z => by
    rcases z with z | z
    · exact hb z
    · omega)
  have ok := s_bg_ok hG hK
  refine ⟨LT.z tX tM, w.2.1.eq ((kA.2 184 (by omega)).1.trans (t1.2 184 (by omega)).1) ((kY.2 28 (by omega)).1.trans (t2.2 28 (by omega)).1), w.2.2.1.eq ((kA.I (by omega)).trans (t1.I (by omega))) ((kA.2 183 (by omega)).1.trans (t1.2 183 (by omega)).1) ((kY.I (by omega)).trans (no 76 c6.2)) ((kY.2 50 (by omega)).1.trans (t2.2 50 (by omega)).1), ⟨⟨hg, w.2.2.2.1.1.1, fun z => w.2.2.2.1.1.2.2 z.symm⟩, f6, f7⟩, Or.inl ⟨gE, d.1, d.2, s_bg d.1, [], [], x, [], ⟨ok, hx, by decide, fun i hi => absurd hi (Nat.not_lt_zero i)⟩, ⟨⟨(zR_eq f6).symm, ?_, ?_, ⟨?_, by decide, fun i hi => absurd hi (Nat.not_lt_zero i)⟩, ⟨?_, by decide, nx.toInt.toNat, by omega, ?_, fun i e he => by simp at he⟩, ?_⟩, ⟨gY, lY, ⟨y61, by decide, ny.toInt.toNat, by omega, ?_, fun i e he => by simp at he⟩, y63, ?_⟩⟩, ⟨⟨?_, fun i hi => absurd hi (Nat.not_lt_zero i)⟩, y69, fun i hi => absurd hi (Nat.not_lt_zero i)⟩, Or.inl ?_, Or.inl ?_, Or.inl ?_⟩⟩
  · exact cg.keep (fun i i0 i1 => (kA.2 i (by omega)).1) (fun b => kA.I (by omega))
  · exact pB.keep (fun i _ _ => (kS.2 i id).1) (fun b _ => kS.I (by omega))
  · rw [kf.I (by omega), v3, w_I0 (by omega), v2, w_I0 (by omega), v1, w_I, if_pos ⟨rfl, rfl⟩]
    exact z0
  · rw [kf.I (by omega), v3, w_I0 (by omega), v2, w_I, if_pos ⟨rfl, rfl⟩]
    exact z0
  · rw [kA.I (by omega), ← zI_eq fn]
    omega
  · rw [kA.I (by omega), t1.I (by omega)]
    exact ex
  · rw [kY.I (by omega), ← zI_eq gn]
    omega
  · rw [kY.L (by omega), t2.L (fun z => by
      rcases z with z | z
      · exact c6.1 z
      · omega)]
    exact ey
  · rw [kf.I (by omega), v3, w_I, if_pos ⟨rfl, rfl⟩]
    exact z0
  · rw [eF, w_I0 (by omega), w_I0 (by omega), w_I, if_pos ⟨rfl, rfl⟩]
    exact z0
  · rw [eF, w_I0 (by omega), w_I, if_pos ⟨rfl, rfl⟩]
    exact z0
  · rw [eF, w_I, if_pos ⟨rfl, rfl⟩]
    exact z0
theorem W_mine (w : LW oX gD gE SX SM) (er : rX' = rM') (hb : ∀ j, j < tn → f1 j = f2 j) (tX : (zI S1 1 1).toInt = 0) (tM : (zI S2 0 1).toInt = 0) (ZB : ZBM S2) (I2 : CM oM S2)
    (gX : (rX'.toInt = -1 → S1.1 0 6 = .ref (oX + gD) ∧ S1.1 0 7 = .ref (oX + gE) ∧ GOX SX gD S1) ∧ (rX'.toInt ≠ -1 → S1.1 0 6 = .ref (oX + gE) ∧ S1.1 0 7 = .ref (oX + gD) ∧ GXN gE TX m1 S1)) (g9 : rX'.toInt = -1 → G9X SX gD S1)
    (gM : (rM'.toInt = -1 → GBM SM S2) ∧ (rM'.toInt ≠ -1 → GMN (y_mine (T_kd f2 tn) (T_vl f2 tn)) m2 S2 ∧ (∃ b9 : Int32, S2.1 0 13 = .int b9 ∧ S2.1 0 35 = .int b9) ∧ S2.1 0 47 = .int 1)) (g8 : rM'.toInt = -1 → G8M SM S2)
    (pX : rX'.toInt ≠ -1 → ∃ S9 : dg_S, S1 = F_d_forgetTrials oX (dg_uF (F_h_clear oX (F_p_begin oX S9 3 gE)) 229 5 (.int 0)) ∧ S9.1 0 6 = .ref (oX + gE) ∧ kx (z_all (T_kd f1 tn) (T_vl f1 tn) (k_st (T_kd f1 tn) (T_vl f1 tn)) k_0) S9 gE ∧ CX oX S9 ∧ dg_sm shX WF WA SX S9)
    (qX : rX'.toInt = -1 → ∃ S9 : dg_S, S1 = (F_d_none oX S9 1).1 ∧ dg_sm shX WF2 WA2 SX S9)
    (pM : rM'.toInt ≠ -1 → ∃ S9 : dg_S, S2 = F_m_begin oM S9 ∧ ∃ b9 : Int32, S9.1 0 13 = .int b9 ∧ S9.1 0 35 = .int b9 ∧ S9.1 0 47 = .int 1 ∧ kI (GSv S9 b9.toNatClampNeg) (z_all (T_kd f2 tn) (T_vl f2 tn) (k_st (T_kd f2 tn) (T_vl f2 tn)) k_0) ∧ km (z_all (T_kd f2 tn) (T_vl f2 tn) (k_st (T_kd f2 tn) (T_vl f2 tn)) k_0) S9 ∧ CM oM S9 ∧ ZWM S9 ∧ dg_sm shM WF3 WA3 SM S9 ∧ dg_sm shM WF4 WA4 S9 S2)
    (qM : rM'.toInt = -1 → ∃ S9 : dg_S, S2 = (F_m_refuses oM S9 1).1 ∧ dg_sm shM WF5 WA5 SM S9)
    (c1 : (WF.all (fun p => decide (p.1 = 1 ∨ (p.1 = 0 ∧ (p.2 = 6 ∨ p.2 = 7)) ∨ 19 ≤ p.1)) = true ∧ WA.all (fun r => decide (19 ≤ r)) = true) ∧ (WF2.all (fun p => decide (p.1 = 1 ∨ (p.1 = 0 ∧ (p.2 = 6 ∨ p.2 = 7)) ∨ 19 ≤ p.1)) = true ∧ WA2.all (fun r => decide (19 ≤ r)) = true) ∧ ckS WF2 ∧ 45 ∉ WA2)
    (c2 : (WA3.all (fun r => decide (2 ≤ r ∧ r ≤ 27)) = true ∧ (0, 62) ∉ WF3 ∧ (0, 76) ∉ WF3) ∧ ((0, 13) ∉ WF4 ∧ 2 ∉ WA4 ∧ 3 ∉ WA4 ∧ 8 ∉ WA4 ∧ 9 ∉ WA4 ∧ 12 ∉ WA4 ∧ 16 ∉ WA4 ∧ 20 ∉ WA4 ∧ 21 ∉ WA4) ∧ WA5.all (fun r => decide (2 ≤ r ∧ r ≤ 27)) = true ∧ (0, 60) ∉ WF5 ∧ (0, 61) ∉ WF5 ∧ (0, 62) ∉ WF5 ∧ (0, 63) ∉ WF5 ∧ (0, 69) ∉ WF5 ∧ (0, 76) ∉ WF5) : ∃ gD gE, LW oX gD gE S1 S2 := by
  have z1 : (1 : Int32).toInt = ((1 : Nat) : Int) := by decide +kernel
  by_cases q : rX'.toInt = -1
  · have q2 : rM'.toInt = -1 := by rw [← er]; exact q
    obtain ⟨f6, f7, go⟩ := gX.1 q
    obtain ⟨X9, e1, n1⟩ := qX q
    obtain ⟨M9, e2, n2⟩ := qM q2
    have e1 : S1 = r_X 1 X9 := by rw [e1, none_r z1]
    have e2 : S2 = r_M 1 M9 := by rw [e2, ref_r z1]
    have h9 := g9 q
    have h8 := g8 q2
    have hB := gM.1 q2
    subst e1 e2
    exact ⟨gD, gE, w.mineNo tX tM f6 f7 go h9 hB h8 n1 n2 c1.2.1.1 c1.2.1.2 c1.2.2.1 c1.2.2.2 c2.2.2.1 c2.2.2.2⟩
  · have q2 : ¬ rM'.toInt = -1 := by rw [← er]; exact q
    obtain ⟨e1, e2⟩ := tc_kd hb
    obtain ⟨f6, f7, -⟩ := gX.2 q
    obtain ⟨X9, x1, x2, x3, x4, x5⟩ := pX q
    obtain ⟨M9, y1, b9, y2, y3, y4, -, y6, y7, y8, y9, ya⟩ := pM q2
    obtain ⟨n2, fb, fs⟩ := gM.2 q2
    obtain ⟨σ, eT, b, sm, v1, v2, v3, v4, es, -⟩ := n2.use fb fs ZB I2
    rw [e1, e2] at x3
    have k13 : S2.1 0 13 = M9.1 0 13 := ya.1 0 13 _ sM_0 c2.2.1.1
    cases (v1.symm.trans k13).trans y2
    have es9 : σ = GSv M9 b9.toNatClampNeg := by
      rw [es]
      unfold GSv
      rw [(ya.2 2 _ sM_2 c2.2.1.2.1).1, (ya.2 3 _ sM_3 c2.2.1.2.2.1).1, (ya.2 8 _ sM_8 c2.2.1.2.2.2.1).1, (ya.2 9 _ sM_9 c2.2.1.2.2.2.2.1).1, (ya.2 12 _ sM_12 c2.2.1.2.2.2.2.2.1).1, (ya.2 16 _ sM_16 c2.2.1.2.2.2.2.2.2.1).1, (ya.2 20 _ sM_20 c2.2.1.2.2.2.2.2.2.2.1).2, (ya.2 21 _ sM_21 c2.2.1.2.2.2.2.2.2.2.2).2]
    exact ⟨gE, gD, w.mineYes (kOK.all eT) x3 x4 x5 x1 f6 f7 tX y2 y3 y4 y7 y8 es9 y6 y9 y1 tM c1.1.1 c1.1.2 c2.1.1 c2.1.2⟩
end LI
end
section
/-! the law: how both begin -/
/-- the class behind its constructor -/
def s_X1 (o : Nat) (S : dg_S) : Prop := cx_0 o 185 1 S ∧ zI S 229 5 = 0 ∧ (∀ k, S.2.1 184 k = 0) ∧ zI S 182 1 = 0
/-- the reference behind its own -/
def s_M1 (S : dg_S) : Prop := mx_0 1 S ∧ zI S 0 69 = 0 ∧ (∀ k, S.2.1 28 k = 0) ∧ zI S 0 76 = 0
section LJ
variable {o oX oM n k i : Nat} {S S1 SX SM : dg_S}
theorem zI_0 {a b : Nat} (h : S.1 a b = .int 0) : zI S a b = 0 := (zI_eq h).symm
theorem s_X1.mk (e : S1 = F_p_begin o S 3 185) (f6 : S.1 0 6 = .ref (o + 185)) (g0 : S.1 185 0 = .int 0) (g1 : S.1 185 1 = .int 0) (g6 : S.1 185 6 = .int 0) (g8 : S.1 185 8 = .int 0) (g11 : S.1 185 11 = .int 0) (r4 : S.2.1 4 = fun _ => 0) (r9 : S.2.1 9 = fun _ => 0) (h1 : S.1 17 1 = .int 0) (h2 : S.1 17 2 = .int 0) (x : S.1 0 12 = .int 1) (f5 : S.1 229 5 = .int 0) (r184 : S.2.1 184 = fun _ => 0) (p1 : S.1 182 1 = .int 0) : s_X1 o S1 := by
  have z0 : (0 : Int32).toInt = 0 := by decide +kernel
  obtain ⟨S2, e2⟩ : ∃ X, X = dg_uF S 3 0 (.int (0 : Int32)) := ⟨_, rfl⟩
  obtain ⟨S4, e4⟩ : ∃ X, X = dg_uF S2 3 1 (.int (0 : Int32)) := ⟨_, rfl⟩
  obtain ⟨S6, e6⟩ : ∃ X, X = dg_uf S4 (3 + 1) (dk_fl (S4.2.1 (3 + 1)) (100 : Int32) 72) := ⟨_, rfl⟩
  have t6 : kp (fun a b => a = 3 ∧ b < 2) (fun a => a = 4) S S6 := by
    rw [e6, e4, e2]
    exact kp.uf (kp.uF (kp.uF kp.rf ⟨rfl, by decide⟩) ⟨rfl, by decide⟩) rfl
  have e := e.trans (F_p_begin_p6 rfl rfl e2 e4 rfl e6)
  have e := e.trans (lp_sr (F_p_begin_p4 rfl (by rw [zI_0 g1]; decide +kernel)))
  have hs : F_g_hasSeam o S6 185 = 0 := F_g_hasSeam_p0 rfl (by rw [t6.I (by decide), zI_0 g0]; decide +kernel)
  obtain ⟨S8, e8⟩ : ∃ X, X = dg_uf S6 (3 + 2) (dk_fl (S6.2.1 (3 + 2)) (0 : Int32) 6) := ⟨_, rfl⟩
  obtain ⟨S9, e9⟩ : ∃ X, X = dg_uf S8 (3 + 3) (va_cpy (S8.2.1 (185 + 3)) (S8.2.1 (3 + 3)) (0 : Int32).toNatClampNeg (0 : Int32).toNatClampNeg (16 : Int32).toNatClampNeg) := ⟨_, rfl⟩
  obtain ⟨S10, e10⟩ : ∃ X, X = dg_uf S9 (3 + 4) (va_cpy (S9.2.1 (185 + 4)) (S9.2.1 (3 + 4)) (0 : Int32).toNatClampNeg (0 : Int32).toNatClampNeg (16 : Int32).toNatClampNeg) := ⟨_, rfl⟩
  obtain ⟨S11, e11⟩ : ∃ X, X = dg_uf S10 (3 + 5) (dk_fl (S10.2.1 (3 + 5)) (0 : Int32) 5) := ⟨_, rfl⟩
  obtain ⟨S12, e12⟩ : ∃ X, X = dg_uf S11 (3 + 6) (dk_fl (S11.2.1 (3 + 6)) (0 : Int32) 10) := ⟨_, rfl⟩
  have e := e.trans ((F_p_begin_p2 hs.symm rfl).trans ((F_p_begin_p1 rfl e8 e9 e10 rfl e11).trans (F_p_begin_p0 rfl e12)))
  subst e
  have zi : ∀ a b, zI S1 a b = zI S6 a b := fun a b => by
    rw [e12, e11, e10, e9, e8]
    rfl
  have ro : ∀ q, q ≠ 5 → q ≠ 6 → q ≠ 7 → q ≠ 8 → q ≠ 9 → S1.2.1 q = S6.2.1 q := fun q h2 h3 h4 h5 h6 => by
    rw [e12, w_f, if_neg h6, e11, w_f, if_neg h5, e10, w_f, if_neg h4, e9, w_f, if_neg h3, e8, w_f, if_neg h2]
  have v4 : ∀ k, S1.2.1 4 k = 100 ∨ S1.2.1 4 k = 0 := fun k => by
    rw [ro 4 (by decide) (by decide) (by decide) (by decide) (by decide), e6, w_f, if_pos rfl]
    unfold dk_fl
    by_cases q : k < 72
    · rw [if_pos q]
      exact Or.inl rfl
    · rw [if_neg q, e4, e2]
      exact Or.inr (congrFun r4 k)
  have v9 : ∀ k, S1.2.1 9 k = 0 := fun k => by
    rw [e12, w_f, if_pos rfl]
    unfold dk_fl
    by_cases q : k < 10
    · rw [if_pos q]
    · rw [if_neg q, e11, w_f, if_neg (by decide), e10, w_f, if_neg (by decide), e9, w_f, if_neg (by decide), e8, w_f, if_neg (by decide), (t6.2 9 (by decide)).1]
      exact congrFun r9 k
  have f0 : S1.1 0 6 = .ref (o + 185) := by
    rw [e12, e11, e10, e9, e8]
    exact (t6.1 0 6 (by decide)).trans f6
  have y0 : zI S6 3 0 = 0 := by
    rw [e6]
    show zI S4 3 0 = 0
    rw [e4, w_I0 (by decide), e2, w_I, if_pos ⟨rfl, rfl⟩]
  have y1 : zI S6 3 1 = 0 := by
    rw [e6]
    show zI S4 3 1 = 0
    rw [e4, w_I, if_pos ⟨rfl, rfl⟩]
  refine ⟨⟨(zR_eq f0).symm, ⟨?_, ?_, ?_, ?_, ?_⟩, ⟨by rw [zi]; exact y0, by rw [zi]; exact y1, v4, v9⟩, ⟨?_, ?_⟩, ?_⟩, ?_, fun k => ?_, ?_⟩
  · rw [zi, t6.I (by decide), zI_0 g0]
  · rw [zi, t6.I (by decide), zI_0 g1]
  · rw [zi, t6.I (by decide), zI_0 g6]
  · rw [zi, t6.I (by decide), zI_0 g8]
  · rw [zi, t6.I (by decide), zI_0 g11]
  · rw [zi, t6.I (by decide), zI_0 h1]
  · rw [zi, t6.I (by decide), zI_0 h2]
  · rw [zi, t6.I (by decide), ← zI_eq x]
    decide +kernel
  · rw [zi, t6.I (by decide), zI_0 f5]
  · rw [ro 184 (by decide) (by decide) (by decide) (by decide) (by decide), (t6.2 184 (by decide)).1, r184]
  · rw [zi, t6.I (by decide), zI_0 p1]
theorem s_M1.mk (f47 : S.1 0 47 = .int 0) (f61 : S.1 0 61 = .int 0) (f62 : S.1 0 62 = .long 1) (f69 : S.1 0 69 = .int 0) (f76 : S.1 0 76 = .int 0) (r2 : S.2.1 2 = fun _ => 0) (r3 : S.2.1 3 = fun _ => 0) (r8 : S.2.1 8 = fun _ => 0) (r9 : S.2.1 9 = fun _ => 0) (r12 : S.2.1 12 = fun _ => 0) (r29 : S.2.1 29 = fun _ => 0) (r30 : S.2.1 30 = fun _ => 0) (r33 : S.2.1 33 = fun _ => 0) (r38 : S.2.1 38 = fun _ => 0) (r37 : S.2.1 37 = fun _ => 0) (r28 : S.2.1 28 = fun _ => 0) : s_M1 S := by
  unfold s_M1 mx_0
  rw [r2, r3, r8, r9, r12, r29, r30, r33, r38, r37, r28]
  refine ⟨⟨zI_0 f47, ⟨rfl, rfl, rfl, rfl, rfl⟩, ⟨rfl, rfl, rfl, rfl, fun _ => rfl⟩, zI_0 f61, ?_⟩, zI_0 f69, fun _ => rfl, zI_0 f76⟩
  unfold zL
  rw [f62]
  rfl
theorem LW.start (h : s_X1 oX SX) (h2 : s_M1 SM) (tX : SX.1 1 1 = .int 0) (tM : SM.1 0 1 = .int 0) (f6 : SX.1 0 6 = .ref (oX + 185)) (f7 : SX.1 0 7 = .ref (oX + 197)) : LW oX 185 197 SX SM := by
  have z0 : (0 : Int32).toInt = 0 := by decide +kernel
  refine ⟨LT.z (by rw [zI_0 tX]; exact z0) (by rw [zI_0 tM]; exact z0), fun k _ => by rw [h.2.2.1 k, h2.2.2.1 k], ⟨0, by rw [h.2.2.2]; exact z0, by rw [h2.2.2.2]; exact z0, by decide, fun i hi => absurd hi (Nat.not_lt_zero i)⟩, ⟨⟨by unfold rX; decide, by unfold rX; decide, by decide⟩, f6, f7⟩, Or.inr ⟨185, 1, ⟨by decide, by decide⟩, ⟨h.1, h2.1⟩, by rw [h.2.1, h2.2.1]⟩⟩
end LJ
end
section
/-! the region grows: new cells behind it, one after another -/
def dg_uN (S : dg_S) (k : Nat) (f : Nat → Value) : dg_S := (fun a b => if a = k then f b else S.1 a b, S.2)
theorem dg_uN_at {S S1 : dg_S} {k : Nat} {f : Nat → Value} (e : S1 = dg_uN S k f) (b : Nat) : S1.1 k b = f b := by subst e; simp [dg_uN]
theorem dg_uN_ne {S S1 : dg_S} {k a : Nat} {f : Nat → Value} (e : S1 = dg_uN S k f) (h : ¬ a = k) (b : Nat) : S1.1 a b = S.1 a b := by subst e; simp only [dg_uN]; rw [if_neg h]
theorem dg_uN_r {S S1 : dg_S} {k : Nat} {f : Nat → Value} (e : S1 = dg_uN S k f) : S1.2 = S.2 := by subst e; rfl
theorem dg_tlen {sh : List dg_q} {k : Nat} (h : k ≤ sh.length) : (sh.take k).length = k := by rw [List.length_take]; omega
theorem dg_tk {sh : List dg_q} {i k : Nat} {q : dg_q} (h : sh[i]? = some q) (hi : i < k) : (sh.take k)[i]? = some q := by rw [List.getElem?_take_of_lt hi]; exact h
theorem dg_w_snoc {g : Nat → ClassId} {sh : List dg_q} {o k : Nat} {rf rf' : dg_R} {S S' : dg_S} {q : dg_q} (hq : sh[k]? = some q) (hs : ∀ j, j < k → ∀ r, dg_e g o rf' S' j r = dg_e g o rf S j r) : dg_w g (sh.take (k + 1)) o rf' S' = dg_w g (sh.take k) o rf S ++ [(o + k, dg_e g o rf' S' k q)] := by
  have hl := (List.getElem?_eq_some_iff.mp hq).1
  unfold dg_w
  rw [dg_tlen (show k + 1 ≤ sh.length by omega), dg_tlen (show k ≤ sh.length by omega), List.range_succ, List.map_append]
  congr 1
  · apply List.map_congr_left
    intro j hj
    have hj2 := List.mem_range.mp hj
    have e1 : (sh.take (k + 1)).getD j (0, 0, 0, 0) = (sh.take k).getD j (0, 0, 0, 0) := by rw [List.getD_eq_getElem?_getD, List.getD_eq_getElem?_getD, List.getElem?_take_of_lt (by omega), List.getElem?_take_of_lt hj2]
    rw [e1, hs j hj2]
  · show [(o + k, dg_e g o rf' S' k ((sh.take (k + 1)).getD k (0, 0, 0, 0)))] = _
    rw [List.getD_eq_getElem?_getD, List.getElem?_take_of_lt (by omega), hq]
    rfl
theorem dg_app {D : va_G} {g : Nat → ClassId} {sh : List dg_q} {o k : Nat} {rf rf' : dg_R} {S S' : dg_S} {q : dg_q} {H H1 : Heap} (hP : va_P D vwCl (dg_w g (sh.take k) o rf S) H) (hq : sh[k]? = some q) (hs : ∀ j, j < k → ∀ r, dg_e g o rf' S' j r = dg_e g o rf S j r) (ho : ∀ x : Nat, x < H.size → H1[x]? = H[x]?) (hc : va_P D vwCl [(o + k, dg_e g o rf' S' k q)] H1) : va_P D vwCl (dg_w g (sh.take (k + 1)) o rf' S') H1 := by
  rw [dg_w_snoc hq hs]
  exact (hP.kept (fun i x hx => ho x.1 ((hP i x hx).lt))).app hc
theorem dg_vpV {N : Nat} {F : Nat → Value} {j : Nat} (h : j < N) : vp_V ((List.range N).map F) j = F j := by
  unfold vp_V
  rw [List.getD_eq_getElem?_getD, List.getElem?_map, List.getElem?_range h]
  rfl
section DGN
variable {p : Program} {l : Launch} {e : Env} {R : Room} {s : State} {m : MethodId} {args : Array Value} {below : List Frame} {meth : Method} {c : Code} {H : Heap} {locs : List Loc} {cells slots : Nat} {Q : State → Prop}
variable {cc : ByteArray} {pc : Nat} {ls : Array Slot} {rest : List Value} {D : va_G} {A : Nat → Prop} {H0 : Heap} {g : Nat → ClassId} {sh : List dg_q} {o k : Nat} {rf rf' : dg_R} {S : dg_S}
theorem dg_newo (hx : p.tables.exec = Jvm.exec) (hb : c.code = cc) {own C : String} {T : u_T} {N ci index : Nat} {Ts : List Cond} (hts : ∀ w ∈ Ts, w.before args s = true) (hin : ∀ w ∈ u_ws C T N, w ∈ Ts) (ty : Nat → FieldType) (hty : ∀ k, k < N → parseFieldDescriptor (T k).2.2.1 = some (ty k)) (hown : s.vm.findClass own = some m.cls) (hcl : (Cond.classLink own index C).before args s = true) (hinst : (Cond.instantiable C N).before args s = true) (hini : (Cond.initialized C).before args s = true)
    (K : dk_K g D s) (hP : va_P D vwCl (dg_w g (sh.take k) o rf S) H) (hS : va_S A H0 H locs) (hz : H.size = o + k) {ro : Nat} (hk : sh[k]? = some (0, ci, N, ro)) (hc : vwCl[ci]? = some (C, T, N)) {f : Nat → Value} (hfs : ∀ j, j < N → defaultValue (ty j) = f j) (hcells : cells + 1 ≤ R.cells) (hslots : slots + N ≤ R.slots) (hdg : decode cc pc = .ok (.new index, 3))
    (kk : ∀ (S1 : dg_S) (_ : S1 = dg_uN S k f) (H1 : Heap), va_P D vwCl (dg_w g (sh.take (k + 1)) o rf S1) H1 → va_S A H0 H1 locs → H1.size = o + (k + 1) → W p l e R s m args below meth c H1 locs (cells + 1) (slots + N) Q (F0 m (pc + 3) ls (.ref (o + k) :: rest))) : W p l e R s m args below meth c H locs cells slots Q (F0 m pc ls rest) := by
  have hKn := K.1.1 ci _ hc
  refine W.newcK hx hb hown hcl hinst hini rfl hdg hcells hslots hKn.2.1 hz fun H1 kC hkC e1 z1 o1 => ?_
  refine kk _ rfl H1 ?_ ⟨by rw [z1, ← hz]; exact Nat.le_trans hS.1 (Nat.le_succ _), fun x h1 h2 => (o1 x (by rw [← hz]; exact Nat.lt_of_lt_of_le h1 hS.1)).trans (hS.2.1 x h1 h2), hS.2.2⟩ z1
  refine dg_app hP hk (fun j hj r => ?_) (fun x hx2 => o1 x (by rw [← hz]; exact hx2)) ?_
  · simp [dg_e, dg_uN, Nat.ne_of_lt hj]
  · intro i x hx3
    have hz0 : i < 1 := (List.getElem?_eq_some_iff.mp hx3).1
    rw [show i = 0 by omega] at hx3
    cases hx3
    exact ⟨_, hc, (u_born ty hts hin hKn hkC e1 hty).to (fun j hj => by
      rw [hfs j hj]
      show _ = vp_V ((List.range N).map _) j
      rw [dg_vpV hj]
      simp [dg_uN])⟩
theorem dg_newi (hx : p.tables.exec = Jvm.exec) (hb : c.code = cc) (harr : (Cond.arrayClass .int).before args s = true) (K : dk_K g D s) (hP : va_P D vwCl (dg_w g (sh.take k) o rf S) H) (hS : va_S A H0 H locs) (hz : H.size = o + k) {c0 n ro : Nat} (hk : sh[k]? = some (1, c0, n, ro)) {x : Int32} (hn : ¬ x < 0) (hN : x.toNatClampNeg = n) (hbytes : n * 4 ≤ 536870912) (hcells : cells + 1 ≤ R.cells) (hslots : slots + n ≤ R.slots) (hdg : decode cc pc = .ok (.newarray .int, 2))
    (kk : ∀ (S1 : dg_S) (_ : S1 = dg_uf S k (fun _ => 0)) (H1 : Heap), va_P D vwCl (dg_w g (sh.take (k + 1)) o rf S1) H1 → va_S A H0 H1 locs → H1.size = o + (k + 1) → W p l e R s m args below meth c H1 locs (cells + 1) (slots + n) Q (F0 m (pc + 2) ls (.ref (o + k) :: rest))) : W p l e R s m args below meth c H locs cells slots Q (F0 m pc ls (.int x :: rest)) := by
  refine va_newaK (atype := .int) hx hb harr rfl hdg rfl hn hN hbytes hcells hslots hz fun H1 cA e1 z1 o1 hAr hNm => ?_
  have h9 : s.vm.findClass ("[" ++ (newarray.typeOf .int).toString) = some (g 0) := (K.1.2 0 _ rfl).2
  cases Option.some.inj (hNm.symm.trans h9)
  refine kk _ rfl H1 ?_ ⟨by rw [z1, ← hz]; exact Nat.le_trans hS.1 (Nat.le_succ _), fun x h1 h2 => (o1 x (by rw [← hz]; exact Nat.lt_of_lt_of_le h1 hS.1)).trans (hS.2.1 x h1 h2), hS.2.2⟩ z1
  refine dg_app hP hk (fun j hj r => ?_) (fun x hx2 => o1 x (by rw [← hz]; exact hx2)) ?_
  · simp [dg_e, dg_uf, Nat.ne_of_lt hj]
  · intro i x hx3
    have hz0 : i < 1 := (List.getElem?_eq_some_iff.mp hx3).1
    rw [show i = 0 by omega] at hx3
    cases hx3
    show H1[o + k]? = some (vp_cell (g 0) (n, .inl ((dg_uf S k (fun _ => 0)).2.1 k)))
    rw [e1, dg_uf_at rfl, vp_cell_i]
    rfl
theorem dg_newl (hx : p.tables.exec = Jvm.exec) (hb : c.code = cc) (harr : (Cond.arrayClass .long).before args s = true) (K : dk_K g D s) (hP : va_P D vwCl (dg_w g (sh.take k) o rf S) H) (hS : va_S A H0 H locs) (hz : H.size = o + k) {c0 n ro : Nat} (hk : sh[k]? = some (2, c0, n, ro)) {x : Int32} (hn : ¬ x < 0) (hN : x.toNatClampNeg = n) (hbytes : n * 8 ≤ 536870912) (hcells : cells + 1 ≤ R.cells) (hslots : slots + n ≤ R.slots) (hdg : decode cc pc = .ok (.newarray .long, 2))
    (kk : ∀ (S1 : dg_S) (_ : S1 = dg_ul S k (fun _ => 0)) (H1 : Heap), va_P D vwCl (dg_w g (sh.take (k + 1)) o rf S1) H1 → va_S A H0 H1 locs → H1.size = o + (k + 1) → W p l e R s m args below meth c H1 locs (cells + 1) (slots + n) Q (F0 m (pc + 2) ls (.ref (o + k) :: rest))) : W p l e R s m args below meth c H locs cells slots Q (F0 m pc ls (.int x :: rest)) := by
  refine va_newaK (atype := .long) hx hb harr rfl hdg rfl hn hN hbytes hcells hslots hz fun H1 cA e1 z1 o1 hAr hNm => ?_
  have h9 : s.vm.findClass ("[" ++ (newarray.typeOf .long).toString) = some (g 1) := (K.1.2 1 _ rfl).2
  cases Option.some.inj (hNm.symm.trans h9)
  refine kk _ rfl H1 ?_ ⟨by rw [z1, ← hz]; exact Nat.le_trans hS.1 (Nat.le_succ _), fun x h1 h2 => (o1 x (by rw [← hz]; exact Nat.lt_of_lt_of_le h1 hS.1)).trans (hS.2.1 x h1 h2), hS.2.2⟩ z1
  refine dg_app hP hk (fun j hj r => ?_) (fun x hx2 => o1 x (by rw [← hz]; exact hx2)) ?_
  · simp [dg_e, dg_ul, Nat.ne_of_lt hj]
  · intro i x hx3
    have hz0 : i < 1 := (List.getElem?_eq_some_iff.mp hx3).1
    rw [show i = 0 by omega] at hx3
    cases hx3
    show H1[o + k]? = some (vp_cell (g 1) (n, .inr (.inl ((dg_ul S k (fun _ => 0)).2.2 k))))
    rw [e1, dg_ul_at rfl]
    rfl
theorem dg_newz (hx : p.tables.exec = Jvm.exec) (hb : c.code = cc) (harr : (Cond.arrayClass .boolean).before args s = true) (K : dk_K g D s) (hP : va_P D vwCl (dg_w g (sh.take k) o rf S) H) (hS : va_S A H0 H locs) (hz : H.size = o + k) {c0 n ro : Nat} (hk : sh[k]? = some (3, c0, n, ro)) {x : Int32} (hn : ¬ x < 0) (hN : x.toNatClampNeg = n) (hbytes : n * 1 ≤ 536870912) (hcells : cells + 1 ≤ R.cells) (hslots : slots + n ≤ R.slots) (hdg : decode cc pc = .ok (.newarray .boolean, 2))
    (kk : ∀ (S1 : dg_S) (_ : S1 = dg_uf S k (fun _ => 0)) (H1 : Heap), va_P D vwCl (dg_w g (sh.take (k + 1)) o rf S1) H1 → va_S A H0 H1 locs → H1.size = o + (k + 1) → W p l e R s m args below meth c H1 locs (cells + 1) (slots + n) Q (F0 m (pc + 2) ls (.ref (o + k) :: rest))) : W p l e R s m args below meth c H locs cells slots Q (F0 m pc ls (.int x :: rest)) := by
  refine va_newaK (atype := .boolean) hx hb harr rfl hdg rfl hn hN hbytes hcells hslots hz fun H1 cA e1 z1 o1 hAr hNm => ?_
  have h9 : s.vm.findClass ("[" ++ (newarray.typeOf .boolean).toString) = some (g 2) := (K.1.2 2 _ rfl).2
  cases Option.some.inj (hNm.symm.trans h9)
  refine kk _ rfl H1 ?_ ⟨by rw [z1, ← hz]; exact Nat.le_trans hS.1 (Nat.le_succ _), fun x h1 h2 => (o1 x (by rw [← hz]; exact Nat.lt_of_lt_of_le h1 hS.1)).trans (hS.2.1 x h1 h2), hS.2.2⟩ z1
  refine dg_app hP hk (fun j hj r => ?_) (fun x hx2 => o1 x (by rw [← hz]; exact hx2)) ?_
  · simp [dg_e, dg_uf, Nat.ne_of_lt hj]
  · intro i x hx3
    have hz0 : i < 1 := (List.getElem?_eq_some_iff.mp hx3).1
    rw [show i = 0 by omega] at hx3
    cases hx3
    show H1[o + k]? = some (vp_cell (g 2) (n, .inl ((dg_uf S k (fun _ => 0)).2.1 k)))
    rw [e1, dg_uf_at rfl, vp_cell_i]
    rfl
/-- how large the heap is, by what was made -/
theorem dg_size {z : Nat} {f : JFrame} (hP : va_P D vwCl (dg_w g (sh.take k) o rf S) H) (hk : 0 < k) (hl : k ≤ sh.length) (hs : s.heap.size = z) (hz : z + cells = o + k) (kk : H.size = o + k → W p l e R s m args below meth c H locs cells slots Q f) : W p l e R s m args below meth c H locs cells slots Q f := by
  intro T hT X
  have h1 := X.heapSize
  rw [hT] at h1
  have h2 := (hP (k - 1) _ (dg_w_get (by rw [dg_tlen hl]; omega))).lt
  have h3 : o + (k - 1) < H.size := h2
  exact kk (by omega) T hT X
theorem dg_putF (hx : p.tables.exec = Jvm.exec) (hb : c.code = cc) {own ref C : String} {T : u_T} {N ci index : Nat} {Ts : List Cond} (hts : ∀ w ∈ Ts, w.before args s = true) (hin : ∀ w ∈ u_ws C T N, w ∈ Ts) (ty0 : Nat → FieldType) (hty : ∀ k, k < N → parseFieldDescriptor (T k).2.2.1 = some (ty0 k)) (hnm : ∀ a, a < N → ∀ b, b < N → a ≠ b → (T a).2.1 ≠ (T b).2.1) (hown : s.vm.findClass own = some m.cls) (K : dk_K g D s) (hP : va_P D vwCl (dg_w g sh o rf S) H) (hS : va_S A H0 H locs) (hA1 : ∀ i, i < sh.length → A (o + i)) {i ro : Nat} (hi : sh[i]? = some (0, ci, N, ro)) (hc : vwCl[ci]? = some (C, T, N)) (k : Nat) (hk : k < N) (hlink : (Cond.fieldLink own index ref (T k).2.1 (T k).2.2.1).before args s = true) (hsame : ∀ x, s.fieldFound? (T k).1 (T k).2.1 (T k).2.2.1 = some x → s.fieldFound? ref (T k).2.1 (T k).2.2.1 = some x) (hfin : (T k).2.2.2 = true) (hin2 : meth.name = "<init>") (hdecl : (T k).1 = own) {ty : FieldType} {v : Value} (hd : parseFieldDescriptor (T k).2.2.1 = some ty) (hn : narrow ty v = v) (hfit : fits ty v = true)
    (hdg : decode cc pc = .ok (.putfield index, 3)) (kk : ∀ (S1 : dg_S) (_ : S1 = dg_uF S i k v) (H1 : Heap) (locs1 : List Loc), va_P D vwCl (dg_w g sh o rf S1) H1 → va_S A H0 H1 locs1 → W p l e R s m args below meth c H1 locs1 cells slots Q (F0 m (pc + 3) ls rest)) : W p l e R s m args below meth c H locs cells slots Q (F0 m pc ls (v :: .ref (o + i) :: rest)) := by
  refine va_putF hx hb hts hin ty0 hty hnm hown K.1 hP (dg_D hA1) hS i (dg_w_at hi) hc k hk hlink hsame hfin hin2 hdecl hd hn hfit (by simpa using hk) hdg (fun H1 locs1 hP1 _ hS1 => kk _ rfl H1 locs1 ?_ hS1)
  have e1 : (dg_w g sh o rf S).set i (o + i, .inr (ci, ((List.range N).map (S.1 i)).set k v)) = dg_w g sh o rf (dg_uF S i k v) := by
    have h2 := dg_w_set (g := g) (o := o) (rf := rf) (S := S) (S' := dg_uF S i k v) hi (fun j hj r => by simp [dg_e, dg_uF, hj])
    rw [← h2, dg_mapset]
    simp [dg_e, dg_uF]
  rw [← e1]
  exact hP1
/-- a row of references is made: none yet -/
theorem dg_newq (hx : p.tables.exec = Jvm.exec) (hb : c.code = cc) {own : String} {index : Nat} (hown : s.vm.findClass own = some m.cls) (hclink : (Cond.classLink own index "DarkMine$Pit").before args s = true) (K : dk_K g D s) (hP : va_P D vwCl (dg_w g (sh.take k) o rf S) H) (hS : va_S A H0 H locs) (hz : H.size = o + k) {n ro : Nat} (hk : sh[k]? = some (4, 3, n, ro)) (hrf : ∀ j, rf k j = none) {x : Int32} (hn : ¬ x < 0) (hN : x.toNatClampNeg = n) (hbytes : n * 4 ≤ 536870912) (hcells : cells + 1 ≤ R.cells) (hslots : slots + n ≤ R.slots) (hdg : decode cc pc = .ok (.anewarray index, 3))
    (kk : ∀ H1 : Heap, va_P D vwCl (dg_w g (sh.take (k + 1)) o rf S) H1 → va_S A H0 H1 locs → H1.size = o + (k + 1) → W p l e R s m args below meth c H1 locs (cells + 1) (slots + n) Q (F0 m (pc + 3) ls (.ref (o + k) :: rest))) : W p l e R s m args below meth c H locs cells slots Q (F0 m pc ls (.int x :: rest)) := by
  subst hN
  rw [← hz] at kk
  refine W.anew hx hb hown hclink (va_AO.use K.2.2.1) rfl hdg rfl hn hbytes hcells hslots fun cA kA comp f1 f2 f3 f4 => ?_
  generalize hH1 : H.push ({ cls := cA, slots := Array.replicate x.toNatClampNeg .null, vm := .none } : Cell) = H1
  have z1 : H1.size = H.size + 1 := by rw [← hH1, Array.size_push]
  have e1 : H1[H.size]? = some (arrV cA x.toNatClampNeg (fun _ => .null)) := by rw [← hH1, Array.getElem?_push_size, ← arrV_new]
  have o1 : ∀ q : Nat, q < H.size → H1[q]? = H[q]? := fun q hq => by rw [← hH1, Array.getElem?_push, if_neg (Nat.ne_of_lt hq)]
  obtain ⟨-, -, -, -, -, h9⟩ := (K.1.2 3 _ rfl).2
  cases Option.some.inj (f1.symm.trans h9)
  refine kk H1 ?_ ⟨by rw [z1]; exact Nat.le_trans hS.1 (Nat.le_succ _), fun x h1 h2 => (o1 x (Nat.lt_of_lt_of_le h1 hS.1)).trans (hS.2.1 x h1 h2), hS.2.2⟩ (by rw [z1, hz]; omega)
  refine dg_app hP hk (fun j hj r => rfl) o1 ?_
  intro i y hx3
  have hz0 : i < 1 := (List.getElem?_eq_some_iff.mp hx3).1
  rw [show i = 0 by omega] at hx3
  cases hx3
  show H1[o + k]? = some (vp_cell (g 3) (x.toNatClampNeg, .inr (.inr (.inr (.inr (fun j => (rf k j).map (o + ·)))))))
  rw [← hz, e1, vp_cell_q]
  congr 2
  funext j
  rw [hrf j]
  rfl
/-- a pit is put into its row -/
theorem dg_astq (hx : p.tables.exec = Jvm.exec) (hb : c.code = cc) (K : dk_K g D s) (hP : va_P D vwCl (dg_w g sh o rf S) H) (hS : va_S A H0 H locs) (hA1 : ∀ i, i < sh.length → A (o + i)) {i n ro j N rp : Nat} (hi : sh[i]? = some (4, 3, n, ro)) (hj : sh[j]? = some (0, 5, N, rp)) {x : Int32} (hin : vp_in x n) (h1 : ∀ a, ¬ a = i → ∀ b, rf' a b = rf a b) (h2 : ∀ b, rf' i b = if b = x.toNatClampNeg then some j else rf i b) (hc : ∃ r, vwCl[5]? = some r ∧ r.1 = "DarkMine$Pit") (hdg : decode cc pc = .ok (.aastore, 1))
    (kk : ∀ (H1 : Heap) (locs1 : List Loc), va_P D vwCl (dg_w g sh o rf' S) H1 → va_S A H0 H1 locs1 → W p l e R s m args below meth c H1 locs1 cells slots Q (F0 m (pc + 1) ls rest)) : W p l e R s m args below meth c H locs cells slots Q (F0 m pc ls (.ref (o + j) :: .int x :: .ref (o + i) :: rest)) := by
  obtain ⟨r, hr, hr2⟩ := hc
  refine va_astq hx hb K.1 hP (dg_D hA1) hS i 3 j 5 (r := r) (dg_w_at hi) (by rw [hr2]; rfl) (dg_w_at hj) hr hin hdg (fun H1 locs1 hP1 _ hS1 => kk H1 locs1 ?_ hS1)
  have hl := (List.getElem?_eq_some_iff.mp hi).1
  intro a y hy
  by_cases ha : a = i
  · subst ha
    rw [dg_w_at hi] at hy
    cases hy
    have h3 := hP1 a _ (List.getElem?_set_self (by rw [dg_w_len]; exact hl))
    have e9 : (fun b => (rf' a b).map (o + ·)) = va_up (fun b => (rf a b).map (o + ·)) x.toNatClampNeg (some (o + j)) := by
      funext b
      rw [h2 b]
      unfold va_up
      by_cases hb9 : b = x.toNatClampNeg
      · rw [if_pos hb9, if_pos hb9]; rfl
      · rw [if_neg hb9, if_neg hb9]
    show va_at D vwCl (o + a, .inl (g 3, n, .inr (.inr (.inr (.inr (fun b => (rf' a b).map (o + ·)))))) ) H1
    rw [e9]
    exact h3
  · have hal : a < sh.length := by
      have := (List.getElem?_eq_some_iff.mp hy).1
      rwa [dg_w_len] at this
    rw [dg_w_get hal] at hy
    refine hP1 a y ?_
    rw [List.getElem?_set_ne (fun z => ha z.symm), dg_w_get hal, ← hy]
    have a4 : rf a = rf' a := funext (fun b => (h1 a ha b).symm)
    unfold dg_e
    rw [a4]
end DGN
theorem dk_rows_cells (c comp : ClassId) (N M : Nat) (s : State) : ∀ i : Nat, (dk_rows c comp N M s i).heap[s.heap.size]? = some (arrV c N (fun j => if j < i then .ref (s.heap.size + 1 + j) else .null)) ∧ ∀ j, j < i → (dk_rows c comp N M s i).heap[s.heap.size + 1 + j]? = some (arrV comp M (fun _ => .int 0))
  | 0 => ⟨by
      show (s.pushCell _).heap[s.heap.size]? = _
      rw [State.heap_pushCell_size, arrV_new]
      congr 2, fun j hj => absurd hj (Nat.not_lt_zero j)⟩
  | i + 1 => by
    obtain ⟨h1, h2, h3, -, h5⟩ := dk_rows_facts c comp N M s i
    obtain ⟨c1, c2⟩ := dk_rows_cells c comp N M s i
    have hin : s.heap.size < (dk_rows c comp N M s i).heap.size := by rw [h2]; omega
    have hb : ((dk_rows c comp N M s i).pushCell { cls := comp, slots := Array.replicate M (.int 0) }).heap[s.heap.size]? = some (arrV c N (fun j => if j < i then .ref (s.heap.size + 1 + j) else .null)) := by rw [State.heap_pushCell_of_lt (h := hin)]; exact c1
    refine ⟨?_, fun j hj => ?_⟩
    · show (((dk_rows c comp N M s i).pushCell _).setCell s.heap.size _).heap[s.heap.size]? = _
      rw [State.heap_setCell_self hb, c1]
      show some (Cell.setSlot _ _ _) = _
      rw [show (some (arrV c N (fun j => if j < i then .ref (s.heap.size + 1 + j) else .null))).getD { cls := c, slots := #[] } = arrV c N (fun j => if j < i then .ref (s.heap.size + 1 + j) else .null) from rfl, arrV_store, h2]
      congr 2
      funext j
      unfold updV
      show (if j = i then Value.ref (s.heap.size + 1 + i) else if j < i then Value.ref (s.heap.size + 1 + j) else Value.null) = _
      by_cases hj : j = i
      · subst hj
        rw [if_pos rfl, if_pos (Nat.lt_succ_self _)]
      · rw [if_neg hj]
        by_cases hj2 : j < i
        · rw [if_pos hj2, if_pos (by omega)]
        · rw [if_neg hj2, if_neg (by omega)]
    · show (((dk_rows c comp N M s i).pushCell _).setCell s.heap.size _).heap[s.heap.size + 1 + j]? = _
      rw [State.heap_setCell_other (show s.heap.size ≠ s.heap.size + 1 + j by omega)]
      by_cases hj2 : j = i
      · subst hj2
        rw [← h2, State.heap_pushCell_size, arrV_new]
      · rw [State.heap_pushCell_of_lt (h := (by rw [h2]; omega : s.heap.size + 1 + j < (dk_rows c comp N M s i).heap.size))]
        exact c2 j (by omega)
section DKM9
variable {p : Program} {l : Launch} {e : Env} {R : Room} {s : State} {m : MethodId} {args : Array Value} {below : List Frame} {meth : Method} {c : Code} {H : Heap} {locs : List Loc} {cells slots : Nat} {Q : State → Prop}
variable {cc : ByteArray} {pc : Nat} {ls : Array Slot} {rest : List Value} {D : va_G} {A : Nat → Prop} {ws : va_W} {H0 : Heap} {g : Nat → ClassId}
/-- new int[n][k]: the heap behind it -/
theorem dg_mna0 (hx : p.tables.exec = Jvm.exec) (hb : c.code = cc) {own : String} {index : Nat} (hown : s.vm.findClass own = some m.cls) (hclink : (Cond.classLink own index "[[I").before args s = true) (harr : (Cond.arrayClass .int).before args s = true)
    (K : dk_K g D s) (hP : va_P D vwCl ws H) (hS : va_S A H0 H locs) {n k : Int32} {N' K' : Nat} (hn : ¬ n < 0) (hk : ¬ k < 0) (hN : n.toNatClampNeg = N') (hM : k.toNatClampNeg = K')
    (hb1 : N' * 4 ≤ 536870912) (hb2 : K' * 4 ≤ 536870912) (hcells : cells + (1 + N') ≤ R.cells) (hslots : slots + (N' + N' * K') ≤ R.slots) (hdg : decode cc pc = .ok (.multianewarray index 2, 4))
    (kk : ∀ (H1 : Heap), va_P D vwCl ws H1 → va_S A H0 H1 locs → H1.size = H.size + 1 + N' → (∀ q : Nat, q < H.size → H1[q]? = H[q]?) → H1[H.size]? = some (arrV (g 4) N' (fun j => if j < N' then .ref (H.size + 1 + j) else .null)) → (∀ j, j < N' → H1[H.size + 1 + j]? = some (arrV (g 0) K' (fun _ => .int 0))) → W p l e R s m args below meth c H1 locs (cells + (1 + N')) (slots + (N' + N' * K')) Q (F0 m (pc + 4) ls (.ref H.size :: rest))) : W p l e R s m args below meth c H locs cells slots Q (F0 m pc ls (.int k :: .int n :: rest)) := by
  obtain ⟨cA, comp, cC, kA, kC, m1, m2, m3, m4, m5, m6⟩ := K.2.2.2
  subst hN
  subst hM
  subst hb
  intro T hT X
  have hpl : e.platform.magicAccessors = ({} : Platform).magicAccessors := by rw [X.admits.platform]
  obtain ⟨c0, hfc0, hcl⟩ := Cond.classLink_spec hown hclink e.platform hpl
  cases m1.symm.trans hfc0
  obtain ⟨hg1, hwarm, hready⟩ := State.classEntry (e := e) X.warmed hcl
  generalize T.vm.noted m.cls index (.cls cA) = vm1 at hg1 hwarm hready
  have hal : s.vm.Alike vm1 := hwarm.alike
  obtain ⟨kA1, a1, a2⟩ := hal.2.2 _ _ m2
  obtain ⟨kC1, a3, a4⟩ := hal.2.2 _ _ m4
  have X1 := X.noted hwarm
  obtain ⟨r1, r2⟩ := X.roomAbove hcells hslots
  obtain ⟨h1, h2, h3, h4, h5⟩ := dk_rows_facts cA comp n.toNatClampNeg k.toNatClampNeg (T.setVm vm1) n.toNatClampNeg
  obtain ⟨L, hL, XF⟩ := dk_rows_stand X1 cA comp n.toNatClampNeg k.toNatClampNeg n.toNatClampNeg
  have XD := XF.forget (fun y hy => by rw [hL y hy]; exact X.heapGrown)
  have hsz : (T.setVm vm1).heap.size = H.size := by rw [← hT]; rfl
  have hold : ∀ q : Nat, q < H.size → (dk_rows cA comp n.toNatClampNeg k.toNatClampNeg (T.setVm vm1) n.toNatClampNeg).heap[q]? = H[q]? := fun q hq => by
    rw [h5 q (by rw [hsz]; exact hq), ← hT]
    rfl
  have h90 : s.vm.findClass ("[" ++ FieldType.int.toString) = some (g 0) := (K.1.2 0 _ rfl).2
  have h94 : s.vm.findClass ("[" ++ (FieldType.array .int).toString) = some (g 4) := (K.1.2 4 _ rfl).2
  have e4 : cA = g 4 := Option.some.inj (m1.symm.trans h94)
  have e0 : comp = g 0 := Option.some.inj (m6.symm.trans h90)
  obtain ⟨c1, c2⟩ := dk_rows_cells cA comp n.toNatClampNeg k.toNatClampNeg (T.setVm vm1) n.toNatClampNeg
  rw [hsz] at c1
  obtain ⟨t, t1, t2⟩ := kk (dk_rows cA comp n.toNatClampNeg k.toNatClampNeg (T.setVm vm1) n.toNatClampNeg).heap (hP.kept (fun i x hx => hold x.1 ((hP i x hx).lt))) ⟨Nat.le_trans hS.1 (by rw [h2, hsz]; omega), fun q q1 q2 => (hold q (Nat.lt_of_lt_of_le q1 hS.1)).trans (hS.2.1 q q1 q2), hS.2.2⟩ (by rw [h2, hsz]) hold (by rw [c1, e4]) (fun j hj => by
    have h9 := c2 j hj
    rw [hsz] at h9
    rw [h9, e0]) _ rfl (by simpa [Nat.add_assoc] using XD)
  refine ⟨t, ?_, t2⟩
  have l1 : ¬ n.toNatClampNeg > e.platform.arrayLengthLimit := by rw [Launch.admits_arrayLengthLimit X.admits]; omega
  have l2 : ¬ k.toNatClampNeg > e.platform.arrayLengthLimit := by rw [Launch.admits_arrayLengthLimit X.admits]; omega
  have l3 : ¬ n.toNatClampNeg * 4 > e.platform.maxHeapBytes := by rw [Launch.admits_maxHeapBytes X.admits]; omega
  have l4 : ¬ k.toNatClampNeg * 4 > e.platform.maxHeapBytes := by rw [Launch.admits_maxHeapBytes X.admits]; omega
  jvm_step X.here [hx, hdg]
  simp only [multianewarray.sem, wp_bind', W.resolveClassAt_links (State.method?_setTop (F0 m pc ls (.int k :: .int n :: rest)) X.here.top) hg1]
  rw [W.popN, if_neg (by decide)]
  refine ⟨F0 m pc ls (.int k :: .int n :: rest), State.topJava?_setTop' (s := T.setVm vm1) (F0 m pc ls (.int k :: .int n :: rest)) X.here.top, [.int n, .int k], rest, rfl, rfl, ?_⟩
  simp only [List.mapM_cons, List.mapM_nil, wp_bind', wp_pure']
  have eS : ((T.setTop (F0 m pc ls (.int k :: .int n :: rest))).setVm vm1).setTop (F0 m pc ls rest) = (T.setVm vm1).setTop (F0 m pc ls rest) := by
    show ((T.setVm vm1).setTop _).setTop _ = _
    rw [State.setTop_setTop]
  show wp (multianewarray.make cA [n, k]) _ _ _ _ _ (((T.setTop (F0 m pc ls (.int k :: .int n :: rest))).setVm vm1).setTop (F0 m pc ls rest))
  rw [eS]
  refine dk_make2 (c := cA) (comp := comp) (kA := kA1) (kC := kC1) (cc := cC) a1 (by rw [a2]; exact m3) a3 (by rw [a4]; exact m5) hn hk rfl rfl l1 l2 l3 l4 (by show T.heap.size + 1 + _ ≤ _; omega) (by show T.slotsUsed + _ + _ ≤ _; omega)
    (fun i u => u = dk_rows cA comp n.toNatClampNeg k.toNatClampNeg ((T.setVm vm1).setTop (F0 m pc ls rest)) i) rfl (fun i u _ hu => ?_) (fun i u o _ hu ho => ?_) (fun u d' acts' hu => ?_)
  · subst hu
    obtain ⟨f1, f2, f3, f4, -⟩ := dk_rows_facts cA comp n.toNatClampNeg k.toNatClampNeg ((T.setVm vm1).setTop (F0 m pc ls rest)) i
    exact ⟨f1, f2, f3, f4⟩
  · subst hu
    show _ = State.setCell _ _ (Cell.setSlot _ i _)
    rw [ho]
    rfl
  · subst hu
    rw [dk_rows_top]
    simp only [wp_bind', W.mark, W.pushRef, State.topJava?_setTop' _ XF.here.top, Option.some.injEq, exists_eq_left', State.setTop_setTop, State.heap_setTop]
    intro acts
    simp [jvm, XF.here.top]
    rw [hT]
    exact t1
end DKM9
/-! cells that are whole: what the shape says of each -/
section JC
variable {al : List (List Nat)} {tF : List (List dg_t)} {tA : List dg_t} {sh : List dg_q} {o : Nat} {S S1 : dg_S} {a k d : Nat} {q : dg_q}
def dg_Jc (al : List (List Nat)) (tF : List (List dg_t)) (tA : List dg_t) (sh : List dg_q) (o : Nat) (S : dg_S) (i : Nat) : Prop := ∀ q : dg_q, sh[i]? = some q → (∀ (k : Nat) (t : dg_t), (tF.getD q.2.2.2 [])[k]? = some t → dg_V al o i t (S.1 i k)) ∧ ∀ t : dg_t, tA[q.2.2.2]? = some t → dg_T t q.2.2.1 (S.2.1 i)
def dg_Jr (al : List (List Nat)) (tF : List (List dg_t)) (tA : List dg_t) (sh : List dg_q) (o : Nat) (S : dg_S) (a k : Nat) : Prop := ∀ i, a ≤ i → i < k → dg_Jc al tF tA sh o S i
/-- a cell is as it was -/
def dg_ag (S S1 : dg_S) (i : Nat) : Prop := (∀ b, S1.1 i b = S.1 i b) ∧ S1.2.1 i = S.2.1 i ∧ S1.2.2 i = S.2.2 i
def dg_Ag (S S1 : dg_S) (k : Nat) : Prop := ∀ i, i < k → dg_ag S S1 i
theorem dg_Ag.rf : dg_Ag S S k := fun _ _ => ⟨fun _ => rfl, rfl, rfl⟩
theorem dg_Ag.tr {S2 : dg_S} {k2 : Nat} (h : dg_Ag S S1 k) (h2 : dg_Ag S1 S2 k2) (hk : k ≤ k2) : dg_Ag S S2 k := fun i hi => ⟨fun b => ((h2 i (by omega)).1 b).trans ((h i hi).1 b), (h2 i (by omega)).2.1.trans (h i hi).2.1, (h2 i (by omega)).2.2.trans (h i hi).2.2⟩
theorem dg_Ag.tk {S2 : dg_S} (h : dg_Ag S S1 k) (h2 : dg_Ag S1 S2 k) : dg_Ag S S2 k := h.tr h2 (Nat.le_refl k)
theorem dg_Ag.uF {i b : Nat} {v : Value} (e : S1 = dg_uF S i b v) (h : k ≤ i) : dg_Ag S S1 k := fun j hj => ⟨fun c => dg_uF_ne e (fun z => by omega), dg_uF_f e j, dg_uF_l e j⟩
theorem dg_Ag.uN {i : Nat} {f : Nat → Value} (e : S1 = dg_uN S i f) (h : k ≤ i) : dg_Ag S S1 k := fun j hj => ⟨fun c => dg_uN_ne e (by omega) c, by rw [dg_uN_r e], by rw [dg_uN_r e]⟩
theorem dg_Ag.uf {i : Nat} {r : Nat → Int32} (e : S1 = dg_uf S i r) (h : k ≤ i) : dg_Ag S S1 k := fun j hj => ⟨fun c => dg_uf_F e j c, dg_uf_ne e (by omega), dg_uf_l e j⟩
theorem dg_Ag.ul {i : Nat} {r : Nat → Int64} (e : S1 = dg_ul S i r) (h : k ≤ i) : dg_Ag S S1 k := fun j hj => ⟨fun c => dg_ul_F e j c, dg_ul_f e j, dg_ul_ne e (by omega)⟩
theorem dg_Jc.ag {i : Nat} (h : dg_Jc al tF tA sh o S i) (g : dg_ag S S1 i) : dg_Jc al tF tA sh o S1 i := fun q hq => ⟨fun k t ht => by rw [g.1 k]; exact (h q hq).1 k t ht, fun t ht => by rw [g.2.1]; exact (h q hq).2 t ht⟩
theorem dg_Jr.nil : dg_Jr al tF tA sh o S a a := fun i h1 h2 => by omega
theorem dg_Jr.ag (h : dg_Jr al tF tA sh o S a k) (g : ∀ i, a ≤ i → i < k → dg_ag S S1 i) : dg_Jr al tF tA sh o S1 a k := fun i h1 h2 => (h i h1 h2).ag (g i h1 h2)
theorem dg_Jr.Ag {k2 : Nat} (h : dg_Jr al tF tA sh o S a k) (g : dg_Ag S S1 k2) (hk : k ≤ k2) : dg_Jr al tF tA sh o S1 a k := h.ag (fun i _ h2 => g i (by omega))
/-- a field of a cell before them is set -/
theorem dg_Jr.uF {i b : Nat} {v : Value} (h : dg_Jr al tF tA sh o S a k) (e : S1 = dg_uF S i b v) (hi : i < a) : dg_Jr al tF tA sh o S1 a k := h.ag (fun j h1 _ => ⟨fun c => dg_uF_ne e (fun z => by omega), dg_uF_f e j, dg_uF_l e j⟩)
theorem dg_Jr.ext {k2 : Nat} (h : dg_Jr al tF tA sh o S a k) (g : dg_Jr al tF tA sh o S k k2) : dg_Jr al tF tA sh o S a k2 := fun i h1 h2 => if hi : i < k then h i h1 hi else g i (by omega) h2
theorem dg_T0 {t : dg_t} {n : Nat} (h : t.1 = 1 → t.2.1 ≤ 0 ∧ 0 ≤ t.2.2) : dg_T t n (fun _ => 0) := by
  obtain ⟨t1, t2, t3⟩ := t
  unfold dg_T
  split
  · rename_i h9
    exact fun j hj => by
      have e0 : ((fun _ => 0 : Nat → Int32) j).toInt = 0 := by show (0 : Int32).toInt = 0; decide +kernel
      rw [e0]
      exact h h9
  · have e0 : (0 : Int32).toInt = 0 := by decide +kernel
    refine ⟨fun j hj => ?_, fun q => ?_⟩
    · show dg_Pc0 (j : Int) (0 : Int32).toInt
      rw [e0]
      exact ⟨by decide, by decide, fun q => absurd q (by decide)⟩
    · have q1 : (0 : Int32).toInt = 100 := q
      rw [e0] at q1
      exact absurd q1 (by decide)
  · trivial
/-- a row of zeros -/
theorem dg_Jc.row (hq : sh[k]? = some q) (hF : tF.getD q.2.2.2 [] = []) (hr : S.2.1 k = fun _ => 0) (ht : ∀ t, tA[q.2.2.2]? = some t → t.1 = 1 → t.2.1 ≤ 0 ∧ 0 ≤ t.2.2) : dg_Jc al tF tA sh o S k := by
  intro q1 h1
  cases hq.symm.trans h1
  exact ⟨fun k t h => by rw [hF] at h; simp at h, fun t h => by rw [hr]; exact dg_T0 (ht t h)⟩
/-- a row that isn't of ints -/
theorem dg_Jc.rowx (hq : sh[k]? = some q) (hF : tF.getD q.2.2.2 [] = []) (ht : ∀ t, tA[q.2.2.2]? = some t → t.1 = 0) : dg_Jc al tF tA sh o S k := by
  intro q1 h1
  cases hq.symm.trans h1
  refine ⟨fun k t h => by rw [hF] at h; simp at h, fun t h => ?_⟩
  have h9 := ht t h
  obtain ⟨t1, t2, t3⟩ := t
  cases h9
  trivial
def dg_VO (al : List (List Nat)) (o : Nat) (S : dg_S) (k : Nat) : Nat → List dg_t → Prop
  | _, [] => True
  | n, t :: L => dg_V al o k t (S.1 k n) ∧ dg_VO al o S k (n + 1) L
theorem dg_VO.nil {n : Nat} : dg_VO al o S k n [] := trivial
theorem dg_VO.cons {n : Nat} {t : dg_t} {L : List dg_t} (h1 : dg_V al o k t (S.1 k n)) (h2 : dg_VO al o S k (n + 1) L) : dg_VO al o S k n (t :: L) := ⟨h1, h2⟩
theorem dg_VO.get : ∀ (L : List dg_t) (n : Nat), dg_VO al o S k n L → ∀ (j : Nat) (t : dg_t), L[j]? = some t → dg_V al o k t (S.1 k (n + j))
  | [], _, _, j, t, h => by simp at h
  | x :: L, n, h, 0, t, e => by cases e; exact h.1
  | x :: L, n, h, j + 1, t, e => by
    have h9 := dg_VO.get L (n + 1) h.2 j t (by simpa using e)
    rwa [show n + (j + 1) = n + 1 + j by omega]
theorem dg_V.i1 {v : Value} {lo hi : Int} (x : Int32) (h : v = .int x) (h1 : lo ≤ x.toInt) (h2 : x.toInt ≤ hi) : dg_V al o k (1, lo, hi) v := ⟨x, h, h1, h2⟩
theorem dg_V.l1 {v : Value} {a b : Int} {x : Int64} (h : v = .long x) : dg_V al o k (2, a, b) v := ⟨x, h⟩
theorem dg_V.r1 {v : Value} {a b : Int} (h : v = .ref (o + (k + a.toNat))) : dg_V al o k (3, a, b) v := h
theorem dg_V.a1 {v : Value} {a b : Int} (h : v = .ref (o + a.toNat)) : dg_V al o k (4, a, b) v := h
theorem dg_V.o1 {v : Value} {a b : Int} (d : Nat) (hd : d ∈ al.getD a.toNat []) (h : v = .ref (o + d)) : dg_V al o k (5, a, b) v := ⟨d, hd, h⟩
/-- an object whose fields are as its shape says -/
theorem dg_Jc.obj {L : List dg_t} (hq : sh[k]? = some q) (hF : tF.getD q.2.2.2 [] = L) (hv : dg_VO al o S k 0 L) (ht : ∀ t, tA[q.2.2.2]? = some t → t.1 = 0) : dg_Jc al tF tA sh o S k := by
  intro q1 h1
  cases hq.symm.trans h1
  refine ⟨fun j t h => ?_, fun t h => ?_⟩
  · rw [hF] at h
    have h9 := dg_VO.get L 0 hv j t h
    rwa [Nat.zero_add] at h9
  · have h9 := ht t h
    obtain ⟨t1, t2, t3⟩ := t
    cases h9
    trivial
theorem dg_Jr.one (h : dg_Jc al tF tA sh o S k) : dg_Jr al tF tA sh o S k (k + 1) := fun i h1 h2 => by
  have : i = k := by omega
  subst this
  exact h
theorem dg_Jr.I (h : dg_Jr al tF tA sh o S 0 sh.length) : dg_I al tF tA sh o S := by
  refine ⟨fun i q hq => ?_, fun i q hq => ?_⟩
  · exact (h i (Nat.zero_le _) (List.getElem?_eq_some_iff.mp hq).1 q hq).1
  · exact (h i (Nat.zero_le _) (List.getElem?_eq_some_iff.mp hq).1 q hq).2
end JC
theorem dg_Aall {A : Nat → Prop} {o k : Nat} (h : A = dg_A o k (o + k)) : ∀ n i : Nat, i < n → A (o + i) := by
  intro n i hi
  rw [h]
  by_cases hk : i < k
  · exact dg_A_in hk
  · exact Or.inr (by omega)
section DGG
variable {p : Program} {l : Launch} {e : Env} {R : Room} {s : State} {m : MethodId} {args : Array Value} {below : List Frame} {meth : Method} {c : Code} {H : Heap} {locs : List Loc} {cells slots : Nat} {Q : State → Prop}
variable {cc : ByteArray} {pc : Nat} {ls : Array Slot} {rest : List Value} {D : va_G} {A : Nat → Prop} {g : Nat → ClassId} {sh sh1 : List dg_q} {o : Nat} {rf1 : dg_R} {st0 : List Value} {av : Array Value} {mc ms z : Nat}
/-- a call behind which the region is larger -/
theorem dg_gcallv {post : dg_S → Prop} (hz : H.size = z) (hS : va_S A s.heap H locs) (hA1 : ∀ i, i < sh.length → A (o + i)) (hA : ∀ q, s.heap.size ≤ q → A q)
    (hr : va_Run p l e R s m args below meth c H locs cells slots mc ms (F0 m pc ls st0) rest (va_Qv post (dg_B g D sh1 o rf1) (dg_A o sh.length z) av) (dg_A o sh.length z))
    (kk : ∀ (S1 : dg_S), post S1 → ∀ (H1 : Heap) (locs1 : List Loc), va_P D vwCl (dg_w g sh1 o rf1 S1) H1 → va_S A s.heap H1 locs1 → W p l e R s m args below meth c H1 locs1 (cells + mc) (slots + ms) Q (F0 m (pc + 3) ls rest)) : W p l e R s m args below meth c H locs cells slots Q (F0 m pc ls st0) := by
  subst hz
  have hF := dg_A_sub hA1 hA hS
  refine va_callv hr hS (fun q _ h => hF q h) hF (fun u t H1 locs1 ht _ hw hB _ _ hS1 => kk u hw H1 locs1 ?_ hS1)
  rw [← ht]
  exact hB
end DGG
/-! which cell a row of references names, while they are made -/
def dg_rf0 : dg_R := fun _ _ => none
def dg_rfH (j : Nat) : dg_R := fun i k => if i = 19 then (if k < j then some (42 + 7 * k) else none) else if i = 20 then (if k < 20 then some (21 + k) else none) else none
def dg_rfF (j : Nat) : dg_R := fun i k => if i = 19 then (if k < 20 then some (42 + 7 * k) else none) else if i = 20 then (if k < 20 then some (21 + k) else none) else if i = 231 then (if k < j then some (233 + 7 * k) else none) else none
theorem dg_rfF0 : dg_rfF 0 = dg_rfH 20 := by
  funext i k
  unfold dg_rfF dg_rfH
  split
  · rfl
  · split
    · rfl
    · split
      · rw [if_neg (Nat.not_lt_zero k)]
      · rfl
theorem dg_rfF21 : dg_rfF 21 = rfX := rfl
theorem dg_rfH_ne (n : Nat) : ∀ a, ¬ a = 19 → ∀ b, dg_rfH (n + 1) a b = dg_rfH n a b := fun a h b => by unfold dg_rfH; rw [if_neg h, if_neg h]
theorem dg_rfF_ne (n : Nat) : ∀ a, ¬ a = 231 → ∀ b, dg_rfF (n + 1) a b = dg_rfF n a b := fun a h b => by unfold dg_rfF; rw [if_neg h, if_neg h]
theorem dg_rfH_s {i d : Nat} (hi : i < 20) (hd : d = 42 + 7 * i) : ∀ b, dg_rfH (i + 1) 19 b = if b = (nI i).toNatClampNeg then some d else dg_rfH i 19 b := by
  intro b
  rw [nI_clamp (by omega), hd]
  unfold dg_rfH
  rw [if_pos rfl, if_pos rfl]
  by_cases hb : b = i
  · subst hb
    rw [if_pos (by omega), if_pos rfl]
  · rw [if_neg hb]
    by_cases hb2 : b < i
    · rw [if_pos (by omega), if_pos hb2]
    · rw [if_neg (by omega), if_neg hb2]
theorem dg_rfF_s {i d : Nat} (hi : i < 21) (hd : d = 233 + 7 * i) : ∀ b, dg_rfF (i + 1) 231 b = if b = (nI i).toNatClampNeg then some d else dg_rfF i 231 b := by
  intro b
  rw [nI_clamp (by omega), hd]
  have q1 : ∀ n : Nat, dg_rfF n 231 b = if b < n then some (233 + 7 * b) else none := fun n => by
    unfold dg_rfF
    rw [if_neg (show ¬ 231 = 19 by decide), if_neg (show ¬ 231 = 20 by decide), if_pos rfl]
  rw [q1, q1]
  by_cases hb : b = i
  · subst hb
    rw [if_pos (by omega), if_pos rfl]
  · rw [if_neg hb]
    by_cases hb2 : b < i
    · rw [if_pos (by omega), if_pos hb2]
    · rw [if_neg (by omega), if_neg hb2]
theorem pX_le : ∀ p, pX p → p + 7 ≤ shX.length := by unfold pX; decide +kernel
theorem rX_le : ∀ p, rX p → p + 12 ≤ shX.length := by unfold rX; decide +kernel
theorem dg_tkX : shX.take 380 = shX := List.take_of_length_le (by decide +kernel)
theorem dg_tkM : shM.take 51 = shM := List.take_of_length_le (by decide +kernel)
/-- several rows of zeros behind the region, all of one heap -/
theorem dg_apps {D : va_G} {g : Nat → ClassId} {sh : List dg_q} {o k : Nat} {rf : dg_R} {S : dg_S} {H : Heap} {c0 n ro : Nat} (hP : va_P D vwCl (dg_w g (sh.take k) o rf S) H) : ∀ j : Nat, (∀ i, i < j → sh[k + i]? = some (1, c0, n, ro) ∧ S.2.1 (k + i) = (fun _ => 0) ∧ H[o + (k + i)]? = some (arrV (g 0) n (fun _ => .int 0))) → va_P D vwCl (dg_w g (sh.take (k + j)) o rf S) H
  | 0, _ => hP
  | j + 1, h => by
    have h1 := dg_apps hP j (fun i hi => h i (by omega))
    obtain ⟨a1, a2, a3⟩ := h j (by omega)
    refine dg_app h1 a1 (fun _ _ _ => rfl) (fun _ _ => rfl) ?_
    intro i x hx
    have hz0 : i < 1 := (List.getElem?_eq_some_iff.mp hx).1
    rw [show i = 0 by omega] at hx
    cases hx
    show H[o + (k + j)]? = some (vp_cell (g 0) (n, .inl (S.2.1 (k + j))))
    rw [a2, a3]
    rfl
section DGMN
variable {p : Program} {l : Launch} {e : Env} {R : Room} {s : State} {m : MethodId} {args : Array Value} {below : List Frame} {meth : Method} {c : Code} {H : Heap} {locs : List Loc} {cells slots : Nat} {Q : State → Prop}
variable {cc : ByteArray} {pc : Nat} {ls : Array Slot} {rest : List Value} {D : va_G} {A : Nat → Prop} {H0 : Heap} {g : Nat → ClassId} {o : Nat} {S : dg_S}
/-- the history's rows: new int[20][160] -/
theorem dg_mna (hx : p.tables.exec = Jvm.exec) (hb : c.code = cc) {own : String} {index : Nat} (hown : s.vm.findClass own = some m.cls) (hclink : (Cond.classLink own index "[[I").before args s = true) (harr : (Cond.arrayClass .int).before args s = true)
    (K : dk_K g D s) (hP : va_P D vwCl (dg_w g (shX.take 20) o dg_rf0 S) H) (hS : va_S A H0 H locs) (hz : H.size = o + 20) {q : dg_q} (hq : shX[20]? = some q) {n k : Int32} (hn : n.toNatClampNeg = 20) (hk : k.toNatClampNeg = 160) (hcells : cells + 21 ≤ R.cells) (hslots : slots + 3220 ≤ R.slots) (hdg : decode cc pc = .ok (.multianewarray index 2, 4))
    (kk : ∀ S1 : dg_S, dg_Ag S S1 20 → dg_Jr alX tFX tAX shX o S1 20 41 → ∀ H1 : Heap, va_P D vwCl (dg_w g (shX.take 41) o (dg_rfH 0) S1) H1 → va_S A H0 H1 locs → H1.size = o + 41 → W p l e R s m args below meth c H1 locs (cells + 21) (slots + 3220) Q (F0 m (pc + 4) ls (.ref (o + 20) :: rest))) : W p l e R s m args below meth c H locs cells slots Q (F0 m pc ls (.int k :: .int n :: rest)) := by
  have hn0 : ¬ n < 0 := fun h => by have h1 := Int32.lt_iff_toInt_lt.mp h; rw [dk_clN] at hn; have h2 : (0 : Int32).toInt = 0 := by decide +kernel
                                    omega
  have hk0 : ¬ k < 0 := fun h => by have h1 := Int32.lt_iff_toInt_lt.mp h; rw [dk_clN] at hk; have h2 : (0 : Int32).toInt = 0 := by decide +kernel
                                    omega
  refine dg_mna0 hx hb hown hclink harr K hP hS hn0 hk0 hn hk (by decide) (by decide) hcells hslots hdg (fun H1 hP1 hS1 z1 o1 c1 c2 => ?_)
  have hr : ∀ i, i < 20 → shX[21 + i]? = some (1, 0, 160, 14) := sX_k
  obtain ⟨S1, e1⟩ : ∃ S1 : dg_S, S1 = (S.1, (fun a => if 20 ≤ a then (fun _ => 0) else S.2.1 a), S.2.2) := ⟨_, rfl⟩
  have hag : dg_Ag S S1 20 := fun i hi => by subst e1; exact ⟨fun _ => rfl, if_neg (by omega), rfl⟩
  have h0 : ∀ i, 20 ≤ i → S1.2.1 i = fun _ => 0 := fun i hi => by subst e1; exact if_pos hi
  have hr0 : ∀ j, j < 20 → dg_rfH 0 j = dg_rf0 j := fun j hj => by
    funext k
    unfold dg_rfH dg_rf0
    by_cases h9 : j = 19
    · rw [if_pos h9, if_neg (Nat.not_lt_zero k)]
    · rw [if_neg h9, if_neg (by omega)]
  have w1 : va_P D vwCl (dg_w g (shX.take (20 + 1)) o (dg_rfH 0) S1) H1 := by
    refine dg_app (H := H1) (rf := dg_rf0) (S := S) hP1 sX_20 (fun j hj r => ?_) (fun _ _ => rfl) ?_
    · have a1 : S1.1 j = S.1 j := funext (hag j hj).1
      unfold dg_e
      rw [a1, (hag j hj).2.1, (hag j hj).2.2, hr0 j hj]
    · intro i x hx
      have hz0 : i < 1 := (List.getElem?_eq_some_iff.mp hx).1
      rw [show i = 0 by omega] at hx
      cases hx
      show H1[o + 20]? = some (vp_cell (g 4) (20, .inr (.inr (.inr (.inr (fun k => (dg_rfH 0 20 k).map (o + ·)))))))
      rw [← hz, c1, vp_cell_q]
      congr 2
      funext j
      by_cases h9 : j < 20
      · have h8 : dg_rfH 0 20 j = some (21 + j) := by
          unfold dg_rfH
          rw [if_neg (by decide), if_pos rfl, if_pos h9]
        rw [if_pos h9, h8]
        show Value.ref (H.size + 1 + j) = .ref (o + (21 + j))
        rw [hz]
        exact congrArg Value.ref (show o + 20 + 1 + j = o + (21 + j) by omega)
      · have h8 : dg_rfH 0 20 j = none := by
          unfold dg_rfH
          rw [if_neg (by decide), if_pos rfl, if_neg h9]
        rw [if_neg h9, h8]
        rfl
  have w2 := dg_apps (k := 20 + 1) (S := S1) (rf := dg_rfH 0) w1 20 (fun i hi => ⟨hr i hi, h0 _ (by omega), by
    have h9 := c2 i hi
    rw [hz] at h9
    rw [show o + (20 + 1 + i) = o + 20 + 1 + i by omega]
    exact h9⟩)
  rw [← hz] at kk
  refine kk S1 hag (fun i h1 h2 => ?_) H1 w2 hS1 (by rw [z1, hz])
  by_cases h9 : i = 20
  · subst h9
    exact dg_Jc.rowx sX_20 rfl (by intro t h; have h2 : tAX[13]? = some (0, 0, 0) := (by decide +kernel); rw [h2] at h; cases h; rfl)
  · obtain ⟨j, rfl⟩ : ∃ j, i = 21 + j := ⟨i - 21, by omega⟩
    exact dg_Jc.row (hr j (by omega)) rfl (h0 _ (by omega)) (by intro t h; have h2 : tAX[14]? = some (0, 0, 0) := (by decide +kernel); rw [h2] at h; cases h; exact fun _ => (by decide))
end DGMN
theorem Z1X.zero {S : dg_S} (h1 : S.1 185 0 = .int 0) (h2 : S.1 197 0 = .int 0) : Z1X S := by
  intro d hd c x y hc _ _ h9
  have hz : S.1 d 0 = .int 0 := by
    have h3 : d = 185 ∨ d = 197 := by
      unfold rX at hd
      revert hd
      show d ∈ [185, 197] → _
      simp
    rcases h3 with rfl | rfl
    · exact h1
    · exact h2
  have h4 := hz.symm.trans hc
  cases h4
  exact absurd h9 (by decide)
theorem Z3X.of {o p : Nat} {S : dg_S} (h : S.1 214 7 = .ref (o + p)) (hf : dg_fil S p) : Z3X o S := by
  intro d hd e
  have h9 := h.symm.trans e
  have h8 : o + p = o + d := by injection h9
  have h7 : p = d := by omega
  rw [← h7]
  exact hf
theorem ZBM.zero {S : dg_S} (h1 : S.1 0 13 = .int 0) (h2 : S.1 0 47 = .int 0) (h3 : S.2.1 2 = fun _ => 0) (h4 : S.2.1 3 = fun _ => 0) (h5 : S.2.1 4 = fun _ => 0) : ZBM S := by
  intro b sm hb hs
  have e0 : (0 : Int32).toInt = 0 := by decide +kernel
  cases h2.symm.trans hs
  rw [h3, h4, h5, e0]
  exact ⟨by decide, by decide, by decide, fun q => absurd q (by decide)⟩
theorem ZSM.zero {S : dg_S} (h : S.2.1 29 = fun _ => 0) : ZSM S := by
  intro j _ _
  have e0 : (0 : Int32).toInt = 0 := by decide +kernel
  rw [h, e0]
  decide
theorem ZDM.one {S : dg_S} (h : S.1 0 62 = .long 1) : ZDM S := by
  intro x hx
  cases h.symm.trans hx
  decide +kernel
theorem dg_sumv {S1 S2 : dg_S} {i : Nat} (hi : i < 6) (e : S2 = dg_uf S1 16 (upd (S1.2.1 16) (nI i).toNatClampNeg (-1))) (hv : ∀ j, j < i → S1.2.1 16 j = -1) {j : Nat} (hj : j < i + 1) : S2.2.1 16 j = -1 := by
  rw [dg_uf_at e, nI_clamp (by omega)]
  unfold upd
  by_cases h : j = i
  · rw [if_pos h]
  · rw [if_neg h]
    exact hv j (by omega)
theorem ZWM.none {S : dg_S} (h : S.1 0 13 = .int 0) (hv : ∀ j, j < 6 → S.2.1 16 j = -1) : ZWM S := by
  intro b hb w hw
  cases h.symm.trans hb
  intro q
  have e0 : (0 : Int32).toNatClampNeg = 0 := by decide +kernel
  rw [e0, hv (3 * 0 + w) (by omega)] at q
  exact absurd (by decide +kernel) q
theorem dg_sumI {o : Nat} {S1 S2 : dg_S} {x : Nat} (I : CM o S1) (e : S2 = dg_uf S1 16 (upd (S1.2.1 16) x (-1))) : CM o S2 := dg_I.ufu I e sM_16 (lo := -1) (hi := 1600) (by decide +kernel) (by decide +kernel)
end
