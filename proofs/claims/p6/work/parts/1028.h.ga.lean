/-! the ground that isn't read into: as it was in S0 -/
theorem gg_r {d : Nat} (h : rX d) : d = 185 ∨ d = 197 := by
  have h2 : d ∈ ([185, 197] : List Nat) := h
  simpa using h2
/-- changes of no ground -/
def gg_nF (WF : List (Nat × Nat)) : Bool := WF.all fun p => p.1 != 19
def gg_nA (WA : List Nat) : Bool := WA.all fun r => decide (r < 20) || decide (r = 28) || decide (30 < r)
theorem gg_F {WF : List (Nat × Nat)} (h : gg_nF WF = true) (k : Nat) : (19, k) ∉ WF := fun z => by
  have h2 := List.all_eq_true.mp h _ z
  simp at h2
theorem gg_A {WA : List Nat} (h : gg_nA WA = true) {r : Nat} (h1 : 20 ≤ r) (h2 : r ≤ 30) (h3 : r ≠ 28) : r ∉ WA := fun z => by
  have h4 := List.all_eq_true.mp h _ z
  simp only [Bool.or_eq_true, decide_eq_true_eq] at h4
  omega
theorem gg_row {d j : Nat} (h : rX d) (h1 : 1 ≤ j) (h2 : j < 12) : ∃ q, shX[d + j]? = some q ∧ q.2.2.2 = 19 + j := by
  have hj : j = 1 ∨ j = 2 ∨ j = 3 ∨ j = 4 ∨ j = 5 ∨ j = 6 ∨ j = 7 ∨ j = 8 ∨ j = 9 ∨ j = 10 ∨ j = 11 := by omega
  rcases hj with rfl | rfl | rfl | rfl | rfl | rfl | rfl | rfl | rfl | rfl | rfl
  · exact ⟨_, rX_1 d h, rfl⟩
  · exact ⟨_, rX_2 d h, rfl⟩
  · exact ⟨_, rX_3 d h, rfl⟩
  · exact ⟨_, rX_4 d h, rfl⟩
  · exact ⟨_, rX_5 d h, rfl⟩
  · exact ⟨_, rX_6 d h, rfl⟩
  · exact ⟨_, rX_7 d h, rfl⟩
  · exact ⟨_, rX_8 d h, rfl⟩
  · exact ⟨_, rX_9 d h, rfl⟩
  · exact ⟨_, rX_10 d h, rfl⟩
  · exact ⟨_, rX_11 d h, rfl⟩
theorem gg_obj {d : Nat} (h : rX d) : ∃ q, shX[d]? = some q ∧ q.2.2.2 = 19 := ⟨_, rX_0 d h, rfl⟩
def GOX (S0 : dg_S) (d : Nat) (S : dg_S) : Prop := rX d ∧ (∀ k : Nat, S.1 d k = S0.1 d k) ∧ ∀ j : Nat, 1 ≤ j → j < 12 → j ≠ 9 → S.2.1 (d + j) = S0.2.1 (d + j)
section GOXs
variable {S0 S S1 : dg_S} {d gd k j : Nat} {WF : List (Nat × Nat)} {WA : List Nat} {v : Value} {r : Nat → Int32}
theorem GOX.init (h : rX d) : GOX S d S := ⟨h, fun _ => rfl, fun _ _ _ _ => rfl⟩
theorem gg_keepF (h : rX d) (m : dg_sm shX WF WA S S1) (hF : gg_nF WF = true) (k : Nat) : S1.1 d k = S.1 d k := by
  obtain ⟨q, e, er⟩ := gg_obj h
  exact m.1 d k q e (by rw [er]; exact gg_F hF k)
theorem gg_keepA (h : rX d) (m : dg_sm shX WF WA S S1) (hA : gg_nA WA = true) (h1 : 1 ≤ j) (h2 : j < 12) (h3 : j ≠ 9) : S1.2.1 (d + j) = S.2.1 (d + j) := by
  obtain ⟨q, e, er⟩ := gg_row h h1 h2
  exact (m.2 (d + j) q e (by rw [er]; exact gg_A hA (by omega) (by omega) (by omega))).1
theorem GOX.keep (h : GOX S0 d S) (m : dg_sm shX WF WA S S1) (hF : gg_nF WF = true) (hA : gg_nA WA = true) : GOX S0 d S1 :=
  ⟨h.1, fun k => (gg_keepF h.1 m hF k).trans (h.2.1 k), fun j h1 h2 h3 => (gg_keepA h.1 m hA h1 h2 h3).trans (h.2.2 j h1 h2 h3)⟩
theorem GOX.uF (h : GOX S0 d S) (hd : d ≠ gd) (e : S1 = dg_uF S gd k v) : GOX S0 d S1 :=
  ⟨h.1, fun k' => (dg_uF_ne e (fun z => hd z.1)).trans (h.2.1 k'), fun j h1 h2 h3 => by rw [dg_uF_f e]; exact h.2.2 j h1 h2 h3⟩
theorem gg_apart {i : Nat} (h : rX d) (hg : rX gd) (hd : d ≠ gd) (h2 : j < 12) (h3 : i < 12) : d + j ≠ gd + i := by
  rcases gg_r h with rfl | rfl <;> rcases gg_r hg with rfl | rfl <;> omega
theorem GOX.uf (h : GOX S0 d S) (hg : rX gd) (hd : d ≠ gd) {i : Nat} (hi : i < 12) (e : S1 = dg_uf S (gd + i) r) : GOX S0 d S1 :=
  ⟨h.1, fun k' => (dg_uf_F e d k').trans (h.2.1 k'), fun j h1 h2 h3 => by rw [dg_uf_ne e (gg_apart h.1 hg hd h2 hi)]; exact h.2.2 j h1 h2 h3⟩
end GOXs
