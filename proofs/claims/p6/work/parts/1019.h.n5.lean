/-! STATEMENTS' ends, rules told, and one STATEMENT after another, as the reference has them -/
def GSq (r : Bool × Bool × Bool) (w : Int) : Bool := if w = 0 then r.1 else if w = 1 then r.2.1 else r.2.2
def m_T12 (kd vl : Nat → Int32) (σ : y_S) (w : Int) (k : Nat) : Option (y_S × Nat) := if GSq σ.2.2.2.2 w = true then none else (y_rule kd vl w k).map fun k9 => ((σ.1, σ.2.1, σ.2.2.1, σ.2.2.2.1, GSr σ.2.2.2.2 w), k9)
section GF
variable {tb : Nat → Int32} {n k : Nat} {S S1 : dg_S} {kd vl : Nat → Int32} {sg sa se va fk f a1 : Int32} {σ σ' : y_S} {c : Int}
theorem T_kd_0 : (T_kd tb n k).toInt = 0 ↔ ¬ t_s tb n k < n := by
  constructor
  · intro q r
    unfold T_kd t_kd at q
    rw [if_pos r] at q
    unfold t_K at q
    split at q
    · split at q
      · exact absurd q (by decide +kernel)
      · split at q <;> exact absurd q (by decide +kernel)
    · split at q
      · split at q <;> exact absurd q (by decide +kernel)
      · exact absurd q (by decide +kernel)
  · intro q
    unfold T_kd t_kd
    rw [if_neg q]
    decide +kernel
theorem FIN.kz {at9 : Int32} (h : TKM tb n S) (f4 : S.1 0 4 = .int sa) (f5 : S.1 0 5 = .int se) (hs : t_sk tb n se.toNatClampNeg = at9.toNatClampNeg) (hz : (T_kd tb n (t_ix tb n sa.toNatClampNeg)).toInt ≠ 0) : (T_kd tb n (t_ix tb n sa.toNatClampNeg + 1)).toInt = 0 ↔ n ≤ at9.toNatClampNeg := by
  obtain ⟨-, k, a, sg', s4, s5, va', lx', wd', g3, g4, g5, g6, g7, g12, e1, e2, e3⟩ := h
  cases f4.symm.trans g4
  cases f5.symm.trans g5
  rw [t_ix_eq a e1.symm, T_kd_0, t_s_def, ← e2, hs]
  omega
theorem g_tk_5 (h : (kd k).toInt = 5) : g_tk kd vl c k = none := by
  unfold g_tk
  rw [g_s_5 h]
  rfl
theorem g_tk_y (h : g_s kd vl c k = true) : g_tk kd vl c k = some (k + 1) := by
  unfold g_tk
  rw [if_pos h]
theorem SOK.via {T T' : Option (y_S × Nat)} (e : T = T') (h : SOK tb n f T' S1) (hf : fk.toInt = 0 → f.toInt = 0) : SOK tb n fk T S1 := by
  intro h0
  rw [e]
  exact h (hf h0)
theorem SOK.none {y8 : Int32} {T : Option (y_S × Nat)} (p8 : S1.1 0 8 = .int y8) (h8 : y8.toInt ≠ 0) (e : fk.toInt = 0 → T = none) : SOK tb n fk T S1 := by
  intro h0 f a q8 q4
  cases p8.symm.trans q8
  exact ⟨fun q => absurd q h8, fun _ => Or.inl (e h0)⟩
theorem y_st_none (h2 : g_o kd vl 2 k = false) (h3 : g_o kd vl 3 k = false) (h4 : g_o kd vl 4 k = false) (h5 : g_o kd vl 5 k = false) (h6 : g_o kd vl 6 k = false) (h7 : g_o kd vl 7 k = false) (h9 : g_o kd vl 9 k = false) (h12 : g_o kd vl 12 k = false) (h13 : g_o kd vl 13 k = false) (h14 : g_o kd vl 14 k = false) : y_st kd vl σ k = none := by
  unfold y_st
  simp only [h2, h3, h4, h5, h6, h7, h9, h12, h13, h14]
  rfl
theorem y_st_12' (hk : (kd k).toInt = 1) (hv : (vl k).toInt = 12) (ha : a1.toInt = 0) : y_st kd vl σ k = m_T12 kd vl σ a1.toInt (k + 1) := by
  rw [ha]
  exact y_st_12 hk hv
theorem y_st_13' (hk : (kd k).toInt = 1) (hv : (vl k).toInt = 13) (ha : a1.toInt = 1) : y_st kd vl σ k = m_T12 kd vl σ a1.toInt (k + 1) := by
  rw [ha]
  exact y_st_13 hk hv
theorem y_st_14' (hk : (kd k).toInt = 1) (hv : (vl k).toInt = 14) (ha : a1.toInt = 2) : y_st kd vl σ k = m_T12 kd vl σ a1.toInt (k + 1) := by
  rw [ha]
  exact y_st_14 hk hv
theorem GSM.told {x w v ii : Int32} (G : GSM σ S) (fi : S.1 0 35 = .int ii) (fx : S.2.1 16 x.toNatClampNeg = v) (hx : x.toInt = 3 * ii.toInt + w.toInt) (hw : 0 ≤ w.toInt ∧ w.toInt ≤ 2) : GSq σ.2.2.2.2 w.toInt = true ↔ v.toInt ≠ -1 := by
  obtain ⟨a, b, c⟩ := G.rule fi fx hx hw
  unfold GSq
  by_cases q0 : w.toInt = 0
  · rw [if_pos q0, a q0, decide_eq_true_eq]
  · rw [if_neg q0]
    by_cases q1 : w.toInt = 1
    · rw [if_pos q1, b q1, decide_eq_true_eq]
    · rw [if_neg q1, c (by omega), decide_eq_true_eq]
/-- what a rule's reading comes to -/
def ROK (tb : Nat → Int32) (n : Nat) (fk : Int32) (E : Option Nat) (S' : dg_S) : Prop := fk.toInt = 0 → ∀ f a : Int32, S'.1 0 8 = .int f → S'.1 0 4 = .int a → (f.toInt = 0 → E = some (t_ix tb n a.toNatClampNeg)) ∧ (f.toInt ≠ 0 → E = none ∨ ∃ k' : Nat, E = some k' ∧ (T_kd tb n k').toInt = 5)
theorem ROK.sok {y8 y4 : Int32} {T : Option (y_S × Nat)} {P : Prop} [Decidable P] {E : Option Nat} {S2 : dg_S} (h : ROK tb n f E S2) (hf : f.toInt = 0) (p8' : S2.1 0 8 = .int y8) (p4' : S2.1 0 4 = .int y4) (p8 : S1.1 0 8 = .int y8) (p4 : S1.1 0 4 = .int y4) (hp : ¬ P) (hG : y8.toInt = 0 → GSM σ' S1) (hT : T = if P then none else E.map fun k' => (σ', k')) : SOK tb n fk T S1 := by
  intro h0 f9 a9 q8 q4
  cases p8.symm.trans q8
  cases p4.symm.trans q4
  obtain ⟨x, y⟩ := h hf _ _ p8' p4'
  rw [hT, if_neg hp]
  refine ⟨fun q => ⟨σ', hG q, by rw [x q]; rfl⟩, fun q => ?_⟩
  rcases y q with e | ⟨k', e, e5⟩
  · exact Or.inl (by rw [e]; rfl)
  · exact Or.inr ⟨σ', k', by rw [e]; rfl, e5⟩
end GF
