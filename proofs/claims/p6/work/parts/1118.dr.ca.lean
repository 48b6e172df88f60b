/-! the reference: cells, and what lies next to them -/
def mx_ad (v : Nat) (c : Int) : Nat := (64 * (v : Int) + c).toNat
def mx_cu (x : Int) : Int := if x = -2 then 1 else 0
def mx_en (x : Int) : Int := if x < 0 then -1 else x
/-- the cells of layer v are those of A -/
def mx_ce (G A : aR) (S : dg_S) (v : Nat) : Prop := ∀ c : Int, s_in G c → (S.2.1 31 (mx_ad v c)).toInt = mx_en (s_c A c) ∧ (S.2.1 32 (mx_ad v c)).toInt = mx_cu (s_c A c) ∧ -2 ≤ s_c A c ∧ s_c A c ≤ 9
/-- the ground that is read is G -/
def mx_gd (G : aR) (S : dg_S) : Prop := (zI S 0 47).toInt ≠ 0 ∧ (S.2.1 2 (zI S 0 13).toNatClampNeg).toInt = G 0 0 ∧ (S.2.1 3 (zI S 0 13).toNatClampNeg).toInt = G 0 1 ∧ (S.2.1 4 (zI S 0 13).toNatClampNeg).toInt = G 0 2 ∧ (S.2.1 9 (zI S 0 13).toNatClampNeg).toInt = G 0 6
def s_gb (G : aR) : Prop := (0 < G 0 0 ∧ 0 < G 0 1) ∧ G 0 0 ≤ 7 ∧ G 0 1 ≤ 7
def mx_dd (w : Int) : Int := if w = 1 then 1 else if w = 3 then -1 else if w = 2 then 8 else -8
section MA
variable {G A : aR} {S : dg_S} {v o : Nat} {a b c a1 a2 : Int32}
theorem mx_is : F_m_is o S a b c = 1 ∧ b.toInt ≤ a.toInt ∧ a.toInt ≤ c.toInt ∨ F_m_is o S a b c = 0 ∧ ¬ (b.toInt ≤ a.toInt ∧ a.toInt ≤ c.toInt) := by
  by_cases h0 : a < b
  · refine Or.inr ⟨F_m_is_p0 h0, fun z => ?_⟩
    have := w_lt.mp h0
    omega
  · have h0' : ¬ a.toInt < b.toInt := fun z => h0 (w_lt.mpr z)
    by_cases h1 : c < a
    · refine Or.inr ⟨F_m_is_p1 h0 h1, fun z => ?_⟩
      have := w_lt.mp h1
      omega
    · have : ¬ c.toInt < a.toInt := fun z => h1 (w_lt.mpr z)
      exact Or.inl ⟨F_m_is_p2 h0 h1, by omega, by omega⟩
theorem mx_isCell (hg : mx_gd G S) (hb : s_gb G) : F_m_isCell o S a b = 1 ∧ (0 ≤ a.toInt ∧ a.toInt < G 0 0) ∧ 0 ≤ b.toInt ∧ b.toInt < G 0 1 ∨ F_m_isCell o S a b = 0 ∧ ¬ ((0 ≤ a.toInt ∧ a.toInt < G 0 0) ∧ 0 ≤ b.toInt ∧ b.toInt < G 0 1) := by
  obtain ⟨g0, g1, g2, -, -⟩ := hg
  obtain ⟨⟨b0, b1⟩, b2, b3⟩ := hb
  have z0 : (0 : Int32).toInt = 0 := by decide +kernel
  have n0 : ¬ zI S 0 47 = (0 : Int32) := fun z => g0 (dk_eqc z0 z)
  have e1 : (S.2.1 2 (zI S 0 13).toNatClampNeg - (1 : Int32)).toInt = G 0 0 - 1 := dk_subT g1 (by decide +kernel) (by omega) (by omega)
  have e2 : (S.2.1 3 (zI S 0 13).toNatClampNeg - (1 : Int32)).toInt = G 0 1 - 1 := dk_subT g2 (by decide +kernel) (by omega) (by omega)
  rcases mx_is (o := o) (S := S) (a := a) (b := 0) (c := S.2.1 2 (zI S 0 13).toNatClampNeg - (1 : Int32)) with ⟨e, h⟩ | ⟨e, h⟩
  · have m1 : ¬ F_m_is o S a (0 : Int32) (S.2.1 2 (zI S 0 13).toNatClampNeg - (1 : Int32)) = (0 : Int32) := by rw [e]; decide +kernel
    rw [e1, z0] at h
    rcases mx_is (o := o) (S := S) (a := b) (b := 0) (c := S.2.1 3 (zI S 0 13).toNatClampNeg - (1 : Int32)) with ⟨f, k⟩ | ⟨f, k⟩
    · rw [e2, z0] at k
      exact Or.inl ⟨F_m_isCell_p3 rfl rfl rfl rfl n0 rfl rfl m1 rfl rfl (by rw [f]; decide +kernel), by omega, by omega⟩
    · rw [e2, z0] at k
      exact Or.inr ⟨F_m_isCell_p2 rfl rfl rfl rfl n0 rfl rfl m1 rfl rfl f, by omega⟩
  · rw [e1, z0] at h
    exact Or.inr ⟨F_m_isCell_p1 rfl rfl rfl n0 rfl rfl e, by omega⟩
theorem mx_isCellOf (hg : mx_gd G S) (hb : s_gb G) : F_m_isCellOf o S a = 1 ∧ s_in G a.toInt ∨ F_m_isCellOf o S a = 0 ∧ ¬ s_in G a.toInt := by
  have z0 : (0 : Int32).toInt = 0 := by decide +kernel
  obtain ⟨⟨b0, b1⟩, b2, b3⟩ := id hb
  by_cases h0 : a < (0 : Int32)
  · exact Or.inr ⟨F_m_isCellOf_p0 h0, fun z => by have := dk_ltc z0 h0; have := z.1.1; omega⟩
  · have h0' := dk_nltc z0 h0
    have r1 : (a - a / (8 : Int32) * (8 : Int32)).toInt = a.toInt % 8 := dk_remL h0' (by decide +kernel) (by omega)
    have r2 : (a / (8 : Int32)).toInt = a.toInt / 8 := dk_divL h0' (by decide +kernel) (by omega)
    rcases mx_isCell (o := o) (a := a - a / (8 : Int32) * (8 : Int32)) (b := a / (8 : Int32)) hg hb with ⟨e, h⟩ | ⟨e, h⟩
    · rw [r1, r2] at h
      exact Or.inl ⟨F_m_isCellOf_p2 h0 rfl rfl rfl (by rw [e]; decide +kernel), ⟨⟨h0', by omega⟩, h.1.2, h.2.2⟩⟩
    · rw [r1, r2] at h
      exact Or.inr ⟨F_m_isCellOf_p1 h0 rfl rfl rfl e, fun z => h ⟨⟨by omega, z.2.1⟩, by omega, z.2.2⟩⟩
end MA
