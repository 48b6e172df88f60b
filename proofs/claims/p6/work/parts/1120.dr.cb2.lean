/-! the reference: the next cell by a way -/
theorem i_r {c : Int} (h6 : c % 8 ≤ 6) : (c + 1) % 8 = c % 8 + 1 ∧ (c + 1) / 8 = c / 8 := by omega
theorem i_l0 {c : Int} (h : c % 8 = 0) : (c + -1) % 8 = 7 := by omega
theorem i_l {c : Int} (h : 1 ≤ c % 8) : (c + -1) % 8 = c % 8 + -1 ∧ (c + -1) / 8 = c / 8 := by omega
theorem i_d (c : Int) : (c + 8) % 8 = c % 8 ∧ (c + 8) / 8 = c / 8 + 1 := by omega
theorem i_u (c : Int) : (c + -8) % 8 = c % 8 ∧ (c + -8) / 8 = c / 8 + -1 := by omega
theorem i_8 (c : Int) : 8 * (c / 8) + c % 8 = c := by omega
theorem i_81 (c : Int) : 8 * (c / 8) + (c % 8 + 1) = c + 1 := by omega
theorem i_83 (c : Int) : 8 * (c / 8) + (c % 8 + -1) = c + -1 := by omega
theorem i_82 (c : Int) : 8 * (c / 8 + 1) + c % 8 = c + 8 := by omega
theorem i_80 (c : Int) : 8 * (c / 8 + -1) + c % 8 = c + -8 := by omega
section IN
variable {G : aR} {x : Int}
theorem i_in1 (hc : s_in G x) (hb : s_gb G) (h : x % 8 + 1 < G 0 0) : s_in G (x + 1) := by
  obtain ⟨⟨c0, c1⟩, c2, c3⟩ := hc
  obtain ⟨-, b2, b3⟩ := hb
  have e := i_r (c := x) (by omega)
  have h8 := i_8 x
  refine ⟨⟨by omega, by omega⟩, ?_, ?_⟩
  · rw [e.1]; exact h
  · rw [e.2]; exact c3
theorem i_out1 (hc : s_in G x) (hb : s_gb G) (h : s_in G (x + 1)) : x % 8 + 1 < G 0 0 := by
  obtain ⟨⟨c0, c1⟩, c2, c3⟩ := hc
  obtain ⟨-, b2, b3⟩ := hb
  have e := i_r (c := x) (by omega)
  have h1 := h.2.1
  rw [e.1] at h1
  exact h1
theorem i_in3 (hc : s_in G x) (h : 1 ≤ x % 8) : s_in G (x + -1) := by
  obtain ⟨⟨c0, c1⟩, c2, c3⟩ := hc
  have e := i_l h
  have h8 := i_8 x
  refine ⟨⟨by omega, by omega⟩, ?_, ?_⟩
  · rw [e.1]; omega
  · rw [e.2]; exact c3
theorem i_out3 (hb : s_gb G) (h : s_in G (x + -1)) : 1 ≤ x % 8 := by
  obtain ⟨-, b2, b3⟩ := hb
  apply Classical.byContradiction
  intro z
  have h1 := h.2.1
  rw [i_l0 (by omega)] at h1
  omega
theorem i_in2 (hc : s_in G x) (hb : s_gb G) (h : x / 8 + 1 < G 0 1) : s_in G (x + 8) := by
  obtain ⟨⟨c0, c1⟩, c2, c3⟩ := hc
  obtain ⟨-, b2, b3⟩ := hb
  have e := i_d x
  have h8 := i_8 x
  refine ⟨⟨by omega, by omega⟩, ?_, ?_⟩
  · rw [e.1]; exact c2
  · rw [e.2]; exact h
theorem i_out2 (h : s_in G (x + 8)) : x / 8 + 1 < G 0 1 := by
  have h1 := h.2.2
  rw [(i_d x).2] at h1
  exact h1
theorem i_in0 (hc : s_in G x) (h : 1 ≤ x / 8) : s_in G (x + -8) := by
  obtain ⟨⟨c0, c1⟩, c2, c3⟩ := hc
  have e := i_u x
  have h8 := i_8 x
  refine ⟨⟨by omega, by omega⟩, ?_, ?_⟩
  · rw [e.1]; exact c2
  · rw [e.2]; omega
theorem i_out0 (h : s_in G (x + -8)) : 1 ≤ x / 8 := by
  have h1 := h.1.1
  omega
end IN
def mx_nx (G : aR) (o : Nat) (S : dg_S) (a b : Int32) (d : Int) : Prop := ((F_m_besideOf o S a b).toInt = a.toInt + d ∧ s_in G (a.toInt + d)) ∨ (F_m_besideOf o S a b = (-1 : Int32) ∧ ¬ s_in G (a.toInt + d))
section MA
variable {G A : aR} {S : dg_S} {v o : Nat} {a b c a1 a2 : Int32}
theorem mx_rq (hc : s_in G a.toInt) : (a - a / (8 : Int32) * (8 : Int32)).toInt = a.toInt % 8 ∧ (a / (8 : Int32)).toInt = a.toInt / 8 := by
  obtain ⟨⟨c0, c1⟩, -⟩ := hc
  exact ⟨dk_remL c0 (by decide +kernel) (by omega), dk_divL c0 (by decide +kernel) (by omega)⟩
theorem mx_be1 (hg : mx_gd G S) (hb : s_gb G) (hc : s_in G a.toInt) (w : b = (1 : Int32)) : mx_nx G o S a b 1 := by
  obtain ⟨r1, r2⟩ := mx_rq hc
  obtain ⟨⟨c0, c1⟩, c2, c3⟩ := id hc
  have l0 : 0 ≤ a.toInt % 8 := Int.emod_nonneg _ (by decide)
  have l1 : a.toInt % 8 < 8 := Int.emod_lt_of_pos _ (by decide)
  have s1 : (a - a / (8 : Int32) * (8 : Int32) + (1 : Int32)).toInt = a.toInt % 8 + 1 := dk_addT r1 (by decide +kernel) (by omega) (by omega)
  rcases mx_isCell (o := o) (a := a - a / (8 : Int32) * (8 : Int32) + (1 : Int32)) (b := a / (8 : Int32)) hg hb with ⟨e, h⟩ | ⟨e, h⟩
  · rw [s1, r2] at h
    have s2 : ((8 : Int32) * (a / (8 : Int32))).toInt = 8 * (a.toInt / 8) := dk_mulT (by decide +kernel) r2 (by omega) (by omega)
    have s3 := dk_addT s2 s1 (by omega) (by omega)
    rw [i_81] at s3
    refine Or.inl ⟨?_, i_in1 hc hb h.1.2⟩
    rw [mx_b7 w e]
    exact s3
  · rw [s1, r2] at h
    exact Or.inr ⟨mx_b6 w e, fun z => h ⟨⟨by omega, i_out1 hc hb z⟩, by omega, c3⟩⟩
theorem mx_be3 (hg : mx_gd G S) (hb : s_gb G) (hc : s_in G a.toInt) (w1 : ¬ b = (1 : Int32)) (w : b = (3 : Int32)) : mx_nx G o S a b (-1) := by
  obtain ⟨r1, r2⟩ := mx_rq hc
  obtain ⟨⟨c0, c1⟩, c2, c3⟩ := id hc
  have l0 : 0 ≤ a.toInt % 8 := Int.emod_nonneg _ (by decide)
  have l1 : a.toInt % 8 < 8 := Int.emod_lt_of_pos _ (by decide)
  have s1 : (a - a / (8 : Int32) * (8 : Int32) + (-1 : Int32)).toInt = a.toInt % 8 + -1 := dk_addT r1 (by decide +kernel) (by omega) (by omega)
  rcases mx_isCell (o := o) (a := a - a / (8 : Int32) * (8 : Int32) + (-1 : Int32)) (b := a / (8 : Int32)) hg hb with ⟨e, h⟩ | ⟨e, h⟩
  · rw [s1, r2] at h
    have s2 : ((8 : Int32) * (a / (8 : Int32))).toInt = 8 * (a.toInt / 8) := dk_mulT (by decide +kernel) r2 (by omega) (by omega)
    have s3 := dk_addT s2 s1 (by omega) (by omega)
    rw [i_83] at s3
    refine Or.inl ⟨?_, i_in3 hc (by omega)⟩
    rw [mx_b5 w1 w e]
    exact s3
  · rw [s1, r2] at h
    exact Or.inr ⟨mx_b4 w1 w e, fun z => h ⟨⟨by have := i_out3 hb z; omega, by omega⟩, by omega, c3⟩⟩
theorem mx_be2 (hg : mx_gd G S) (hb : s_gb G) (hc : s_in G a.toInt) (w1 : ¬ b = (1 : Int32)) (w3 : ¬ b = (3 : Int32)) (w : b = (2 : Int32)) : mx_nx G o S a b 8 := by
  obtain ⟨r1, r2⟩ := mx_rq hc
  obtain ⟨⟨c0, c1⟩, c2, c3⟩ := id hc
  have l0 : 0 ≤ a.toInt % 8 := Int.emod_nonneg _ (by decide)
  have l1 : a.toInt % 8 < 8 := Int.emod_lt_of_pos _ (by decide)
  have s1 : (a / (8 : Int32) + (1 : Int32)).toInt = a.toInt / 8 + 1 := dk_addT r2 (by decide +kernel) (by omega) (by omega)
  rcases mx_isCell (o := o) (a := a - a / (8 : Int32) * (8 : Int32)) (b := a / (8 : Int32) + (1 : Int32)) hg hb with ⟨e, h⟩ | ⟨e, h⟩
  · rw [s1, r1] at h
    have s2 : ((8 : Int32) * (a / (8 : Int32) + (1 : Int32))).toInt = 8 * (a.toInt / 8 + 1) := dk_mulT (by decide +kernel) s1 (by omega) (by omega)
    have s3 := dk_addT s2 r1 (by omega) (by omega)
    rw [i_82] at s3
    refine Or.inl ⟨?_, i_in2 hc hb h.2.2⟩
    rw [mx_b3 w1 w3 w e]
    exact s3
  · rw [s1, r1] at h
    exact Or.inr ⟨mx_b2 w1 w3 w e, fun z => h ⟨⟨l0, c2⟩, by omega, i_out2 z⟩⟩
theorem mx_be0 (hg : mx_gd G S) (hb : s_gb G) (hc : s_in G a.toInt) (w1 : ¬ b = (1 : Int32)) (w3 : ¬ b = (3 : Int32)) (w : ¬ b = (2 : Int32)) : mx_nx G o S a b (-8) := by
  obtain ⟨r1, r2⟩ := mx_rq hc
  obtain ⟨⟨c0, c1⟩, c2, c3⟩ := id hc
  have l0 : 0 ≤ a.toInt % 8 := Int.emod_nonneg _ (by decide)
  have l1 : a.toInt % 8 < 8 := Int.emod_lt_of_pos _ (by decide)
  have s1 : (a / (8 : Int32) + (-1 : Int32)).toInt = a.toInt / 8 + -1 := dk_addT r2 (by decide +kernel) (by omega) (by omega)
  rcases mx_isCell (o := o) (a := a - a / (8 : Int32) * (8 : Int32)) (b := a / (8 : Int32) + (-1 : Int32)) hg hb with ⟨e, h⟩ | ⟨e, h⟩
  · rw [s1, r1] at h
    have s2 : ((8 : Int32) * (a / (8 : Int32) + (-1 : Int32))).toInt = 8 * (a.toInt / 8 + -1) := dk_mulT (by decide +kernel) s1 (by omega) (by omega)
    have s3 := dk_addT s2 r1 (by omega) (by omega)
    rw [i_80] at s3
    refine Or.inl ⟨?_, i_in0 hc (by omega)⟩
    rw [mx_b1 w1 w3 w e]
    exact s3
  · rw [s1, r1] at h
    exact Or.inr ⟨mx_b0 w1 w3 w e, fun z => h ⟨⟨l0, c2⟩, by have := i_out0 z; omega, by omega⟩⟩
theorem mx_beside (hg : mx_gd G S) (hb : s_gb G) (hc : s_in G a.toInt) : mx_nx G o S a b (mx_dd b.toInt) := by
  unfold mx_dd
  by_cases w1 : b = (1 : Int32)
  · rw [if_pos (dk_eqc (k := 1) (by decide +kernel) w1)]
    exact mx_be1 hg hb hc w1
  · rw [if_neg (dk_neqc (k := 1) (by decide +kernel) w1)]
    by_cases w3 : b = (3 : Int32)
    · rw [if_pos (dk_eqc (k := 3) (by decide +kernel) w3)]
      exact mx_be3 hg hb hc w1 w3
    · rw [if_neg (dk_neqc (k := 3) (by decide +kernel) w3)]
      by_cases w2 : b = (2 : Int32)
      · rw [if_pos (dk_eqc (k := 2) (by decide +kernel) w2)]
        exact mx_be2 hg hb hc w1 w3 w2
      · rw [if_neg (dk_neqc (k := 2) (by decide +kernel) w2)]
        exact mx_be0 hg hb hc w1 w3 w2
end MA
