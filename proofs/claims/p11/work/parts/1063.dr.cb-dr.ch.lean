section
/-! the reference: the next cell by a way -/
section MB
variable {S : dg_S} {o : Nat} {a b : Int32}
theorem mx_b7 (w1 : b = (1 : Int32)) (e : F_m_isCell o S ((a - a / (8 : Int32) * (8 : Int32)) + (1 : Int32)) (a / (8 : Int32)) = 1) : F_m_besideOf o S a b = (8 : Int32) * (a / (8 : Int32)) + ((a - a / (8 : Int32) * (8 : Int32)) + (1 : Int32)) := by
  have n1 : ¬ F_m_isCell o S ((a - a / (8 : Int32) * (8 : Int32)) + (1 : Int32)) (a / (8 : Int32)) = (0 : Int32) := by
    rw [e]
    decide +kernel
  exact F_m_besideOf_p7 rfl w1 rfl rfl rfl n1 rfl rfl
theorem mx_b6 (w1 : b = (1 : Int32)) (e : F_m_isCell o S ((a - a / (8 : Int32) * (8 : Int32)) + (1 : Int32)) (a / (8 : Int32)) = 0) : F_m_besideOf o S a b = (-1 : Int32) := F_m_besideOf_p6 rfl w1 rfl rfl rfl e
theorem mx_b5 (w1 : ¬ b = (1 : Int32)) (w3 : b = (3 : Int32)) (e : F_m_isCell o S ((a - a / (8 : Int32) * (8 : Int32)) + (-1 : Int32)) (a / (8 : Int32)) = 1) : F_m_besideOf o S a b = (8 : Int32) * (a / (8 : Int32)) + ((a - a / (8 : Int32) * (8 : Int32)) + (-1 : Int32)) := by
  have n1 : ¬ F_m_isCell o S ((a - a / (8 : Int32) * (8 : Int32)) + (-1 : Int32)) (a / (8 : Int32)) = (0 : Int32) := by
    rw [e]
    decide +kernel
  exact F_m_besideOf_p5 rfl w1 w3 rfl rfl rfl n1 rfl rfl
theorem mx_b4 (w1 : ¬ b = (1 : Int32)) (w3 : b = (3 : Int32)) (e : F_m_isCell o S ((a - a / (8 : Int32) * (8 : Int32)) + (-1 : Int32)) (a / (8 : Int32)) = 0) : F_m_besideOf o S a b = (-1 : Int32) := F_m_besideOf_p4 rfl w1 w3 rfl rfl rfl e
theorem mx_b3 (w1 : ¬ b = (1 : Int32)) (w3 : ¬ b = (3 : Int32)) (w2 : b = (2 : Int32)) (e : F_m_isCell o S (a - a / (8 : Int32) * (8 : Int32)) ((a / (8 : Int32)) + (1 : Int32)) = 1) : F_m_besideOf o S a b = (8 : Int32) * ((a / (8 : Int32)) + (1 : Int32)) + (a - a / (8 : Int32) * (8 : Int32)) := by
  have n1 : ¬ F_m_isCell o S (a - a / (8 : Int32) * (8 : Int32)) ((a / (8 : Int32)) + (1 : Int32)) = (0 : Int32) := by
    rw [e]
    decide +kernel
  exact F_m_besideOf_p3 rfl w1 w3 rfl w2 rfl rfl n1 rfl rfl
theorem mx_b2 (w1 : ¬ b = (1 : Int32)) (w3 : ¬ b = (3 : Int32)) (w2 : b = (2 : Int32)) (e : F_m_isCell o S (a - a / (8 : Int32) * (8 : Int32)) ((a / (8 : Int32)) + (1 : Int32)) = 0) : F_m_besideOf o S a b = (-1 : Int32) := F_m_besideOf_p2 rfl w1 w3 rfl w2 rfl rfl e
theorem mx_b1 (w1 : ¬ b = (1 : Int32)) (w3 : ¬ b = (3 : Int32)) (w2 : ¬ b = (2 : Int32)) (e : F_m_isCell o S (a - a / (8 : Int32) * (8 : Int32)) ((a / (8 : Int32)) + (-1 : Int32)) = 1) : F_m_besideOf o S a b = (8 : Int32) * ((a / (8 : Int32)) + (-1 : Int32)) + (a - a / (8 : Int32) * (8 : Int32)) := by
  have n1 : ¬ F_m_isCell o S (a - a / (8 : Int32) * (8 : Int32)) ((a / (8 : Int32)) + (-1 : Int32)) = (0 : Int32) := by
    rw [e]
    decide +kernel
  exact F_m_besideOf_p1 rfl w1 w3 rfl w2 rfl rfl n1 rfl rfl
theorem mx_b0 (w1 : ¬ b = (1 : Int32)) (w3 : ¬ b = (3 : Int32)) (w2 : ¬ b = (2 : Int32)) (e : F_m_isCell o S (a - a / (8 : Int32) * (8 : Int32)) ((a / (8 : Int32)) + (-1 : Int32)) = 0) : F_m_besideOf o S a b = (-1 : Int32) := F_m_besideOf_p0 rfl w1 w3 rfl w2 rfl rfl e
end MB
end
section
/-! the reference: the next cell by a way -/
theorem i_r {c : Int} (h6 : c % 8 ≤ 6) : (c + 1) % 8 = c % 8 + 1 ∧ (c + 1) / 8 = c / 8 := by omega
theorem i_l0 {c : Int} (h : c % 8 = 0) : (c + -1) % 8 = 7 := by omega
theorem i_l {c : Int} (h : 1 ≤ c % 8) : (c + -1) % 8 = c % 8 + -1 ∧ (c + -1) / 8 = c / 8 := by omega
theorem i_d (c : Int) : (c + 8) % 8 = c % 8 ∧ (c + 8) / 8 = c / 8 + 1 := by omega
theorem i_u (c : Int) : (c + -8) % 8 = c % 8 ∧ (c + -8) / 8 = c / 8 + -1 := by omega
theorem i_8 (c : Int) : 8 * (c / 8) + c % 8 = c := by omega
theorem i_81 (c : Int) : 8 * (c / 8) + (c % 8 + 1) = c + 1 := by omega
theorem i_83 (c : Int) : 8 * (c / 8) + (c % 8 + -1) = c + -1 := by omega
theorem i_82 (c : Int) : 8 * (c / 8 + 1) + c % 8 = c + 8 := by omega
theorem i_80 (c : Int) : 8 * (c / 8 + -1) + c % 8 = c + -8 := by omega
section IN
variable {G : aR} {x : Int}
theorem i_in1 (hc : s_in G x) (hb : s_gb G) (h : x % 8 + 1 < G 0 0) : s_in G (x + 1) := by
  obtain ⟨⟨c0, c1⟩, c2, c3⟩ := hc
  obtain ⟨-, b2, b3⟩ := hb
  have e := i_r (c := x) (by omega)
  have h8 := i_8 x
  refine ⟨⟨by omega, by omega⟩, ?_, ?_⟩
  · rw [e.1]; exact h
  · rw [e.2]; exact c3
theorem i_out1 (hc : s_in G x) (hb : s_gb G) (h : s_in G (x + 1)) : x % 8 + 1 < G 0 0 := by
  obtain ⟨⟨c0, c1⟩, c2, c3⟩ := hc
  obtain ⟨-, b2, b3⟩ := hb
  have e := i_r (c := x) (by omega)
  have h1 := h.2.1
  rw [e.1] at h1
  exact h1
theorem i_in3 (hc : s_in G x) (h : 1 ≤ x % 8) : s_in G (x + -1) := by
  obtain ⟨⟨c0, c1⟩, c2, c3⟩ := hc
  have e := i_l h
  have h8 := i_8 x
  refine ⟨⟨by omega, by omega⟩, ?_, ?_⟩
  · rw [e.1]; omega
  · rw [e.2]; exact c3
theorem i_out3 (hb : s_gb G) (h : s_in G (x + -1)) : 1 ≤ x % 8 := by
  obtain ⟨-, b2, b3⟩ := hb
  apply Classical.byContradiction
  intro z
  have h1 := h.2.1
  rw [i_l0 (by omega)] at h1
  omega
theorem i_in2 (hc : s_in G x) (hb : s_gb G) (h : x / 8 + 1 < G 0 1) : s_in G (x + 8) := by
  obtain ⟨⟨c0, c1⟩, c2, c3⟩ := hc
  obtain ⟨-, b2, b3⟩ := hb
  have e := i_d x
  have h8 := i_8 x
  refine ⟨⟨by omega, by omega⟩, ?_, ?_⟩
  · rw [e.1]; exact c2
  · rw [e.2]; exact h
theorem i_out2 (h : s_in G (x + 8)) : x / 8 + 1 < G 0 1 := by
  have h1 := h.2.2
  rw [(i_d x).2] at h1
  exact h1
theorem i_in0 (hc : s_in G x) (h : 1 ≤ x / 8) : s_in G (x + -8) := by
  obtain ⟨⟨c0, c1⟩, c2, c3⟩ := hc
  have e := i_u x
  have h8 := i_8 x
  refine ⟨⟨by omega, by omega⟩, ?_, ?_⟩
  · rw [e.1]; exact c2
  · rw [e.2]; omega
theorem i_out0 (h : s_in G (x + -8)) : 1 ≤ x / 8 := by
  have h1 := h.1.1
  omega
end IN
def mx_nx (G : aR) (o : Nat) (S : dg_S) (a b : Int32) (d : Int) : Prop := ((F_m_besideOf o S a b).toInt = a.toInt + d ∧ s_in G (a.toInt + d)) ∨ (F_m_besideOf o S a b = (-1 : Int32) ∧ ¬ s_in G (a.toInt + d))
section MA
variable {G A : aR} {S : dg_S} {v o : Nat} {a b c a1 a2 : Int32}
theorem mx_rq (hc : s_in G a.toInt) : (a - a / (8 : Int32) * (8 : Int32)).toInt = a.toInt % 8 ∧ (a / (8 : Int32)).toInt = a.toInt / 8 := by
  obtain ⟨⟨c0, c1⟩, -⟩ := hc
  exact ⟨dk_remL c0 (by decide +kernel) (by omega), dk_divL c0 (by decide +kernel) (by omega)⟩
theorem mx_be1 (hg : mx_gd G S) (hb : s_gb G) (hc : s_in G a.toInt) (w : b = (1 : Int32)) : mx_nx G o S a b 1 := by
  obtain ⟨r1, r2⟩ := mx_rq hc
  obtain ⟨⟨c0, c1⟩, c2, c3⟩ := id hc
  have l0 : 0 ≤ a.toInt % 8 := Int.emod_nonneg _ (by decide)
  have l1 : a.toInt % 8 < 8 := Int.emod_lt_of_pos _ (by decide)
  have s1 : (a - a / (8 : Int32) * (8 : Int32) + (1 : Int32)).toInt = a.toInt % 8 + 1 := dk_addT r1 (by decide +kernel) (by omega) (by omega)
  rcases mx_isCell (o := o) (a := a - a / (8 : Int32) * (8 : Int32) + (1 : Int32)) (b := a / (8 : Int32)) hg hb with ⟨e, h⟩ | ⟨e, h⟩
  · rw [s1, r2] at h
    have s2 : ((8 : Int32) * (a / (8 : Int32))).toInt = 8 * (a.toInt / 8) := dk_mulT (by decide +kernel) r2 (by omega) (by omega)
    have s3 := dk_addT s2 s1 (by omega) (by omega)
    rw [i_81] at s3
    refine Or.inl ⟨?_, i_in1 hc hb h.1.2⟩
    rw [mx_b7 w e]
    exact s3
  · rw [s1, r2] at h
    exact Or.inr ⟨mx_b6 w e, fun z => h ⟨⟨by omega, i_out1 hc hb z⟩, by omega, c3⟩⟩
theorem mx_be3 (hg : mx_gd G S) (hb : s_gb G) (hc : s_in G a.toInt) (w1 : ¬ b = (1 : Int32)) (w : b = (3 : Int32)) : mx_nx G o S a b (-1) := by
  obtain ⟨r1, r2⟩ := mx_rq hc
  obtain ⟨⟨c0, c1⟩, c2, c3⟩ := id hc
  have l0 : 0 ≤ a.toInt % 8 := Int.emod_nonneg _ (by decide)
  have l1 : a.toInt % 8 < 8 := Int.emod_lt_of_pos _ (by decide)
  have s1 : (a - a / (8 : Int32) * (8 : Int32) + (-1 : Int32)).toInt = a.toInt % 8 + -1 := dk_addT r1 (by decide +kernel) (by omega) (by omega)
  rcases mx_isCell (o := o) (a := a - a / (8 : Int32) * (8 : Int32) + (-1 : Int32)) (b := a / (8 : Int32)) hg hb with ⟨e, h⟩ | ⟨e, h⟩
  · rw [s1, r2] at h
    have s2 : ((8 : Int32) * (a / (8 : Int32))).toInt = 8 * (a.toInt / 8) := dk_mulT (by decide +kernel) r2 (by omega) (by omega)
    have s3 := dk_addT s2 s1 (by omega) (by omega)
    rw [i_83] at s3
    refine Or.inl ⟨?_, i_in3 hc (by omega)⟩
    rw [mx_b5 w1 w e]
    exact s3
  · rw [s1, r2] at h
    exact Or.inr ⟨mx_b4 w1 w e, fun z => h ⟨⟨by have := i_out3 hb z; omega, by omega⟩, by omega, c3⟩⟩
theorem mx_be2 (hg : mx_gd G S) (hb : s_gb G) (hc : s_in G a.toInt) (w1 : ¬ b = (1 : Int32)) (w3 : ¬ b = (3 : Int32)) (w : b = (2 : Int32)) : mx_nx G o S a b 8 := by
  obtain ⟨r1, r2⟩ := mx_rq hc
  obtain ⟨⟨c0, c1⟩, c2, c3⟩ := id hc
  have l0 : 0 ≤ a.toInt % 8 := Int.emod_nonneg _ (by decide)
  have l1 : a.toInt % 8 < 8 := Int.emod_lt_of_pos _ (by decide)
  have s1 : (a / (8 : Int32) + (1 : Int32)).toInt = a.toInt / 8 + 1 := dk_addT r2 (by decide +kernel) (by omega) (by omega)
  rcases mx_isCell (o := o) (a := a - a / (8 : Int32) * (8 : Int32)) (b := a / (8 : Int32) + (1 : Int32)) hg hb with ⟨e, h⟩ | ⟨e, h⟩
  · rw [s1, r1] at h
    have s2 : ((8 : Int32) * (a / (8 : Int32) + (1 : Int32))).toInt = 8 * (a.toInt / 8 + 1) := dk_mulT (by decide +kernel) s1 (by omega) (by omega)
    have s3 := dk_addT s2 r1 (by omega) (by omega)
    rw [i_82] at s3
    refine Or.inl ⟨?_, i_in2 hc hb h.2.2⟩
    rw [mx_b3 w1 w3 w e]
    exact s3
  · rw [s1, r1] at h
    exact Or.inr ⟨mx_b2 w1 w3 w e, fun z => h ⟨⟨l0, c2⟩, by omega, i_out2 z⟩⟩
theorem mx_be0 (hg : mx_gd G S) (hb : s_gb G) (hc : s_in G a.toInt) (w1 : ¬ b = (1 : Int32)) (w3 : ¬ b = (3 : Int32)) (w : ¬ b = (2 : Int32)) : mx_nx G o S a b (-8) := by
  obtain ⟨r1, r2⟩ := mx_rq hc
  obtain ⟨⟨c0, c1⟩, c2, c3⟩ := id hc
  have l0 : 0 ≤ a.toInt % 8 := Int.emod_nonneg _ (by decide)
  have l1 : a.toInt % 8 < 8 := Int.emod_lt_of_pos _ (by decide)
  have s1 : (a / (8 : Int32) + (-1 : Int32)).toInt = a.toInt / 8 + -1 := dk_addT r2 (by decide +kernel) (by omega) (by omega)
  rcases mx_isCell (o := o) (a := a - a / (8 : Int32) * (8 : Int32)) (b := a / (8 : Int32) + (-1 : Int32)) hg hb with ⟨e, h⟩ | ⟨e, h⟩
  · rw [s1, r1] at h
    have s2 : ((8 : Int32) * (a / (8 : Int32) + (-1 : Int32))).toInt = 8 * (a.toInt / 8 + -1) := dk_mulT (by decide +kernel) s1 (by omega) (by omega)
    have s3 := dk_addT s2 r1 (by omega) (by omega)
    rw [i_80] at s3
    refine Or.inl ⟨?_, i_in0 hc (by omega)⟩
    rw [mx_b1 w1 w3 w e]
    exact s3
  · rw [s1, r1] at h
    exact Or.inr ⟨mx_b0 w1 w3 w e, fun z => h ⟨⟨l0, c2⟩, by have := i_out0 z; omega, by omega⟩⟩
theorem mx_beside (hg : mx_gd G S) (hb : s_gb G) (hc : s_in G a.toInt) : mx_nx G o S a b (mx_dd b.toInt) := by
  unfold mx_dd
  by_cases w1 : b = (1 : Int32)
  · rw [if_pos (dk_eqc (k := 1) (by decide +kernel) w1)]
    exact mx_be1 hg hb hc w1
  · rw [if_neg (dk_neqc (k := 1) (by decide +kernel) w1)]
    by_cases w3 : b = (3 : Int32)
    · rw [if_pos (dk_eqc (k := 3) (by decide +kernel) w3)]
      exact mx_be3 hg hb hc w1 w3
    · rw [if_neg (dk_neqc (k := 3) (by decide +kernel) w3)]
      by_cases w2 : b = (2 : Int32)
      · rw [if_pos (dk_eqc (k := 2) (by decide +kernel) w2)]
        exact mx_be2 hg hb hc w1 w3 w2
      · rw [if_neg (dk_neqc (k := 2) (by decide +kernel) w2)]
        exact mx_be0 hg hb hc w1 w3 w2
end MA
end
section
/-! the reference: open cells next to one (DRAFT, not compiled) -/
section MA
variable {G A : aR} {S : dg_S} {v o : Nat} {a b c a1 a2 : Int32}
theorem mx_adr (ha : a.toInt = v) (hv : v ≤ 40) (hc : 0 ≤ b.toInt ∧ b.toInt < 64) : ((64 : Int32) * a + b).toNatClampNeg = mx_ad v b.toInt := by
  have s1 : ((64 : Int32) * a).toInt = 64 * (v : Int) := dk_mulT (by decide +kernel) ha (by omega) (by omega)
  have s2 : ((64 : Int32) * a + b).toInt = 64 * (v : Int) + b.toInt := dk_addT s1 rfl (by omega) (by omega)
  rw [dk_clN, s2]
  rfl
theorem mx_op (h : mx_ce G A S v) (ha : a.toInt = v) (hv : v ≤ 40) (hc : s_in G b.toInt) : F_m_isOpen o S a b = 1 ∧ s_op G A b.toInt ∨ F_m_isOpen o S a b = 0 ∧ ¬ s_op G A b.toInt := by
  obtain ⟨e, -, l, u⟩ := h b.toInt hc
  have ad := mx_adr ha hv ⟨hc.1.1, hc.1.2⟩
  by_cases q : s_c A b.toInt < 0
  · refine Or.inl ⟨F_m_isOpen_p1 rfl rfl rfl ?_, hc, q⟩
    rw [ad]
    exact dk_eqp (k := -1) (by decide +kernel) (by rw [e]; unfold mx_en; rw [if_pos q])
  · refine Or.inr ⟨F_m_isOpen_p0 rfl rfl rfl ?_, fun z => q z.2⟩
    rw [ad]
    intro z
    have := dk_eqc (k := -1) (by decide +kernel) z
    rw [e] at this
    unfold mx_en at this
    rw [if_neg q] at this
    omega
theorem mx_ob1 {w w' n : Int32} {d : Int} (h : mx_ce G A S v) (hg : mx_gd G S) (hb : s_gb G) (ha : a1.toInt = v) (hv : v ≤ 40) (hc : s_in G a2.toInt) (hw : w.toInt < 4) (ew : w' = w + 1) (hd : mx_dd w.toInt = d) (hn : 0 ≤ n.toInt ∧ n.toInt ≤ 9) :
    ∃ n', F_m_openBeside_B1 S o a2 a1 (w, n) = .inl (w', n') ∧ n'.toInt = n.toInt + s_b (s_op G A (a2.toInt + d)) := by
  have c4 : ¬ (4 : Int32) ≤ w := fun z => by have := dk_gec (k := 4) (by decide +kernel) z; omega
  have z0 : (0 : Int32).toInt = 0 := by decide +kernel
  have p1 : (1 : Int32).toInt = 1 := by decide +kernel
  subst hd
  rcases mx_beside (o := o) (a := a2) (b := w) hg hb hc with ⟨e, q⟩ | ⟨e, q⟩
  · have n1 : ¬ F_m_besideOf o S a2 w = (-1 : Int32) := fun z => by
      have := dk_eqc (k := -1) (by decide +kernel) z
      have := q.1.1
      omega
    have q' := q
    rw [← e] at q'
    rcases mx_op (o := o) (b := F_m_besideOf o S a2 w) h ha hv q' with ⟨f, k⟩ | ⟨f, k⟩
    · refine ⟨n + 1, ?_, ?_⟩
      · rw [F_m_openBeside_p5 c4 rfl n1 rfl rfl (by rw [f]; decide +kernel)]
        exact F_m_openBeside_p1 rfl ew
      · rw [e] at k
        rw [s_b1 k]
        exact dk_addT rfl p1 (by omega) (by omega)
    · refine ⟨n + 0, ?_, ?_⟩
      · rw [F_m_openBeside_p4 c4 rfl n1 rfl rfl f, F_m_openBeside_p2]
        exact F_m_openBeside_p1 rfl ew
      · rw [e] at k
        rw [s_b0 k]
        exact dk_addT rfl z0 (by omega) (by omega)
  · refine ⟨n + 0, ?_, ?_⟩
    · rw [F_m_openBeside_p3 c4 rfl e, F_m_openBeside_p2]
      exact F_m_openBeside_p1 rfl ew
    · rw [s_b0 (fun z => q z.1)]
      exact dk_addT rfl z0 (by omega) (by omega)
theorem mx_ob (h : mx_ce G A S v) (hg : mx_gd G S) (hb : s_gb G) (ha : a1.toInt = v) (hv : v ≤ 40) (hc : s_in G a2.toInt) : (F_m_openBeside o S a1 a2).toInt = s_ob G A a2.toInt := by
  have z0 : (0 : Int32).toInt = 0 := by decide +kernel
  have p1 : (1 : Int32).toInt = 1 := by decide +kernel
  have p2 : (2 : Int32).toInt = 2 := by decide +kernel
  have p3 : (3 : Int32).toInt = 3 := by decide +kernel
  obtain ⟨n1, e1, x1⟩ := mx_ob1 (o := o) (w := 0) (w' := 1) (n := 0) (d := -8) h hg hb ha hv hc (by rw [z0]; omega) (by decide +kernel) (by rw [z0]; rfl) (by rw [z0]; omega)
  have y1 := s_b01 (s_op G A (a2.toInt + -8))
  obtain ⟨n2, e2, x2⟩ := mx_ob1 (o := o) (w := 1) (w' := 2) (n := n1) (d := 1) h hg hb ha hv hc (by rw [p1]; omega) (by decide +kernel) (by rw [p1]; rfl) (by omega)
  have y2 := s_b01 (s_op G A (a2.toInt + 1))
  obtain ⟨n3, e3, x3⟩ := mx_ob1 (o := o) (w := 2) (w' := 3) (n := n2) (d := 8) h hg hb ha hv hc (by rw [p2]; omega) (by decide +kernel) (by rw [p2]; rfl) (by omega)
  have y3 := s_b01 (s_op G A (a2.toInt + 8))
  obtain ⟨n4, e4, x4⟩ := mx_ob1 (o := o) (w := 3) (w' := 4) (n := n3) (d := -1) h hg hb ha hv hc (by rw [p3]; omega) (by decide +kernel) (by rw [p3]; rfl) (by omega)
  have E : F_m_openBeside o S a1 a2 = n4 := by
    rw [F_m_openBeside_p6, show ((5 - ((0 : Int32)).toInt).toNat + 1) = 5 + 1 by rw [z0]; rfl]
    exact (lp_sl (n := 5) e1).trans ((lp_sl (n := 4) e2).trans ((lp_sl (n := 3) e3).trans ((lp_sl (n := 2) e4).trans (lp_sr (n := 1) (F_m_openBeside_p0 (by decide +kernel))))))
  rw [E, x4, x3, x2, x1, z0]
  unfold s_ob
  rw [show a2.toInt - 8 = a2.toInt + -8 by omega, show a2.toInt - 1 = a2.toInt + -1 by omega]
  omega
end MA
end
section
/-! the reference: lit cells next to one -/
def mx_fo (x : Int) : Int := if x = -1 then 100000000 else x
def mx_fi (x : Int) : Int := if x = 100000000 then -1 else x
/-- how far cells are -/
def mx_fr (G A : aR) (S : dg_S) : Prop := ∀ c : Int, s_in G c → (S.2.1 42 c.toNat).toInt = mx_fo (s_fd G A c) ∧ -1 ≤ s_fd G A c ∧ s_fd G A c ≤ 63
theorem mn_c (a b : Int) : s_mn a b = s_mn b a := by
  unfold s_mn
  by_cases h1 : a = -1
  · rw [if_pos h1]
    by_cases h2 : b = -1
    · rw [if_pos h2, h1, h2]
    · rw [if_neg h2, if_pos h1]
  · rw [if_neg h1]
    by_cases h2 : b = -1
    · rw [if_pos h2, if_pos h2]
    · rw [if_neg h2, if_neg h2, if_neg h1]
      split <;> split <;> omega
theorem mn_r (a : Int) : s_mn a (-1) = a := by
  unfold s_mn
  by_cases h1 : a = -1
  · rw [if_pos h1, h1]
  · rw [if_neg h1, if_pos rfl]
theorem mn_l (a : Int) : s_mn (-1) a = a := by
  unfold s_mn
  rw [if_pos rfl]
theorem mn_n {a b : Int} (ha : a ≠ -1) (hb : b ≠ -1) : s_mn a b = if a ≤ b then a else b := by
  unfold s_mn
  rw [if_neg ha, if_neg hb]
theorem mn_a (a b c : Int) : s_mn (s_mn a b) c = s_mn a (s_mn b c) := by
  by_cases h1 : a = -1
  · rw [h1, mn_l, mn_l]
  by_cases h2 : b = -1
  · rw [h2, mn_l, mn_r]
  by_cases h3 : c = -1
  · rw [h3, mn_r, mn_r]
  have e1 := mn_n h1 h2
  have e2 := mn_n h2 h3
  have n1 : s_mn a b ≠ -1 := by rw [e1]; split <;> assumption
  have n2 : s_mn b c ≠ -1 := by rw [e2]; split <;> assumption
  rw [mn_n n1 h3, mn_n h1 n2, e1, e2]
  by_cases z1 : a ≤ b
  · rw [if_pos z1]
    by_cases z2 : b ≤ c
    · rw [if_pos z2, if_pos z1, if_pos (by omega)]
    · rw [if_neg z2]
  · rw [if_neg z1]
    by_cases z2 : b ≤ c
    · rw [if_pos z2, if_neg z1]
    · rw [if_neg z2, if_neg (by omega)]
theorem mn_4 (a b c d : Int) : s_mn (s_mn (s_mn a b) c) d = s_mn (s_mn a d) (s_mn b c) := by
  rw [mn_a a b c, mn_a a (s_mn b c) d, mn_c (s_mn b c) d, ← mn_a]
section MA
variable {G A : aR} {S : dg_S} {v o : Nat} {r : Int} {a b c a1 a2 : Int32}
theorem mx_lit (h : mx_ce G A S v) (hf : mx_fr G A S) (ha : a.toInt = v) (hv : v ≤ 40) (hr : (zI S 0 63).toInt = r) (hr9 : r ≤ 900) (hc : s_in G b.toInt) : F_m_isLit o S a b = 1 ∧ s_lit G A r b.toInt ∨ F_m_isLit o S a b = 0 ∧ ¬ s_lit G A r b.toInt := by
  obtain ⟨-, e2, l, u⟩ := h b.toInt hc
  obtain ⟨f1, f2, f3⟩ := hf b.toInt hc
  have ad := mx_adr ha hv ⟨hc.1.1, hc.1.2⟩
  have bn : b.toNatClampNeg = b.toInt.toNat := rfl
  unfold mx_fo at f1
  unfold mx_cu at e2
  rcases mx_op (o := o) h ha hv hc with ⟨q, k⟩ | ⟨q, k⟩
  · have n0 : ¬ F_m_isOpen o S a b = (0 : Int32) := by rw [q]; decide +kernel
    by_cases q2 : zI S 0 63 < S.2.1 42 b.toNatClampNeg
    · have d2 := dk_ltc (k := (S.2.1 42 b.toNatClampNeg).toInt) rfl q2
      refine Or.inr ⟨F_m_isLit_p1 rfl n0 rfl rfl q2, fun z => ?_⟩
      have z1 := z.2.1
      have z2 := z.2.2
      rw [bn, f1, if_neg z1] at d2
      omega
    · have d2 := dk_nltc (k := (S.2.1 42 b.toNatClampNeg).toInt) rfl q2
      have nm : s_fd G A b.toInt ≠ -1 := fun z => by
        rw [bn, f1, if_pos z] at d2
        omega
      rw [bn, f1, if_neg nm] at d2
      by_cases q3 : S.2.1 32 ((64 : Int32) * a + b).toNatClampNeg = (0 : Int32)
      · have d3 := dk_eqc (k := 0) (by decide +kernel) q3
        rw [ad, e2] at d3
        have n2 : s_c A b.toInt ≠ -2 := fun z => by rw [if_pos z] at d3; exact absurd d3 (by decide)
        have hk := k.2
        exact Or.inl ⟨F_m_isLit_p3 rfl n0 rfl rfl q2 rfl rfl rfl q3, ⟨hc, by omega⟩, nm, by omega⟩
      · have d3 := dk_neqc (k := 0) (by decide +kernel) q3
        rw [ad, e2] at d3
        refine Or.inr ⟨F_m_isLit_p2 rfl n0 rfl rfl q2 rfl rfl rfl q3, fun z => d3 ?_⟩
        have := z.1.2
        rw [if_neg (by omega)]
  · exact Or.inr ⟨F_m_isLit_p0 rfl q, fun z => k ⟨hc, by have := z.1.2; omega⟩⟩
def mx_lv (x : Int) : Prop := x = 100000000 ∨ (0 ≤ x ∧ x ≤ 63)
theorem mx_lb1 {w w' n : Int32} {d : Int} (h : mx_ce G A S v) (hf : mx_fr G A S) (hg : mx_gd G S) (hb : s_gb G) (ha : a1.toInt = v) (hv : v ≤ 40) (hr : (zI S 0 63).toInt = r) (hr9 : r ≤ 900) (hc : s_in G a2.toInt) (hw : w.toInt < 4) (ew : w' = w + 1) (hd : mx_dd w.toInt = d) (hn : mx_lv n.toInt) :
    ∃ n', F_m_litBeside_B1 S o a2 a1 (w, n) = .inl (w', n') ∧ mx_lv n'.toInt ∧ mx_fi n'.toInt = s_mn (mx_fi n.toInt) (s_l1 G A r (a2.toInt + d)) := by
  have c4 : ¬ (4 : Int32) ≤ w := fun z => by have := dk_gec (k := 4) (by decide +kernel) z; omega
  subst hd
  rcases mx_beside (o := o) (a := a2) (b := w) hg hb hc with ⟨e, q⟩ | ⟨e, q⟩
  · have n1 : ¬ F_m_besideOf o S a2 w = (-1 : Int32) := fun z => by
      have := dk_eqc (k := -1) (by decide +kernel) z
      have := q.1.1
      omega
    have q' := q
    rw [← e] at q'
    rcases mx_lit (o := o) (b := F_m_besideOf o S a2 w) h hf ha hv hr hr9 q' with ⟨f, k⟩ | ⟨f, k⟩
    · have n2 : ¬ F_m_isLit o S a1 (F_m_besideOf o S a2 w) = (0 : Int32) := by rw [f]; decide +kernel
      obtain ⟨f1, f2, f3⟩ := hf _ q'
      have k1 := k.2.1
      unfold mx_fo at f1
      rw [if_neg k1] at f1
      rw [e] at k
      rw [s_l1_y k, ← e]
      have hx : S.2.1 42 (F_m_besideOf o S a2 w).toNatClampNeg = S.2.1 42 (F_m_besideOf o S a2 w).toInt.toNat := rfl
      by_cases q2 : n ≤ S.2.1 42 (F_m_besideOf o S a2 w).toNatClampNeg
      · have d2 := dk_lec (k := (S.2.1 42 (F_m_besideOf o S a2 w).toNatClampNeg).toInt) rfl q2
        rw [hx, f1] at d2
        refine ⟨n, ?_, hn, ?_⟩
        · rw [F_m_litBeside_p4 c4 rfl n1 rfl n2 rfl q2]
          exact F_m_litBeside_p1 ew
        · unfold mx_lv at hn
          unfold mx_fi
          rw [if_neg (by omega), mn_n (by omega) k1, if_pos d2]
      · have d2 := dk_nlec (k := (S.2.1 42 (F_m_besideOf o S a2 w).toNatClampNeg).toInt) rfl q2
        rw [hx, f1] at d2
        refine ⟨S.2.1 42 (F_m_besideOf o S a2 w).toNatClampNeg, ?_, ?_, ?_⟩
        · rw [F_m_litBeside_p5 c4 rfl n1 rfl n2 rfl q2]
          exact F_m_litBeside_p1 ew
        · rw [hx, f1]
          unfold mx_lv
          omega
        · rw [hx, f1]
          unfold mx_lv at hn
          unfold mx_fi
          rw [if_neg (show ¬ s_fd G A (F_m_besideOf o S a2 w).toInt = 100000000 by omega)]
          by_cases z : n.toInt = 100000000
          · rw [if_pos z, mn_l]
          · rw [if_neg z, mn_n (by omega) k1, if_neg (by omega)]
    · refine ⟨n, ?_, hn, ?_⟩
      · rw [F_m_litBeside_p3 c4 rfl n1 rfl f]
        exact F_m_litBeside_p1 ew
      · rw [e] at k
        rw [s_l1_n k, mn_r]
  · refine ⟨n, ?_, hn, ?_⟩
    · rw [F_m_litBeside_p2 c4 rfl e]
      exact F_m_litBeside_p1 ew
    · rw [s_l1_n (fun z => q z.1.1), mn_r]
theorem mx_nl (h : mx_ce G A S v) (hf : mx_fr G A S) (hg : mx_gd G S) (hb : s_gb G) (ha : a1.toInt = v) (hv : v ≤ 40) (hr : (zI S 0 63).toInt = r) (hr9 : r ≤ 900) (hc : s_in G a2.toInt) : mx_lv (F_m_litBeside o S a1 a2).toInt ∧ mx_fi (F_m_litBeside o S a1 a2).toInt = s_nl G A r a2.toInt := by
  have z0 : (0 : Int32).toInt = 0 := by decide +kernel
  have p1 : (1 : Int32).toInt = 1 := by decide +kernel
  have p2 : (2 : Int32).toInt = 2 := by decide +kernel
  have p3 : (3 : Int32).toInt = 3 := by decide +kernel
  have p8 : (100000000 : Int32).toInt = 100000000 := by decide +kernel
  obtain ⟨n1, e1, l1, x1⟩ := mx_lb1 (o := o) (w := 0) (w' := 1) (n := 100000000) (d := -8) h hf hg hb ha hv hr hr9 hc (by rw [z0]; omega) (by decide +kernel) (by rw [z0]; rfl) (Or.inl p8)
  obtain ⟨n2, e2, l2, x2⟩ := mx_lb1 (o := o) (w := 1) (w' := 2) (n := n1) (d := 1) h hf hg hb ha hv hr hr9 hc (by rw [p1]; omega) (by decide +kernel) (by rw [p1]; rfl) l1
  obtain ⟨n3, e3, l3, x3⟩ := mx_lb1 (o := o) (w := 2) (w' := 3) (n := n2) (d := 8) h hf hg hb ha hv hr hr9 hc (by rw [p2]; omega) (by decide +kernel) (by rw [p2]; rfl) l2
  obtain ⟨n4, e4, l4, x4⟩ := mx_lb1 (o := o) (w := 3) (w' := 4) (n := n3) (d := -1) h hf hg hb ha hv hr hr9 hc (by rw [p3]; omega) (by decide +kernel) (by rw [p3]; rfl) l3
  have E : F_m_litBeside o S a1 a2 = n4 := by
    rw [F_m_litBeside_p6, show ((5 - ((0 : Int32)).toInt).toNat + 1) = 5 + 1 by rw [z0]; rfl]
    exact (lp_sl (n := 5) e1).trans ((lp_sl (n := 4) e2).trans ((lp_sl (n := 3) e3).trans ((lp_sl (n := 2) e4).trans (lp_sr (n := 1) (F_m_litBeside_p0 (by decide +kernel))))))
  rw [E]
  refine ⟨l4, ?_⟩
  rw [x4, x3, x2, x1, p8, show mx_fi 100000000 = -1 from rfl, mn_l, mn_4]
  unfold s_nl
  rw [show a2.toInt - 8 = a2.toInt + -8 by omega, show a2.toInt - 1 = a2.toInt + -1 by omega]
end MA
end
section
/-! the reference: how far cells are -/
def mx_far (S : dg_S) (c : Int) : Int := if 0 ≤ c ∧ c < 64 then mx_fi (S.2.1 42 c.toNat).toInt else -1
def mx_q (S : dg_S) (i : Nat) : Int := (S.2.1 43 i).toInt
abbrev mx_B (G A : aR) (S : dg_S) (k w : Nat) (N : Int → Prop) : Prop := b_I (G 0 2) (s_op G A) (s_ps G A) (mx_far S) (mx_q S) k w N
def mx_h (S : dg_S) : Prop := ∀ c : Nat, c < 64 → mx_lv (S.2.1 42 c).toInt
/-- rows 42 and 43 alone -/
def k_ms (S S1 : dg_S) : Prop := kp (fun _ _ => False) (fun a => a = 42 ∨ a = 43) S S1
theorem mx_far_v {S : dg_S} {c : Int} (h0 : 0 ≤ c) (h1 : c < 64) : mx_far S c = mx_fi (S.2.1 42 c.toNat).toInt := by
  unfold mx_far
  rw [if_pos ⟨h0, h1⟩]
theorem mx_fi_n {x : Int} (h : mx_lv x) : (mx_fi x = -1 ↔ x = 100000000) ∧ (mx_fi x ≠ -1 → mx_fi x = x) ∧ mx_fo (mx_fi x) = x ∧ -1 ≤ mx_fi x ∧ mx_fi x ≤ 63 := by
  unfold mx_lv at h
  unfold mx_fi mx_fo
  by_cases z : x = 100000000
  · rw [if_pos z, if_pos rfl]
    exact ⟨⟨fun _ => z, fun _ => rfl⟩, fun q => absurd rfl q, z.symm, by decide, by decide⟩
  · rw [if_neg z, if_neg (by omega)]
    exact ⟨⟨fun q => by omega, fun q => absurd q z⟩, fun _ => rfl, rfl, by omega, by omega⟩
theorem mx_ce.keep {G A : aR} {S S1 : dg_S} {v : Nat} (h : mx_ce G A S v) (e1 : S1.2.1 31 = S.2.1 31) (e2 : S1.2.1 32 = S.2.1 32) : mx_ce G A S1 v := by
  intro c hc
  rw [e1, e2]
  exact h c hc
theorem mx_gd.keep {G : aR} {S S1 : dg_S} (h : mx_gd G S) (e0 : ∀ b, zI S1 0 b = zI S 0 b) (e : ∀ i, i ≤ 19 → S1.2.1 i = S.2.1 i) : mx_gd G S1 := by
  obtain ⟨h1, h2, h3, h4, h5⟩ := h
  refine ⟨by rw [e0]; exact h1, ?_, ?_, ?_, ?_⟩
  · rw [e0, e 2 (by decide)]; exact h2
  · rw [e0, e 3 (by decide)]; exact h3
  · rw [e0, e 4 (by decide)]; exact h4
  · rw [e0, e 9 (by decide)]; exact h5
theorem k_ms.gd {G : aR} {S S1 : dg_S} (t : k_ms S S1) (h : mx_gd G S) : mx_gd G S1 := h.keep (fun b => t.I id) (fun i hi => (t.2 i (by omega)).1)
theorem k_ms.ce {G A : aR} {S S1 : dg_S} {v : Nat} (t : k_ms S S1) (h : mx_ce G A S v) : mx_ce G A S1 v := h.keep (t.2 31 (by omega)).1 (t.2 32 (by omega)).1
section MS
variable {G A : aR} {S0 S S1 : dg_S} {v o k w : Nat} {r : Int} {a a1 bk sh : Int32} {N : Int → Prop}
theorem mx_ms1 (hb : s_gb G) (hg : mx_gd G S) (hce : mx_ce G A S v) (ha : a1.toInt = v) (hv : v ≤ 40) (h : mx_B G A S k w N) (hh : mx_h S) (hk : k < w) (hq : a.toInt = mx_q S k) (hps : s_ps G A (mx_q S k)) {x i i' m : Int32} {b : Int} (hi : i.toInt < 4) (ei : i' = i + 1) (hd : mx_dd i.toInt = b) (hn : b = -8 ∨ b = -1 ∨ b = 1 ∨ b = 8) (hm : m.toInt = w) :
    ∃ (m1 : Int32) (S1 : dg_S) (w1 : Nat), F_m_measures_B4 x S0 bk o a a1 (i, m, S) = .inl (i', m1, S1) ∧ m1.toInt = w1 ∧ mx_B G A S1 k w1 (fun c => N c ∨ c = mx_q S k + b) ∧ mx_h S1 ∧ w ≤ w1 ∧ (∀ i, i < w → mx_q S1 i = mx_q S i) ∧ k_ms S S1 := by
  have c4 : ¬ (4 : Int32) ≤ i := fun z => by have := dk_gec (k := 4) (by decide +kernel) z; omega
  have hc : s_in G a.toInt := by rw [hq]; exact hps.1
  have hbe := mx_beside (o := o) (a := a) (b := i) hg hb hc
  rw [hd] at hbe
  rcases hbe with ⟨e, q⟩ | ⟨e, q⟩
  · have n1 : ¬ F_m_besideOf o S a i = (-1 : Int32) := fun z => by
      have := dk_eqc (k := -1) (by decide +kernel) z
      have := q.1.1
      omega
    have q' := q
    rw [← e] at q'
    obtain ⟨y, hy⟩ : ∃ y, y = F_m_besideOf o S a i := ⟨_, rfl⟩
    rw [← hy] at e n1 q'
    have hyn : y.toNatClampNeg = y.toInt.toNat := rfl
    have hy0 := q'.1
    have lv := hh y.toInt.toNat (by omega)
    have fn := mx_fi_n lv
    have ey : y.toInt = mx_q S k + b := by rw [e, hq]
    have hfd : mx_far S (mx_q S k + b) = mx_fi (S.2.1 42 y.toInt.toNat).toInt := by
      rw [← ey]
      exact mx_far_v hy0.1 hy0.2
    rcases mx_op (o := o) (b := y) hce ha hv q' with ⟨f, j⟩ | ⟨f, j⟩
    · have n2 : ¬ F_m_isOpen o S a1 y = (0 : Int32) := by rw [f]; decide +kernel
      by_cases q2 : (100000000 : Int32) ≤ S.2.1 42 y.toNatClampNeg
      · have d2 := dk_gec (k := 100000000) (by decide +kernel) q2
        have f1 : mx_far S (mx_q S k + b) = -1 := by
          rw [hfd]
          unfold mx_lv at lv
          exact fn.1.mpr (by rw [hyn] at d2; omega)
        obtain ⟨n, en, ni, -⟩ := (h.2.2.1 k hk).2
        have hqk := (h.2.2.1 k hk).1
        have w64 := h.w64
        have lva := hh a.toInt.toNat (by omega)
        have fna := mx_fi_n lva
        have hfa : mx_far S (mx_q S k) = mx_fi (S.2.1 42 a.toInt.toNat).toInt := by
          rw [← hq]
          exact mx_far_v hc.1.1 hc.1.2
        have eva : (S.2.1 42 a.toNatClampNeg).toInt = n := by
          rw [hfa] at en
          have := fna.2.1 (by omega)
          show (S.2.1 42 a.toInt.toNat).toInt = n
          omega
        have ev : (S.2.1 42 a.toNatClampNeg + (1 : Int32)).toInt = (n : Int) + 1 := dk_addT eva (by decide +kernel) (by omega) (by omega)
        obtain ⟨S2, hS2⟩ : ∃ S2, S2 = dg_uf S 42 (upd (S.2.1 42) y.toNatClampNeg (S.2.1 42 a.toNatClampNeg + (1 : Int32))) := ⟨_, rfl⟩
        obtain ⟨S3, hS3⟩ : ∃ S3, S3 = dg_uf S2 43 (upd (S2.2.1 43) m.toNatClampNeg y) := ⟨_, rfl⟩
        have em : (m + 1).toInt = ((w + 1 : Nat) : Int) := by
          rw [dk_addT (a := (w : Int)) (b := 1) hm (by decide +kernel) (by omega) (by omega)]
          omega
        have emn : m.toNatClampNeg = w := by rw [dk_clN]; omega
        have r42 : S3.2.1 42 = upd (S.2.1 42) y.toInt.toNat (S.2.1 42 a.toNatClampNeg + (1 : Int32)) := by
          rw [hS3, w_f, if_neg (by decide), hS2, w_f, if_pos rfl, hyn]
        have r43 : S3.2.1 43 = upd (S.2.1 43) w y := by
          rw [hS3, w_f, if_pos rfl, emn, hS2, w_f, if_neg (by decide)]
        have kk : k_ms S S3 := by
          rw [hS3, hS2]
          exact (kp.uf (kp.uf kp.rf (Or.inl rfl)) (Or.inr rfl))
        have q3 : ∀ i, i < w → mx_q S3 i = mx_q S i := fun i hi => by
          unfold mx_q
          rw [r43, w_u, if_neg (by omega)]
        have nn : mx_fi ((n : Int) + 1) = (n : Int) + 1 := by
          unfold mx_fi
          rw [if_neg (by omega)]
        have B3 : mx_B G A S3 k (w + 1) (fun c => N c ∨ c = mx_q S k + b) := by
          refine h.push hk hps (by unfold b_nb; omega) (by rw [← ey]; exact j) f1 (by omega) ?_ (fun c hc1 => ?_) ?_ q3 (fun c z => z)
          · rw [en, ← ey, mx_far_v hy0.1 hy0.2, r42, w_u, if_pos rfl, ev]
            exact nn
          · unfold mx_far
            by_cases z : 0 ≤ c ∧ c < 64
            · rw [if_pos z, if_pos z, r42, w_u, if_neg (by omega)]
            · rw [if_neg z, if_neg z]
          · unfold mx_q
            rw [r43, w_u, if_pos rfl]
            exact ey
        have w64' := B3.w64
        refine ⟨m + 1, S3, w + 1, F_m_measures_p5 c4 hy n1 rfl n2 rfl q2 rfl rfl hS2 hS3 rfl ei, em, B3, fun c hc1 => ?_, by omega, q3, kk⟩
        rw [r42, w_u]
        split
        · rw [ev]
          exact Or.inr ⟨by omega, by omega⟩
        · exact hh c hc1
      · have d2 := dk_ngec (k := 100000000) (by decide +kernel) q2
        refine ⟨m, S, w, F_m_measures_p6 c4 hy n1 rfl n2 rfl q2 ei, hm, ?_, hh, Nat.le_refl _, fun _ _ => rfl, kp.rf⟩
        refine h.more (fun c hc1 => ?_)
        rcases hc1 with z | z
        · exact Or.inl z
        · refine Or.inr (fun _ _ z1 => ?_)
          rw [z, hfd] at z1
          have := fn.1.mp z1
          rw [hyn] at d2
          omega
    · refine ⟨m, S, w, F_m_measures_p4 c4 hy n1 rfl f ei, hm, ?_, hh, Nat.le_refl _, fun _ _ => rfl, kp.rf⟩
      refine h.more (fun c hc1 => ?_)
      rcases hc1 with z | z
      · exact Or.inl z
      · refine Or.inr (fun z1 _ => absurd ?_ j)
        rw [ey, ← z]
        exact z1
  · refine ⟨m, S, w, F_m_measures_p3 c4 rfl e ei, hm, ?_, hh, Nat.le_refl _, fun _ _ => rfl, kp.rf⟩
    refine h.more (fun c hc1 => ?_)
    rcases hc1 with z | z
    · exact Or.inl z
    · refine Or.inr (fun z1 _ => absurd ?_ q)
      rw [hq, ← z]
      exact z1.1
theorem mx_ms4 (hb : s_gb G) (hg : mx_gd G S) (hce : mx_ce G A S v) (ha : a1.toInt = v) (hv : v ≤ 40) (h : mx_B G A S k w (fun _ => False)) (hh : mx_h S) (hk : k < w) (hq : a.toInt = mx_q S k) (hps : s_ps G A (mx_q S k)) {x m : Int32} (hm : m.toInt = w) {z9 : (Int32 × Int32 × dg_S) ⊕ dg_S} :
    ∃ (m1 : Int32) (S1 : dg_S) (w1 : Nat), lp (F_m_measures_B4 x S0 bk o a a1) z9 ((5 - ((0 : Int32)).toInt).toNat + 1) ((0 : Int32), m, S) = .inl (x + 1, m1, S1) ∧ m1.toInt = w1 ∧ mx_B G A S1 (k + 1) w1 (fun _ => False) ∧ mx_h S1 ∧ (∀ i, i < w → mx_q S1 i = mx_q S i) ∧ k_ms S S1 := by
  have z0 : (0 : Int32).toInt = 0 := by decide +kernel
  have t1 : (1 : Int32).toInt = 1 := by decide +kernel
  have t2 : (2 : Int32).toInt = 2 := by decide +kernel
  have t3 : (3 : Int32).toInt = 3 := by decide +kernel
  obtain ⟨m1, S1, w1, e1, n1, B1, h1, l1, q1, k1⟩ := mx_ms1 (S0 := S0) (o := o) (bk := bk) (x := x) (i := 0) (i' := 1) (b := -8) hb hg hce ha hv h hh hk hq hps (by rw [z0]; omega) (by decide +kernel) (by rw [z0]; rfl) (by omega) hm
  have p1 := q1 k hk
  obtain ⟨m2, S2, w2, e2, n2, B2, h2, l2, q2, k2⟩ := mx_ms1 (S0 := S0) (o := o) (bk := bk) (x := x) (i := 1) (i' := 2) (b := 1) hb (k1.gd hg) (k1.ce hce) ha hv B1 h1 (by omega) (by rw [p1]; exact hq) (by rw [p1]; exact hps) (by rw [t1]; omega) (by decide +kernel) (by rw [t1]; rfl) (by omega) n1
  have p2 := (q2 k (by omega)).trans p1
  have kk2 := k1.tr k2
  obtain ⟨m3, S3, w3, e3, n3, B3, h3, l3, q3, k3⟩ := mx_ms1 (S0 := S0) (o := o) (bk := bk) (x := x) (i := 2) (i' := 3) (b := 8) hb (k_ms.gd kk2 hg) (k_ms.ce kk2 hce) ha hv B2 h2 (by omega) (by rw [p2]; exact hq) (by rw [p2]; exact hps) (by rw [t2]; omega) (by decide +kernel) (by rw [t2]; rfl) (by omega) n2
  have p3 := (q3 k (by omega)).trans p2
  have kk3 := kk2.tr k3
  obtain ⟨m4, S4, w4, e4, n4, B4, h4, l4, q4, k4⟩ := mx_ms1 (S0 := S0) (o := o) (bk := bk) (x := x) (i := 3) (i' := 4) (b := -1) hb (k_ms.gd kk3 hg) (k_ms.ce kk3 hce) ha hv B3 h3 (by omega) (by rw [p3]; exact hq) (by rw [p3]; exact hps) (by rw [t3]; omega) (by decide +kernel) (by rw [t3]; rfl) (by omega) n3
  have p4 := (q4 k (by omega)).trans p3
  refine ⟨m4, S4, w4, ?_, n4, ?_, h4, fun i hi => ?_, kk3.tr k4⟩
  · rw [show ((5 - ((0 : Int32)).toInt).toNat + 1) = 5 + 1 by rw [z0]; rfl]
    have e5 : F_m_measures_B4 x S0 bk o a a1 (4, m4, S4) = .inr (.inl (x + 1, m4, S4)) := by
      rw [F_m_measures_p2 (by decide +kernel), F_m_measures_p1 rfl]
    exact (lp_sl (n := 5) e1).trans ((lp_sl (n := 4) e2).trans ((lp_sl (n := 3) e3).trans ((lp_sl (n := 2) e4).trans (lp_sr (n := 1) e5))))
  · refine B4.next (by omega) (fun _ d hd => ?_)
    rw [p4] at hd
    rw [p3, p2, p1]
    unfold b_nb at hd
    omega
  · rw [q4 i (by omega), q3 i (by omega), q2 i (by omega), q1 i hi]
theorem mx_mturn (hb : s_gb G) (hg : mx_gd G S) (hce : mx_ce G A S v) (ha : a1.toInt = v) (hv : v ≤ 40) (h : mx_B G A S k w (fun _ => False)) (hh : mx_h S) (hk : k < w) {kI wI : Int32} (hkI : kI.toInt = k) (hwI : wI.toInt = w) :
    ∃ (m1 : Int32) (S1 : dg_S) (w1 : Nat), F_m_measures_B2 a1 S0 bk o (kI, wI, S) = .inl (kI + 1, m1, S1) ∧ m1.toInt = w1 ∧ mx_B G A S1 (k + 1) w1 (fun _ => False) ∧ mx_h S1 ∧ k_ms S S1 := by
  have w64 := h.w64
  have hq := (h.2.2.1 k hk).1
  have hc : s_in G (mx_q S k) := hq.2.2.1
  have c0 : ¬ wI ≤ kI := fun z => by
    have := dk_lec (k := kI.toInt) rfl z
    omega
  have ekn : kI.toNatClampNeg = k := by rw [dk_clN]; omega
  obtain ⟨a, ha9⟩ : ∃ a, a = S.2.1 43 kI.toNatClampNeg := ⟨_, rfl⟩
  have hqa : a.toInt = mx_q S k := by rw [ha9, ekn]; rfl
  have ad := mx_adr (a := a1) (b := a) ha hv (by omega)
  obtain ⟨-, e2, l, u⟩ := hce (mx_q S k) hc
  rw [← hqa] at e2
  unfold mx_cu at e2
  by_cases q1 : S.2.1 32 ((64 : Int32) * a1 + a).toNatClampNeg = (1 : Int32)
  · have d1 := dk_eqc (k := 1) (by decide +kernel) q1
    have np : ¬ s_ps G A (mx_q S k) := fun z => by
      rw [ad, e2, if_neg (by rw [hqa]; have := z.2; omega)] at d1
      exact absurd d1 (by decide)
    exact ⟨wI, S, w, F_m_measures_p8 c0 ha9 rfl rfl rfl q1 rfl, hwI, h.next hk (fun z => absurd z np), hh, kp.rf⟩
  · have d1 := dk_neqc (k := 1) (by decide +kernel) q1
    have hp1 : s_ps G A (mx_q S k) := by
      refine ⟨hc, ?_⟩
      have h1 := hq.2.2.2
      by_cases z : s_c A a.toInt = -2
      · rw [ad, e2, if_pos z] at d1
        exact absurd rfl d1
      · rw [hqa] at z
        omega
    obtain ⟨m1, S1, w1, e1, n1, B1, h1, -, k1⟩ := mx_ms4 (S0 := S0) (o := o) (bk := bk) (x := kI) (z9 := Sum.inr S0) hb hg hce ha hv h hh hk hqa hp1 hwI
    exact ⟨m1, S1, w1, (F_m_measures_p7 c0 ha9 rfl rfl rfl q1).trans e1, n1, B1, h1, k1⟩
theorem mx_mloop (hb : s_gb G) (ha : a1.toInt = v) (hv : v ≤ 40) {z : dg_S} : ∀ (n k w : Nat) (kI wI : Int32) (S : dg_S), 65 ≤ n + k → mx_gd G S → mx_ce G A S v → mx_B G A S k w (fun _ => False) → mx_h S → kI.toInt = k → wI.toInt = w → ∃ (S1 : dg_S) (k1 w1 : Nat), lp (F_m_measures_B2 a1 S0 bk o) z n (kI, wI, S) = S1 ∧ mx_B G A S1 k1 w1 (fun _ => False) ∧ mx_h S1 ∧ w1 ≤ k1 ∧ k_ms S S1 := by
  intro n
  induction n with
  | zero =>
    intro k w kI wI S hn hg hc h hh hk hw
    have := h.w64
    have := h.1.2.1
    omega
  | succ n ih =>
    intro k w kI wI S hn hg hc h hh hk hw
    have w64 := h.w64
    by_cases q : k < w
    · obtain ⟨m1, S1, w1, e1, n1, B1, h1, t1⟩ := mx_mturn (S0 := S0) (o := o) (bk := bk) hb hg hc ha hv h hh q hk hw
      have ek : (kI + 1).toInt = ((k + 1 : Nat) : Int) := by
        rw [dk_addT (a := (k : Int)) (b := 1) hk (by decide +kernel) (by omega) (by omega)]
        omega
      obtain ⟨S2, k2, w2, e2, B2, h2, l2, t2⟩ := ih (k + 1) w1 (kI + 1) m1 S1 (by omega) (t1.gd hg) (t1.ce hc) B1 h1 ek n1
      exact ⟨S2, k2, w2, (lp_sl e1).trans e2, B2, h2, l2, t1.tr t2⟩
    · have c0 : wI ≤ kI := dk_lep (k := kI.toInt) rfl (by omega)
      exact ⟨S, k, w, lp_sr (F_m_measures_p0 c0), h, hh, by omega, kp.rf⟩
/-- all cells far, but the shaft's -/
def mx_ini (sh : Int32) (S : dg_S) (c : Nat) : Prop := ∀ j : Nat, j < c → S.2.1 42 j = if (j : Int) = sh.toInt then (0 : Int32) else 100000000
theorem mx_iloop {z : dg_S} : ∀ (n c : Nat) (cI : Int32) (S : dg_S), 65 ≤ n + c → c ≤ 64 → cI.toInt = c → mx_ini sh S c → ∃ S1, lp (F_m_measures_B5 sh a1 S0 bk o) z n (cI, S) = F_m_measures_J1 S1 sh a1 S0 bk o ∧ mx_ini sh S1 64 ∧ k_ms S S1 := by
  intro n
  induction n with
  | zero =>
    intro c cI S hn hc
    omega
  | succ n ih =>
    intro c cI S hn hc hcI hi
    by_cases q : (64 : Int32) ≤ cI
    · have d := dk_gec (k := 64) (by decide +kernel) q
      have ec : c = 64 := by omega
      subst ec
      exact ⟨S, lp_sr (F_m_measures_p10 q), hi, kp.rf⟩
    · have d := dk_ngec (k := 64) (by decide +kernel) q
      have ek : (cI + 1).toInt = ((c + 1 : Nat) : Int) := by
        rw [dk_addT (a := (c : Int)) (b := 1) hcI (by decide +kernel) (by omega) (by omega)]
        omega
      have ecn : cI.toNatClampNeg = c := by rw [dk_clN]; omega
      have go : ∀ y : Int32, y = (if (c : Int) = sh.toInt then (0 : Int32) else 100000000) → ∃ S2, S2 = dg_uf S 42 (upd (S.2.1 42) cI.toNatClampNeg y) ∧ mx_ini sh S2 (c + 1) ∧ k_ms S S2 := fun y hy => by
        refine ⟨_, rfl, fun j hj => ?_, kp.uf kp.rf (Or.inl rfl)⟩
        rw [w_f, if_pos rfl, w_u, ecn]
        by_cases e : j = c
        · rw [if_pos e, hy, e]
        · rw [if_neg e]
          exact hi j (by omega)
      by_cases q2 : cI = sh
      · obtain ⟨S2, e2, i2, k2⟩ := go 0 (by rw [if_pos (by rw [← q2, hcI])])
        obtain ⟨S1, e1, i1, k1⟩ := ih (c + 1) (cI + 1) S2 (by omega) (by omega) ek i2
        exact ⟨S1, (lp_sl (F_m_measures_p12 q q2 e2 rfl)).trans e1, i1, k2.tr k1⟩
      · obtain ⟨S2, e2, i2, k2⟩ := go 100000000 (by rw [if_neg (fun z => q2 (Int32.toInt_inj.mp (by rw [hcI, z])))])
        obtain ⟨S1, e1, i1, k1⟩ := ih (c + 1) (cI + 1) S2 (by omega) (by omega) ek i2
        exact ⟨S1, (lp_sl (F_m_measures_p11 q q2 e2 rfl)).trans e1, i1, k2.tr k1⟩
theorem mx_measures (hb : s_gb G) (hg : mx_gd G S) (hce : mx_ce G A S v) (ha : a1.toInt = v) (hv : v ≤ 40) (hps : s_ps G A (G 0 2)) : ∃ S1, F_m_measures o S a1 = S1 ∧ mx_fr G A S1 ∧ k_ms S S1 := by
  have z0 : (0 : Int32).toInt = 0 := by decide +kernel
  have z1 : (1 : Int32).toInt = 1 := by decide +kernel
  have z8 : (100000000 : Int32).toInt = 100000000 := by decide +kernel
  have zn : (0 : Int32).toNatClampNeg = 0 := by decide +kernel
  have hsi := hps.1.1
  obtain ⟨bk, hbk⟩ : ∃ bk, bk = zI S 0 13 := ⟨_, rfl⟩
  obtain ⟨sh, hsh⟩ : ∃ sh, sh = S.2.1 4 bk.toNatClampNeg := ⟨_, rfl⟩
  have esh : sh.toInt = G 0 2 := by rw [hsh, hbk]; exact hg.2.2.2.1
  obtain ⟨S2, e2, i2, k2⟩ := mx_iloop (S0 := S) (o := o) (bk := bk) (sh := sh) (a1 := a1) (z := S) ((65 - ((0 : Int32)).toInt).toNat + 1) 0 0 S (by rw [z0]; decide) (by decide) z0 (fun j hj => absurd hj (Nat.not_lt_zero j))
  obtain ⟨S3, hS3⟩ : ∃ S3, S3 = dg_uf S2 43 (upd (S2.2.1 43) (0 : Int32).toNatClampNeg sh) := ⟨_, rfl⟩
  have k3 : k_ms S S3 := by
    rw [hS3]
    exact kp.uf k2 (Or.inr rfl)
  have r42 : S3.2.1 42 = S2.2.1 42 := by rw [hS3, w_f, if_neg (by decide)]
  have r43 : S3.2.1 43 0 = sh := by rw [hS3, w_f, if_pos rfl, w_u, zn, if_pos rfl]
  have hh : mx_h S3 := fun c hc => by
    rw [r42, i2 c hc]
    split
    · rw [z0]
      exact Or.inr ⟨by decide, by decide⟩
    · exact Or.inl z8
  have f0 : mx_far S3 (G 0 2) = 0 := by
    rw [mx_far_v hsi.1 hsi.2, r42, i2 _ (by omega), if_pos (by omega), z0]
    rfl
  have fn : ∀ c, c ≠ G 0 2 → mx_far S3 c = -1 := fun c hc1 => by
    unfold mx_far
    by_cases z : 0 ≤ c ∧ c < 64
    · rw [if_pos z, r42, i2 _ (by omega), if_neg (by omega), z8]
      rfl
    · rw [if_neg z]
  have B0 : mx_B G A S3 0 1 (fun _ => False) := by
    refine b_I.init ?_ f0 fn hsi ⟨hps.1, by have := hps.2; omega⟩
    unfold mx_q
    rw [r43]
    exact esh
  obtain ⟨S1, k1, w1, e1, B1, h1, l1, t1⟩ := mx_mloop (S0 := S) (o := o) (bk := bk) (z := S) hb ha hv ((65 - ((0 : Int32)).toInt).toNat + 1) 0 1 0 1 S3 (by rw [z0]; decide) (k3.gd hg) (k3.ce hce) B0 hh z0 z1
  refine ⟨S1, ?_, fun c hc => ?_, k3.tr t1⟩
  · rw [F_m_measures_p13 hbk hsh, e2, F_m_measures_p9 hS3]
    exact e1
  · have hc0 := hc.1
    have fn := mx_fi_n (h1 c.toNat (by omega))
    have e := s_fd_eq (B1.far l1) c
    rw [mx_far_v hc0.1 hc0.2] at e
    rw [← e]
    exact ⟨fn.2.2.1.symm, fn.2.2.2.1, fn.2.2.2.2⟩
theorem mx_bex (hb : s_gb G) (hg : mx_gd G S) (hce : mx_ce G A S v) (hv : v ≤ 40) (hps : s_ps G A (G 0 2)) : ∃ f, b_far (G 0 2) (s_op G A) (s_ps G A) f := by
  obtain ⟨a1, ha⟩ : ∃ a1 : Int32, a1.toInt = v := ⟨Int32.ofInt v, by
    have key : ∀ n : Nat, n ≤ 40 → (Int32.ofInt (n : Int)).toInt = n := by decide +kernel
    exact key v hv⟩
  obtain ⟨o, -⟩ : ∃ o : Nat, o = 0 := ⟨0, rfl⟩
  have z0 : (0 : Int32).toInt = 0 := by decide +kernel
  have z1 : (1 : Int32).toInt = 1 := by decide +kernel
  have z8 : (100000000 : Int32).toInt = 100000000 := by decide +kernel
  have zn : (0 : Int32).toNatClampNeg = 0 := by decide +kernel
  have hsi := hps.1.1
  obtain ⟨bk, hbk⟩ : ∃ bk, bk = zI S 0 13 := ⟨_, rfl⟩
  obtain ⟨sh, hsh⟩ : ∃ sh, sh = S.2.1 4 bk.toNatClampNeg := ⟨_, rfl⟩
  have esh : sh.toInt = G 0 2 := by rw [hsh, hbk]; exact hg.2.2.2.1
  obtain ⟨S2, e2, i2, k2⟩ := mx_iloop (S0 := S) (o := o) (bk := bk) (sh := sh) (a1 := a1) (z := S) ((65 - ((0 : Int32)).toInt).toNat + 1) 0 0 S (by rw [z0]; decide) (by decide) z0 (fun j hj => absurd hj (Nat.not_lt_zero j))
  obtain ⟨S3, hS3⟩ : ∃ S3, S3 = dg_uf S2 43 (upd (S2.2.1 43) (0 : Int32).toNatClampNeg sh) := ⟨_, rfl⟩
  have k3 : k_ms S S3 := by
    rw [hS3]
    exact kp.uf k2 (Or.inr rfl)
  have r42 : S3.2.1 42 = S2.2.1 42 := by rw [hS3, w_f, if_neg (by decide)]
  have r43 : S3.2.1 43 0 = sh := by rw [hS3, w_f, if_pos rfl, w_u, zn, if_pos rfl]
  have hh : mx_h S3 := fun c hc => by
    rw [r42, i2 c hc]
    split
    · rw [z0]
      exact Or.inr ⟨by decide, by decide⟩
    · exact Or.inl z8
  have f0 : mx_far S3 (G 0 2) = 0 := by
    rw [mx_far_v hsi.1 hsi.2, r42, i2 _ (by omega), if_pos (by omega), z0]
    rfl
  have fn : ∀ c, c ≠ G 0 2 → mx_far S3 c = -1 := fun c hc1 => by
    unfold mx_far
    by_cases z : 0 ≤ c ∧ c < 64
    · rw [if_pos z, r42, i2 _ (by omega), if_neg (by omega), z8]
      rfl
    · rw [if_neg z]
  have B0 : mx_B G A S3 0 1 (fun _ => False) := by
    refine b_I.init ?_ f0 fn hsi ⟨hps.1, by have := hps.2; omega⟩
    unfold mx_q
    rw [r43]
    exact esh
  obtain ⟨S1, k1, w1, e1, B1, h1, l1, t1⟩ := mx_mloop (S0 := S) (o := o) (bk := bk) (z := S) hb ha hv ((65 - ((0 : Int32)).toInt).toNat + 1) 0 1 0 1 S3 (by rw [z0]; decide) (k3.gd hg) (k3.ce hce) B0 hh z0 z1
  exact ⟨_, B1.far l1⟩
end MS
end
section
/-! the reference works out a rule, 1 -/
/-! the reference works out a rule -/
section LI
variable {x y : Int64} {a b : Int}
theorem l_add (hx : x.toInt = a) (hy : y.toInt = b) (h1 : -9000000000000000000 ≤ a + b) (h2 : a + b ≤ 9000000000000000000) : (x + y).toInt = a + b := by
  rw [Int64.toInt_add, hx, hy]
  exact Int.bmod_eq_of_le (by omega) (by omega)
theorem l_sub (hx : x.toInt = a) (hy : y.toInt = b) (h1 : -9000000000000000000 ≤ a - b) (h2 : a - b ≤ 9000000000000000000) : (x - y).toInt = a - b := by
  rw [Int64.toInt_sub, hx, hy]
  exact Int.bmod_eq_of_le (by omega) (by omega)
theorem l_mul (hx : x.toInt = a) (hy : y.toInt = b) (h1 : -9000000000000000000 ≤ a * b) (h2 : a * b ≤ 9000000000000000000) : (x * y).toInt = a * b := by
  rw [Int64.toInt_mul, hx, hy]
  generalize a * b = z at h1 h2 ⊢
  exact Int.bmod_eq_of_le (by omega) (by omega)
theorem l_div (hx : -1000000 ≤ x.toInt ∧ x.toInt ≤ 1000000) : (x / y).toInt = x.toInt.tdiv y.toInt := by
  apply Int64.toInt_div_of_ne_left
  intro z
  rw [z] at hx
  exact absurd hx.1 (by decide +kernel)
theorem l_le : lg_cmp x y ≤ (0 : Int32) ↔ x.toInt ≤ y.toInt := by
  have h := dk_lcmp (x := x) (y := y) rfl
  have z0 : (0 : Int32).toInt = 0 := by decide +kernel
  rw [w_le, z0]
  omega
theorem l_ge : (0 : Int32) ≤ lg_cmp x y ↔ y.toInt ≤ x.toInt := by
  have h := dk_lcmp (x := x) (y := y) rfl
  have z0 : (0 : Int32).toInt = 0 := by decide +kernel
  rw [w_le, z0]
  omega
theorem l_eq : lg_cmp x y = (0 : Int32) ↔ x.toInt = y.toInt := by
  have h := dk_lcmp (x := x) (y := y) rfl
  have z0 : (0 : Int32).toInt = 0 := by decide +kernel
  rw [w_eq, z0]
  omega
theorem e_cl_in (h : -1000000 ≤ a ∧ a ≤ 1000000) : e_cl a = a := by
  unfold e_cl
  rw [if_neg (by omega), if_neg (by omega)]
theorem e_p2 (ha : -1000000 ≤ a ∧ a ≤ 1000000) (hb : -1000000 ≤ b ∧ b ≤ 1000000) : -1000000000000 ≤ a * b ∧ a * b ≤ 1000000000000 := by
  have h : (a * b).natAbs ≤ 1000000 * 1000000 := by
    rw [Int.natAbs_mul]
    exact Nat.mul_le_mul (by omega) (by omega)
  generalize a * b = z at h ⊢
  omega
end LI
section MT
variable {S : dg_S} {o : Nat} {a1 : Int32} {x y : Int64}
theorem mx_within : (F_m_within o S x).toInt = e_cl x.toInt := by
  have m1 : (1000000 : Int64).toInt = 1000000 := by decide +kernel
  have m2 : (-1000000 : Int64).toInt = -1000000 := by decide +kernel
  unfold e_cl
  by_cases c1 : lg_cmp x 1000000 ≤ (0 : Int32)
  · have d1 := l_le.mp c1
    rw [m1] at d1
    by_cases c2 : (0 : Int32) ≤ lg_cmp x (-1000000)
    · have d2 := l_ge.mp c2
      rw [m2] at d2
      rw [F_m_within_p0 rfl c1 rfl c2, if_neg (by omega), if_neg (by omega)]
    · have d2 : ¬ (-1000000 : Int64).toInt ≤ x.toInt := fun z => c2 (l_ge.mpr z)
      rw [m2] at d2
      rw [F_m_within_p1 rfl c1 rfl c2, if_neg (by omega), if_pos (by omega), m2]
  · have d1 : ¬ x.toInt ≤ (1000000 : Int64).toInt := fun z => c1 (l_le.mpr z)
    rw [m1] at d1
    rw [F_m_within_p2 rfl c1, if_pos (by omega), m1]
theorem mx_floor (hx : -1000000 ≤ x.toInt ∧ x.toInt ≤ 1000000) (hy : -1000000 ≤ y.toInt ∧ y.toInt ≤ 1000000) (h0 : y.toInt ≠ 0) : (F_m_floor o S x y).toInt = e_fd x.toInt y.toInt := by
  have z0 : (0 : Int64).toInt = 0 := by decide +kernel
  have z1 : (1 : Int64).toInt = 1 := by decide +kernel
  have b1 := cx_td_b hx h0
  have b2 := cx_mul_tdiv hx hy h0
  have e1 := l_div (y := y) hx
  have e2 : (x / y * y).toInt = x.toInt.tdiv y.toInt * y.toInt := l_mul e1 rfl (by omega) (by omega)
  have e3 : (x - x / y * y).toInt = x.toInt - x.toInt.tdiv y.toInt * y.toInt := l_sub rfl e2 (by omega) (by omega)
  have e4 : (x / y - (1 : Int64)).toInt = x.toInt.tdiv y.toInt - 1 := l_sub e1 z1 (by omega) (by omega)
  have c0 : ¬ lg_cmp y 0 = (0 : Int32) := fun z => h0 (by rw [← z0]; exact l_eq.mp z)
  unfold e_fd
  by_cases q : lg_cmp (x - x / y * y) 0 = (0 : Int32)
  · have d := l_eq.mp q
    rw [e3, z0] at d
    rw [F_m_floor_p0 rfl c0 rfl rfl rfl q, if_neg (fun z => z.2 (by omega)), e1]
  · have d : ¬ (x - x / y * y).toInt = (0 : Int64).toInt := fun z => q (l_eq.mpr z)
    rw [e3, z0] at d
    have ne : x.toInt.tdiv y.toInt * y.toInt ≠ x.toInt := by omega
    by_cases p : (0 : Int32) ≤ lg_cmp x 0
    · have dp := l_ge.mp p
      rw [z0] at dp
      rw [F_m_floor_p5 rfl c0 rfl rfl rfl q rfl p]
      by_cases t : (0 : Int32) ≤ lg_cmp y 0
      · have dt := l_ge.mp t
        rw [z0] at dt
        rw [F_m_floor_p1 rfl t rfl, if_neg (fun z => by have := z.1; omega), e1]
      · have dt : ¬ (0 : Int64).toInt ≤ y.toInt := fun z => t (l_ge.mpr z)
        rw [z0] at dt
        rw [F_m_floor_p4 rfl t (by decide +kernel) rfl, if_pos ⟨by omega, ne⟩, e4]
    · have dp : ¬ (0 : Int64).toInt ≤ x.toInt := fun z => p (l_ge.mpr z)
      rw [z0] at dp
      rw [F_m_floor_p6 rfl c0 rfl rfl rfl q rfl p]
      by_cases t : (0 : Int32) ≤ lg_cmp y 0
      · have dt := l_ge.mp t
        rw [z0] at dt
        rw [F_m_floor_p2 rfl t (by decide +kernel) rfl, if_pos ⟨by omega, ne⟩, e4]
      · have dt : ¬ (0 : Int64).toInt ≤ y.toInt := fun z => t (l_ge.mpr z)
        rw [z0] at dt
        rw [F_m_floor_p3 rfl t rfl, if_neg (fun z => by have := z.1; omega), e1]
theorem l_01 {x : Int64} (h : x.toInt = 0 ∨ x.toInt = 1) : x = 0 ∨ x = 1 := by
  rcases h with h | h
  · exact Or.inl (Int64.toInt_inj.mp (by rw [h]; decide +kernel))
  · exact Or.inr (Int64.toInt_inj.mp (by rw [h]; decide +kernel))
end MT
end
section
/-! the reference works out a rule, 2 -/
section MT
variable {S : dg_S} {o : Nat} {a1 : Int32} {x y : Int64}
theorem e_op10 {a b : Int} : e_op (-10) a b = e_cl (a + b) := by
  unfold e_op
  rw [if_pos rfl]
theorem e_op11 {a b : Int} : e_op (-11) a b = e_cl (a - b) := by
  unfold e_op
  rw [if_neg (by decide), if_pos rfl]
theorem e_op12 {a b : Int} : e_op (-12) a b = e_cl (a * b) := by
  unfold e_op
  rw [if_neg (by decide), if_neg (by decide), if_pos rfl]
theorem e_op13 {a b : Int} : e_op (-13) a b = if b = 0 then 0 else e_cl (e_fd a b) := by
  unfold e_op
  rw [if_neg (by decide), if_neg (by decide), if_neg (by decide), if_pos rfl]
theorem e_op14 {a b : Int} : e_op (-14) a b = if b = 0 then 0 else e_fm a b := by
  unfold e_op
  rw [if_neg (by decide), if_neg (by decide), if_neg (by decide), if_neg (by decide), if_pos rfl]
theorem e_op15 {a b : Int} : e_op (-15) a b = if a < b then a else b := by
  unfold e_op
  rw [if_neg (by decide), if_neg (by decide), if_neg (by decide), if_neg (by decide), if_neg (by decide), if_pos rfl]
theorem e_op16 {a b : Int} : e_op (-16) a b = if b < a then a else b := by
  unfold e_op
  rw [if_neg (by decide), if_neg (by decide), if_neg (by decide), if_neg (by decide), if_neg (by decide), if_neg (by decide), if_pos rfl]
theorem e_op17 {a b : Int} : e_op (-17) a b = if a < b then 1 else 0 := by
  unfold e_op
  rw [if_neg (by decide), if_neg (by decide), if_neg (by decide), if_neg (by decide), if_neg (by decide), if_neg (by decide), if_neg (by decide), if_pos rfl]
theorem e_op18 {a b : Int} : e_op (-18) a b = if b < a then 1 else 0 := by
  unfold e_op
  rw [if_neg (by decide), if_neg (by decide), if_neg (by decide), if_neg (by decide), if_neg (by decide), if_neg (by decide), if_neg (by decide), if_neg (by decide), if_pos rfl]
theorem e_op19 {a b : Int} : e_op (-19) a b = if a = b then 1 else 0 := by
  unfold e_op
  rw [if_neg (by decide), if_neg (by decide), if_neg (by decide), if_neg (by decide), if_neg (by decide), if_neg (by decide), if_neg (by decide), if_neg (by decide), if_neg (by decide), if_pos rfl]
theorem e_op20 {a b : Int} : e_op (-20) a b = e_and a b := by
  unfold e_op
  rw [if_neg (by decide), if_neg (by decide), if_neg (by decide), if_neg (by decide), if_neg (by decide), if_neg (by decide), if_neg (by decide), if_neg (by decide), if_neg (by decide), if_neg (by decide), if_pos rfl]
theorem e_op21 {a b : Int} : e_op (-21) a b = e_or a b := by
  unfold e_op
  rw [if_neg (by decide), if_neg (by decide), if_neg (by decide), if_neg (by decide), if_neg (by decide), if_neg (by decide), if_neg (by decide), if_neg (by decide), if_neg (by decide), if_neg (by decide), if_neg (by decide)]
theorem mx_two (hs : 31 ≤ a1.toInt ∧ a1.toInt ≤ 42) (hx : -1000000 ≤ x.toInt ∧ x.toInt ≤ 1000000) (hy : -1000000 ≤ y.toInt ∧ y.toInt ≤ 1000000) (hb : 41 ≤ a1.toInt → (x.toInt = 0 ∨ x.toInt = 1) ∧ (y.toInt = 0 ∨ y.toInt = 1)) : (F_m_two o S a1 x y).toInt = e_op (21 - a1.toInt) x.toInt y.toInt := by
  have z0 : (0 : Int64).toInt = 0 := by decide +kernel
  have z1 : (1 : Int64).toInt = 1 := by decide +kernel
  have c : a1.toInt = 31 ∨ a1.toInt = 32 ∨ a1.toInt = 33 ∨ a1.toInt = 34 ∨ a1.toInt = 35 ∨ a1.toInt = 36 ∨ a1.toInt = 37 ∨ a1.toInt = 38 ∨ a1.toInt = 39 ∨ a1.toInt = 40 ∨ a1.toInt = 41 ∨ a1.toInt = 42 := by omega
  rcases c with c | c | c | c | c | c | c | c | c | c | c | c
  · rw [c, show (21 - 31 : Int) = -10 by decide, e_op10]
    rw [F_m_two_p1 (dk_eqT c (k := 31) (by decide +kernel)) rfl rfl, mx_within, l_add rfl rfl (by omega) (by omega)]
  · rw [c, show (21 - 32 : Int) = -11 by decide, e_op11]
    rw [F_m_two_p2 (dk_neT c (k := 31) (b := 31) (by decide +kernel) (by decide)) (dk_eqT c (k := 32) (by decide +kernel)) rfl rfl, mx_within, l_sub rfl rfl (by omega) (by omega)]
  · rw [c, show (21 - 33 : Int) = -12 by decide, e_op12]
    have p2 := e_p2 hx hy
    rw [F_m_two_p3 (dk_neT c (k := 31) (b := 31) (by decide +kernel) (by decide)) (dk_neT c (k := 32) (b := 32) (by decide +kernel) (by decide)) (dk_eqT c (k := 33) (by decide +kernel)) rfl rfl, mx_within, l_mul rfl rfl (by omega) (by omega)]
  · rw [c, show (21 - 34 : Int) = -13 by decide, e_op13]
    rw [F_m_two_p4 (dk_neT c (k := 31) (b := 31) (by decide +kernel) (by decide)) (dk_neT c (k := 32) (b := 32) (by decide +kernel) (by decide)) (dk_neT c (k := 33) (b := 33) (by decide +kernel) (by decide)) (dk_eqT c (k := 34) (by decide +kernel)) rfl rfl, mx_within]
    by_cases q : y.toInt = 0
    · rw [if_pos q, F_m_floor_p7 rfl (l_eq.mpr (by rw [q, z0])), z0]
      rfl
    · rw [if_neg q, mx_floor hx hy q]
  · rw [c, show (21 - 35 : Int) = -14 by decide, e_op14]
    by_cases q : y.toInt = 0
    · rw [if_pos q, F_m_two_p6 (dk_neT c (k := 31) (b := 31) (by decide +kernel) (by decide)) (dk_neT c (k := 32) (b := 32) (by decide +kernel) (by decide)) (dk_neT c (k := 33) (b := 33) (by decide +kernel) (by decide)) (dk_neT c (k := 34) (b := 34) (by decide +kernel) (by decide)) (dk_eqT c (k := 35) (by decide +kernel)) rfl (l_eq.mpr (by rw [q, z0])), z0]
    · have n0 : ¬ lg_cmp y 0 = (0 : Int32) := fun z => q (by rw [← z0]; exact l_eq.mp z)
      have ef := mx_floor (o := o) (S := S) hx hy q
      have fb := e_fm_b (a := x.toInt) hy q
      have fe : e_fm x.toInt y.toInt = x.toInt - y.toInt * e_fd x.toInt y.toInt := rfl
      have em : (y * F_m_floor o S x y).toInt = y.toInt * e_fd x.toInt y.toInt := l_mul rfl ef (by omega) (by omega)
      rw [if_neg q, F_m_two_p5 (dk_neT c (k := 31) (b := 31) (by decide +kernel) (by decide)) (dk_neT c (k := 32) (b := 32) (by decide +kernel) (by decide)) (dk_neT c (k := 33) (b := 33) (by decide +kernel) (by decide)) (dk_neT c (k := 34) (b := 34) (by decide +kernel) (by decide)) (dk_eqT c (k := 35) (by decide +kernel)) rfl n0 rfl rfl rfl rfl, mx_within, l_sub rfl em (by omega) (by omega), ← fe, e_cl_in fb]
  · rw [c, show (21 - 36 : Int) = -15 by decide, e_op15]
    by_cases q : (0 : Int32) ≤ lg_cmp x y
    · have d := l_ge.mp q
      rw [F_m_two_p7 (dk_neT c (k := 31) (b := 31) (by decide +kernel) (by decide)) (dk_neT c (k := 32) (b := 32) (by decide +kernel) (by decide)) (dk_neT c (k := 33) (b := 33) (by decide +kernel) (by decide)) (dk_neT c (k := 34) (b := 34) (by decide +kernel) (by decide)) (dk_neT c (k := 35) (b := 35) (by decide +kernel) (by decide)) (dk_eqT c (k := 36) (by decide +kernel)) rfl q, if_neg (by omega)]
    · have d : ¬ y.toInt ≤ x.toInt := fun z => q (l_ge.mpr z)
      rw [F_m_two_p8 (dk_neT c (k := 31) (b := 31) (by decide +kernel) (by decide)) (dk_neT c (k := 32) (b := 32) (by decide +kernel) (by decide)) (dk_neT c (k := 33) (b := 33) (by decide +kernel) (by decide)) (dk_neT c (k := 34) (b := 34) (by decide +kernel) (by decide)) (dk_neT c (k := 35) (b := 35) (by decide +kernel) (by decide)) (dk_eqT c (k := 36) (by decide +kernel)) rfl q, if_pos (by omega)]
  · rw [c, show (21 - 37 : Int) = -16 by decide, e_op16]
    by_cases q : lg_cmp x y ≤ (0 : Int32)
    · have d := l_le.mp q
      rw [F_m_two_p9 (dk_neT c (k := 31) (b := 31) (by decide +kernel) (by decide)) (dk_neT c (k := 32) (b := 32) (by decide +kernel) (by decide)) (dk_neT c (k := 33) (b := 33) (by decide +kernel) (by decide)) (dk_neT c (k := 34) (b := 34) (by decide +kernel) (by decide)) (dk_neT c (k := 35) (b := 35) (by decide +kernel) (by decide)) (dk_neT c (k := 36) (b := 36) (by decide +kernel) (by decide)) (dk_eqT c (k := 37) (by decide +kernel)) rfl q, if_neg (by omega)]
    · have d : ¬ x.toInt ≤ y.toInt := fun z => q (l_le.mpr z)
      rw [F_m_two_p10 (dk_neT c (k := 31) (b := 31) (by decide +kernel) (by decide)) (dk_neT c (k := 32) (b := 32) (by decide +kernel) (by decide)) (dk_neT c (k := 33) (b := 33) (by decide +kernel) (by decide)) (dk_neT c (k := 34) (b := 34) (by decide +kernel) (by decide)) (dk_neT c (k := 35) (b := 35) (by decide +kernel) (by decide)) (dk_neT c (k := 36) (b := 36) (by decide +kernel) (by decide)) (dk_eqT c (k := 37) (by decide +kernel)) rfl q, if_pos (by omega)]
  · rw [c, show (21 - 38 : Int) = -17 by decide, e_op17]
    by_cases q : (0 : Int32) ≤ lg_cmp x y
    · have d := l_ge.mp q
      rw [F_m_two_p11 (dk_neT c (k := 31) (b := 31) (by decide +kernel) (by decide)) (dk_neT c (k := 32) (b := 32) (by decide +kernel) (by decide)) (dk_neT c (k := 33) (b := 33) (by decide +kernel) (by decide)) (dk_neT c (k := 34) (b := 34) (by decide +kernel) (by decide)) (dk_neT c (k := 35) (b := 35) (by decide +kernel) (by decide)) (dk_neT c (k := 36) (b := 36) (by decide +kernel) (by decide)) (dk_neT c (k := 37) (b := 37) (by decide +kernel) (by decide)) (dk_eqT c (k := 38) (by decide +kernel)) rfl q, if_neg (by omega), z0]
    · have d : ¬ y.toInt ≤ x.toInt := fun z => q (l_ge.mpr z)
      rw [F_m_two_p12 (dk_neT c (k := 31) (b := 31) (by decide +kernel) (by decide)) (dk_neT c (k := 32) (b := 32) (by decide +kernel) (by decide)) (dk_neT c (k := 33) (b := 33) (by decide +kernel) (by decide)) (dk_neT c (k := 34) (b := 34) (by decide +kernel) (by decide)) (dk_neT c (k := 35) (b := 35) (by decide +kernel) (by decide)) (dk_neT c (k := 36) (b := 36) (by decide +kernel) (by decide)) (dk_neT c (k := 37) (b := 37) (by decide +kernel) (by decide)) (dk_eqT c (k := 38) (by decide +kernel)) rfl q, if_pos (by omega), z1]
  · rw [c, show (21 - 39 : Int) = -18 by decide, e_op18]
    by_cases q : lg_cmp x y ≤ (0 : Int32)
    · have d := l_le.mp q
      rw [F_m_two_p13 (dk_neT c (k := 31) (b := 31) (by decide +kernel) (by decide)) (dk_neT c (k := 32) (b := 32) (by decide +kernel) (by decide)) (dk_neT c (k := 33) (b := 33) (by decide +kernel) (by decide)) (dk_neT c (k := 34) (b := 34) (by decide +kernel) (by decide)) (dk_neT c (k := 35) (b := 35) (by decide +kernel) (by decide)) (dk_neT c (k := 36) (b := 36) (by decide +kernel) (by decide)) (dk_neT c (k := 37) (b := 37) (by decide +kernel) (by decide)) (dk_neT c (k := 38) (b := 38) (by decide +kernel) (by decide)) (dk_eqT c (k := 39) (by decide +kernel)) rfl q, if_neg (by omega), z0]
    · have d : ¬ x.toInt ≤ y.toInt := fun z => q (l_le.mpr z)
      rw [F_m_two_p14 (dk_neT c (k := 31) (b := 31) (by decide +kernel) (by decide)) (dk_neT c (k := 32) (b := 32) (by decide +kernel) (by decide)) (dk_neT c (k := 33) (b := 33) (by decide +kernel) (by decide)) (dk_neT c (k := 34) (b := 34) (by decide +kernel) (by decide)) (dk_neT c (k := 35) (b := 35) (by decide +kernel) (by decide)) (dk_neT c (k := 36) (b := 36) (by decide +kernel) (by decide)) (dk_neT c (k := 37) (b := 37) (by decide +kernel) (by decide)) (dk_neT c (k := 38) (b := 38) (by decide +kernel) (by decide)) (dk_eqT c (k := 39) (by decide +kernel)) rfl q, if_pos (by omega), z1]
  · rw [c, show (21 - 40 : Int) = -19 by decide, e_op19]
    by_cases q : lg_cmp x y = (0 : Int32)
    · have d := l_eq.mp q
      rw [F_m_two_p16 (dk_neT c (k := 31) (b := 31) (by decide +kernel) (by decide)) (dk_neT c (k := 32) (b := 32) (by decide +kernel) (by decide)) (dk_neT c (k := 33) (b := 33) (by decide +kernel) (by decide)) (dk_neT c (k := 34) (b := 34) (by decide +kernel) (by decide)) (dk_neT c (k := 35) (b := 35) (by decide +kernel) (by decide)) (dk_neT c (k := 36) (b := 36) (by decide +kernel) (by decide)) (dk_neT c (k := 37) (b := 37) (by decide +kernel) (by decide)) (dk_neT c (k := 38) (b := 38) (by decide +kernel) (by decide)) (dk_neT c (k := 39) (b := 39) (by decide +kernel) (by decide)) (dk_eqT c (k := 40) (by decide +kernel)) rfl q, if_pos d, z1]
    · have d : ¬ x.toInt = y.toInt := fun z => q (l_eq.mpr z)
      rw [F_m_two_p15 (dk_neT c (k := 31) (b := 31) (by decide +kernel) (by decide)) (dk_neT c (k := 32) (b := 32) (by decide +kernel) (by decide)) (dk_neT c (k := 33) (b := 33) (by decide +kernel) (by decide)) (dk_neT c (k := 34) (b := 34) (by decide +kernel) (by decide)) (dk_neT c (k := 35) (b := 35) (by decide +kernel) (by decide)) (dk_neT c (k := 36) (b := 36) (by decide +kernel) (by decide)) (dk_neT c (k := 37) (b := 37) (by decide +kernel) (by decide)) (dk_neT c (k := 38) (b := 38) (by decide +kernel) (by decide)) (dk_neT c (k := 39) (b := 39) (by decide +kernel) (by decide)) (dk_eqT c (k := 40) (by decide +kernel)) rfl q, if_neg d, z0]
  · rw [c, show (21 - 41 : Int) = -20 by decide, e_op20]
    rw [c] at hb
    obtain ⟨h1, h2⟩ := hb (by decide)
    rw [F_m_two_p17 (dk_neT c (k := 31) (b := 31) (by decide +kernel) (by decide)) (dk_neT c (k := 32) (b := 32) (by decide +kernel) (by decide)) (dk_neT c (k := 33) (b := 33) (by decide +kernel) (by decide)) (dk_neT c (k := 34) (b := 34) (by decide +kernel) (by decide)) (dk_neT c (k := 35) (b := 35) (by decide +kernel) (by decide)) (dk_neT c (k := 36) (b := 36) (by decide +kernel) (by decide)) (dk_neT c (k := 37) (b := 37) (by decide +kernel) (by decide)) (dk_neT c (k := 38) (b := 38) (by decide +kernel) (by decide)) (dk_neT c (k := 39) (b := 39) (by decide +kernel) (by decide)) (dk_neT c (k := 40) (b := 40) (by decide +kernel) (by decide)) (dk_eqT c (k := 41) (by decide +kernel)) rfl]
    rcases l_01 h1 with rfl | rfl <;> rcases l_01 h2 with rfl | rfl <;> (unfold e_and; decide +kernel)
  · rw [c, show (21 - 42 : Int) = -21 by decide, e_op21]
    rw [c] at hb
    obtain ⟨h1, h2⟩ := hb (by decide)
    rw [F_m_two_p0 (dk_neT c (k := 31) (b := 31) (by decide +kernel) (by decide)) (dk_neT c (k := 32) (b := 32) (by decide +kernel) (by decide)) (dk_neT c (k := 33) (b := 33) (by decide +kernel) (by decide)) (dk_neT c (k := 34) (b := 34) (by decide +kernel) (by decide)) (dk_neT c (k := 35) (b := 35) (by decide +kernel) (by decide)) (dk_neT c (k := 36) (b := 36) (by decide +kernel) (by decide)) (dk_neT c (k := 37) (b := 37) (by decide +kernel) (by decide)) (dk_neT c (k := 38) (b := 38) (by decide +kernel) (by decide)) (dk_neT c (k := 39) (b := 39) (by decide +kernel) (by decide)) (dk_neT c (k := 40) (b := 40) (by decide +kernel) (by decide)) (dk_neT c (k := 41) (b := 41) (by decide +kernel) (by decide)) rfl]
    rcases l_01 h1 with rfl | rfl <;> rcases l_01 h2 with rfl | rfl <;> (unfold e_or; decide +kernel)
end MT
end
section
/-! the reference works out a rule, 3 -/
def mx_so (e : Int) : Int := if 0 ≤ e then 0 else if -6 ≤ e then -e else if e = -7 then 30 else if e = -8 then 43 else if e = -9 then 44 else 21 - e
def mx_st (S : dg_S) (q : e_S) : Prop := ∀ i, i < q.2 → (S.2.2 40 i).toInt = q.1 i
def mx_env (S : dg_S) (s : Int) : Int := if -6 ≤ s ∧ s < 0 then (S.2.1 41 (-s).toNat).toInt else 1
def k_rk (S S1 : dg_S) : Prop := kp (fun _ _ => False) (fun a => a = 40) S S1
theorem k_rk.env {S S1 : dg_S} (h : k_rk S S1) : mx_env S1 = mx_env S := by
  funext s
  unfold mx_env
  rw [(h.2 41 (by decide)).1]
/-- one step at k: its code and its value -/
def mx_c1 (S : dg_S) (k : Int) (s : Int) : Prop := (S.2.1 18 k.toNat).toInt = mx_so s ∧ (0 ≤ s → (S.2.1 19 k.toNat).toInt = s)
/-- a rule as its steps lie in a bank -/
def mx_code (S : dg_S) (b w : Nat) (C : List Int) : Prop := (C = [] ∧ (S.2.1 16 (3 * b + w)).toInt = -1) ∨ (C ≠ [] ∧ ∃ fr : Int, 0 ≤ fr ∧ fr + C.length ≤ 1600 ∧ (S.2.1 16 (3 * b + w)).toInt = fr ∧ (S.2.1 17 (3 * b + w)).toInt = fr + C.length ∧ ∀ i : Nat, i < C.length → mx_c1 S (1600 * b + fr + i) (C.getD i 0))
theorem k_rk.row {S S1 : dg_S} (h : k_rk S S1) {i : Nat} (hi : i ≠ 40) : S1.2.1 i = S.2.1 i := (h.2 i hi).1
theorem mx_st_at {S : dg_S} {f : Nat → Int} {n j : Nat} {i : Int32} (h : mx_st S (f, n)) (hi : i.toInt = j) (hj : j < n) : (S.2.2 40 i.toNatClampNeg).toInt = f j := by
  rw [show i.toNatClampNeg = j by rw [dk_clN]; omega]
  exact h j hj
theorem mx_st_up {S S1 : dg_S} {f : Nat → Int} {n j m : Nat} {i : Int32} {x : Int64} {v : Int} (h : mx_st S (f, n)) (hi : i.toInt = j) (hx : x.toInt = v) (hm : m ≤ n ∨ (m = n + 1 ∧ j = n)) (hS : S1 = dg_ul S 40 (vp_updL (S.2.2 40) i.toNatClampNeg x)) : mx_st S1 (e_w f j v, m) ∧ k_rk S S1 := by
  rw [hS]
  refine ⟨fun l hl => ?_, kp.ul kp.rf rfl⟩
  have hl : l < m := hl
  rw [w_l, if_pos rfl, w_uL, show i.toNatClampNeg = j by rw [dk_clN]; omega]
  show _ = (if l = j then v else f l)
  by_cases z : l = j
  · rw [if_pos z, if_pos z]
    exact hx
  · rw [if_neg z, if_neg z]
    exact h l (by omega)
theorem n_s3 (n : Nat) : n + 1 + 1 + 1 - 3 = n := by omega
theorem n_s2 (n : Nat) : n + 1 + 1 + 1 - 2 = n + 1 := by omega
theorem n_s1 (n : Nat) : n + 1 + 1 + 1 - 1 = n + 2 := by omega
theorem n_t2 (n : Nat) : n + 1 + 1 - 2 = n := by omega
theorem n_t1 (n : Nat) : n + 1 + 1 - 1 = n + 1 := by omega
theorem n_u1 (n : Nat) : n + 1 - 1 = n := by omega
end
section
/-! the reference works out a rule, 4 -/
section MV0
variable {o : Nat} {x1 : Int32} {env : Int → Int}
theorem mx_end0 {S : dg_S} {b : Nat} {l : Int} (hx : x1.toInt = b) (hb : b ≤ 1) (h : (S.2.1 17 (3 * b + 0)).toInt = l) (h0 : 0 ≤ l ∧ l ≤ 1600) : ((1600 : Int32) * x1 + S.2.1 17 ((3 : Int32) * x1).toNatClampNeg).toInt = 1600 * b + l := by
  have e1 : ((1600 : Int32) * x1).toInt = 1600 * (b : Int) := dk_mulT (by decide +kernel) hx (by omega) (by omega)
  have e2 : ((3 : Int32) * x1).toInt = 3 * (b : Int) := dk_mulT (by decide +kernel) hx (by omega) (by omega)
  have e3 := e2
  exact dk_addT e1 (by rw [dk_clN, e3, show (3 * (b : Int) : Int).toNat = 3 * b + 0 by omega]; exact h) (by omega) (by omega)
theorem mx_rstep0 {S : dg_S} {f : Nat → Int} {k n : Int32} {s : Int} {t t' : List Bool} (hst : mx_st S (f, t.length)) (hn : n.toInt = t.length) (hk : ¬ (1600 : Int32) * x1 + S.2.1 17 ((3 : Int32) * x1).toNatClampNeg ≤ k) (hc : mx_c1 S k.toInt s) (ht : e_t1 s t = some t') (hv : e_vt f t) (h60 : t.length ≤ 60) (hE : mx_env S = env) :
    ∃ (n1 : Int32) (S1 : dg_S), F_m_reckons_0_B1 x1 o (k, n, S) = .inl (k + 1, n1, S1) ∧ n1.toInt = (e_st env s (f, t.length)).2 ∧ mx_st S1 (e_st env s (f, t.length)) ∧ k_rk S S1 := by
  obtain ⟨hc1, hc2⟩ := hc
  have kn : k.toNatClampNeg = k.toInt.toNat := rfl
  rw [← kn] at hc1 hc2
  unfold mx_so at hc1
  have z1 : (1 : Int64).toInt = 1 := by decide +kernel
  have z30 : (30 : Int32).toInt = 30 := by decide +kernel
  have vb : ∀ (b : Bool) (r : List Bool), t = b :: r → -1000000 ≤ f r.length ∧ f r.length ≤ 1000000 := fun b r e => by
    rw [e] at hv
    exact hv.1.any
  unfold e_t1 at ht
  unfold e_st
  by_cases c0 : 0 ≤ s
  · rw [if_pos c0] at ht hc1 ⊢
    split at ht
    · rename_i c
      have a30 : ¬ (30 : Int32) < S.2.1 18 k.toNatClampNeg := fun z => by have := dk_gtc z30 z; omega
      have a0 : S.2.1 18 k.toNatClampNeg = (0 : Int32) := dk_eqp (k := 0) (by decide +kernel) hc1
      obtain ⟨x1', k1'⟩ := mx_st_up (m := t.length + 1) (x := Int32.toInt64 (S.2.1 19 k.toNatClampNeg)) (v := s) hst hn (by rw [Int32.toInt_toInt64]; exact hc2 c0) (Or.inr ⟨rfl, rfl⟩) rfl
      refine ⟨n + 1, _, F_m_reckons_0_p7 rfl rfl rfl rfl hk rfl a30 a0 rfl rfl rfl rfl rfl, ?_, x1', k1'⟩
      show (n + 1).toInt = ((t.length + 1 : Nat) : Int)
      rw [dk_addT hn (b := 1) (by decide +kernel) (by omega) (by omega)]
      omega
    · cases ht
  rw [if_neg c0] at ht hc1 ⊢
  by_cases c1 : -7 ≤ s
  · rw [if_pos c1]
    have hlen : t.length < 60 := by
      by_cases c2 : -6 ≤ s
      · rw [if_pos c2] at ht
        split at ht
        · assumption
        · cases ht
      · rw [if_neg c2, if_pos (by omega)] at ht
        split at ht
        · assumption
        · cases ht
    have en : (n + 1).toInt = ((t.length + 1 : Nat) : Int) := by
      rw [dk_addT hn (b := 1) (by decide +kernel) (by omega) (by omega)]
      omega
    by_cases c2 : -6 ≤ s
    · rw [if_pos c2] at hc1
      have a30 : ¬ (30 : Int32) < S.2.1 18 k.toNatClampNeg := fun z => by have := dk_gtc z30 z; omega
      have a0 : ¬ S.2.1 18 k.toNatClampNeg = (0 : Int32) := fun z => by have := dk_eqc (k := 0) (by decide +kernel) z; omega
      have a3 : ¬ S.2.1 18 k.toNatClampNeg = (30 : Int32) := fun z => by have := dk_eqc z30 z; omega
      have ev : (S.2.1 41 (S.2.1 18 k.toNatClampNeg).toNatClampNeg).toInt = env s := by
        rw [← hE, dk_clN, hc1]
        unfold mx_env
        rw [if_pos ⟨c2, by omega⟩]
      obtain ⟨x1', k1'⟩ := mx_st_up (m := t.length + 1) (x := Int32.toInt64 (S.2.1 41 (S.2.1 18 k.toNatClampNeg).toNatClampNeg)) (v := env s) hst hn (by rw [Int32.toInt_toInt64]; exact ev) (Or.inr ⟨rfl, rfl⟩) rfl
      exact ⟨n + 1, _, F_m_reckons_0_p5 rfl rfl rfl rfl hk rfl a30 a0 a3 rfl rfl rfl rfl rfl, en, x1', k1'⟩
    · have c7 : s = -7 := by omega
      rw [if_neg c2, if_pos c7] at hc1
      have a30 : ¬ (30 : Int32) < S.2.1 18 k.toNatClampNeg := fun z => by have := dk_gtc z30 z; omega
      have a0 : ¬ S.2.1 18 k.toNatClampNeg = (0 : Int32) := fun z => by have := dk_eqc (k := 0) (by decide +kernel) z; omega
      have a3 : S.2.1 18 k.toNatClampNeg = (30 : Int32) := dk_eqp z30 hc1
      have ev : (1 : Int64).toInt = env s := by
        rw [← hE]
        unfold mx_env
        rw [if_neg (by omega)]
        exact z1
      obtain ⟨x1', k1'⟩ := mx_st_up (m := t.length + 1) (x := (1 : Int64)) (v := env s) hst hn ev (Or.inr ⟨rfl, rfl⟩) rfl
      exact ⟨n + 1, _, F_m_reckons_0_p6 rfl rfl rfl rfl hk rfl a30 a0 a3 rfl rfl rfl, en, x1', k1'⟩
  rw [if_neg c1]
  rw [if_neg (by omega), if_neg (by omega)] at ht hc1
  by_cases c8 : s = -8
  · rw [if_pos c8] at ht hc1 ⊢
    obtain ⟨r, et, et'⟩ := e_m1 ht
    subst et
    simp only [List.length_cons] at h60 hn
    have hb := vb true r rfl
    have a30 : (30 : Int32) < S.2.1 18 k.toNatClampNeg := dk_gtp z30 (by omega)
    have a43 : S.2.1 18 k.toNatClampNeg = (43 : Int32) := dk_eqp (k := 43) (by decide +kernel) hc1
    have e1 : (n - (1 : Int32)).toInt = (r.length : Int) := by
      rw [dk_subT hn (b := 1) (by decide +kernel) (by omega) (by omega)]
      omega
    have g1 := mx_st_at (n := r.length + 1) hst e1 (by omega)
    obtain ⟨x1', k1'⟩ := mx_st_up (m := r.length + 1) (n := r.length + 1) (x := (1 : Int64) - S.2.2 40 (n - (1 : Int32)).toNatClampNeg) (v := 1 - f r.length) hst e1 (l_sub z1 g1 (by omega) (by omega)) (Or.inl (Nat.le_refl _)) rfl
    refine ⟨n, _, F_m_reckons_0_p4 rfl rfl rfl rfl hk rfl a30 a43 rfl rfl rfl rfl rfl rfl, hn, ?_, k1'⟩
    show mx_st _ (e_w f (r.length + 1 - 1) (1 - f (r.length + 1 - 1)), r.length + 1)
    rw [n_u1]
    exact x1'
  rw [if_neg c8] at ht hc1 ⊢
  by_cases c9 : s = -9
  · rw [if_pos c9] at ht hc1 ⊢
    obtain ⟨r, et, et'⟩ := e_m3 ht
    subst et
    simp only [List.length_cons] at h60 hn
    have a30 : (30 : Int32) < S.2.1 18 k.toNatClampNeg := dk_gtp z30 (by omega)
    have a43 : ¬ S.2.1 18 k.toNatClampNeg = (43 : Int32) := fun z => by have := dk_eqc (k := 43) (by decide +kernel) z; omega
    have a44 : S.2.1 18 k.toNatClampNeg = (44 : Int32) := dk_eqp (k := 44) (by decide +kernel) hc1
    have e2 : (n + (-2)).toInt = ((r.length + 1 : Nat) : Int) := by
      rw [dk_addT hn (b := -2) (by decide +kernel) (by omega) (by omega)]
      omega
    have e1 : (n + (-2) - (1 : Int32)).toInt = (r.length : Int) := by
      rw [dk_subT e2 (b := 1) (by decide +kernel) (by omega) (by omega)]
      omega
    have e3 : (n + (-2) + (1 : Int32)).toInt = ((r.length + 2 : Nat) : Int) := by
      rw [dk_addT e2 (b := 1) (by decide +kernel) (by omega) (by omega)]
      omega
    have u1 : r.length < r.length + 1 + 1 + 1 := by omega
    have u2 : r.length + 1 < r.length + 1 + 1 + 1 := by omega
    have u3 : r.length + 2 < r.length + 1 + 1 + 1 := by omega
    have u4 : r.length + 1 ≤ r.length + 1 + 1 + 1 := by omega
    have v3 : r.length + 1 + 1 + 1 - 3 = r.length := n_s3 _
    have v2 : r.length + 1 + 1 + 1 - 2 = r.length + 1 := n_s2 _
    have v1 : r.length + 1 + 1 + 1 - 1 = r.length + 2 := n_s1 _
    have fn : ((r.length + 1 : Nat) : Int) = ((r.length + 1 + 1 + 1 - 2 : Nat) : Int) := by rw [n_s2]
    have g1 := mx_st_at (n := r.length + 1 + 1 + 1) hst e1 u1
    have g2 := mx_st_at (n := r.length + 1 + 1 + 1) hst e2 u2
    have g3 := mx_st_at (n := r.length + 1 + 1 + 1) hst e3 u3
    have fin : ∀ (S1 : dg_S) (v : Int), v = (if f r.length = 1 then f (r.length + 1) else f (r.length + 2)) → mx_st S1 (e_w f r.length v, r.length + 1) → mx_st S1 (e_w f (r.length + 1 + 1 + 1 - 3) (if f (r.length + 1 + 1 + 1 - 3) = 1 then f (r.length + 1 + 1 + 1 - 2) else f (r.length + 1 + 1 + 1 - 1)), r.length + 1 + 1 + 1 - 2) := fun S1 v hv9 h9 => by
      rw [v3, v2, v1, ← hv9]
      exact h9
    by_cases q : lg_cmp (S.2.2 40 (n + (-2) - (1 : Int32)).toNatClampNeg) (1 : Int64) = (0 : Int32)
    · have d := l_eq.mp q
      rw [g1, z1] at d
      obtain ⟨x1', k1'⟩ := mx_st_up (m := r.length + 1) (n := r.length + 1 + 1 + 1) hst e1 g2 (Or.inl u4) rfl
      exact ⟨n + (-2), _, F_m_reckons_0_p3 rfl rfl rfl rfl hk rfl a30 a43 a44 rfl rfl rfl rfl rfl q rfl rfl rfl, e2.trans fn, fin _ _ (by rw [if_pos d]) x1', k1'⟩
    · have d : ¬ f r.length = 1 := fun z => q (l_eq.mpr (by rw [g1, z1, z]))
      obtain ⟨x1', k1'⟩ := mx_st_up (m := r.length + 1) (n := r.length + 1 + 1 + 1) hst e1 g3 (Or.inl u4) rfl
      exact ⟨n + (-2), _, F_m_reckons_0_p2 rfl rfl rfl rfl hk rfl a30 a43 a44 rfl rfl rfl rfl rfl q rfl rfl rfl rfl, e2.trans fn, fin _ _ (by rw [if_neg d]) x1', k1'⟩
  rw [if_neg c9] at ht hc1 ⊢
  have two : ∀ (b1 b2 : Bool) (r : List Bool), t = b1 :: b2 :: r → -21 ≤ s → (s < -19 → (b1 = true ∧ b2 = true)) → ∃ (n1 : Int32) (S1 : dg_S), F_m_reckons_0_B1 x1 o (k, n, S) = .inl (k + 1, n1, S1) ∧ n1.toInt = ((t.length - 1 : Nat) : Int) ∧ mx_st S1 (e_w f (t.length - 2) (e_op s (f (t.length - 2)) (f (t.length - 1))), t.length - 1) ∧ k_rk S S1 := by
    intro b1 b2 r et hs21 hbb
    subst et
    simp only [List.length_cons] at h60 hn
    have a30 : (30 : Int32) < S.2.1 18 k.toNatClampNeg := dk_gtp z30 (by omega)
    have a43 : ¬ S.2.1 18 k.toNatClampNeg = (43 : Int32) := fun z => by have := dk_eqc (k := 43) (by decide +kernel) z; omega
    have a44 : ¬ S.2.1 18 k.toNatClampNeg = (44 : Int32) := fun z => by have := dk_eqc (k := 44) (by decide +kernel) z; omega
    have e2 : (n + (-1)).toInt = ((r.length + 1 : Nat) : Int) := by
      rw [dk_addT hn (b := -1) (by decide +kernel) (by omega) (by omega)]
      omega
    have e1 : (n + (-1) - (1 : Int32)).toInt = (r.length : Int) := by
      rw [dk_subT e2 (b := 1) (by decide +kernel) (by omega) (by omega)]
      omega
    have u1 : r.length < r.length + 1 + 1 := by omega
    have u2 : r.length + 1 < r.length + 1 + 1 := by omega
    have u4 : r.length + 1 ≤ r.length + 1 + 1 := by omega
    have v2 : r.length + 1 + 1 - 2 = r.length := n_t2 _
    have v1 : r.length + 1 + 1 - 1 = r.length + 1 := n_t1 _
    have w1 : 31 ≤ (S.2.1 18 k.toNatClampNeg).toInt ∧ (S.2.1 18 k.toNatClampNeg).toInt ≤ 42 := ⟨by omega, by omega⟩
    have w2 : 41 ≤ (S.2.1 18 k.toNatClampNeg).toInt → s < -19 := fun z => by omega
    have w3 : 21 - (21 - s) = s := by omega
    have fn : ((r.length + 1 : Nat) : Int) = ((r.length + 1 + 1 - 1 : Nat) : Int) := by rw [n_t1]
    have hb1 := vb b1 (b2 :: r) rfl
    have hb2 : -1000000 ≤ f r.length ∧ f r.length ≤ 1000000 := hv.2.1.any
    simp only [List.length_cons] at hb1
    have g1 := mx_st_at (n := r.length + 1 + 1) hst e1 u1
    have g2 := mx_st_at (n := r.length + 1 + 1) hst e2 u2
    have et2 := mx_two (o := o) (S := S) (a1 := S.2.1 18 k.toNatClampNeg) (x := S.2.2 40 (n + (-1) - (1 : Int32)).toNatClampNeg) (y := S.2.2 40 (n + (-1)).toNatClampNeg) w1 (by rw [g1]; exact hb2) (by rw [g2]; exact hb1) (fun z => by
      obtain ⟨y1, y2⟩ := hbb (w2 z)
      subst y1
      subst y2
      rw [g1, g2]
      exact ⟨hv.2.1.tst, hv.1.tst⟩)
    rw [g1, g2, hc1, w3] at et2
    obtain ⟨x1', k1'⟩ := mx_st_up (m := r.length + 1) (n := r.length + 1 + 1) hst e1 et2 (Or.inl u4) rfl
    refine ⟨n + (-1), _, F_m_reckons_0_p1 rfl rfl rfl rfl hk rfl a30 a43 a44 rfl rfl rfl rfl rfl rfl rfl rfl, e2.trans fn, ?_, k1'⟩
    show mx_st _ (e_w f (r.length + 1 + 1 - 2) (e_op s (f (r.length + 1 + 1 - 2)) (f (r.length + 1 + 1 - 1))), r.length + 1 + 1 - 1)
    rw [v2, v1]
    exact x1'
  by_cases c16 : -16 ≤ s
  · rw [if_pos c16] at ht
    obtain ⟨r, et, et'⟩ := e_m2 ht
    exact two _ _ r et (by omega) (fun z => by omega)
  rw [if_neg c16] at ht
  by_cases c19 : -19 ≤ s
  · rw [if_pos c19] at ht
    obtain ⟨r, et, et'⟩ := e_m2 ht
    exact two _ _ r et (by omega) (fun z => by omega)
  rw [if_neg c19] at ht
  by_cases c21 : -21 ≤ s
  · rw [if_pos c21] at ht
    obtain ⟨r, et, et'⟩ := e_m4 ht
    exact two _ _ r et c21 (fun _ => ⟨rfl, rfl⟩)
  · rw [if_neg c21] at ht
    cases ht
theorem mx_rrun0 {z : dg_S × Int64} {b : Nat} {l : Int} {bb : Bool} (hx : x1.toInt = b) (hb : b ≤ 1) (h0 : 0 ≤ l ∧ l ≤ 1600) (h7 : env (-7) = 1) : ∀ (C : List Int) (k n : Int32) (S : dg_S) (f : Nat → Int) (t : List Bool) (fuel : Nat), (∀ i, i < C.length → mx_c1 S (k.toInt + i) (C.getD i 0)) → (S.2.1 17 (3 * b + 0)).toInt = l → k.toInt + C.length = 1600 * b + l → 0 ≤ k.toInt → mx_st S (f, t.length) → n.toInt = t.length → e_vt f t → t.length ≤ 60 → e_ty C t = some [bb] → (∀ s ∈ C, -6 ≤ s → s < 0 → -1000000 ≤ env s ∧ env s ≤ 1000000) → mx_env S = env → C.length < fuel → ∃ (S1 : dg_S) (v : Int64), lp (F_m_reckons_0_B1 x1 o) z fuel (k, n, S) = (S1, v) ∧ v.toInt = (e_run env C (f, t.length)).1 0 ∧ k_rk S S1
  | [], k, n, S, f, t, fuel, hC, he, hk1, hk0, hst, hn, hv, h60, hty, hbn, hE, hf => by
    have et : t = [bb] := Option.some.inj hty
    subst et
    obtain ⟨m, hm⟩ : ∃ m, fuel = m + 1 := ⟨fuel - 1, by have : ([] : List Int).length < fuel := hf; omega⟩
    have ee := mx_end0 hx hb he h0
    have hk1 : k.toInt + ((0 : Nat) : Int) = 1600 * b + l := hk1
    have c0 : (1600 : Int32) * x1 + S.2.1 17 ((3 : Int32) * x1).toNatClampNeg ≤ k := dk_lep (k := k.toInt) rfl (by rw [ee]; omega)
    refine ⟨S, S.2.2 40 (0 : Int32).toNatClampNeg, ?_, mx_st_at (n := 1) hst (by decide +kernel) (by decide), kp.rf⟩
    rw [hm, lp_sr (F_m_reckons_0_p0 rfl rfl rfl rfl c0 rfl)]
  | s :: C, k, n, S, f, t, fuel, hC, he, hk1, hk0, hst, hn, hv, h60, hty, hbn, hE, hf => by
    simp only [List.length_cons] at hk1 hf
    obtain ⟨t1, ht1, hty1⟩ := Option.bind_eq_some_iff.mp (show (e_t1 s t).bind (e_ty C) = some [bb] from hty)
    have hc0 := hC 0 (by simp)
    have hc0 : mx_c1 S (k.toInt + ((0 : Nat) : Int)) s := hc0
    rw [show k.toInt + ((0 : Nat) : Int) = k.toInt by omega] at hc0
    have ee := mx_end0 hx hb he h0
    have c0 : ¬ (1600 : Int32) * x1 + S.2.1 17 ((3 : Int32) * x1).toNatClampNeg ≤ k := fun q => by
      have := dk_lec (k := k.toInt) rfl q
      rw [ee] at this
      omega
    have ek : (k + 1).toInt = k.toInt + 1 := dk_addT rfl (by decide +kernel) (by omega) (by omega)
    obtain ⟨n1, S1, e1, en1, x1', k1'⟩ := mx_rstep0 (o := o) (x1 := x1) (k := k) (n := n) hst hn c0 hc0 ht1 hv h60 hE
    have hs := e_step (q := (f, t.length)) (hbn s (List.mem_cons_self ..)) h7 ht1 hv rfl
    rcases hs with ⟨v1, m1, l1⟩ | hs
    · obtain ⟨m, hm⟩ : ∃ m, fuel = m + 1 := ⟨fuel - 1, by omega⟩
      have x1' : mx_st S1 ((e_st env s (f, t.length)).1, t1.length) := by rw [← m1]; exact x1'
      obtain ⟨S2, v, e2, ev, k2⟩ := mx_rrun0 (z := z) hx hb h0 h7 C (k + 1) n1 S1 (e_st env s (f, t.length)).1 t1 m (fun i hi => by
        have := hC (i + 1) (by simp; omega)
        have this : mx_c1 S (k.toInt + ((i + 1 : Nat) : Int)) (C.getD i 0) := this
        unfold mx_c1 at this ⊢
        rw [k1'.row (by decide), k1'.row (by decide), ek, show k.toInt + 1 + (i : Int) = k.toInt + ((i + 1 : Nat) : Int) by omega]
        exact this) (by rw [k1'.row (by decide)]; exact he) (by rw [ek]; omega) (by omega) x1' (by rw [en1, m1]) v1 l1 hty1 (fun s' hs' => hbn s' (List.mem_cons_of_mem _ hs')) (by rw [k1'.env]; exact hE) (by omega)
      refine ⟨S2, v, ?_, ?_, k1'.tr k2⟩
      · rw [hm, lp_sl e1]
        exact e2
      · rw [ev]
        show (e_run env C ((e_st env s (f, t.length)).1, t1.length)).1 0 = (e_run env C (e_st env s (f, t.length))).1 0
        rw [← m1]
    · omega
theorem mx_told0 {S : dg_S} {b : Nat} {C : List Int} (hx : (zI S 0 13).toInt = b) (hb : b ≤ 1) (h : mx_code S b 0 C) : F_m_isTold_0 o S = 0 ∧ C = [] ∨ F_m_isTold_0 o S = 1 ∧ C ≠ [] := by
  have e2 : ((3 : Int32) * zI S 0 13).toInt = 3 * (b : Int) := dk_mulT (by decide +kernel) hx (by omega) (by omega)
  have e3 := e2
  have en : ((3 : Int32) * zI S 0 13).toNatClampNeg = 3 * b + 0 := by rw [dk_clN, e3]; omega
  rcases h with ⟨h1, h2⟩ | ⟨h1, fr, f0, f1, f2, -, -⟩
  · exact Or.inl ⟨F_m_isTold_0_p0 rfl rfl rfl (by rw [en]; exact dk_eqp (k := -1) (by decide +kernel) h2), h1⟩
  · refine Or.inr ⟨F_m_isTold_0_p1 rfl rfl rfl (fun z => ?_), h1⟩
    rw [en] at z
    have := dk_eqc (k := -1) (by decide +kernel) z
    omega
theorem mx_reckons0 {S : dg_S} {b : Nat} {C : List Int} {bb : Bool} (hx : (zI S 0 13).toInt = b) (hb : b ≤ 1) (h : mx_code S b 0 C) (hC : C ≠ []) (hty : e_ty C [] = some [bb]) (hbn : ∀ s ∈ C, -6 ≤ s → s < 0 → -1000000 ≤ mx_env S s ∧ mx_env S s ≤ 1000000) : ∃ (S1 : dg_S) (v : Int64), F_m_reckons_0 o S = (S1, v) ∧ v.toInt = s_ev (mx_env S) C ∧ k_rk S S1 := by
  rcases h with ⟨h1, -⟩ | ⟨-, fr, f0, f1, f2, f3, f4⟩
  · exact absurd h1 hC
  have e1 : ((1600 : Int32) * zI S 0 13).toInt = 1600 * (b : Int) := dk_mulT (by decide +kernel) hx (by omega) (by omega)
  have e2 : ((3 : Int32) * zI S 0 13).toInt = 3 * (b : Int) := dk_mulT (by decide +kernel) hx (by omega) (by omega)
  have e3 := e2
  have en : ((3 : Int32) * zI S 0 13).toNatClampNeg = 3 * b + 0 := by rw [dk_clN, e3]; omega
  have e4 : ((1600 : Int32) * zI S 0 13 + S.2.1 16 ((3 : Int32) * zI S 0 13).toNatClampNeg).toInt = 1600 * b + fr := dk_addT e1 (by rw [en]; exact f2) (by omega) (by omega)
  obtain ⟨S1, v, r1, r2, r3⟩ := mx_rrun0 (o := o) (x1 := zI S 0 13) (z := (S, (0 : Int64))) (env := mx_env S) hx hb (l := fr + C.length) (by omega) (show mx_env S (-7) = 1 from rfl) C ((1600 : Int32) * zI S 0 13 + S.2.1 16 ((3 : Int32) * zI S 0 13).toNatClampNeg) 0 S (fun _ => 0) [] ((3201 - (((1600 : Int32) * zI S 0 13 + S.2.1 16 ((3 : Int32) * zI S 0 13).toNatClampNeg : Int32)).toInt).toNat + 1) (fun i hi => by rw [e4]; exact f4 i hi) f3 (by rw [e4]; omega) (by rw [e4]; omega) (fun i hi => absurd hi (Nat.not_lt_zero i)) (by decide +kernel) trivial (by decide) hty hbn rfl (by rw [e4]; omega)
  exact ⟨S1, v, (F_m_reckons_0_p8 rfl rfl rfl rfl rfl).trans r1, r2, r3⟩
end MV0
end
section
/-! the reference works out a rule, 5 -/
section MV1
variable {o : Nat} {x1 : Int32} {env : Int → Int}
theorem mx_end1 {S : dg_S} {b : Nat} {l : Int} (hx : x1.toInt = b) (hb : b ≤ 1) (h : (S.2.1 17 (3 * b + 1)).toInt = l) (h0 : 0 ≤ l ∧ l ≤ 1600) : ((1600 : Int32) * x1 + S.2.1 17 ((3 : Int32) * x1 + (1 : Int32)).toNatClampNeg).toInt = 1600 * b + l := by
  have e1 : ((1600 : Int32) * x1).toInt = 1600 * (b : Int) := dk_mulT (by decide +kernel) hx (by omega) (by omega)
  have e2 : ((3 : Int32) * x1).toInt = 3 * (b : Int) := dk_mulT (by decide +kernel) hx (by omega) (by omega)
  have e3 : ((3 : Int32) * x1 + (1 : Int32)).toInt = 3 * (b : Int) + 1 := dk_addT e2 (by decide +kernel) (by omega) (by omega)
  exact dk_addT e1 (by rw [dk_clN, e3, show (3 * (b : Int) + 1 : Int).toNat = 3 * b + 1 by omega]; exact h) (by omega) (by omega)
theorem mx_rstep1 {S : dg_S} {f : Nat → Int} {k n : Int32} {s : Int} {t t' : List Bool} (hst : mx_st S (f, t.length)) (hn : n.toInt = t.length) (hk : ¬ (1600 : Int32) * x1 + S.2.1 17 ((3 : Int32) * x1 + (1 : Int32)).toNatClampNeg ≤ k) (hc : mx_c1 S k.toInt s) (ht : e_t1 s t = some t') (hv : e_vt f t) (h60 : t.length ≤ 60) (hE : mx_env S = env) :
    ∃ (n1 : Int32) (S1 : dg_S), F_m_reckons_1_B1 x1 o (k, n, S) = .inl (k + 1, n1, S1) ∧ n1.toInt = (e_st env s (f, t.length)).2 ∧ mx_st S1 (e_st env s (f, t.length)) ∧ k_rk S S1 := by
  obtain ⟨hc1, hc2⟩ := hc
  have kn : k.toNatClampNeg = k.toInt.toNat := rfl
  rw [← kn] at hc1 hc2
  unfold mx_so at hc1
  have z1 : (1 : Int64).toInt = 1 := by decide +kernel
  have z30 : (30 : Int32).toInt = 30 := by decide +kernel
  have vb : ∀ (b : Bool) (r : List Bool), t = b :: r → -1000000 ≤ f r.length ∧ f r.length ≤ 1000000 := fun b r e => by
    rw [e] at hv
    exact hv.1.any
  unfold e_t1 at ht
  unfold e_st
  by_cases c0 : 0 ≤ s
  · rw [if_pos c0] at ht hc1 ⊢
    split at ht
    · rename_i c
      have a30 : ¬ (30 : Int32) < S.2.1 18 k.toNatClampNeg := fun z => by have := dk_gtc z30 z; omega
      have a0 : S.2.1 18 k.toNatClampNeg = (0 : Int32) := dk_eqp (k := 0) (by decide +kernel) hc1
      obtain ⟨x1', k1'⟩ := mx_st_up (m := t.length + 1) (x := Int32.toInt64 (S.2.1 19 k.toNatClampNeg)) (v := s) hst hn (by rw [Int32.toInt_toInt64]; exact hc2 c0) (Or.inr ⟨rfl, rfl⟩) rfl
      refine ⟨n + 1, _, F_m_reckons_1_p7 rfl rfl rfl rfl rfl hk rfl a30 a0 rfl rfl rfl rfl rfl, ?_, x1', k1'⟩
      show (n + 1).toInt = ((t.length + 1 : Nat) : Int)
      rw [dk_addT hn (b := 1) (by decide +kernel) (by omega) (by omega)]
      omega
    · cases ht
  rw [if_neg c0] at ht hc1 ⊢
  by_cases c1 : -7 ≤ s
  · rw [if_pos c1]
    have hlen : t.length < 60 := by
      by_cases c2 : -6 ≤ s
      · rw [if_pos c2] at ht
        split at ht
        · assumption
        · cases ht
      · rw [if_neg c2, if_pos (by omega)] at ht
        split at ht
        · assumption
        · cases ht
    have en : (n + 1).toInt = ((t.length + 1 : Nat) : Int) := by
      rw [dk_addT hn (b := 1) (by decide +kernel) (by omega) (by omega)]
      omega
    by_cases c2 : -6 ≤ s
    · rw [if_pos c2] at hc1
      have a30 : ¬ (30 : Int32) < S.2.1 18 k.toNatClampNeg := fun z => by have := dk_gtc z30 z; omega
      have a0 : ¬ S.2.1 18 k.toNatClampNeg = (0 : Int32) := fun z => by have := dk_eqc (k := 0) (by decide +kernel) z; omega
      have a3 : ¬ S.2.1 18 k.toNatClampNeg = (30 : Int32) := fun z => by have := dk_eqc z30 z; omega
      have ev : (S.2.1 41 (S.2.1 18 k.toNatClampNeg).toNatClampNeg).toInt = env s := by
        rw [← hE, dk_clN, hc1]
        unfold mx_env
        rw [if_pos ⟨c2, by omega⟩]
      obtain ⟨x1', k1'⟩ := mx_st_up (m := t.length + 1) (x := Int32.toInt64 (S.2.1 41 (S.2.1 18 k.toNatClampNeg).toNatClampNeg)) (v := env s) hst hn (by rw [Int32.toInt_toInt64]; exact ev) (Or.inr ⟨rfl, rfl⟩) rfl
      exact ⟨n + 1, _, F_m_reckons_1_p5 rfl rfl rfl rfl rfl hk rfl a30 a0 a3 rfl rfl rfl rfl rfl, en, x1', k1'⟩
    · have c7 : s = -7 := by omega
      rw [if_neg c2, if_pos c7] at hc1
      have a30 : ¬ (30 : Int32) < S.2.1 18 k.toNatClampNeg := fun z => by have := dk_gtc z30 z; omega
      have a0 : ¬ S.2.1 18 k.toNatClampNeg = (0 : Int32) := fun z => by have := dk_eqc (k := 0) (by decide +kernel) z; omega
      have a3 : S.2.1 18 k.toNatClampNeg = (30 : Int32) := dk_eqp z30 hc1
      have ev : (1 : Int64).toInt = env s := by
        rw [← hE]
        unfold mx_env
        rw [if_neg (by omega)]
        exact z1
      obtain ⟨x1', k1'⟩ := mx_st_up (m := t.length + 1) (x := (1 : Int64)) (v := env s) hst hn ev (Or.inr ⟨rfl, rfl⟩) rfl
      exact ⟨n + 1, _, F_m_reckons_1_p6 rfl rfl rfl rfl rfl hk rfl a30 a0 a3 rfl rfl rfl, en, x1', k1'⟩
  rw [if_neg c1]
  rw [if_neg (by omega), if_neg (by omega)] at ht hc1
  by_cases c8 : s = -8
  · rw [if_pos c8] at ht hc1 ⊢
    obtain ⟨r, et, et'⟩ := e_m1 ht
    subst et
    simp only [List.length_cons] at h60 hn
    have hb := vb true r rfl
    have a30 : (30 : Int32) < S.2.1 18 k.toNatClampNeg := dk_gtp z30 (by omega)
    have a43 : S.2.1 18 k.toNatClampNeg = (43 : Int32) := dk_eqp (k := 43) (by decide +kernel) hc1
    have e1 : (n - (1 : Int32)).toInt = (r.length : Int) := by
      rw [dk_subT hn (b := 1) (by decide +kernel) (by omega) (by omega)]
      omega
    have g1 := mx_st_at (n := r.length + 1) hst e1 (by omega)
    obtain ⟨x1', k1'⟩ := mx_st_up (m := r.length + 1) (n := r.length + 1) (x := (1 : Int64) - S.2.2 40 (n - (1 : Int32)).toNatClampNeg) (v := 1 - f r.length) hst e1 (l_sub z1 g1 (by omega) (by omega)) (Or.inl (Nat.le_refl _)) rfl
    refine ⟨n, _, F_m_reckons_1_p4 rfl rfl rfl rfl rfl hk rfl a30 a43 rfl rfl rfl rfl rfl rfl, hn, ?_, k1'⟩
    show mx_st _ (e_w f (r.length + 1 - 1) (1 - f (r.length + 1 - 1)), r.length + 1)
    rw [n_u1]
    exact x1'
  rw [if_neg c8] at ht hc1 ⊢
  by_cases c9 : s = -9
  · rw [if_pos c9] at ht hc1 ⊢
    obtain ⟨r, et, et'⟩ := e_m3 ht
    subst et
    simp only [List.length_cons] at h60 hn
    have a30 : (30 : Int32) < S.2.1 18 k.toNatClampNeg := dk_gtp z30 (by omega)
    have a43 : ¬ S.2.1 18 k.toNatClampNeg = (43 : Int32) := fun z => by have := dk_eqc (k := 43) (by decide +kernel) z; omega
    have a44 : S.2.1 18 k.toNatClampNeg = (44 : Int32) := dk_eqp (k := 44) (by decide +kernel) hc1
    have e2 : (n + (-2)).toInt = ((r.length + 1 : Nat) : Int) := by
      rw [dk_addT hn (b := -2) (by decide +kernel) (by omega) (by omega)]
      omega
    have e1 : (n + (-2) - (1 : Int32)).toInt = (r.length : Int) := by
      rw [dk_subT e2 (b := 1) (by decide +kernel) (by omega) (by omega)]
      omega
    have e3 : (n + (-2) + (1 : Int32)).toInt = ((r.length + 2 : Nat) : Int) := by
      rw [dk_addT e2 (b := 1) (by decide +kernel) (by omega) (by omega)]
      omega
    have u1 : r.length < r.length + 1 + 1 + 1 := by omega
    have u2 : r.length + 1 < r.length + 1 + 1 + 1 := by omega
    have u3 : r.length + 2 < r.length + 1 + 1 + 1 := by omega
    have u4 : r.length + 1 ≤ r.length + 1 + 1 + 1 := by omega
    have v3 : r.length + 1 + 1 + 1 - 3 = r.length := n_s3 _
    have v2 : r.length + 1 + 1 + 1 - 2 = r.length + 1 := n_s2 _
    have v1 : r.length + 1 + 1 + 1 - 1 = r.length + 2 := n_s1 _
    have fn : ((r.length + 1 : Nat) : Int) = ((r.length + 1 + 1 + 1 - 2 : Nat) : Int) := by rw [n_s2]
    have g1 := mx_st_at (n := r.length + 1 + 1 + 1) hst e1 u1
    have g2 := mx_st_at (n := r.length + 1 + 1 + 1) hst e2 u2
    have g3 := mx_st_at (n := r.length + 1 + 1 + 1) hst e3 u3
    have fin : ∀ (S1 : dg_S) (v : Int), v = (if f r.length = 1 then f (r.length + 1) else f (r.length + 2)) → mx_st S1 (e_w f r.length v, r.length + 1) → mx_st S1 (e_w f (r.length + 1 + 1 + 1 - 3) (if f (r.length + 1 + 1 + 1 - 3) = 1 then f (r.length + 1 + 1 + 1 - 2) else f (r.length + 1 + 1 + 1 - 1)), r.length + 1 + 1 + 1 - 2) := fun S1 v hv9 h9 => by
      rw [v3, v2, v1, ← hv9]
      exact h9
    by_cases q : lg_cmp (S.2.2 40 (n + (-2) - (1 : Int32)).toNatClampNeg) (1 : Int64) = (0 : Int32)
    · have d := l_eq.mp q
      rw [g1, z1] at d
      obtain ⟨x1', k1'⟩ := mx_st_up (m := r.length + 1) (n := r.length + 1 + 1 + 1) hst e1 g2 (Or.inl u4) rfl
      exact ⟨n + (-2), _, F_m_reckons_1_p3 rfl rfl rfl rfl rfl hk rfl a30 a43 a44 rfl rfl rfl rfl rfl q rfl rfl rfl, e2.trans fn, fin _ _ (by rw [if_pos d]) x1', k1'⟩
    · have d : ¬ f r.length = 1 := fun z => q (l_eq.mpr (by rw [g1, z1, z]))
      obtain ⟨x1', k1'⟩ := mx_st_up (m := r.length + 1) (n := r.length + 1 + 1 + 1) hst e1 g3 (Or.inl u4) rfl
      exact ⟨n + (-2), _, F_m_reckons_1_p2 rfl rfl rfl rfl rfl hk rfl a30 a43 a44 rfl rfl rfl rfl rfl q rfl rfl rfl rfl, e2.trans fn, fin _ _ (by rw [if_neg d]) x1', k1'⟩
  rw [if_neg c9] at ht hc1 ⊢
  have two : ∀ (b1 b2 : Bool) (r : List Bool), t = b1 :: b2 :: r → -21 ≤ s → (s < -19 → (b1 = true ∧ b2 = true)) → ∃ (n1 : Int32) (S1 : dg_S), F_m_reckons_1_B1 x1 o (k, n, S) = .inl (k + 1, n1, S1) ∧ n1.toInt = ((t.length - 1 : Nat) : Int) ∧ mx_st S1 (e_w f (t.length - 2) (e_op s (f (t.length - 2)) (f (t.length - 1))), t.length - 1) ∧ k_rk S S1 := by
    intro b1 b2 r et hs21 hbb
    subst et
    simp only [List.length_cons] at h60 hn
    have a30 : (30 : Int32) < S.2.1 18 k.toNatClampNeg := dk_gtp z30 (by omega)
    have a43 : ¬ S.2.1 18 k.toNatClampNeg = (43 : Int32) := fun z => by have := dk_eqc (k := 43) (by decide +kernel) z; omega
    have a44 : ¬ S.2.1 18 k.toNatClampNeg = (44 : Int32) := fun z => by have := dk_eqc (k := 44) (by decide +kernel) z; omega
    have e2 : (n + (-1)).toInt = ((r.length + 1 : Nat) : Int) := by
      rw [dk_addT hn (b := -1) (by decide +kernel) (by omega) (by omega)]
      omega
    have e1 : (n + (-1) - (1 : Int32)).toInt = (r.length : Int) := by
      rw [dk_subT e2 (b := 1) (by decide +kernel) (by omega) (by omega)]
      omega
    have u1 : r.length < r.length + 1 + 1 := by omega
    have u2 : r.length + 1 < r.length + 1 + 1 := by omega
    have u4 : r.length + 1 ≤ r.length + 1 + 1 := by omega
    have v2 : r.length + 1 + 1 - 2 = r.length := n_t2 _
    have v1 : r.length + 1 + 1 - 1 = r.length + 1 := n_t1 _
    have w1 : 31 ≤ (S.2.1 18 k.toNatClampNeg).toInt ∧ (S.2.1 18 k.toNatClampNeg).toInt ≤ 42 := ⟨by omega, by omega⟩
    have w2 : 41 ≤ (S.2.1 18 k.toNatClampNeg).toInt → s < -19 := fun z => by omega
    have w3 : 21 - (21 - s) = s := by omega
    have fn : ((r.length + 1 : Nat) : Int) = ((r.length + 1 + 1 - 1 : Nat) : Int) := by rw [n_t1]
    have hb1 := vb b1 (b2 :: r) rfl
    have hb2 : -1000000 ≤ f r.length ∧ f r.length ≤ 1000000 := hv.2.1.any
    simp only [List.length_cons] at hb1
    have g1 := mx_st_at (n := r.length + 1 + 1) hst e1 u1
    have g2 := mx_st_at (n := r.length + 1 + 1) hst e2 u2
    have et2 := mx_two (o := o) (S := S) (a1 := S.2.1 18 k.toNatClampNeg) (x := S.2.2 40 (n + (-1) - (1 : Int32)).toNatClampNeg) (y := S.2.2 40 (n + (-1)).toNatClampNeg) w1 (by rw [g1]; exact hb2) (by rw [g2]; exact hb1) (fun z => by
      obtain ⟨y1, y2⟩ := hbb (w2 z)
      subst y1
      subst y2
      rw [g1, g2]
      exact ⟨hv.2.1.tst, hv.1.tst⟩)
    rw [g1, g2, hc1, w3] at et2
    obtain ⟨x1', k1'⟩ := mx_st_up (m := r.length + 1) (n := r.length + 1 + 1) hst e1 et2 (Or.inl u4) rfl
    refine ⟨n + (-1), _, F_m_reckons_1_p1 rfl rfl rfl rfl rfl hk rfl a30 a43 a44 rfl rfl rfl rfl rfl rfl rfl rfl, e2.trans fn, ?_, k1'⟩
    show mx_st _ (e_w f (r.length + 1 + 1 - 2) (e_op s (f (r.length + 1 + 1 - 2)) (f (r.length + 1 + 1 - 1))), r.length + 1 + 1 - 1)
    rw [v2, v1]
    exact x1'
  by_cases c16 : -16 ≤ s
  · rw [if_pos c16] at ht
    obtain ⟨r, et, et'⟩ := e_m2 ht
    exact two _ _ r et (by omega) (fun z => by omega)
  rw [if_neg c16] at ht
  by_cases c19 : -19 ≤ s
  · rw [if_pos c19] at ht
    obtain ⟨r, et, et'⟩ := e_m2 ht
    exact two _ _ r et (by omega) (fun z => by omega)
  rw [if_neg c19] at ht
  by_cases c21 : -21 ≤ s
  · rw [if_pos c21] at ht
    obtain ⟨r, et, et'⟩ := e_m4 ht
    exact two _ _ r et c21 (fun _ => ⟨rfl, rfl⟩)
  · rw [if_neg c21] at ht
    cases ht
theorem mx_rrun1 {z : dg_S × Int64} {b : Nat} {l : Int} {bb : Bool} (hx : x1.toInt = b) (hb : b ≤ 1) (h0 : 0 ≤ l ∧ l ≤ 1600) (h7 : env (-7) = 1) : ∀ (C : List Int) (k n : Int32) (S : dg_S) (f : Nat → Int) (t : List Bool) (fuel : Nat), (∀ i, i < C.length → mx_c1 S (k.toInt + i) (C.getD i 0)) → (S.2.1 17 (3 * b + 1)).toInt = l → k.toInt + C.length = 1600 * b + l → 0 ≤ k.toInt → mx_st S (f, t.length) → n.toInt = t.length → e_vt f t → t.length ≤ 60 → e_ty C t = some [bb] → (∀ s ∈ C, -6 ≤ s → s < 0 → -1000000 ≤ env s ∧ env s ≤ 1000000) → mx_env S = env → C.length < fuel → ∃ (S1 : dg_S) (v : Int64), lp (F_m_reckons_1_B1 x1 o) z fuel (k, n, S) = (S1, v) ∧ v.toInt = (e_run env C (f, t.length)).1 0 ∧ k_rk S S1
  | [], k, n, S, f, t, fuel, hC, he, hk1, hk0, hst, hn, hv, h60, hty, hbn, hE, hf => by
    have et : t = [bb] := Option.some.inj hty
    subst et
    obtain ⟨m, hm⟩ : ∃ m, fuel = m + 1 := ⟨fuel - 1, by have : ([] : List Int).length < fuel := hf; omega⟩
    have ee := mx_end1 hx hb he h0
    have hk1 : k.toInt + ((0 : Nat) : Int) = 1600 * b + l := hk1
    have c0 : (1600 : Int32) * x1 + S.2.1 17 ((3 : Int32) * x1 + (1 : Int32)).toNatClampNeg ≤ k := dk_lep (k := k.toInt) rfl (by rw [ee]; omega)
    refine ⟨S, S.2.2 40 (0 : Int32).toNatClampNeg, ?_, mx_st_at (n := 1) hst (by decide +kernel) (by decide), kp.rf⟩
    rw [hm, lp_sr (F_m_reckons_1_p0 rfl rfl rfl rfl rfl c0 rfl)]
  | s :: C, k, n, S, f, t, fuel, hC, he, hk1, hk0, hst, hn, hv, h60, hty, hbn, hE, hf => by
    simp only [List.length_cons] at hk1 hf
    obtain ⟨t1, ht1, hty1⟩ := Option.bind_eq_some_iff.mp (show (e_t1 s t).bind (e_ty C) = some [bb] from hty)
    have hc0 := hC 0 (by simp)
    have hc0 : mx_c1 S (k.toInt + ((0 : Nat) : Int)) s := hc0
    rw [show k.toInt + ((0 : Nat) : Int) = k.toInt by omega] at hc0
    have ee := mx_end1 hx hb he h0
    have c0 : ¬ (1600 : Int32) * x1 + S.2.1 17 ((3 : Int32) * x1 + (1 : Int32)).toNatClampNeg ≤ k := fun q => by
      have := dk_lec (k := k.toInt) rfl q
      rw [ee] at this
      omega
    have ek : (k + 1).toInt = k.toInt + 1 := dk_addT rfl (by decide +kernel) (by omega) (by omega)
    obtain ⟨n1, S1, e1, en1, x1', k1'⟩ := mx_rstep1 (o := o) (x1 := x1) (k := k) (n := n) hst hn c0 hc0 ht1 hv h60 hE
    have hs := e_step (q := (f, t.length)) (hbn s (List.mem_cons_self ..)) h7 ht1 hv rfl
    rcases hs with ⟨v1, m1, l1⟩ | hs
    · obtain ⟨m, hm⟩ : ∃ m, fuel = m + 1 := ⟨fuel - 1, by omega⟩
      have x1' : mx_st S1 ((e_st env s (f, t.length)).1, t1.length) := by rw [← m1]; exact x1'
      obtain ⟨S2, v, e2, ev, k2⟩ := mx_rrun1 (z := z) hx hb h0 h7 C (k + 1) n1 S1 (e_st env s (f, t.length)).1 t1 m (fun i hi => by
        have := hC (i + 1) (by simp; omega)
        have this : mx_c1 S (k.toInt + ((i + 1 : Nat) : Int)) (C.getD i 0) := this
        unfold mx_c1 at this ⊢
        rw [k1'.row (by decide), k1'.row (by decide), ek, show k.toInt + 1 + (i : Int) = k.toInt + ((i + 1 : Nat) : Int) by omega]
        exact this) (by rw [k1'.row (by decide)]; exact he) (by rw [ek]; omega) (by omega) x1' (by rw [en1, m1]) v1 l1 hty1 (fun s' hs' => hbn s' (List.mem_cons_of_mem _ hs')) (by rw [k1'.env]; exact hE) (by omega)
      refine ⟨S2, v, ?_, ?_, k1'.tr k2⟩
      · rw [hm, lp_sl e1]
        exact e2
      · rw [ev]
        show (e_run env C ((e_st env s (f, t.length)).1, t1.length)).1 0 = (e_run env C (e_st env s (f, t.length))).1 0
        rw [← m1]
    · omega
theorem mx_told1 {S : dg_S} {b : Nat} {C : List Int} (hx : (zI S 0 13).toInt = b) (hb : b ≤ 1) (h : mx_code S b 1 C) : F_m_isTold_1 o S = 0 ∧ C = [] ∨ F_m_isTold_1 o S = 1 ∧ C ≠ [] := by
  have e2 : ((3 : Int32) * zI S 0 13).toInt = 3 * (b : Int) := dk_mulT (by decide +kernel) hx (by omega) (by omega)
  have e3 : ((3 : Int32) * zI S 0 13 + (1 : Int32)).toInt = 3 * (b : Int) + 1 := dk_addT e2 (by decide +kernel) (by omega) (by omega)
  have en : ((3 : Int32) * zI S 0 13 + (1 : Int32)).toNatClampNeg = 3 * b + 1 := by rw [dk_clN, e3]; omega
  rcases h with ⟨h1, h2⟩ | ⟨h1, fr, f0, f1, f2, -, -⟩
  · exact Or.inl ⟨F_m_isTold_1_p0 rfl rfl rfl rfl (by rw [en]; exact dk_eqp (k := -1) (by decide +kernel) h2), h1⟩
  · refine Or.inr ⟨F_m_isTold_1_p1 rfl rfl rfl rfl (fun z => ?_), h1⟩
    rw [en] at z
    have := dk_eqc (k := -1) (by decide +kernel) z
    omega
theorem mx_reckons1 {S : dg_S} {b : Nat} {C : List Int} {bb : Bool} (hx : (zI S 0 13).toInt = b) (hb : b ≤ 1) (h : mx_code S b 1 C) (hC : C ≠ []) (hty : e_ty C [] = some [bb]) (hbn : ∀ s ∈ C, -6 ≤ s → s < 0 → -1000000 ≤ mx_env S s ∧ mx_env S s ≤ 1000000) : ∃ (S1 : dg_S) (v : Int64), F_m_reckons_1 o S = (S1, v) ∧ v.toInt = s_ev (mx_env S) C ∧ k_rk S S1 := by
  rcases h with ⟨h1, -⟩ | ⟨-, fr, f0, f1, f2, f3, f4⟩
  · exact absurd h1 hC
  have e1 : ((1600 : Int32) * zI S 0 13).toInt = 1600 * (b : Int) := dk_mulT (by decide +kernel) hx (by omega) (by omega)
  have e2 : ((3 : Int32) * zI S 0 13).toInt = 3 * (b : Int) := dk_mulT (by decide +kernel) hx (by omega) (by omega)
  have e3 : ((3 : Int32) * zI S 0 13 + (1 : Int32)).toInt = 3 * (b : Int) + 1 := dk_addT e2 (by decide +kernel) (by omega) (by omega)
  have en : ((3 : Int32) * zI S 0 13 + (1 : Int32)).toNatClampNeg = 3 * b + 1 := by rw [dk_clN, e3]; omega
  have e4 : ((1600 : Int32) * zI S 0 13 + S.2.1 16 ((3 : Int32) * zI S 0 13 + (1 : Int32)).toNatClampNeg).toInt = 1600 * b + fr := dk_addT e1 (by rw [en]; exact f2) (by omega) (by omega)
  obtain ⟨S1, v, r1, r2, r3⟩ := mx_rrun1 (o := o) (x1 := zI S 0 13) (z := (S, (0 : Int64))) (env := mx_env S) hx hb (l := fr + C.length) (by omega) (show mx_env S (-7) = 1 from rfl) C ((1600 : Int32) * zI S 0 13 + S.2.1 16 ((3 : Int32) * zI S 0 13 + (1 : Int32)).toNatClampNeg) 0 S (fun _ => 0) [] ((3201 - (((1600 : Int32) * zI S 0 13 + S.2.1 16 ((3 : Int32) * zI S 0 13 + (1 : Int32)).toNatClampNeg : Int32)).toInt).toNat + 1) (fun i hi => by rw [e4]; exact f4 i hi) f3 (by rw [e4]; omega) (by rw [e4]; omega) (fun i hi => absurd hi (Nat.not_lt_zero i)) (by decide +kernel) trivial (by decide) hty hbn rfl (by rw [e4]; omega)
  exact ⟨S1, v, (F_m_reckons_1_p8 rfl rfl rfl rfl rfl rfl).trans r1, r2, r3⟩
end MV1
end
section
/-! the reference works out a rule, 6 -/
section MV2
variable {o : Nat} {x1 : Int32} {env : Int → Int}
theorem mx_end2 {S : dg_S} {b : Nat} {l : Int} (hx : x1.toInt = b) (hb : b ≤ 1) (h : (S.2.1 17 (3 * b + 2)).toInt = l) (h0 : 0 ≤ l ∧ l ≤ 1600) : ((1600 : Int32) * x1 + S.2.1 17 ((3 : Int32) * x1 + (2 : Int32)).toNatClampNeg).toInt = 1600 * b + l := by
  have e1 : ((1600 : Int32) * x1).toInt = 1600 * (b : Int) := dk_mulT (by decide +kernel) hx (by omega) (by omega)
  have e2 : ((3 : Int32) * x1).toInt = 3 * (b : Int) := dk_mulT (by decide +kernel) hx (by omega) (by omega)
  have e3 : ((3 : Int32) * x1 + (2 : Int32)).toInt = 3 * (b : Int) + 2 := dk_addT e2 (by decide +kernel) (by omega) (by omega)
  exact dk_addT e1 (by rw [dk_clN, e3, show (3 * (b : Int) + 2 : Int).toNat = 3 * b + 2 by omega]; exact h) (by omega) (by omega)
theorem mx_rstep2 {S : dg_S} {f : Nat → Int} {k n : Int32} {s : Int} {t t' : List Bool} (hst : mx_st S (f, t.length)) (hn : n.toInt = t.length) (hk : ¬ (1600 : Int32) * x1 + S.2.1 17 ((3 : Int32) * x1 + (2 : Int32)).toNatClampNeg ≤ k) (hc : mx_c1 S k.toInt s) (ht : e_t1 s t = some t') (hv : e_vt f t) (h60 : t.length ≤ 60) (hE : mx_env S = env) :
    ∃ (n1 : Int32) (S1 : dg_S), F_m_reckons_2_B1 x1 o (k, n, S) = .inl (k + 1, n1, S1) ∧ n1.toInt = (e_st env s (f, t.length)).2 ∧ mx_st S1 (e_st env s (f, t.length)) ∧ k_rk S S1 := by
  obtain ⟨hc1, hc2⟩ := hc
  have kn : k.toNatClampNeg = k.toInt.toNat := rfl
  rw [← kn] at hc1 hc2
  unfold mx_so at hc1
  have z1 : (1 : Int64).toInt = 1 := by decide +kernel
  have z30 : (30 : Int32).toInt = 30 := by decide +kernel
  have vb : ∀ (b : Bool) (r : List Bool), t = b :: r → -1000000 ≤ f r.length ∧ f r.length ≤ 1000000 := fun b r e => by
    rw [e] at hv
    exact hv.1.any
  unfold e_t1 at ht
  unfold e_st
  by_cases c0 : 0 ≤ s
  · rw [if_pos c0] at ht hc1 ⊢
    split at ht
    · rename_i c
      have a30 : ¬ (30 : Int32) < S.2.1 18 k.toNatClampNeg := fun z => by have := dk_gtc z30 z; omega
      have a0 : S.2.1 18 k.toNatClampNeg = (0 : Int32) := dk_eqp (k := 0) (by decide +kernel) hc1
      obtain ⟨x1', k1'⟩ := mx_st_up (m := t.length + 1) (x := Int32.toInt64 (S.2.1 19 k.toNatClampNeg)) (v := s) hst hn (by rw [Int32.toInt_toInt64]; exact hc2 c0) (Or.inr ⟨rfl, rfl⟩) rfl
      refine ⟨n + 1, _, F_m_reckons_2_p7 rfl rfl rfl rfl rfl hk rfl a30 a0 rfl rfl rfl rfl rfl, ?_, x1', k1'⟩
      show (n + 1).toInt = ((t.length + 1 : Nat) : Int)
      rw [dk_addT hn (b := 1) (by decide +kernel) (by omega) (by omega)]
      omega
    · cases ht
  rw [if_neg c0] at ht hc1 ⊢
  by_cases c1 : -7 ≤ s
  · rw [if_pos c1]
    have hlen : t.length < 60 := by
      by_cases c2 : -6 ≤ s
      · rw [if_pos c2] at ht
        split at ht
        · assumption
        · cases ht
      · rw [if_neg c2, if_pos (by omega)] at ht
        split at ht
        · assumption
        · cases ht
    have en : (n + 1).toInt = ((t.length + 1 : Nat) : Int) := by
      rw [dk_addT hn (b := 1) (by decide +kernel) (by omega) (by omega)]
      omega
    by_cases c2 : -6 ≤ s
    · rw [if_pos c2] at hc1
      have a30 : ¬ (30 : Int32) < S.2.1 18 k.toNatClampNeg := fun z => by have := dk_gtc z30 z; omega
      have a0 : ¬ S.2.1 18 k.toNatClampNeg = (0 : Int32) := fun z => by have := dk_eqc (k := 0) (by decide +kernel) z; omega
      have a3 : ¬ S.2.1 18 k.toNatClampNeg = (30 : Int32) := fun z => by have := dk_eqc z30 z; omega
      have ev : (S.2.1 41 (S.2.1 18 k.toNatClampNeg).toNatClampNeg).toInt = env s := by
        rw [← hE, dk_clN, hc1]
        unfold mx_env
        rw [if_pos ⟨c2, by omega⟩]
      obtain ⟨x1', k1'⟩ := mx_st_up (m := t.length + 1) (x := Int32.toInt64 (S.2.1 41 (S.2.1 18 k.toNatClampNeg).toNatClampNeg)) (v := env s) hst hn (by rw [Int32.toInt_toInt64]; exact ev) (Or.inr ⟨rfl, rfl⟩) rfl
      exact ⟨n + 1, _, F_m_reckons_2_p5 rfl rfl rfl rfl rfl hk rfl a30 a0 a3 rfl rfl rfl rfl rfl, en, x1', k1'⟩
    · have c7 : s = -7 := by omega
      rw [if_neg c2, if_pos c7] at hc1
      have a30 : ¬ (30 : Int32) < S.2.1 18 k.toNatClampNeg := fun z => by have := dk_gtc z30 z; omega
      have a0 : ¬ S.2.1 18 k.toNatClampNeg = (0 : Int32) := fun z => by have := dk_eqc (k := 0) (by decide +kernel) z; omega
      have a3 : S.2.1 18 k.toNatClampNeg = (30 : Int32) := dk_eqp z30 hc1
      have ev : (1 : Int64).toInt = env s := by
        rw [← hE]
        unfold mx_env
        rw [if_neg (by omega)]
        exact z1
      obtain ⟨x1', k1'⟩ := mx_st_up (m := t.length + 1) (x := (1 : Int64)) (v := env s) hst hn ev (Or.inr ⟨rfl, rfl⟩) rfl
      exact ⟨n + 1, _, F_m_reckons_2_p6 rfl rfl rfl rfl rfl hk rfl a30 a0 a3 rfl rfl rfl, en, x1', k1'⟩
  rw [if_neg c1]
  rw [if_neg (by omega), if_neg (by omega)] at ht hc1
  by_cases c8 : s = -8
  · rw [if_pos c8] at ht hc1 ⊢
    obtain ⟨r, et, et'⟩ := e_m1 ht
    subst et
    simp only [List.length_cons] at h60 hn
    have hb := vb true r rfl
    have a30 : (30 : Int32) < S.2.1 18 k.toNatClampNeg := dk_gtp z30 (by omega)
    have a43 : S.2.1 18 k.toNatClampNeg = (43 : Int32) := dk_eqp (k := 43) (by decide +kernel) hc1
    have e1 : (n - (1 : Int32)).toInt = (r.length : Int) := by
      rw [dk_subT hn (b := 1) (by decide +kernel) (by omega) (by omega)]
      omega
    have g1 := mx_st_at (n := r.length + 1) hst e1 (by omega)
    obtain ⟨x1', k1'⟩ := mx_st_up (m := r.length + 1) (n := r.length + 1) (x := (1 : Int64) - S.2.2 40 (n - (1 : Int32)).toNatClampNeg) (v := 1 - f r.length) hst e1 (l_sub z1 g1 (by omega) (by omega)) (Or.inl (Nat.le_refl _)) rfl
    refine ⟨n, _, F_m_reckons_2_p4 rfl rfl rfl rfl rfl hk rfl a30 a43 rfl rfl rfl rfl rfl rfl, hn, ?_, k1'⟩
    show mx_st _ (e_w f (r.length + 1 - 1) (1 - f (r.length + 1 - 1)), r.length + 1)
    rw [n_u1]
    exact x1'
  rw [if_neg c8] at ht hc1 ⊢
  by_cases c9 : s = -9
  · rw [if_pos c9] at ht hc1 ⊢
    obtain ⟨r, et, et'⟩ := e_m3 ht
    subst et
    simp only [List.length_cons] at h60 hn
    have a30 : (30 : Int32) < S.2.1 18 k.toNatClampNeg := dk_gtp z30 (by omega)
    have a43 : ¬ S.2.1 18 k.toNatClampNeg = (43 : Int32) := fun z => by have := dk_eqc (k := 43) (by decide +kernel) z; omega
    have a44 : S.2.1 18 k.toNatClampNeg = (44 : Int32) := dk_eqp (k := 44) (by decide +kernel) hc1
    have e2 : (n + (-2)).toInt = ((r.length + 1 : Nat) : Int) := by
      rw [dk_addT hn (b := -2) (by decide +kernel) (by omega) (by omega)]
      omega
    have e1 : (n + (-2) - (1 : Int32)).toInt = (r.length : Int) := by
      rw [dk_subT e2 (b := 1) (by decide +kernel) (by omega) (by omega)]
      omega
    have e3 : (n + (-2) + (1 : Int32)).toInt = ((r.length + 2 : Nat) : Int) := by
      rw [dk_addT e2 (b := 1) (by decide +kernel) (by omega) (by omega)]
      omega
    have u1 : r.length < r.length + 1 + 1 + 1 := by omega
    have u2 : r.length + 1 < r.length + 1 + 1 + 1 := by omega
    have u3 : r.length + 2 < r.length + 1 + 1 + 1 := by omega
    have u4 : r.length + 1 ≤ r.length + 1 + 1 + 1 := by omega
    have v3 : r.length + 1 + 1 + 1 - 3 = r.length := n_s3 _
    have v2 : r.length + 1 + 1 + 1 - 2 = r.length + 1 := n_s2 _
    have v1 : r.length + 1 + 1 + 1 - 1 = r.length + 2 := n_s1 _
    have fn : ((r.length + 1 : Nat) : Int) = ((r.length + 1 + 1 + 1 - 2 : Nat) : Int) := by rw [n_s2]
    have g1 := mx_st_at (n := r.length + 1 + 1 + 1) hst e1 u1
    have g2 := mx_st_at (n := r.length + 1 + 1 + 1) hst e2 u2
    have g3 := mx_st_at (n := r.length + 1 + 1 + 1) hst e3 u3
    have fin : ∀ (S1 : dg_S) (v : Int), v = (if f r.length = 1 then f (r.length + 1) else f (r.length + 2)) → mx_st S1 (e_w f r.length v, r.length + 1) → mx_st S1 (e_w f (r.length + 1 + 1 + 1 - 3) (if f (r.length + 1 + 1 + 1 - 3) = 1 then f (r.length + 1 + 1 + 1 - 2) else f (r.length + 1 + 1 + 1 - 1)), r.length + 1 + 1 + 1 - 2) := fun S1 v hv9 h9 => by
      rw [v3, v2, v1, ← hv9]
      exact h9
    by_cases q : lg_cmp (S.2.2 40 (n + (-2) - (1 : Int32)).toNatClampNeg) (1 : Int64) = (0 : Int32)
    · have d := l_eq.mp q
      rw [g1, z1] at d
      obtain ⟨x1', k1'⟩ := mx_st_up (m := r.length + 1) (n := r.length + 1 + 1 + 1) hst e1 g2 (Or.inl u4) rfl
      exact ⟨n + (-2), _, F_m_reckons_2_p3 rfl rfl rfl rfl rfl hk rfl a30 a43 a44 rfl rfl rfl rfl rfl q rfl rfl rfl, e2.trans fn, fin _ _ (by rw [if_pos d]) x1', k1'⟩
    · have d : ¬ f r.length = 1 := fun z => q (l_eq.mpr (by rw [g1, z1, z]))
      obtain ⟨x1', k1'⟩ := mx_st_up (m := r.length + 1) (n := r.length + 1 + 1 + 1) hst e1 g3 (Or.inl u4) rfl
      exact ⟨n + (-2), _, F_m_reckons_2_p2 rfl rfl rfl rfl rfl hk rfl a30 a43 a44 rfl rfl rfl rfl rfl q rfl rfl rfl rfl, e2.trans fn, fin _ _ (by rw [if_neg d]) x1', k1'⟩
  rw [if_neg c9] at ht hc1 ⊢
  have two : ∀ (b1 b2 : Bool) (r : List Bool), t = b1 :: b2 :: r → -21 ≤ s → (s < -19 → (b1 = true ∧ b2 = true)) → ∃ (n1 : Int32) (S1 : dg_S), F_m_reckons_2_B1 x1 o (k, n, S) = .inl (k + 1, n1, S1) ∧ n1.toInt = ((t.length - 1 : Nat) : Int) ∧ mx_st S1 (e_w f (t.length - 2) (e_op s (f (t.length - 2)) (f (t.length - 1))), t.length - 1) ∧ k_rk S S1 := by
    intro b1 b2 r et hs21 hbb
    subst et
    simp only [List.length_cons] at h60 hn
    have a30 : (30 : Int32) < S.2.1 18 k.toNatClampNeg := dk_gtp z30 (by omega)
    have a43 : ¬ S.2.1 18 k.toNatClampNeg = (43 : Int32) := fun z => by have := dk_eqc (k := 43) (by decide +kernel) z; omega
    have a44 : ¬ S.2.1 18 k.toNatClampNeg = (44 : Int32) := fun z => by have := dk_eqc (k := 44) (by decide +kernel) z; omega
    have e2 : (n + (-1)).toInt = ((r.length + 1 : Nat) : Int) := by
      rw [dk_addT hn (b := -1) (by decide +kernel) (by omega) (by omega)]
      omega
    have e1 : (n + (-1) - (1 : Int32)).toInt = (r.length : Int) := by
      rw [dk_subT e2 (b := 1) (by decide +kernel) (by omega) (by omega)]
      omega
    have u1 : r.length < r.length + 1 + 1 := by omega
    have u2 : r.length + 1 < r.length + 1 + 1 := by omega
    have u4 : r.length + 1 ≤ r.length + 1 + 1 := by omega
    have v2 : r.length + 1 + 1 - 2 = r.length := n_t2 _
    have v1 : r.length + 1 + 1 - 1 = r.length + 1 := n_t1 _
    have w1 : 31 ≤ (S.2.1 18 k.toNatClampNeg).toInt ∧ (S.2.1 18 k.toNatClampNeg).toInt ≤ 42 := ⟨by omega, by omega⟩
    have w2 : 41 ≤ (S.2.1 18 k.toNatClampNeg).toInt → s < -19 := fun z => by omega
    have w3 : 21 - (21 - s) = s := by omega
    have fn : ((r.length + 1 : Nat) : Int) = ((r.length + 1 + 1 - 1 : Nat) : Int) := by rw [n_t1]
    have hb1 := vb b1 (b2 :: r) rfl
    have hb2 : -1000000 ≤ f r.length ∧ f r.length ≤ 1000000 := hv.2.1.any
    simp only [List.length_cons] at hb1
    have g1 := mx_st_at (n := r.length + 1 + 1) hst e1 u1
    have g2 := mx_st_at (n := r.length + 1 + 1) hst e2 u2
    have et2 := mx_two (o := o) (S := S) (a1 := S.2.1 18 k.toNatClampNeg) (x := S.2.2 40 (n + (-1) - (1 : Int32)).toNatClampNeg) (y := S.2.2 40 (n + (-1)).toNatClampNeg) w1 (by rw [g1]; exact hb2) (by rw [g2]; exact hb1) (fun z => by
      obtain ⟨y1, y2⟩ := hbb (w2 z)
      subst y1
      subst y2
      rw [g1, g2]
      exact ⟨hv.2.1.tst, hv.1.tst⟩)
    rw [g1, g2, hc1, w3] at et2
    obtain ⟨x1', k1'⟩ := mx_st_up (m := r.length + 1) (n := r.length + 1 + 1) hst e1 et2 (Or.inl u4) rfl
    refine ⟨n + (-1), _, F_m_reckons_2_p1 rfl rfl rfl rfl rfl hk rfl a30 a43 a44 rfl rfl rfl rfl rfl rfl rfl rfl, e2.trans fn, ?_, k1'⟩
    show mx_st _ (e_w f (r.length + 1 + 1 - 2) (e_op s (f (r.length + 1 + 1 - 2)) (f (r.length + 1 + 1 - 1))), r.length + 1 + 1 - 1)
    rw [v2, v1]
    exact x1'
  by_cases c16 : -16 ≤ s
  · rw [if_pos c16] at ht
    obtain ⟨r, et, et'⟩ := e_m2 ht
    exact two _ _ r et (by omega) (fun z => by omega)
  rw [if_neg c16] at ht
  by_cases c19 : -19 ≤ s
  · rw [if_pos c19] at ht
    obtain ⟨r, et, et'⟩ := e_m2 ht
    exact two _ _ r et (by omega) (fun z => by omega)
  rw [if_neg c19] at ht
  by_cases c21 : -21 ≤ s
  · rw [if_pos c21] at ht
    obtain ⟨r, et, et'⟩ := e_m4 ht
    exact two _ _ r et c21 (fun _ => ⟨rfl, rfl⟩)
  · rw [if_neg c21] at ht
    cases ht
theorem mx_rrun2 {z : dg_S × Int64} {b : Nat} {l : Int} {bb : Bool} (hx : x1.toInt = b) (hb : b ≤ 1) (h0 : 0 ≤ l ∧ l ≤ 1600) (h7 : env (-7) = 1) : ∀ (C : List Int) (k n : Int32) (S : dg_S) (f : Nat → Int) (t : List Bool) (fuel : Nat), (∀ i, i < C.length → mx_c1 S (k.toInt + i) (C.getD i 0)) → (S.2.1 17 (3 * b + 2)).toInt = l → k.toInt + C.length = 1600 * b + l → 0 ≤ k.toInt → mx_st S (f, t.length) → n.toInt = t.length → e_vt f t → t.length ≤ 60 → e_ty C t = some [bb] → (∀ s ∈ C, -6 ≤ s → s < 0 → -1000000 ≤ env s ∧ env s ≤ 1000000) → mx_env S = env → C.length < fuel → ∃ (S1 : dg_S) (v : Int64), lp (F_m_reckons_2_B1 x1 o) z fuel (k, n, S) = (S1, v) ∧ v.toInt = (e_run env C (f, t.length)).1 0 ∧ k_rk S S1
  | [], k, n, S, f, t, fuel, hC, he, hk1, hk0, hst, hn, hv, h60, hty, hbn, hE, hf => by
    have et : t = [bb] := Option.some.inj hty
    subst et
    obtain ⟨m, hm⟩ : ∃ m, fuel = m + 1 := ⟨fuel - 1, by have : ([] : List Int).length < fuel := hf; omega⟩
    have ee := mx_end2 hx hb he h0
    have hk1 : k.toInt + ((0 : Nat) : Int) = 1600 * b + l := hk1
    have c0 : (1600 : Int32) * x1 + S.2.1 17 ((3 : Int32) * x1 + (2 : Int32)).toNatClampNeg ≤ k := dk_lep (k := k.toInt) rfl (by rw [ee]; omega)
    refine ⟨S, S.2.2 40 (0 : Int32).toNatClampNeg, ?_, mx_st_at (n := 1) hst (by decide +kernel) (by decide), kp.rf⟩
    rw [hm, lp_sr (F_m_reckons_2_p0 rfl rfl rfl rfl rfl c0 rfl)]
  | s :: C, k, n, S, f, t, fuel, hC, he, hk1, hk0, hst, hn, hv, h60, hty, hbn, hE, hf => by
    simp only [List.length_cons] at hk1 hf
    obtain ⟨t1, ht1, hty1⟩ := Option.bind_eq_some_iff.mp (show (e_t1 s t).bind (e_ty C) = some [bb] from hty)
    have hc0 := hC 0 (by simp)
    have hc0 : mx_c1 S (k.toInt + ((0 : Nat) : Int)) s := hc0
    rw [show k.toInt + ((0 : Nat) : Int) = k.toInt by omega] at hc0
    have ee := mx_end2 hx hb he h0
    have c0 : ¬ (1600 : Int32) * x1 + S.2.1 17 ((3 : Int32) * x1 + (2 : Int32)).toNatClampNeg ≤ k := fun q => by
      have := dk_lec (k := k.toInt) rfl q
      rw [ee] at this
      omega
    have ek : (k + 1).toInt = k.toInt + 1 := dk_addT rfl (by decide +kernel) (by omega) (by omega)
    obtain ⟨n1, S1, e1, en1, x1', k1'⟩ := mx_rstep2 (o := o) (x1 := x1) (k := k) (n := n) hst hn c0 hc0 ht1 hv h60 hE
    have hs := e_step (q := (f, t.length)) (hbn s (List.mem_cons_self ..)) h7 ht1 hv rfl
    rcases hs with ⟨v1, m1, l1⟩ | hs
    · obtain ⟨m, hm⟩ : ∃ m, fuel = m + 1 := ⟨fuel - 1, by omega⟩
      have x1' : mx_st S1 ((e_st env s (f, t.length)).1, t1.length) := by rw [← m1]; exact x1'
      obtain ⟨S2, v, e2, ev, k2⟩ := mx_rrun2 (z := z) hx hb h0 h7 C (k + 1) n1 S1 (e_st env s (f, t.length)).1 t1 m (fun i hi => by
        have := hC (i + 1) (by simp; omega)
        have this : mx_c1 S (k.toInt + ((i + 1 : Nat) : Int)) (C.getD i 0) := this
        unfold mx_c1 at this ⊢
        rw [k1'.row (by decide), k1'.row (by decide), ek, show k.toInt + 1 + (i : Int) = k.toInt + ((i + 1 : Nat) : Int) by omega]
        exact this) (by rw [k1'.row (by decide)]; exact he) (by rw [ek]; omega) (by omega) x1' (by rw [en1, m1]) v1 l1 hty1 (fun s' hs' => hbn s' (List.mem_cons_of_mem _ hs')) (by rw [k1'.env]; exact hE) (by omega)
      refine ⟨S2, v, ?_, ?_, k1'.tr k2⟩
      · rw [hm, lp_sl e1]
        exact e2
      · rw [ev]
        show (e_run env C ((e_st env s (f, t.length)).1, t1.length)).1 0 = (e_run env C (e_st env s (f, t.length))).1 0
        rw [← m1]
    · omega
theorem mx_told2 {S : dg_S} {b : Nat} {C : List Int} (hx : (zI S 0 13).toInt = b) (hb : b ≤ 1) (h : mx_code S b 2 C) : F_m_isTold_2 o S = 0 ∧ C = [] ∨ F_m_isTold_2 o S = 1 ∧ C ≠ [] := by
  have e2 : ((3 : Int32) * zI S 0 13).toInt = 3 * (b : Int) := dk_mulT (by decide +kernel) hx (by omega) (by omega)
  have e3 : ((3 : Int32) * zI S 0 13 + (2 : Int32)).toInt = 3 * (b : Int) + 2 := dk_addT e2 (by decide +kernel) (by omega) (by omega)
  have en : ((3 : Int32) * zI S 0 13 + (2 : Int32)).toNatClampNeg = 3 * b + 2 := by rw [dk_clN, e3]; omega
  rcases h with ⟨h1, h2⟩ | ⟨h1, fr, f0, f1, f2, -, -⟩
  · exact Or.inl ⟨F_m_isTold_2_p0 rfl rfl rfl rfl (by rw [en]; exact dk_eqp (k := -1) (by decide +kernel) h2), h1⟩
  · refine Or.inr ⟨F_m_isTold_2_p1 rfl rfl rfl rfl (fun z => ?_), h1⟩
    rw [en] at z
    have := dk_eqc (k := -1) (by decide +kernel) z
    omega
theorem mx_reckons2 {S : dg_S} {b : Nat} {C : List Int} {bb : Bool} (hx : (zI S 0 13).toInt = b) (hb : b ≤ 1) (h : mx_code S b 2 C) (hC : C ≠ []) (hty : e_ty C [] = some [bb]) (hbn : ∀ s ∈ C, -6 ≤ s → s < 0 → -1000000 ≤ mx_env S s ∧ mx_env S s ≤ 1000000) : ∃ (S1 : dg_S) (v : Int64), F_m_reckons_2 o S = (S1, v) ∧ v.toInt = s_ev (mx_env S) C ∧ k_rk S S1 := by
  rcases h with ⟨h1, -⟩ | ⟨-, fr, f0, f1, f2, f3, f4⟩
  · exact absurd h1 hC
  have e1 : ((1600 : Int32) * zI S 0 13).toInt = 1600 * (b : Int) := dk_mulT (by decide +kernel) hx (by omega) (by omega)
  have e2 : ((3 : Int32) * zI S 0 13).toInt = 3 * (b : Int) := dk_mulT (by decide +kernel) hx (by omega) (by omega)
  have e3 : ((3 : Int32) * zI S 0 13 + (2 : Int32)).toInt = 3 * (b : Int) + 2 := dk_addT e2 (by decide +kernel) (by omega) (by omega)
  have en : ((3 : Int32) * zI S 0 13 + (2 : Int32)).toNatClampNeg = 3 * b + 2 := by rw [dk_clN, e3]; omega
  have e4 : ((1600 : Int32) * zI S 0 13 + S.2.1 16 ((3 : Int32) * zI S 0 13 + (2 : Int32)).toNatClampNeg).toInt = 1600 * b + fr := dk_addT e1 (by rw [en]; exact f2) (by omega) (by omega)
  obtain ⟨S1, v, r1, r2, r3⟩ := mx_rrun2 (o := o) (x1 := zI S 0 13) (z := (S, (0 : Int64))) (env := mx_env S) hx hb (l := fr + C.length) (by omega) (show mx_env S (-7) = 1 from rfl) C ((1600 : Int32) * zI S 0 13 + S.2.1 16 ((3 : Int32) * zI S 0 13 + (2 : Int32)).toNatClampNeg) 0 S (fun _ => 0) [] ((3201 - (((1600 : Int32) * zI S 0 13 + S.2.1 16 ((3 : Int32) * zI S 0 13 + (2 : Int32)).toNatClampNeg : Int32)).toInt).toNat + 1) (fun i hi => by rw [e4]; exact f4 i hi) f3 (by rw [e4]; omega) (by rw [e4]; omega) (fun i hi => absurd hi (Nat.not_lt_zero i)) (by decide +kernel) trivial (by decide) hty hbn rfl (by rw [e4]; omega)
  exact ⟨S1, v, (F_m_reckons_2_p8 rfl rfl rfl rfl rfl rfl).trans r1, r2, r3⟩
end MV2
end
section
/-! the reference: what is asked of a cell -/
def k41 (S S1 : dg_S) : Prop := kp (fun _ _ => False) (fun a => a = 41) S S1
/-- the working rows alone -/
def k_x (S S1 : dg_S) : Prop := kp (fun _ _ => False) (fun a => 40 ≤ a ∧ a ≤ 44) S S1
/-- rows 40, 41 alone -/
def k_r (S S1 : dg_S) : Prop := kp (fun _ _ => False) (fun a => a = 40 ∨ a = 41) S S1
theorem k41.r {S S1 : dg_S} (t : k41 S S1) : k_r S S1 := t.w (fun _ _ z => z) (fun a z => Or.inr z)
theorem k_rk.r {S S1 : dg_S} (t : k_rk S S1) : k_r S S1 := t.w (fun _ _ z => z) (fun a z => Or.inl z)
theorem k_r.x {S S1 : dg_S} (t : k_r S S1) : k_x S S1 := t.w (fun _ _ z => z) (fun a z => by omega)
theorem k41.x {S S1 : dg_S} (t : k41 S S1) : k_x S S1 := t.w (fun _ _ z => z) (fun a z => by omega)
theorem k_rk.x {S S1 : dg_S} (t : k_rk S S1) : k_x S S1 := t.w (fun _ _ z => z) (fun a z => by omega)
theorem k_ms.x {S S1 : dg_S} (t : k_ms S S1) : k_x S S1 := t.w (fun _ _ z => z) (fun a z => by omega)
theorem k_x.gd {G : aR} {S S1 : dg_S} (t : k_x S S1) (h : mx_gd G S) : mx_gd G S1 := h.keep (fun b => t.I id) (fun i hi => (t.2 i (by omega)).1)
theorem k_x.ce {G A : aR} {S S1 : dg_S} {v : Nat} (t : k_x S S1) (h : mx_ce G A S v) : mx_ce G A S1 v := h.keep (t.2 31 (by omega)).1 (t.2 32 (by omega)).1
theorem mx_fr.keep {G A : aR} {S S1 : dg_S} (h : mx_fr G A S) (e : S1.2.1 42 = S.2.1 42) : mx_fr G A S1 := by
  intro c hc
  rw [e]
  exact h c hc
theorem mx_code.keep {S S1 : dg_S} {b w : Nat} {C : List Int} (h : mx_code S b w C) (e : ∀ i, i ≤ 19 → S1.2.1 i = S.2.1 i) : mx_code S1 b w C := by
  rcases h with ⟨h1, h2⟩ | ⟨h1, fr, f0, f1, f2, f3, f4⟩
  · exact Or.inl ⟨h1, by rw [e 16 (by decide)]; exact h2⟩
  · refine Or.inr ⟨h1, fr, f0, f1, by rw [e 16 (by decide)]; exact f2, by rw [e 17 (by decide)]; exact f3, fun i hi => ?_⟩
    have := f4 i hi
    unfold mx_c1 at this ⊢
    rw [e 18 (by decide), e 19 (by decide)]
    exact this
/-- the ground and its rules, as they are read -/
def mx_g (G : aR) (K : Nat → List Int) (S : dg_S) : Prop := mx_gd G S ∧ ∃ b : Nat, b ≤ 1 ∧ (zI S 0 13).toInt = b ∧ ∀ w, w < 3 → mx_code S b w (K w)
theorem mx_g.keep {G : aR} {K : Nat → List Int} {S S1 : dg_S} (h : mx_g G K S) (e0 : ∀ b, zI S1 0 b = zI S 0 b) (e : ∀ i, i ≤ 19 → S1.2.1 i = S.2.1 i) : mx_g G K S1 := by
  obtain ⟨h1, b, h2, h3, h4⟩ := h
  exact ⟨h1.keep e0 e, b, h2, by rw [e0]; exact h3, fun w hw => (h4 w hw).keep e⟩
theorem k_x.g {G : aR} {K : Nat → List Int} {S S1 : dg_S} (t : k_x S S1) (h : mx_g G K S) : mx_g G K S1 := h.keep (fun b => t.I id) (fun i hi => (t.2 i (by omega)).1)
section SE
variable {G A : aR} {r c : Int}
theorem s_env1 : s_env G A r c (-1) = s_c A c := by
  unfold s_env
  rw [if_pos rfl]
theorem s_env2 : s_env G A r c (-2) = c / 8 := by
  unfold s_env
  rw [if_neg (show ¬ (-2 : Int) = -1 by decide), if_pos rfl]
theorem s_env3 : s_env G A r c (-3) = A 0 0 := by
  unfold s_env
  rw [if_neg (show ¬ (-3 : Int) = -1 by decide), if_neg (show ¬ (-3 : Int) = -2 by decide), if_pos rfl]
theorem s_env4 : s_env G A r c (-4) = s_nl G A r c := by
  unfold s_env
  rw [if_neg (show ¬ (-4 : Int) = -1 by decide), if_neg (show ¬ (-4 : Int) = -2 by decide), if_neg (show ¬ (-4 : Int) = -3 by decide), if_pos rfl]
theorem s_env5 : s_env G A r c (-5) = s_ob G A c := by
  unfold s_env
  rw [if_neg (show ¬ (-5 : Int) = -1 by decide), if_neg (show ¬ (-5 : Int) = -2 by decide), if_neg (show ¬ (-5 : Int) = -3 by decide), if_neg (show ¬ (-5 : Int) = -4 by decide), if_pos rfl]
theorem s_env6 : s_env G A r c (-6) = if s_nl G A r c = -1 then 0 else 1 := by
  unfold s_env
  rw [if_neg (show ¬ (-6 : Int) = -1 by decide), if_neg (show ¬ (-6 : Int) = -2 by decide), if_neg (show ¬ (-6 : Int) = -3 by decide), if_neg (show ¬ (-6 : Int) = -4 by decide), if_neg (show ¬ (-6 : Int) = -5 by decide), if_pos rfl]
theorem s_env7 : s_env G A r c (-7) = 1 := by
  unfold s_env
  rw [if_neg (show ¬ (-7 : Int) = -1 by decide), if_neg (show ¬ (-7 : Int) = -2 by decide), if_neg (show ¬ (-7 : Int) = -3 by decide), if_neg (show ¬ (-7 : Int) = -4 by decide), if_neg (show ¬ (-7 : Int) = -5 by decide), if_neg (show ¬ (-7 : Int) = -6 by decide)]
end SE
theorem mx_env_at {S : dg_S} {s : Int} {k : Nat} {x : Int32} (h : -6 ≤ s ∧ s < 0) (hk : (-s).toNat = k) (hx : S.2.1 41 k = x) : mx_env S s = x.toInt := by
  unfold mx_env
  rw [if_pos h, hk, hx]
section LY
variable {G A : aR} {S : dg_S} {v o : Nat} {r : Int} {a1 a2 : Int32}
theorem mx_lays (hb : s_gb G) (hg : mx_gd G S) (hce : mx_ce G A S v) (hf : mx_fr G A S) (ha : a1.toInt = v) (hv : v ≤ 40) (hr : (zI S 0 63).toInt = r) (hr9 : r ≤ 900) (hc : s_in G a2.toInt) (hso : 0 ≤ s_c A a2.toInt) (hsh : (S.2.1 29 v).toInt = A 0 0) : ∃ S1, F_m_lays o S a1 a2 = S1 ∧ k41 S S1 ∧ ∀ s, -7 ≤ s → s < 0 → (s = -4 → s_nl G A r a2.toInt ≠ -1) → mx_env S1 s = s_env G A r a2.toInt s := by
  have n1 : (1 : Int32).toNatClampNeg = 1 := by decide +kernel
  have n2 : (2 : Int32).toNatClampNeg = 2 := by decide +kernel
  have n3 : (3 : Int32).toNatClampNeg = 3 := by decide +kernel
  have n4 : (4 : Int32).toNatClampNeg = 4 := by decide +kernel
  have n5 : (5 : Int32).toNatClampNeg = 5 := by decide +kernel
  have n6 : (6 : Int32).toNatClampNeg = 6 := by decide +kernel
  have z0 : (0 : Int32).toInt = 0 := by decide +kernel
  have z1 : (1 : Int32).toInt = 1 := by decide +kernel
  obtain ⟨x4, hx4⟩ : ∃ x, x = S.2.1 31 ((64 : Int32) * a1 + a2).toNatClampNeg := ⟨_, rfl⟩
  obtain ⟨S6, h6⟩ : ∃ S', S' = dg_uf S 41 (upd (S.2.1 41) (1 : Int32).toNatClampNeg x4) := ⟨_, rfl⟩
  obtain ⟨x8, hx8⟩ : ∃ x, x = a2 / (8 : Int32) := ⟨_, rfl⟩
  obtain ⟨S10, h10⟩ : ∃ S', S' = dg_uf S6 41 (upd (S6.2.1 41) (2 : Int32).toNatClampNeg x8) := ⟨_, rfl⟩
  obtain ⟨x13, hx13⟩ : ∃ x, x = S10.2.1 29 a1.toNatClampNeg := ⟨_, rfl⟩
  obtain ⟨S15, h15⟩ : ∃ S', S' = dg_uf S10 41 (upd (S10.2.1 41) (3 : Int32).toNatClampNeg x13) := ⟨_, rfl⟩
  obtain ⟨x17, hx17⟩ : ∃ x, x = F_m_litBeside o S15 a1 a2 := ⟨_, rfl⟩
  obtain ⟨S20, h20⟩ : ∃ S', S' = dg_uf S15 41 (upd (S15.2.1 41) (4 : Int32).toNatClampNeg x17) := ⟨_, rfl⟩
  obtain ⟨x22, hx22⟩ : ∃ x, x = F_m_openBeside o S20 a1 a2 := ⟨_, rfl⟩
  obtain ⟨S25, h25⟩ : ∃ S', S' = dg_uf S20 41 (upd (S20.2.1 41) (5 : Int32).toNatClampNeg x22) := ⟨_, rfl⟩
  obtain ⟨x27, hx27⟩ : ∃ x, x = F_m_litBeside o S25 a1 a2 := ⟨_, rfl⟩
  have k10 : k41 S S10 := by rw [h10, h6]; exact kp.uf (kp.uf kp.rf rfl) rfl
  have k15 : k41 S S15 := by rw [h15]; exact kp.uf k10 rfl
  have k20 : k41 S S20 := by rw [h20]; exact kp.uf k15 rfl
  have k25 : k41 S S25 := by rw [h25]; exact kp.uf k20 rfl
  have an : a1.toNatClampNeg = v := by rw [dk_clN]; omega
  have K : ∀ S1, k41 S S1 → mx_ce G A S1 v ∧ mx_fr G A S1 ∧ mx_gd G S1 ∧ (zI S1 0 63).toInt = r := fun S1 t => ⟨t.x.ce hce, hf.keep (t.2 42 (by decide)).1, t.x.gd hg, by rw [t.I id]; exact hr⟩
  obtain ⟨c15, f15, g15, r15⟩ := K S15 k15
  obtain ⟨c20, f20, g20, r20⟩ := K S20 k20
  obtain ⟨c25, f25, g25, r25⟩ := K S25 k25
  obtain ⟨l17, e17⟩ := mx_nl (o := o) c15 f15 g15 hb ha hv r15 hr9 hc
  obtain ⟨l27, e27⟩ := mx_nl (o := o) c25 f25 g25 hb ha hv r25 hr9 hc
  rw [← hx17] at l17 e17
  rw [← hx27] at l27 e27
  have e22 := mx_ob (o := o) c20 g20 hb ha hv hc
  rw [← hx22] at e22
  have e4 : x4.toInt = s_c A a2.toInt := by
    have h1 := (hce a2.toInt hc).1
    unfold mx_en at h1
    rw [if_neg (by omega)] at h1
    rw [hx4, mx_adr ha hv ⟨hc.1.1, hc.1.2⟩]
    exact h1
  have e8 : x8.toInt = a2.toInt / 8 := by rw [hx8]; exact (mx_rq hc).2
  have e13 : x13.toInt = A 0 0 := by rw [hx13, (k10.2 29 (by decide)).1, an]; exact hsh
  have fin : ∀ (x : Int32) (S1 : dg_S), x.toInt = (if s_nl G A r a2.toInt = -1 then 0 else 1) → S1 = dg_uf S25 41 (upd (S25.2.1 41) (6 : Int32).toNatClampNeg x) → k41 S S1 ∧ ∀ s, -7 ≤ s → s < 0 → (s = -4 → s_nl G A r a2.toInt ≠ -1) → mx_env S1 s = s_env G A r a2.toInt s := by
    intro x S1 hx hS1
    refine ⟨by rw [hS1]; exact kp.uf k25 rfl, ?_⟩
    have R : ∀ j, S1.2.1 41 j = if j = 6 then x else if j = 5 then x22 else if j = 4 then x17 else if j = 3 then x13 else if j = 2 then x8 else if j = 1 then x4 else S.2.1 41 j := fun j => by
      rw [hS1, w_f, if_pos rfl, w_u, n6, h25, w_f, if_pos rfl, w_u, n5, h20, w_f, if_pos rfl, w_u, n4, h15, w_f, if_pos rfl, w_u, n3, h10, w_f, if_pos rfl, w_u, n2, h6, w_f, if_pos rfl, w_u, n1]
    intro s h7 h0 h4
    have c : s = -1 ∨ s = -2 ∨ s = -3 ∨ s = -4 ∨ s = -5 ∨ s = -6 ∨ s = -7 := by omega
    rcases c with c | c | c | c | c | c | c
    · subst c
      rw [s_env1, mx_env_at (k := 1) (by decide) (by decide) ((R 1).trans rfl)]
      exact e4
    · subst c
      rw [s_env2, mx_env_at (k := 2) (by decide) (by decide) ((R 2).trans rfl)]
      exact e8
    · subst c
      rw [s_env3, mx_env_at (k := 3) (by decide) (by decide) ((R 3).trans rfl)]
      exact e13
    · subst c
      have h4 := h4 rfl
      rw [s_env4, mx_env_at (k := 4) (by decide) (by decide) ((R 4).trans rfl), ← e17]
      exact ((mx_fi_n l17).2.1 (by rw [e17]; exact h4)).symm
    · subst c
      rw [s_env5, mx_env_at (k := 5) (by decide) (by decide) ((R 5).trans rfl)]
      exact e22
    · subst c
      rw [s_env6, mx_env_at (k := 6) (by decide) (by decide) ((R 6).trans rfl)]
      exact hx
    · subst c
      rw [s_env7]
      rfl
  have m27 := (mx_fi_n l27).1
  rw [e27] at m27
  unfold mx_lv at l27
  by_cases q : (100000000 : Int32) ≤ x27
  · have d := dk_gec (k := 100000000) (by decide +kernel) q
    obtain ⟨S31, h31⟩ : ∃ S', S' = dg_uf S25 41 (upd (S25.2.1 41) (6 : Int32).toNatClampNeg (0 : Int32)) := ⟨_, rfl⟩
    have h9 := fin 0 S31 (by rw [if_pos (m27.mpr (by omega))]; exact z0) h31
    refine ⟨S31, ?_, h9⟩
    rw [F_m_lays_p2 rfl rfl hx4 h6 hx8 h10 hx13 h15 hx17 h20]
    exact F_m_lays_p0 hx22 h25 hx27 q h31
  · have d := dk_ngec (k := 100000000) (by decide +kernel) q
    obtain ⟨S35, h35⟩ : ∃ S', S' = dg_uf S25 41 (upd (S25.2.1 41) (6 : Int32).toNatClampNeg (1 : Int32)) := ⟨_, rfl⟩
    have h9 := fin 1 S35 (by rw [if_neg (fun z => by have := m27.mp z; omega)]; exact z1) h35
    refine ⟨S35, ?_, h9⟩
    rw [F_m_lays_p2 rfl rfl hx4 h6 hx8 h10 hx13 h15 hx17 h20]
    exact F_m_lays_p1 hx22 h25 hx27 q h35
end LY
section EV
variable {G A : aR} {K : Nat → List Int} {S : dg_S} {v o : Nat} {r : Int} {a1 a2 : Int32}
theorem mx_code_g (h : mx_g G K S) {w : Nat} (hw : w < 3) : ∃ b : Nat, b ≤ 1 ∧ (zI S 0 13).toInt = b ∧ mx_code S b w (K w) := by
  obtain ⟨-, b, h2, h3, h4⟩ := h
  exact ⟨b, h2, h3, h4 w hw⟩
theorem s_env_b6 (hw : s_wf G A) (hc : 0 ≤ r ∧ r < 64) (hs : 0 ≤ s_c A r ∧ s_c A r ≤ 9) {q s : Int} (h4 : s = -4 → -1 ≤ s_nl G A q r ∧ s_nl G A q r ≤ 63) : -1000000 ≤ s_env G A q r s ∧ s_env G A q r s ≤ 1000000 := by
  by_cases z : s = -4
  · have := h4 z
    rw [z, s_env4]
    omega
  · exact s_env_b hw hc hs z
/-- does it fall -/
theorem mx_falls (hb : s_gb G) (hK : s_cd K) (hw : s_wf G A) (hg : mx_g G K S) (hce : mx_ce G A S v) (hf : mx_fr G A S) (ha : a1.toInt = v) (hv : v ≤ 40) (hr : (zI S 0 63).toInt = r) (hr9 : r ≤ 900) (hc : s_in G a2.toInt) (hso : 0 ≤ s_c A a2.toInt) (hsh : (S.2.1 29 v).toInt = A 0 0) : ∃ (S1 : dg_S) (x : Int32), F_m_isFalling o S a1 a2 = (S1, x) ∧ k_r S S1 ∧ (x = 1 ∧ s_fa G K r A a2.toInt ∨ x = 0 ∧ ¬ s_fa G K r A a2.toInt) := by
  obtain ⟨b, hb1, hbk, hcode⟩ := mx_code_g hg (w := 1) (by decide)
  rcases mx_told1 (o := o) hbk hb1 hcode with ⟨e, h⟩ | ⟨e, h⟩
  · exact ⟨S, 0, F_m_isFalling_p2 rfl e, kp.rf, Or.inr ⟨rfl, fun z => z.1 h⟩⟩
  · have n0 : ¬ F_m_isTold_1 o S = (0 : Int32) := by rw [e]; decide +kernel
    obtain ⟨hty, -, h4⟩ := hK 1 (by decide) h
    have h4 := h4 (by decide)
    obtain ⟨S5, e5, k5, env5⟩ := mx_lays (o := o) hb hg.1 hce hf ha hv hr hr9 hc hso hsh
    have n4 : ∀ s ∈ K 1, s ≠ -4 := fun s hs z => h4 (by rw [← z]; exact hs)
    have u9 := (hce a2.toInt hc).2.2.2
    have ev : ∀ s ∈ K 1, -7 ≤ s → s < 0 → mx_env S5 s = s_env G A r a2.toInt s := fun s hs h7 h0 => env5 s h7 h0 (fun z => absurd z (n4 s hs))
    obtain ⟨S7, x6, e6, v6, k7⟩ := mx_reckons1 (o := o) (S := S5) (by rw [k5.I id]; exact hbk) hb1 (hcode.keep (fun i hi => (k5.2 i (by omega)).1)) h hty (fun s hs h6 h0 => by
      rw [ev s hs (by omega) h0]
      exact s_env_b hw hc.1 ⟨hso, u9⟩ (n4 s hs))
    rw [s_ev_congr ev] at v6
    have e61 : S7 = (F_m_reckons_1 o S5).1 := by rw [e6]
    have e62 : x6 = (F_m_reckons_1 o S5).2 := by rw [e6]
    have z1 : (1 : Int64).toInt = 1 := by decide +kernel
    have t7 : k_r S S7 := k5.r.tr k7.r
    by_cases q : lg_cmp x6 (1 : Int64) = (0 : Int32)
    · have d := l_eq.mp q
      rw [v6, z1] at d
      exact ⟨S7, 1, F_m_isFalling_p1 rfl n0 e5.symm e61 e62 rfl q, t7, Or.inl ⟨rfl, h, d⟩⟩
    · refine ⟨S7, 0, F_m_isFalling_p0 rfl n0 e5.symm e61 e62 rfl q, t7, Or.inr ⟨rfl, fun z => q (l_eq.mpr ?_)⟩⟩
      rw [v6, z1]
      exact z.2
/-- which grade a tub has -/
theorem mx_got (hb : s_gb G) (hK : s_cd K) (hw : s_wf G A) (hg : mx_g G K S) (hce : mx_ce G A S v) (hf : mx_fr G A S) (ha : a1.toInt = v) (hv : v ≤ 40) (hr : (zI S 0 63).toInt = r) (hr9 : r ≤ 900) (hc : s_in G a2.toInt) (hso : 0 ≤ s_c A a2.toInt) (hsh : (S.2.1 29 v).toInt = A 0 0) : ∃ (S1 : dg_S) (x : Int32), F_m_gotG o S a1 a2 = (S1, x) ∧ k_r S S1 ∧ x.toInt = s_gr G K r A a2.toInt := by
  obtain ⟨b, hb1, hbk, hcode⟩ := mx_code_g hg (w := 2) (by decide)
  unfold s_gr
  rcases mx_told2 (o := o) hbk hb1 hcode with ⟨e, h⟩ | ⟨e, h⟩
  · refine ⟨S, _, F_m_gotG_p3 rfl e rfl rfl rfl, kp.rf, ?_⟩
    have h1 := (hce a2.toInt hc).1
    unfold mx_en at h1
    rw [if_neg (by omega)] at h1
    rw [s_if_y h, mx_adr ha hv ⟨hc.1.1, hc.1.2⟩]
    exact h1
  · have n0 : ¬ F_m_isTold_2 o S = (0 : Int32) := by rw [e]; decide +kernel
    obtain ⟨hty, -, h4⟩ := hK 2 (by decide) h
    have h4 := h4 (by decide)
    obtain ⟨S5, e5, k5, env5⟩ := mx_lays (o := o) hb hg.1 hce hf ha hv hr hr9 hc hso hsh
    have n4 : ∀ s ∈ K 2, s ≠ -4 := fun s hs z => h4 (by rw [← z]; exact hs)
    have u9 := (hce a2.toInt hc).2.2.2
    have ev : ∀ s ∈ K 2, -7 ≤ s → s < 0 → mx_env S5 s = s_env G A r a2.toInt s := fun s hs h7 h0 => env5 s h7 h0 (fun z => absurd z (n4 s hs))
    obtain ⟨S7, x6, e6, v6, k7⟩ := mx_reckons2 (o := o) (S := S5) (by rw [k5.I id]; exact hbk) hb1 (hcode.keep (fun i hi => (k5.2 i (by omega)).1)) h hty (fun s hs h6 h0 => by
      rw [ev s hs (by omega) h0]
      exact s_env_b hw hc.1 ⟨hso, u9⟩ (n4 s hs))
    rw [s_ev_congr ev] at v6
    have e61 : S7 = (F_m_reckons_2 o S5).1 := by rw [e6]
    have e62 : x6 = (F_m_reckons_2 o S5).2 := by rw [e6]
    have z0 : (0 : Int64).toInt = 0 := by decide +kernel
    have z9 : (9 : Int64).toInt = 9 := by decide +kernel
    have y0 : (0 : Int32).toInt = 0 := by decide +kernel
    have y9 : (9 : Int32).toInt = 9 := by decide +kernel
    have t7 : k_r S S7 := k5.r.tr k7.r
    rw [s_if_n h, ← v6]
    by_cases q : (0 : Int32) ≤ lg_cmp x6 (0 : Int64)
    · have d := l_ge.mp q
      rw [z0] at d
      by_cases p : lg_cmp x6 (9 : Int64) ≤ (0 : Int32)
      · have d2 := l_le.mp p
        rw [z9] at d2
        refine ⟨S7, _, F_m_gotG_p0 rfl n0 e5.symm e61 e62 rfl q rfl p rfl, t7, ?_⟩
        show (Int64.toInt32 x6).toInt = _
        rw [cx_l2i (by omega) (by omega)]
        omega
      · have d2 : ¬ x6.toInt ≤ (9 : Int64).toInt := fun z => p (l_le.mpr z)
        rw [z9] at d2
        refine ⟨S7, 9, F_m_gotG_p1 rfl n0 e5.symm e61 e62 rfl q rfl p, t7, ?_⟩
        rw [y9]
        omega
    · have d : ¬ (0 : Int64).toInt ≤ x6.toInt := fun z => q (l_ge.mpr z)
      rw [z0] at d
      refine ⟨S7, 0, F_m_gotG_p2 rfl n0 e5.symm e61 e62 rfl q, t7, ?_⟩
      rw [y0]
      omega
end EV
end
section
/-! the reference: a layer by numbers; what is kept -/
def mx_w (a : Nat) : Nat := if a = 31 ∨ a = 32 then 64 else if a = 35 ∨ a = 36 then 16 else if a = 37 then 10 else if a = 39 then 160 else 1
/-- of layer v alone, and the working rows -/
def k_v (v : Nat) (S S1 : dg_S) : Prop := kp (fun _ _ => False) (fun a => 29 ≤ a ∧ a ≤ 44) S S1 ∧ ∀ a, 29 ≤ a → a ≤ 39 → ∀ j, ¬ (mx_w a * v ≤ j ∧ j < mx_w a * v + mx_w a) → S1.2.1 a j = S.2.1 a j
section KV
variable {v u o : Nat} {S S1 S2 : dg_S} {G : aR} {K : Nat → List Int}
theorem k_v.rf : k_v v S S := ⟨kp.rf, fun _ _ _ _ _ => rfl⟩
theorem k_v.tr (h : k_v v S S1) (h2 : k_v v S1 S2) : k_v v S S2 := ⟨h.1.tr h2.1, fun a a0 a1 j hj => (h2.2 a a0 a1 j hj).trans (h.2 a a0 a1 j hj)⟩
theorem k_x.kv (t : k_x S S1) : k_v v S S1 := ⟨t.w (fun _ _ z => z) (fun a z => by omega), fun a a0 a1 j _ => by rw [(t.2 a (by omega)).1]⟩
theorem k_v.uf {a j : Nat} {x : Int32} (h : k_v v S S1) (a0 : 29 ≤ a) (a1 : a ≤ 39) (hj : mx_w a * v ≤ j ∧ j < mx_w a * v + mx_w a) : k_v v S (dg_uf S1 a (upd (S1.2.1 a) j x)) := by
  refine ⟨h.1.uf ⟨a0, by omega⟩, fun b b0 b1 i hi => ?_⟩
  rw [w_f]
  by_cases z : b = a
  · subst z
    rw [if_pos rfl, w_u, if_neg (fun y => hi (by rw [y]; exact hj))]
    exact h.2 b b0 b1 i hi
  · rw [if_neg z]
    exact h.2 b b0 b1 i hi
theorem mw (a n v j : Nat) (hn : mx_w a = n) (h : n * v ≤ j ∧ j < n * v + n) : mx_w a * v ≤ j ∧ j < mx_w a * v + mx_w a := by rw [hn]; exact h
theorem k_v.I {a b : Nat} (h : k_v v S S1) : zI S1 a b = zI S a b := h.1.I id
theorem k_v.row {a : Nat} (h : k_v v S S1) (ha : ¬ (29 ≤ a ∧ a ≤ 44)) : S1.2.1 a = S.2.1 a := (h.1.2 a ha).1
theorem k_v.gd (t : k_v v S S1) (h : mx_gd G S) : mx_gd G S1 := h.keep (fun b => t.I) (fun i hi => t.row (by omega))
theorem k_v.g (t : k_v v S S1) (h : mx_g G K S) : mx_g G K S1 := h.keep (fun b => t.I) (fun i hi => t.row (by omega))
end KV
abbrev s_L : Type := List (Int × Int × Int × Int)
/-- what is kept: 40 at most -/
def s_kp (L : s_L) (e : Int × Int × Int × Int) : s_L := (if L.length = 40 then L.tail else L) ++ [e]
def mx_kp (S : dg_S) (v : Nat) (L : s_L) : Prop := (S.2.1 38 v).toInt = L.length ∧ L.length ≤ 40 ∧ ∀ i, i < L.length → (S.2.1 39 (160 * v + 4 * i)).toInt = (L.getD i (0, 0, 0, 0)).1 ∧ (S.2.1 39 (160 * v + 4 * i + 1)).toInt = (L.getD i (0, 0, 0, 0)).2.1 ∧ (S.2.1 39 (160 * v + 4 * i + 2)).toInt = (L.getD i (0, 0, 0, 0)).2.2.1 ∧ (S.2.1 39 (160 * v + 4 * i + 3)).toInt = (L.getD i (0, 0, 0, 0)).2.2.2
def mx_bit (n : Int) (k : Nat) : Int := n / 2 ^ k % 2
def mx_lay (G A : aR) (L : s_L) (S : dg_S) (v : Nat) : Prop := mx_ce G A S v ∧ (S.2.1 29 v).toInt = A 0 0 ∧ (S.2.1 30 v).toInt = A 0 1 ∧ ((0 ≤ (S.2.1 33 v).toInt ∧ (S.2.1 33 v).toInt < 64) ∧ ∀ k, k < 6 → A 2 k = mx_bit (S.2.1 33 v).toInt k) ∧ (∀ k : Nat, (k : Int) < G 0 6 → (S.2.1 35 (16 * v + k)).toInt = A 3 k ∧ (S.2.1 36 (16 * v + k)).toInt = A 4 k) ∧ ((0 ≤ (S.2.1 34 v).toInt ∧ (S.2.1 34 v).toInt < 64) ∧ ∀ k, k < 5 → A 5 k = mx_bit (S.2.1 34 v).toInt k) ∧ (∀ k, k < 10 → (S.2.1 37 (10 * v + k)).toInt = A 6 k) ∧ mx_kp S v L
section LL
variable {v u o : Nat} {S S0 S1 S2 : dg_S} {G A : aR} {L : s_L} {a1 a2 a3 a4 : Int32}
theorem mx_kp.keep (h : mx_kp S v L) (e1 : S1.2.1 38 v = S.2.1 38 v) (e2 : ∀ j, 160 * v ≤ j → j < 160 * v + 160 → S1.2.1 39 j = S.2.1 39 j) : mx_kp S1 v L := by
  obtain ⟨h1, h2, h3⟩ := h
  refine ⟨by rw [e1]; exact h1, h2, fun i hi => ?_⟩
  rw [e2 _ (by omega) (by omega), e2 _ (by omega) (by omega), e2 _ (by omega) (by omega), e2 _ (by omega) (by omega)]
  exact h3 i hi
theorem mx_lay.keep (h : mx_lay G A L S v) (hb : G 0 6 ≤ 16) (e : ∀ a, 29 ≤ a → a ≤ 39 → ∀ j, mx_w a * v ≤ j → j < mx_w a * v + mx_w a → S1.2.1 a j = S.2.1 a j) : mx_lay G A L S1 v := by
  obtain ⟨h1, h2, h3, ⟨h4, h4'⟩, h5, ⟨h6, h6'⟩, h7, h8⟩ := h
  have E : ∀ a n, mx_w a = n → 29 ≤ a → a ≤ 39 → ∀ j, n * v ≤ j → j < n * v + n → S1.2.1 a j = S.2.1 a j := fun a n hn a0 a1 j j0 j1 => e a a0 a1 j (mw a n v j hn ⟨j0, j1⟩).1 (mw a n v j hn ⟨j0, j1⟩).2
  have r33 : S1.2.1 33 v = S.2.1 33 v := E 33 1 rfl (by decide) (by decide) v (by omega) (by omega)
  have r34 : S1.2.1 34 v = S.2.1 34 v := E 34 1 rfl (by decide) (by decide) v (by omega) (by omega)
  refine ⟨fun c hc => ?_, ?_, ?_, ?_, fun k hk => ?_, ?_, fun k hk => ?_, ?_⟩
  · have hc0 := hc.1
    have ad : mx_ad v c = 64 * v + c.toNat := by unfold mx_ad; omega
    rw [E 31 64 rfl (by decide) (by decide) _ (by omega) (by omega), E 32 64 rfl (by decide) (by decide) _ (by omega) (by omega)]
    exact h1 c hc
  · rw [E 29 1 rfl (by decide) (by decide) v (by omega) (by omega)]; exact h2
  · rw [E 30 1 rfl (by decide) (by decide) v (by omega) (by omega)]; exact h3
  · rw [r33]; exact ⟨h4, h4'⟩
  · rw [E 35 16 rfl (by decide) (by decide) _ (by omega) (by omega), E 36 16 rfl (by decide) (by decide) _ (by omega) (by omega)]
    exact h5 k hk
  · rw [r34]; exact ⟨h6, h6'⟩
  · rw [E 37 10 rfl (by decide) (by decide) _ (by omega) (by omega)]
    exact h7 k hk
  · exact h8.keep (E 38 1 rfl (by decide) (by decide) v (by omega) (by omega)) (fun j j0 j1 => E 39 160 rfl (by decide) (by decide) j (by omega) (by omega))
theorem k_x.lay (t : k_x S S1) (h : mx_lay G A L S v) (hb : G 0 6 ≤ 16) : mx_lay G A L S1 v := h.keep hb (fun a a0 a1 j _ _ => by rw [(t.2 a (by omega)).1])
/-- another layer stays -/
theorem k_v.lay (t : k_v v S S1) (h : mx_lay G A L S u) (hu : u ≠ v) (hb : G 0 6 ≤ 16) : mx_lay G A L S1 u := by
  refine h.keep hb (fun a a0 a1 j j0 j1 => t.2 a a0 a1 j (fun z => hu ?_))
  obtain ⟨z0, z1⟩ := z
  have c : mx_w a = 64 ∨ mx_w a = 16 ∨ mx_w a = 10 ∨ mx_w a = 160 ∨ mx_w a = 1 := by
    unfold mx_w
    split
    · exact Or.inl rfl
    · split
      · exact Or.inr (Or.inl rfl)
      · split
        · exact Or.inr (Or.inr (Or.inl rfl))
        · split
          · exact Or.inr (Or.inr (Or.inr (Or.inl rfl)))
          · exact Or.inr (Or.inr (Or.inr (Or.inr rfl)))
  rcases c with c | c | c | c | c <;> (rw [c] at j0 j1 z0 z1; omega)
/-- a miner's bit -/
theorem mx_has2 {a b : Int32} (h : 0 ≤ a.toInt ∧ a.toInt < 64) (hb : 0 ≤ b.toInt ∧ b.toInt < 6) : F_m_has2 o S a b = 1 ∧ mx_bit a.toInt b.toInt.toNat = 1 ∨ F_m_has2 o S a b = 0 ∧ mx_bit a.toInt b.toInt.toNat = 0 := by
  have key : ∀ n : Nat, n < 64 → ∀ k : Nat, k < 6 → ((Int32.ofInt (n : Int) >>> (Int32.ofInt (k : Int) &&& 31)) &&& 1).toInt = mx_bit (n : Int) k ∧ (mx_bit (n : Int) k = 0 ∨ mx_bit (n : Int) k = 1) := by decide +kernel
  obtain ⟨e1, e2⟩ := key a.toInt.toNat (by omega) b.toInt.toNat (by omega)
  rw [show ((a.toInt.toNat : Nat) : Int) = a.toInt by omega, show ((b.toInt.toNat : Nat) : Int) = b.toInt by omega, Int32.ofInt_toInt, Int32.ofInt_toInt] at e1
  rw [show ((a.toInt.toNat : Nat) : Int) = a.toInt by omega] at e2
  by_cases q : (a >>> (b &&& 31)) &&& (1 : Int32) = (1 : Int32)
  · have d := dk_eqc (k := 1) (by decide +kernel) q
    exact Or.inl ⟨F_m_has2_p1 rfl rfl q, by omega⟩
  · have d := dk_neqc (k := 1) (by decide +kernel) q
    exact Or.inr ⟨F_m_has2_p0 rfl rfl q, by omega⟩
theorem mx_setbit {a b : Int32} (h : 0 ≤ a.toInt ∧ a.toInt < 64) (hb : 0 ≤ b.toInt ∧ b.toInt < 6) : (0 ≤ (a ||| ((1 : Int32) <<< (b &&& 31))).toInt ∧ (a ||| ((1 : Int32) <<< (b &&& 31))).toInt < 64) ∧ ∀ k, k < 6 → mx_bit (a ||| ((1 : Int32) <<< (b &&& 31))).toInt k = if k = b.toInt.toNat then 1 else mx_bit a.toInt k := by
  have key : ∀ n : Nat, n < 64 → ∀ j : Nat, j < 6 → (0 ≤ (Int32.ofInt (n : Int) ||| ((1 : Int32) <<< (Int32.ofInt (j : Int) &&& 31))).toInt ∧ (Int32.ofInt (n : Int) ||| ((1 : Int32) <<< (Int32.ofInt (j : Int) &&& 31))).toInt < 64) ∧ ∀ k : Nat, k < 6 → mx_bit (Int32.ofInt (n : Int) ||| ((1 : Int32) <<< (Int32.ofInt (j : Int) &&& 31))).toInt k = if k = j then 1 else mx_bit (n : Int) k := by decide +kernel
  have e1 := key a.toInt.toNat (by omega) b.toInt.toNat (by omega)
  rw [show ((a.toInt.toNat : Nat) : Int) = a.toInt by omega, show ((b.toInt.toNat : Nat) : Int) = b.toInt by omega, Int32.ofInt_toInt, Int32.ofInt_toInt] at e1
  exact e1
/-- the rows of what is kept move on -/
theorem mx_wdl (ha : a1.toInt = v) (hv : v ≤ 21) {x2 : Int32} {z : dg_S} {O : Nat → Int32} : ∀ (n k : Nat) (kI : Int32) (S : dg_S), 160 * v + 157 ≤ n + k → 160 * v ≤ k → k ≤ 160 * v + 156 → kI.toInt = k → (∀ j, S.2.1 39 j = if 160 * v ≤ j ∧ j < k then O (j + 4) else O j) → ∃ S1, lp (F_m_writesDown_B4 a1 x2 a2 a3 a4) z n (kI, S) = F_m_writesDown_J3 x2 S1 a1 a2 a3 a4 ∧ (∀ j, S1.2.1 39 j = if 160 * v ≤ j ∧ j < 160 * v + 156 then O (j + 4) else O j) ∧ kp (fun _ _ => False) (fun a => a = 39) S S1 := by
  intro n
  induction n with
  | zero =>
    intro k kI S h1 h2 h3
    omega
  | succ n ih =>
    intro k kI S h1 h2 h3 hk hO
    have e1 : ((160 : Int32) * a1).toInt = 160 * (v : Int) := dk_mulT (by decide +kernel) ha (by omega) (by omega)
    have e2 : ((160 : Int32) * a1 + (160 : Int32)).toInt = 160 * (v : Int) + 160 := dk_addT e1 (by decide +kernel) (by omega) (by omega)
    have e3 : ((160 : Int32) * a1 + (160 : Int32) - (4 : Int32)).toInt = 160 * (v : Int) + 160 - 4 := dk_subT e2 (by decide +kernel) (by omega) (by omega)
    by_cases q : (160 : Int32) * a1 + (160 : Int32) - (4 : Int32) ≤ kI
    · have d := w_le.mp q
      rw [e3, hk] at d
      have ek : k = 160 * v + 156 := by omega
      subst ek
      exact ⟨S, lp_sr (F_m_writesDown_p4 rfl rfl rfl q), hO, kp.rf⟩
    · have d : ¬ ((160 : Int32) * a1 + (160 : Int32) - (4 : Int32)).toInt ≤ kI.toInt := fun z => q (w_le.mpr z)
      rw [e3, hk] at d
      have e4 : (kI + (4 : Int32)).toInt = (k : Int) + 4 := dk_addT hk (by decide +kernel) (by omega) (by omega)
      have ek : (kI + 1).toInt = ((k + 1 : Nat) : Int) := by
        rw [dk_addT hk (b := 1) (by decide +kernel) (by omega) (by omega)]
        omega
      have n4 : (kI + (4 : Int32)).toNatClampNeg = k + 4 := by rw [dk_clN]; omega
      have nk : kI.toNatClampNeg = k := by rw [dk_clN]; omega
      obtain ⟨S2, h9⟩ : ∃ S', S' = dg_uf S 39 (upd (S.2.1 39) kI.toNatClampNeg (S.2.1 39 (kI + (4 : Int32)).toNatClampNeg)) := ⟨_, rfl⟩
      have k2 : kp (fun _ _ => False) (fun a => a = 39) S S2 := by rw [h9]; exact kp.uf kp.rf rfl
      obtain ⟨S1, f1, f2, f3⟩ := ih (k + 1) (kI + 1) S2 (by omega) (by omega) (by omega) ek (fun j => by
        rw [h9, w_f, if_pos rfl, w_u, nk, n4]
        by_cases z : j = k
        · rw [if_pos z, if_pos (by omega), hO, if_neg (by omega), z]
        · rw [if_neg z, hO]
          by_cases y : 160 * v ≤ j ∧ j < k
          · rw [if_pos y, if_pos (by omega)]
          · rw [if_neg y, if_neg (by omega)])
      exact ⟨S1, (lp_sl (F_m_writesDown_p5 rfl rfl rfl q rfl rfl h9 rfl)).trans f1, f2, k2.tr f3⟩
theorem mx_wd1 (ha : a1.toInt = v) (hv : v ≤ 21) {x : Int32} {L : s_L} (hx : x.toInt = L.length) (hL : L.length < 40) (h : ∀ i, i < L.length → (S.2.1 39 (160 * v + 4 * i)).toInt = (L.getD i (0, 0, 0, 0)).1 ∧ (S.2.1 39 (160 * v + 4 * i + 1)).toInt = (L.getD i (0, 0, 0, 0)).2.1 ∧ (S.2.1 39 (160 * v + 4 * i + 2)).toInt = (L.getD i (0, 0, 0, 0)).2.2.1 ∧ (S.2.1 39 (160 * v + 4 * i + 3)).toInt = (L.getD i (0, 0, 0, 0)).2.2.2) : ∃ S1, F_m_writesDown_J1 a1 x S a2 a3 a4 = S1 ∧ mx_kp S1 v (L ++ [((S.2.1 29 v).toInt, a2.toInt, a3.toInt, a4.toInt)]) ∧ k_v v S S1 ∧ ∀ a, a ≠ 38 → a ≠ 39 → S1.2.1 a = S.2.1 a := by
  have an : a1.toNatClampNeg = v := by rw [dk_clN]; omega
  have e1 : ((40 : Int32) * a1).toInt = 40 * (v : Int) := dk_mulT (by decide +kernel) ha (by omega) (by omega)
  have e2 : ((40 : Int32) * a1 + x).toInt = 40 * (v : Int) + L.length := dk_addT e1 hx (by omega) (by omega)
  have e3 : ((4 : Int32) * ((40 : Int32) * a1 + x)).toInt = 4 * (40 * (v : Int) + L.length) := dk_mulT (by decide +kernel) e2 (by omega) (by omega)
  obtain ⟨y, hy⟩ : ∃ y, y = (4 : Int32) * ((40 : Int32) * a1 + x) := ⟨_, rfl⟩
  rw [← hy] at e3
  obtain ⟨m, hm⟩ : ∃ m, m = 160 * v + 4 * L.length := ⟨_, rfl⟩
  have n0 : y.toNatClampNeg = m := by rw [dk_clN]; omega
  have n1 : (y + (1 : Int32)).toNatClampNeg = m + 1 := by rw [dk_clN, dk_addT e3 (b := 1) (by decide +kernel) (by omega) (by omega)]; omega
  have n2 : (y + (2 : Int32)).toNatClampNeg = m + 2 := by rw [dk_clN, dk_addT e3 (b := 2) (by decide +kernel) (by omega) (by omega)]; omega
  have n3 : (y + (3 : Int32)).toNatClampNeg = m + 3 := by rw [dk_clN, dk_addT e3 (b := 3) (by decide +kernel) (by omega) (by omega)]; omega
  obtain ⟨S4, h4⟩ : ∃ S', S' = dg_uf S 39 (upd (S.2.1 39) y.toNatClampNeg (S.2.1 29 a1.toNatClampNeg)) := ⟨_, rfl⟩
  obtain ⟨S7, h7⟩ : ∃ S', S' = dg_uf S4 39 (upd (S4.2.1 39) (y + (1 : Int32)).toNatClampNeg a2) := ⟨_, rfl⟩
  obtain ⟨S10, h10⟩ : ∃ S', S' = dg_uf S7 39 (upd (S7.2.1 39) (y + (2 : Int32)).toNatClampNeg a3) := ⟨_, rfl⟩
  obtain ⟨S13, h13⟩ : ∃ S', S' = dg_uf S10 39 (upd (S10.2.1 39) (y + (3 : Int32)).toNatClampNeg a4) := ⟨_, rfl⟩
  obtain ⟨S18, h18⟩ : ∃ S', S' = dg_uf S13 38 (upd (S13.2.1 38) a1.toNatClampNeg (x + (1 : Int32))) := ⟨_, rfl⟩
  have w39 : mx_w 39 = 160 := rfl
  have w38 : mx_w 38 = 1 := rfl
  have ex : (x + (1 : Int32)).toInt = (L.length : Int) + 1 := dk_addT hx (by decide +kernel) (by omega) (by omega)
  have R : ∀ j, S18.2.1 39 j = if j = m + 3 then a4 else if j = m + 2 then a3 else if j = m + 1 then a2 else if j = m then S.2.1 29 v else S.2.1 39 j := fun j => by
    rw [h18, w_f, if_neg (by decide), h13, w_f, if_pos rfl, w_u, n3, h10, w_f, if_pos rfl, w_u, n2, h7, w_f, if_pos rfl, w_u, n1, h4, w_f, if_pos rfl, w_u, n0, an]
  refine ⟨S18, ?_, ⟨?_, ?_, fun i hi => ?_⟩, ?_, fun a h38 h39 => ?_⟩
  · rw [F_m_writesDown_p1 rfl rfl hy rfl h4 rfl h7 rfl h10 rfl h13]
    exact F_m_writesDown_p0 rfl h18
  · rw [h18, w_f, if_pos rfl, w_u, an, if_pos rfl, ex]
    simp
  · simp
    omega
  · simp only [List.length_append, List.length_cons, List.length_nil] at hi
    by_cases q : i < L.length
    · rw [R, R, R, R]
      rw [if_neg (show ¬ 160 * v + 4 * i = m + 3 by omega), if_neg (show ¬ 160 * v + 4 * i = m + 2 by omega), if_neg (show ¬ 160 * v + 4 * i = m + 1 by omega), if_neg (show ¬ 160 * v + 4 * i = m by omega)]
      rw [if_neg (show ¬ 160 * v + 4 * i + 1 = m + 3 by omega), if_neg (show ¬ 160 * v + 4 * i + 1 = m + 2 by omega), if_neg (show ¬ 160 * v + 4 * i + 1 = m + 1 by omega), if_neg (show ¬ 160 * v + 4 * i + 1 = m by omega)]
      rw [if_neg (show ¬ 160 * v + 4 * i + 2 = m + 3 by omega), if_neg (show ¬ 160 * v + 4 * i + 2 = m + 2 by omega), if_neg (show ¬ 160 * v + 4 * i + 2 = m + 1 by omega), if_neg (show ¬ 160 * v + 4 * i + 2 = m by omega)]
      rw [if_neg (show ¬ 160 * v + 4 * i + 3 = m + 3 by omega), if_neg (show ¬ 160 * v + 4 * i + 3 = m + 2 by omega), if_neg (show ¬ 160 * v + 4 * i + 3 = m + 1 by omega), if_neg (show ¬ 160 * v + 4 * i + 3 = m by omega)]
      have eg : (L ++ [((S.2.1 29 v).toInt, a2.toInt, a3.toInt, a4.toInt)]).getD i (0, 0, 0, 0) = L.getD i (0, 0, 0, 0) := by
        rw [List.getD_eq_getElem?_getD, List.getD_eq_getElem?_getD, List.getElem?_append_left q]
      rw [eg]
      exact h i q
    · have ei : i = L.length := by omega
      subst ei
      have eg : (L ++ [((S.2.1 29 v).toInt, a2.toInt, a3.toInt, a4.toInt)]).getD L.length (0, 0, 0, 0) = ((S.2.1 29 v).toInt, a2.toInt, a3.toInt, a4.toInt) := by
        rw [List.getD_eq_getElem?_getD, List.getElem?_append_right (Nat.le_refl _), Nat.sub_self]
        rfl
      rw [eg, R, R, R, R]
      rw [if_neg (show ¬ 160 * v + 4 * L.length = m + 3 by omega), if_neg (show ¬ 160 * v + 4 * L.length = m + 2 by omega), if_neg (show ¬ 160 * v + 4 * L.length = m + 1 by omega), if_pos (show 160 * v + 4 * L.length = m by omega)]
      rw [if_neg (show ¬ 160 * v + 4 * L.length + 1 = m + 3 by omega), if_neg (show ¬ 160 * v + 4 * L.length + 1 = m + 2 by omega), if_pos (show 160 * v + 4 * L.length + 1 = m + 1 by omega)]
      rw [if_neg (show ¬ 160 * v + 4 * L.length + 2 = m + 3 by omega), if_pos (show 160 * v + 4 * L.length + 2 = m + 2 by omega)]
      rw [if_pos (show 160 * v + 4 * L.length + 3 = m + 3 by omega)]
      exact ⟨rfl, rfl, rfl, rfl⟩
  · rw [h18, an]
    refine k_v.uf ?_ (by decide) (by decide) (mw 38 1 _ _ rfl (by omega))
    rw [h13, n3]
    refine k_v.uf ?_ (by decide) (by decide) (mw 39 160 _ _ rfl (by omega))
    rw [h10, n2]
    refine k_v.uf ?_ (by decide) (by decide) (mw 39 160 _ _ rfl (by omega))
    rw [h7, n1]
    refine k_v.uf ?_ (by decide) (by decide) (mw 39 160 _ _ rfl (by omega))
    rw [h4, n0]
    exact k_v.uf k_v.rf (by decide) (by decide) (mw 39 160 _ _ rfl (by omega))
  · rw [h18, w_f, if_neg h38, h13, w_f, if_neg h39, h10, w_f, if_neg h39, h7, w_f, if_neg h39, h4, w_f, if_neg h39]
theorem tl_getD {d : Int × Int × Int × Int} (L : s_L) (i : Nat) : L.tail.getD i d = L.getD (i + 1) d := by
  cases L <;> rfl
/-- a digging is written down -/
theorem mx_wd (ha : a1.toInt = v) (hv : v ≤ 21) (h : mx_kp S v L) : ∃ S1, F_m_writesDown o S a1 a2 a3 a4 = S1 ∧ mx_kp S1 v (s_kp L ((S.2.1 29 v).toInt, a2.toInt, a3.toInt, a4.toInt)) ∧ k_v v S S1 ∧ ∀ a, a ≠ 38 → a ≠ 39 → S1.2.1 a = S.2.1 a := by
  have an : a1.toNatClampNeg = v := by rw [dk_clN]; omega
  obtain ⟨h1, h2, h3⟩ := h
  unfold s_kp
  by_cases q : S.2.1 38 a1.toNatClampNeg = (40 : Int32)
  · have d := dk_eqc (k := 40) (by decide +kernel) q
    rw [an] at d
    have hl : L.length = 40 := by omega
    rw [if_pos hl]
    have e1 : ((160 : Int32) * a1).toInt = ((160 * v : Nat) : Int) := by
      rw [dk_mulT (a := 160) (by decide +kernel) ha (by omega) (by omega)]
      omega
    obtain ⟨x2, hx2⟩ : ∃ x, x = S.2.1 38 a1.toNatClampNeg := ⟨_, rfl⟩
    obtain ⟨S2, f1, f2, f3⟩ := mx_wdl (a2 := a2) (a3 := a3) (a4 := a4) (x2 := x2) (z := S) (O := S.2.1 39) ha hv ((3517 - (((160 : Int32) * a1 : Int32)).toInt).toNat + 1) (160 * v) ((160 : Int32) * a1) S (by rw [e1]; omega) (Nat.le_refl _) (by omega) e1 (fun j => by rw [if_neg (by omega)])
    obtain ⟨S3, h9⟩ : ∃ S', S' = dg_uf S2 38 (upd (S2.2.1 38) a1.toNatClampNeg (x2 - (1 : Int32))) := ⟨_, rfl⟩
    have ex : (x2 - (1 : Int32)).toInt = (L.tail.length : Int) := by
      rw [dk_subT (a := 40) (b := 1) (by rw [hx2, an]; exact d) (by decide +kernel) (by omega) (by omega), List.length_tail, hl]
      rfl
    have r29 : S3.2.1 29 v = S.2.1 29 v := by rw [h9, w_f, if_neg (by decide), (f3.2 29 (by decide)).1]
    have r39 : ∀ j, S3.2.1 39 j = if 160 * v ≤ j ∧ j < 160 * v + 156 then S.2.1 39 (j + 4) else S.2.1 39 j := fun j => by rw [h9, w_f, if_neg (by decide), f2]
    have w39 : mx_w 39 = 160 := rfl
    have w38 : mx_w 38 = 1 := rfl
    have k2 : k_v v S S2 := ⟨f3.w (fun _ _ z => z) (fun a z => by omega), fun a a0 a1 j hj => by
      by_cases y : a = 39
      · subst y
        rw [f2, if_neg (fun y => hj (mw 39 160 _ _ rfl (by omega)))]
      · rw [(f3.2 a y).1]⟩
    have k3 : k_v v S S3 := by
      rw [h9, an]
      exact k2.uf (by decide) (by decide) (mw 38 1 _ _ rfl (by omega))
    have hl3 : L.tail.length = 39 := by rw [List.length_tail, hl]
    obtain ⟨S1, g1, g2, g3, g4⟩ := mx_wd1 (S := S3) (a2 := a2) (a3 := a3) (a4 := a4) ha hv ex (by omega) (fun i hi => by
      rw [hl3] at hi
      rw [r39, r39, r39, r39, if_pos (by omega), if_pos (by omega), if_pos (by omega), if_pos (by omega), tl_getD]
      have := h3 (i + 1) (by omega)
      rw [show 160 * v + 4 * (i + 1) = 160 * v + 4 * i + 4 by omega] at this
      rw [show 160 * v + 4 * i + 1 + 4 = 160 * v + 4 * i + 4 + 1 by omega, show 160 * v + 4 * i + 2 + 4 = 160 * v + 4 * i + 4 + 2 by omega, show 160 * v + 4 * i + 3 + 4 = 160 * v + 4 * i + 4 + 3 by omega]
      exact this)
    rw [r29] at g2
    refine ⟨S1, ?_, g2, k3.tr g3, fun a h38 h39 => ?_⟩
    · rw [F_m_writesDown_p6 hx2 (by rw [hx2]; exact q) rfl, f1, F_m_writesDown_p3 rfl h9]
      exact g1
    · rw [g4 a h38 h39, h9, w_f, if_neg h38, (f3.2 a h39).1]
  · have d := dk_neqc (k := 40) (by decide +kernel) q
    rw [an] at d
    have hl : ¬ L.length = 40 := fun z => d (by rw [h1, z]; rfl)
    rw [if_neg hl]
    obtain ⟨S1, g1, g2, g3, g4⟩ := mx_wd1 (S := S) (x := S.2.1 38 a1.toNatClampNeg) (a2 := a2) (a3 := a3) (a4 := a4) ha hv (by rw [an]; exact h1) (by omega) h3
    exact ⟨S1, (F_m_writesDown_p2 rfl q).trans g1, g2, g3, g4⟩
end LL
end
