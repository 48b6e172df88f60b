/-! the reference: open cells next to one (DRAFT, not compiled) -/
section MA
variable {G A : aR} {S : dg_S} {v o : Nat} {a b c a1 a2 : Int32}
theorem mx_adr (ha : a.toInt = v) (hv : v ≤ 40) (hc : 0 ≤ b.toInt ∧ b.toInt < 64) : ((64 : Int32) * a + b).toNatClampNeg = mx_ad v b.toInt := by
  have s1 : ((64 : Int32) * a).toInt = 64 * (v : Int) := dk_mulT (by decide +kernel) ha (by omega) (by omega)
  have s2 : ((64 : Int32) * a + b).toInt = 64 * (v : Int) + b.toInt := dk_addT s1 rfl (by omega) (by omega)
  rw [dk_clN, s2]
  rfl
theorem mx_op (h : mx_ce G A S v) (ha : a.toInt = v) (hv : v ≤ 40) (hc : s_in G b.toInt) : F_m_isOpen o S a b = 1 ∧ s_op G A b.toInt ∨ F_m_isOpen o S a b = 0 ∧ ¬ s_op G A b.toInt := by
  obtain ⟨e, -, l, u⟩ := h b.toInt hc
  have ad := mx_adr ha hv ⟨hc.1.1, hc.1.2⟩
  by_cases q : s_c A b.toInt < 0
  · refine Or.inl ⟨F_m_isOpen_p1 rfl rfl rfl ?_, hc, q⟩
    rw [ad]
    exact dk_eqp (k := -1) (by decide +kernel) (by rw [e]; unfold mx_en; rw [if_pos q])
  · refine Or.inr ⟨F_m_isOpen_p0 rfl rfl rfl ?_, fun z => q z.2⟩
    rw [ad]
    intro z
    have := dk_eqc (k := -1) (by decide +kernel) z
    rw [e] at this
    unfold mx_en at this
    rw [if_neg q] at this
    omega
theorem mx_ob1 {w w' n : Int32} {d : Int} (h : mx_ce G A S v) (hg : mx_gd G S) (hb : s_gb G) (ha : a1.toInt = v) (hv : v ≤ 40) (hc : s_in G a2.toInt) (hw : w.toInt < 4) (ew : w' = w + 1) (hd : mx_dd w.toInt = d) (hn : 0 ≤ n.toInt ∧ n.toInt ≤ 9) :
    ∃ n', F_m_openBeside_B1 S o a2 a1 (w, n) = .inl (w', n') ∧ n'.toInt = n.toInt + s_b (s_op G A (a2.toInt + d)) := by
  have c4 : ¬ (4 : Int32) ≤ w := fun z => by have := dk_gec (k := 4) (by decide +kernel) z; omega
  have z0 : (0 : Int32).toInt = 0 := by decide +kernel
  have p1 : (1 : Int32).toInt = 1 := by decide +kernel
  subst hd
  rcases mx_beside (o := o) (a := a2) (b := w) hg hb hc with ⟨e, q⟩ | ⟨e, q⟩
  · have n1 : ¬ F_m_besideOf o S a2 w = (-1 : Int32) := fun z => by
      have := dk_eqc (k := -1) (by decide +kernel) z
      have := q.1.1
      omega
    have q' := q
    rw [← e] at q'
    rcases mx_op (o := o) (b := F_m_besideOf o S a2 w) h ha hv q' with ⟨f, k⟩ | ⟨f, k⟩
    · refine ⟨n + 1, ?_, ?_⟩
      · rw [F_m_openBeside_p5 c4 rfl n1 rfl rfl (by rw [f]; decide +kernel)]
        exact F_m_openBeside_p1 rfl ew
      · rw [e] at k
        rw [s_b1 k]
        exact dk_addT rfl p1 (by omega) (by omega)
    · refine ⟨n + 0, ?_, ?_⟩
      · rw [F_m_openBeside_p4 c4 rfl n1 rfl rfl f, F_m_openBeside_p2]
        exact F_m_openBeside_p1 rfl ew
      · rw [e] at k
        rw [s_b0 k]
        exact dk_addT rfl z0 (by omega) (by omega)
  · refine ⟨n + 0, ?_, ?_⟩
    · rw [F_m_openBeside_p3 c4 rfl e, F_m_openBeside_p2]
      exact F_m_openBeside_p1 rfl ew
    · rw [s_b0 (fun z => q z.1)]
      exact dk_addT rfl z0 (by omega) (by omega)
theorem mx_ob (h : mx_ce G A S v) (hg : mx_gd G S) (hb : s_gb G) (ha : a1.toInt = v) (hv : v ≤ 40) (hc : s_in G a2.toInt) : (F_m_openBeside o S a1 a2).toInt = s_ob G A a2.toInt := by
  have z0 : (0 : Int32).toInt = 0 := by decide +kernel
  have p1 : (1 : Int32).toInt = 1 := by decide +kernel
  have p2 : (2 : Int32).toInt = 2 := by decide +kernel
  have p3 : (3 : Int32).toInt = 3 := by decide +kernel
  obtain ⟨n1, e1, x1⟩ := mx_ob1 (o := o) (w := 0) (w' := 1) (n := 0) (d := -8) h hg hb ha hv hc (by rw [z0]; omega) (by decide +kernel) (by rw [z0]; rfl) (by rw [z0]; omega)
  have y1 := s_b01 (s_op G A (a2.toInt + -8))
  obtain ⟨n2, e2, x2⟩ := mx_ob1 (o := o) (w := 1) (w' := 2) (n := n1) (d := 1) h hg hb ha hv hc (by rw [p1]; omega) (by decide +kernel) (by rw [p1]; rfl) (by omega)
  have y2 := s_b01 (s_op G A (a2.toInt + 1))
  obtain ⟨n3, e3, x3⟩ := mx_ob1 (o := o) (w := 2) (w' := 3) (n := n2) (d := 8) h hg hb ha hv hc (by rw [p2]; omega) (by decide +kernel) (by rw [p2]; rfl) (by omega)
  have y3 := s_b01 (s_op G A (a2.toInt + 8))
  obtain ⟨n4, e4, x4⟩ := mx_ob1 (o := o) (w := 3) (w' := 4) (n := n3) (d := -1) h hg hb ha hv hc (by rw [p3]; omega) (by decide +kernel) (by rw [p3]; rfl) (by omega)
  have E : F_m_openBeside o S a1 a2 = n4 := by
    rw [F_m_openBeside_p6, show ((5 - ((0 : Int32)).toInt).toNat + 1) = 5 + 1 by rw [z0]; rfl]
    exact (lp_sl (n := 5) e1).trans ((lp_sl (n := 4) e2).trans ((lp_sl (n := 3) e3).trans ((lp_sl (n := 2) e4).trans (lp_sr (n := 1) (F_m_openBeside_p0 (by decide +kernel))))))
  rw [E, x4, x3, x2, x1, z0]
  unfold s_ob
  rw [show a2.toInt - 8 = a2.toInt + -8 by omega, show a2.toInt - 1 = a2.toInt + -1 by omega]
  omega
end MA
