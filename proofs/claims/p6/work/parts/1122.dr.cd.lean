/-! the reference: lit cells next to one -/
def mx_fo (x : Int) : Int := if x = -1 then 100000000 else x
def mx_fi (x : Int) : Int := if x = 100000000 then -1 else x
/-- how far cells are -/
def mx_fr (G A : aR) (S : dg_S) : Prop := ∀ c : Int, s_in G c → (S.2.1 42 c.toNat).toInt = mx_fo (s_fd G A c) ∧ -1 ≤ s_fd G A c ∧ s_fd G A c ≤ 63
theorem mn_c (a b : Int) : s_mn a b = s_mn b a := by
  unfold s_mn
  by_cases h1 : a = -1
  · rw [if_pos h1]
    by_cases h2 : b = -1
    · rw [if_pos h2, h1, h2]
    · rw [if_neg h2, if_pos h1]
  · rw [if_neg h1]
    by_cases h2 : b = -1
    · rw [if_pos h2, if_pos h2]
    · rw [if_neg h2, if_neg h2, if_neg h1]
      split <;> split <;> omega
theorem mn_r (a : Int) : s_mn a (-1) = a := by
  unfold s_mn
  by_cases h1 : a = -1
  · rw [if_pos h1, h1]
  · rw [if_neg h1, if_pos rfl]
theorem mn_l (a : Int) : s_mn (-1) a = a := by
  unfold s_mn
  rw [if_pos rfl]
theorem mn_n {a b : Int} (ha : a ≠ -1) (hb : b ≠ -1) : s_mn a b = if a ≤ b then a else b := by
  unfold s_mn
  rw [if_neg ha, if_neg hb]
theorem mn_a (a b c : Int) : s_mn (s_mn a b) c = s_mn a (s_mn b c) := by
  by_cases h1 : a = -1
  · rw [h1, mn_l, mn_l]
  by_cases h2 : b = -1
  · rw [h2, mn_l, mn_r]
  by_cases h3 : c = -1
  · rw [h3, mn_r, mn_r]
  have e1 := mn_n h1 h2
  have e2 := mn_n h2 h3
  have n1 : s_mn a b ≠ -1 := by rw [e1]; split <;> assumption
  have n2 : s_mn b c ≠ -1 := by rw [e2]; split <;> assumption
  rw [mn_n n1 h3, mn_n h1 n2, e1, e2]
  by_cases z1 : a ≤ b
  · rw [if_pos z1]
    by_cases z2 : b ≤ c
    · rw [if_pos z2, if_pos z1, if_pos (by omega)]
    · rw [if_neg z2]
  · rw [if_neg z1]
    by_cases z2 : b ≤ c
    · rw [if_pos z2, if_neg z1]
    · rw [if_neg z2, if_neg (by omega)]
theorem mn_4 (a b c d : Int) : s_mn (s_mn (s_mn a b) c) d = s_mn (s_mn a d) (s_mn b c) := by
  rw [mn_a a b c, mn_a a (s_mn b c) d, mn_c (s_mn b c) d, ← mn_a]
section MA
variable {G A : aR} {S : dg_S} {v o : Nat} {r : Int} {a b c a1 a2 : Int32}
theorem mx_lit (h : mx_ce G A S v) (hf : mx_fr G A S) (ha : a.toInt = v) (hv : v ≤ 40) (hr : (zI S 0 63).toInt = r) (hr9 : r ≤ 900) (hc : s_in G b.toInt) : F_m_isLit o S a b = 1 ∧ s_lit G A r b.toInt ∨ F_m_isLit o S a b = 0 ∧ ¬ s_lit G A r b.toInt := by
  obtain ⟨-, e2, l, u⟩ := h b.toInt hc
  obtain ⟨f1, f2, f3⟩ := hf b.toInt hc
  have ad := mx_adr ha hv ⟨hc.1.1, hc.1.2⟩
  have bn : b.toNatClampNeg = b.toInt.toNat := rfl
  unfold mx_fo at f1
  unfold mx_cu at e2
  rcases mx_op (o := o) h ha hv hc with ⟨q, k⟩ | ⟨q, k⟩
  · have n0 : ¬ F_m_isOpen o S a b = (0 : Int32) := by rw [q]; decide +kernel
    by_cases q2 : zI S 0 63 < S.2.1 42 b.toNatClampNeg
    · have d2 := dk_ltc (k := (S.2.1 42 b.toNatClampNeg).toInt) rfl q2
      refine Or.inr ⟨F_m_isLit_p1 rfl n0 rfl rfl q2, fun z => ?_⟩
      have z1 := z.2.1
      have z2 := z.2.2
      rw [bn, f1, if_neg z1] at d2
      omega
    · have d2 := dk_nltc (k := (S.2.1 42 b.toNatClampNeg).toInt) rfl q2
      have nm : s_fd G A b.toInt ≠ -1 := fun z => by
        rw [bn, f1, if_pos z] at d2
        omega
      rw [bn, f1, if_neg nm] at d2
      by_cases q3 : S.2.1 32 ((64 : Int32) * a + b).toNatClampNeg = (0 : Int32)
      · have d3 := dk_eqc (k := 0) (by decide +kernel) q3
        rw [ad, e2] at d3
        have n2 : s_c A b.toInt ≠ -2 := fun z => by rw [if_pos z] at d3; exact absurd d3 (by decide)
        have hk := k.2
        exact Or.inl ⟨F_m_isLit_p3 rfl n0 rfl rfl q2 rfl rfl rfl q3, ⟨hc, by omega⟩, nm, by omega⟩
      · have d3 := dk_neqc (k := 0) (by decide +kernel) q3
        rw [ad, e2] at d3
        refine Or.inr ⟨F_m_isLit_p2 rfl n0 rfl rfl q2 rfl rfl rfl q3, fun z => d3 ?_⟩
        have := z.1.2
        rw [if_neg (by omega)]
  · exact Or.inr ⟨F_m_isLit_p0 rfl q, fun z => k ⟨hc, by have := z.1.2; omega⟩⟩
def mx_lv (x : Int) : Prop := x = 100000000 ∨ (0 ≤ x ∧ x ≤ 63)
theorem mx_lb1 {w w' n : Int32} {d : Int} (h : mx_ce G A S v) (hf : mx_fr G A S) (hg : mx_gd G S) (hb : s_gb G) (ha : a1.toInt = v) (hv : v ≤ 40) (hr : (zI S 0 63).toInt = r) (hr9 : r ≤ 900) (hc : s_in G a2.toInt) (hw : w.toInt < 4) (ew : w' = w + 1) (hd : mx_dd w.toInt = d) (hn : mx_lv n.toInt) :
    ∃ n', F_m_litBeside_B1 S o a2 a1 (w, n) = .inl (w', n') ∧ mx_lv n'.toInt ∧ mx_fi n'.toInt = s_mn (mx_fi n.toInt) (s_l1 G A r (a2.toInt + d)) := by
  have c4 : ¬ (4 : Int32) ≤ w := fun z => by have := dk_gec (k := 4) (by decide +kernel) z; omega
  subst hd
  rcases mx_beside (o := o) (a := a2) (b := w) hg hb hc with ⟨e, q⟩ | ⟨e, q⟩
  · have n1 : ¬ F_m_besideOf o S a2 w = (-1 : Int32) := fun z => by
      have := dk_eqc (k := -1) (by decide +kernel) z
      have := q.1.1
      omega
    have q' := q
    rw [← e] at q'
    rcases mx_lit (o := o) (b := F_m_besideOf o S a2 w) h hf ha hv hr hr9 q' with ⟨f, k⟩ | ⟨f, k⟩
    · have n2 : ¬ F_m_isLit o S a1 (F_m_besideOf o S a2 w) = (0 : Int32) := by rw [f]; decide +kernel
      obtain ⟨f1, f2, f3⟩ := hf _ q'
      have k1 := k.2.1
      unfold mx_fo at f1
      rw [if_neg k1] at f1
      rw [e] at k
      rw [s_l1_y k, ← e]
      have hx : S.2.1 42 (F_m_besideOf o S a2 w).toNatClampNeg = S.2.1 42 (F_m_besideOf o S a2 w).toInt.toNat := rfl
      by_cases q2 : n ≤ S.2.1 42 (F_m_besideOf o S a2 w).toNatClampNeg
      · have d2 := dk_lec (k := (S.2.1 42 (F_m_besideOf o S a2 w).toNatClampNeg).toInt) rfl q2
        rw [hx, f1] at d2
        refine ⟨n, ?_, hn, ?_⟩
        · rw [F_m_litBeside_p4 c4 rfl n1 rfl n2 rfl q2]
          exact F_m_litBeside_p1 ew
        · unfold mx_lv at hn
          unfold mx_fi
          rw [if_neg (by omega), mn_n (by omega) k1, if_pos d2]
      · have d2 := dk_nlec (k := (S.2.1 42 (F_m_besideOf o S a2 w).toNatClampNeg).toInt) rfl q2
        rw [hx, f1] at d2
        refine ⟨S.2.1 42 (F_m_besideOf o S a2 w).toNatClampNeg, ?_, ?_, ?_⟩
        · rw [F_m_litBeside_p5 c4 rfl n1 rfl n2 rfl q2]
          exact F_m_litBeside_p1 ew
        · rw [hx, f1]
          unfold mx_lv
          omega
        · rw [hx, f1]
          unfold mx_lv at hn
          unfold mx_fi
          rw [if_neg (show ¬ s_fd G A (F_m_besideOf o S a2 w).toInt = 100000000 by omega)]
          by_cases z : n.toInt = 100000000
          · rw [if_pos z, mn_l]
          · rw [if_neg z, mn_n (by omega) k1, if_neg (by omega)]
    · refine ⟨n, ?_, hn, ?_⟩
      · rw [F_m_litBeside_p3 c4 rfl n1 rfl f]
        exact F_m_litBeside_p1 ew
      · rw [e] at k
        rw [s_l1_n k, mn_r]
  · refine ⟨n, ?_, hn, ?_⟩
    · rw [F_m_litBeside_p2 c4 rfl e]
      exact F_m_litBeside_p1 ew
    · rw [s_l1_n (fun z => q z.1.1), mn_r]
theorem mx_nl (h : mx_ce G A S v) (hf : mx_fr G A S) (hg : mx_gd G S) (hb : s_gb G) (ha : a1.toInt = v) (hv : v ≤ 40) (hr : (zI S 0 63).toInt = r) (hr9 : r ≤ 900) (hc : s_in G a2.toInt) : mx_lv (F_m_litBeside o S a1 a2).toInt ∧ mx_fi (F_m_litBeside o S a1 a2).toInt = s_nl G A r a2.toInt := by
  have z0 : (0 : Int32).toInt = 0 := by decide +kernel
  have p1 : (1 : Int32).toInt = 1 := by decide +kernel
  have p2 : (2 : Int32).toInt = 2 := by decide +kernel
  have p3 : (3 : Int32).toInt = 3 := by decide +kernel
  have p8 : (100000000 : Int32).toInt = 100000000 := by decide +kernel
  obtain ⟨n1, e1, l1, x1⟩ := mx_lb1 (o := o) (w := 0) (w' := 1) (n := 100000000) (d := -8) h hf hg hb ha hv hr hr9 hc (by rw [z0]; omega) (by decide +kernel) (by rw [z0]; rfl) (Or.inl p8)
  obtain ⟨n2, e2, l2, x2⟩ := mx_lb1 (o := o) (w := 1) (w' := 2) (n := n1) (d := 1) h hf hg hb ha hv hr hr9 hc (by rw [p1]; omega) (by decide +kernel) (by rw [p1]; rfl) l1
  obtain ⟨n3, e3, l3, x3⟩ := mx_lb1 (o := o) (w := 2) (w' := 3) (n := n2) (d := 8) h hf hg hb ha hv hr hr9 hc (by rw [p2]; omega) (by decide +kernel) (by rw [p2]; rfl) l2
  obtain ⟨n4, e4, l4, x4⟩ := mx_lb1 (o := o) (w := 3) (w' := 4) (n := n3) (d := -1) h hf hg hb ha hv hr hr9 hc (by rw [p3]; omega) (by decide +kernel) (by rw [p3]; rfl) l3
  have E : F_m_litBeside o S a1 a2 = n4 := by
    rw [F_m_litBeside_p6, show ((5 - ((0 : Int32)).toInt).toNat + 1) = 5 + 1 by rw [z0]; rfl]
    exact (lp_sl (n := 5) e1).trans ((lp_sl (n := 4) e2).trans ((lp_sl (n := 3) e3).trans ((lp_sl (n := 2) e4).trans (lp_sr (n := 1) (F_m_litBeside_p0 (by decide +kernel))))))
  rw [E]
  refine ⟨l4, ?_⟩
  rw [x4, x3, x2, x1, p8, show mx_fi 100000000 = -1 from rfl, mn_l, mn_4]
  unfold s_nl
  rw [show a2.toInt - 8 = a2.toInt + -8 by omega, show a2.toInt - 1 = a2.toInt + -1 by omega]
end MA
