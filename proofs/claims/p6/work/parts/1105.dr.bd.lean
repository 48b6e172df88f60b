/-! the class's pits by numbers -/
theorem lp_sl {σ ρ : Type} {f : σ → σ ⊕ ρ} {z : ρ} {n : Nat} {s s' : σ} (e : f s = .inl s') : lp f z (n + 1) s = lp f z n s' := by
  rw [lp_s, e]
theorem lp_sr {σ ρ : Type} {f : σ → σ ⊕ ρ} {z : ρ} {n : Nat} {s : σ} {r : ρ} (e : f s = .inr r) : lp f z (n + 1) s = r := by
  rw [lp_s, e]
/-- what stands at a place -/
def cx_at (S : dg_S) (p : Nat) (x : Int) : Int := (S.2.1 (p + 1) x.toNat).toInt
def cx_en (v : Int) : Int := if v = -1 then 255 else if v = -2 then 254 else v
/-- the cells of a pit are those of A -/
def cx_ce (G A : aR) (S : dg_S) (p : Nat) : Prop := ∀ x : Int, 0 ≤ x → x < 72 → (s_in G (x - 8) → cx_at S p x = cx_en (s_c A (x - 8)) ∧ -2 ≤ s_c A (x - 8) ∧ s_c A (x - 8) ≤ 9) ∧ (¬ s_in G (x - 8) → cx_at S p x = 100)
section XP
variable {G A : aR} {S S1 : dg_S} {p o : Nat} {a r : Int32} {x : Int}
theorem cx_ce.op (h : cx_ce G A S p) (h0 : 0 ≤ x) (h1 : x < 72) : 254 ≤ cx_at S p x ↔ s_op G A (x - 8) := by
  obtain ⟨h2, h3⟩ := h x h0 h1
  by_cases q : s_in G (x - 8)
  · obtain ⟨e, l, u⟩ := h2 q
    rw [e]
    unfold cx_en s_op
    constructor
    · intro z
      refine ⟨q, ?_⟩
      split at z
      · omega
      · split at z <;> omega
    · intro z
      have := z.2
      split
      · omega
      · split <;> omega
  · rw [h3 q]
    exact ⟨fun z => by omega, fun z => absurd z.1 q⟩
theorem cx_ce.so (h : cx_ce G A S p) (h0 : 0 ≤ x) (h1 : x < 72) : cx_at S p x ≤ 9 ↔ s_so G A (x - 8) := by
  obtain ⟨h2, h3⟩ := h x h0 h1
  by_cases q : s_in G (x - 8)
  · obtain ⟨e, l, u⟩ := h2 q
    rw [e]
    unfold cx_en s_so
    constructor
    · intro z
      refine ⟨q, ?_⟩
      split at z
      · omega
      · split at z <;> omega
    · intro z
      have := z.2
      split
      · omega
      · split <;> omega
  · rw [h3 q]
    exact ⟨fun z => by omega, fun z => absurd z.1 q⟩
theorem cx_ce.ps (h : cx_ce G A S p) (h0 : 0 ≤ x) (h1 : x < 72) : cx_at S p x = 255 ↔ s_ps G A (x - 8) := by
  obtain ⟨h2, h3⟩ := h x h0 h1
  by_cases q : s_in G (x - 8)
  · obtain ⟨e, l, u⟩ := h2 q
    rw [e]
    unfold cx_en s_ps
    constructor
    · intro z
      refine ⟨q, ?_⟩
      split at z
      · omega
      · split at z <;> omega
    · intro z
      have := z.2
      split
      · omega
      · omega
  · rw [h3 q]
    exact ⟨fun z => by omega, fun z => absurd z.1 q⟩
theorem cx_ce.val (h : cx_ce G A S p) (h0 : 0 ≤ x) (h1 : x < 72) (q : s_so G A (x - 8)) : cx_at S p x = s_c A (x - 8) := by
  obtain ⟨e, l, u⟩ := (h x h0 h1).1 q.1
  rw [e]
  have := q.2
  unfold cx_en
  rw [if_neg (by omega), if_neg (by omega)]
theorem cx_isOpen (h : cx_ce G A S p) (h0 : 0 ≤ a.toInt) (h1 : a.toInt < 72) : (F_p_isOpen o S p a).toInt = s_b (s_op G A (a.toInt - 8)) := by
  have e := h.op h0 h1
  by_cases q : S.2.1 (p + 1) a.toNatClampNeg < (254 : Int32)
  · have q1 := dk_ltc (k := 254) (by decide +kernel) q
    rw [F_p_isOpen_p0 rfl q, s_b0 (fun z => by have := e.mpr z; unfold cx_at at this; rw [← dk_clN] at this; omega)]
    decide +kernel
  · have q1 := dk_nltc (k := 254) (by decide +kernel) q
    rw [F_p_isOpen_p1 rfl q, s_b1 (e.mp (by unfold cx_at; rw [← dk_clN]; omega))]
    decide +kernel
theorem cx_isSolid (h : cx_ce G A S p) (h0 : 0 ≤ a.toInt) (h1 : a.toInt < 72) : (F_p_isSolid o S p a).toInt = s_b (s_so G A (a.toInt - 8)) := by
  have e := h.so h0 h1
  by_cases q : (9 : Int32) < S.2.1 (p + 1) a.toNatClampNeg
  · have q1 := dk_gtc (k := 9) (by decide +kernel) q
    rw [F_p_isSolid_p0 rfl q, s_b0 (fun z => by have := e.mpr z; unfold cx_at at this; rw [← dk_clN] at this; omega)]
    decide +kernel
  · have q1 := dk_ngtc (k := 9) (by decide +kernel) q
    rw [F_p_isSolid_p1 rfl q, s_b1 (e.mp (by unfold cx_at; rw [← dk_clN]; omega))]
    decide +kernel
theorem cx_isSolid0 (h : cx_ce G A S p) (h0 : 0 ≤ a.toInt) (h1 : a.toInt < 72) : (F_p_isSolid0 o S p a).toInt = s_b (s_so G A (a.toInt - 8)) := cx_isSolid (o := o) h h0 h1
/-- one step of the count of open neighbours -/
theorem cx_ob1 (h : cx_ce G A S p) {k m sd : Int32} (hk : ¬ (4 : Int32) ≤ k) (hs : zV (dk_sides k.toNatClampNeg) = sd) (e : (a + sd).toInt = x) (h0 : 0 ≤ x) (h1 : x < 72) (hm : 0 ≤ m.toInt ∧ m.toInt ≤ 8) : ∃ m' : Int32, F_p_openBeside_B1 a o S p (k, m) = .inl (k + 1, m') ∧ m'.toInt = m.toInt + s_b (s_op G A (x - 8)) := by
  have e1 := cx_isOpen (o := o) (a := a + sd) h (by omega) (by omega)
  rw [e] at e1
  by_cases q : F_p_isOpen o S p (a + sd) = (0 : Int32)
  · refine ⟨m, (F_p_openBeside_p2 hk hs.symm rfl rfl q).trans (F_p_openBeside_p1 rfl), ?_⟩
    rw [q] at e1
    have z : (0 : Int32).toInt = 0 := by decide +kernel
    omega
  · refine ⟨m + 1, (F_p_openBeside_p3 hk hs.symm rfl rfl q rfl).trans (F_p_openBeside_p1 rfl), ?_⟩
    have z := dk_neqc (k := 0) (by decide +kernel) q
    have z1 := s_b01 (s_op G A (x - 8))
    rw [dk_addT (b := 1) rfl (by decide +kernel) (by omega) (by omega)]
    omega
theorem cx_openBeside (h : cx_ce G A S p) (h0 : 8 ≤ a.toInt) (h1 : a.toInt ≤ 63) : (F_p_openBeside o S p a).toInt = s_ob G A (a.toInt - 8) := by
  have T : ∀ (sd : Int32) (b : Int), sd.toInt = b → -8 ≤ b → b ≤ 8 → (a + sd).toInt = a.toInt + b := fun sd b hb h2 h3 => dk_addT rfl hb (by omega) (by omega)
  have z0 : (0 : Int32).toInt = 0 := by decide +kernel
  have b1 := s_b01 (s_op G A (a.toInt - 8 - 8))
  have b2 := s_b01 (s_op G A (a.toInt - 8 - 1))
  have b3 := s_b01 (s_op G A (a.toInt - 8 + 1))
  have b4 := s_b01 (s_op G A (a.toInt - 8 + 8))
  obtain ⟨m1, e1, j1⟩ := cx_ob1 (o := o) (a := a) (m := 0) h (k := 0) (sd := -8) (by decide +kernel) (by decide +kernel) (T (-8) (-8) (by decide +kernel) (by omega) (by omega)) (by omega) (by omega) (by omega)
  rw [show a.toInt + -8 - 8 = a.toInt - 8 - 8 by omega] at j1
  obtain ⟨m2, e2, j2⟩ := cx_ob1 (o := o) (a := a) (m := m1) h (k := 0 + 1) (sd := -1) (by decide +kernel) (by decide +kernel) (T (-1) (-1) (by decide +kernel) (by omega) (by omega)) (by omega) (by omega) (by omega)
  rw [show a.toInt + -1 - 8 = a.toInt - 8 - 1 by omega] at j2
  obtain ⟨m3, e3, j3⟩ := cx_ob1 (o := o) (a := a) (m := m2) h (k := 0 + 1 + 1) (sd := 1) (by decide +kernel) (by decide +kernel) (T 1 1 (by decide +kernel) (by omega) (by omega)) (by omega) (by omega) (by omega)
  rw [show a.toInt + 1 - 8 = a.toInt - 8 + 1 by omega] at j3
  obtain ⟨m4, e4, j4⟩ := cx_ob1 (o := o) (a := a) (m := m3) h (k := 0 + 1 + 1 + 1) (sd := 8) (by decide +kernel) (by decide +kernel) (T 8 8 (by decide +kernel) (by omega) (by omega)) (by omega) (by omega) (by omega)
  rw [show a.toInt + 8 - 8 = a.toInt - 8 + 8 by omega] at j4
  have e5 : F_p_openBeside_B1 a o S p (0 + 1 + 1 + 1 + 1, m4) = .inr m4 := F_p_openBeside_p0 (by decide +kernel)
  rw [F_p_openBeside_p4, show ((5 - ((0 : Int32)).toInt).toNat + 1) = 5 + 1 by decide +kernel, lp_sl e1, lp_sl e2, lp_sl e3, lp_sl e4, lp_sr e5]
  unfold s_ob
  omega
theorem cx_canBeDug (h : cx_ce G A S p) (h0 : 8 ≤ a.toInt) (h1 : a.toInt ≤ 63) : (F_p_canBeDug o S p a).toInt = s_b (s_so G A (a.toInt - 8) ∧ 0 < s_ob G A (a.toInt - 8)) := by
  have e1 := cx_isSolid (o := o) (a := a) h (by omega) (by omega)
  have e2 := cx_openBeside (o := o) (a := a) h h0 h1
  have z0 : (0 : Int32).toInt = 0 := by decide +kernel
  have z1 : (1 : Int32).toInt = 1 := by decide +kernel
  by_cases q : F_p_isSolid o S p a = (0 : Int32)
  · rw [F_p_canBeDug_p0 rfl q, z0]
    rw [q, z0] at e1
    refine (s_b0 (fun z => ?_)).symm
    rw [s_b1 z.1] at e1
    exact absurd e1 (by decide)
  · have s1 : s_so G A (a.toInt - 8) := by
      apply Classical.byContradiction
      intro z
      rw [s_b0 z] at e1
      exact q (dk_eqp (k := 0) (by decide +kernel) e1)
    by_cases q2 : F_p_openBeside o S p a ≤ (0 : Int32)
    · have := dk_lec (k := 0) (by decide +kernel) q2
      rw [F_p_canBeDug_p1 rfl q rfl q2, z0]
      exact (s_b0 (fun z => by have := z.2; omega)).symm
    · have := dk_nlec (k := 0) (by decide +kernel) q2
      rw [F_p_canBeDug_p2 rfl q rfl q2, z1]
      exact (s_b1 ⟨s1, by omega⟩).symm
end XP
