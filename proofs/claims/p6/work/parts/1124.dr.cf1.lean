/-! the reference works out a rule, 1 -/
/-! the reference works out a rule -/
section LI
variable {x y : Int64} {a b : Int}
theorem l_add (hx : x.toInt = a) (hy : y.toInt = b) (h1 : -9000000000000000000 ≤ a + b) (h2 : a + b ≤ 9000000000000000000) : (x + y).toInt = a + b := by
  rw [Int64.toInt_add, hx, hy]
  exact Int.bmod_eq_of_le (by omega) (by omega)
theorem l_sub (hx : x.toInt = a) (hy : y.toInt = b) (h1 : -9000000000000000000 ≤ a - b) (h2 : a - b ≤ 9000000000000000000) : (x - y).toInt = a - b := by
  rw [Int64.toInt_sub, hx, hy]
  exact Int.bmod_eq_of_le (by omega) (by omega)
theorem l_mul (hx : x.toInt = a) (hy : y.toInt = b) (h1 : -9000000000000000000 ≤ a * b) (h2 : a * b ≤ 9000000000000000000) : (x * y).toInt = a * b := by
  rw [Int64.toInt_mul, hx, hy]
  generalize a * b = z at h1 h2 ⊢
  exact Int.bmod_eq_of_le (by omega) (by omega)
theorem l_div (hx : -1000000 ≤ x.toInt ∧ x.toInt ≤ 1000000) : (x / y).toInt = x.toInt.tdiv y.toInt := by
  apply Int64.toInt_div_of_ne_left
  intro z
  rw [z] at hx
  exact absurd hx.1 (by decide +kernel)
theorem l_le : lg_cmp x y ≤ (0 : Int32) ↔ x.toInt ≤ y.toInt := by
  have h := dk_lcmp (x := x) (y := y) rfl
  have z0 : (0 : Int32).toInt = 0 := by decide +kernel
  rw [w_le, z0]
  omega
theorem l_ge : (0 : Int32) ≤ lg_cmp x y ↔ y.toInt ≤ x.toInt := by
  have h := dk_lcmp (x := x) (y := y) rfl
  have z0 : (0 : Int32).toInt = 0 := by decide +kernel
  rw [w_le, z0]
  omega
theorem l_eq : lg_cmp x y = (0 : Int32) ↔ x.toInt = y.toInt := by
  have h := dk_lcmp (x := x) (y := y) rfl
  have z0 : (0 : Int32).toInt = 0 := by decide +kernel
  rw [w_eq, z0]
  omega
theorem e_cl_in (h : -1000000 ≤ a ∧ a ≤ 1000000) : e_cl a = a := by
  unfold e_cl
  rw [if_neg (by omega), if_neg (by omega)]
theorem e_p2 (ha : -1000000 ≤ a ∧ a ≤ 1000000) (hb : -1000000 ≤ b ∧ b ≤ 1000000) : -1000000000000 ≤ a * b ∧ a * b ≤ 1000000000000 := by
  have h : (a * b).natAbs ≤ 1000000 * 1000000 := by
    rw [Int.natAbs_mul]
    exact Nat.mul_le_mul (by omega) (by omega)
  generalize a * b = z at h ⊢
  omega
end LI
section MT
variable {S : dg_S} {o : Nat} {a1 : Int32} {x y : Int64}
theorem mx_within : (F_m_within o S x).toInt = e_cl x.toInt := by
  have m1 : (1000000 : Int64).toInt = 1000000 := by decide +kernel
  have m2 : (-1000000 : Int64).toInt = -1000000 := by decide +kernel
  unfold e_cl
  by_cases c1 : lg_cmp x 1000000 ≤ (0 : Int32)
  · have d1 := l_le.mp c1
    rw [m1] at d1
    by_cases c2 : (0 : Int32) ≤ lg_cmp x (-1000000)
    · have d2 := l_ge.mp c2
      rw [m2] at d2
      rw [F_m_within_p0 rfl c1 rfl c2, if_neg (by omega), if_neg (by omega)]
    · have d2 : ¬ (-1000000 : Int64).toInt ≤ x.toInt := fun z => c2 (l_ge.mpr z)
      rw [m2] at d2
      rw [F_m_within_p1 rfl c1 rfl c2, if_neg (by omega), if_pos (by omega), m2]
  · have d1 : ¬ x.toInt ≤ (1000000 : Int64).toInt := fun z => c1 (l_le.mpr z)
    rw [m1] at d1
    rw [F_m_within_p2 rfl c1, if_pos (by omega), m1]
theorem mx_floor (hx : -1000000 ≤ x.toInt ∧ x.toInt ≤ 1000000) (hy : -1000000 ≤ y.toInt ∧ y.toInt ≤ 1000000) (h0 : y.toInt ≠ 0) : (F_m_floor o S x y).toInt = e_fd x.toInt y.toInt := by
  have z0 : (0 : Int64).toInt = 0 := by decide +kernel
  have z1 : (1 : Int64).toInt = 1 := by decide +kernel
  have b1 := cx_td_b hx h0
  have b2 := cx_mul_tdiv hx hy h0
  have e1 := l_div (y := y) hx
  have e2 : (x / y * y).toInt = x.toInt.tdiv y.toInt * y.toInt := l_mul e1 rfl (by omega) (by omega)
  have e3 : (x - x / y * y).toInt = x.toInt - x.toInt.tdiv y.toInt * y.toInt := l_sub rfl e2 (by omega) (by omega)
  have e4 : (x / y - (1 : Int64)).toInt = x.toInt.tdiv y.toInt - 1 := l_sub e1 z1 (by omega) (by omega)
  have c0 : ¬ lg_cmp y 0 = (0 : Int32) := fun z => h0 (by rw [← z0]; exact l_eq.mp z)
  unfold e_fd
  by_cases q : lg_cmp (x - x / y * y) 0 = (0 : Int32)
  · have d := l_eq.mp q
    rw [e3, z0] at d
    rw [F_m_floor_p0 rfl c0 rfl rfl rfl q, if_neg (fun z => z.2 (by omega)), e1]
  · have d : ¬ (x - x / y * y).toInt = (0 : Int64).toInt := fun z => q (l_eq.mpr z)
    rw [e3, z0] at d
    have ne : x.toInt.tdiv y.toInt * y.toInt ≠ x.toInt := by omega
    by_cases p : (0 : Int32) ≤ lg_cmp x 0
    · have dp := l_ge.mp p
      rw [z0] at dp
      rw [F_m_floor_p5 rfl c0 rfl rfl rfl q rfl p]
      by_cases t : (0 : Int32) ≤ lg_cmp y 0
      · have dt := l_ge.mp t
        rw [z0] at dt
        rw [F_m_floor_p1 rfl t rfl, if_neg (fun z => by have := z.1; omega), e1]
      · have dt : ¬ (0 : Int64).toInt ≤ y.toInt := fun z => t (l_ge.mpr z)
        rw [z0] at dt
        rw [F_m_floor_p4 rfl t (by decide +kernel) rfl, if_pos ⟨by omega, ne⟩, e4]
    · have dp : ¬ (0 : Int64).toInt ≤ x.toInt := fun z => p (l_ge.mpr z)
      rw [z0] at dp
      rw [F_m_floor_p6 rfl c0 rfl rfl rfl q rfl p]
      by_cases t : (0 : Int32) ≤ lg_cmp y 0
      · have dt := l_ge.mp t
        rw [z0] at dt
        rw [F_m_floor_p2 rfl t (by decide +kernel) rfl, if_pos ⟨by omega, ne⟩, e4]
      · have dt : ¬ (0 : Int64).toInt ≤ y.toInt := fun z => t (l_ge.mpr z)
        rw [z0] at dt
        rw [F_m_floor_p3 rfl t rfl, if_neg (fun z => by have := z.1; omega), e1]
theorem l_01 {x : Int64} (h : x.toInt = 0 ∨ x.toInt = 1) : x = 0 ∨ x = 1 := by
  rcases h with h | h
  · exact Or.inl (Int64.toInt_inj.mp (by rw [h]; decide +kernel))
  · exact Or.inr (Int64.toInt_inj.mp (by rw [h]; decide +kernel))
end MT
