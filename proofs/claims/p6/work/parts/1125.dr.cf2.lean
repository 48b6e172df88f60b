/-! the reference works out a rule, 2 -/
section MT
variable {S : dg_S} {o : Nat} {a1 : Int32} {x y : Int64}
theorem e_op10 {a b : Int} : e_op (-10) a b = e_cl (a + b) := by
  unfold e_op
  rw [if_pos rfl]
theorem e_op11 {a b : Int} : e_op (-11) a b = e_cl (a - b) := by
  unfold e_op
  rw [if_neg (by decide), if_pos rfl]
theorem e_op12 {a b : Int} : e_op (-12) a b = e_cl (a * b) := by
  unfold e_op
  rw [if_neg (by decide), if_neg (by decide), if_pos rfl]
theorem e_op13 {a b : Int} : e_op (-13) a b = if b = 0 then 0 else e_cl (e_fd a b) := by
  unfold e_op
  rw [if_neg (by decide), if_neg (by decide), if_neg (by decide), if_pos rfl]
theorem e_op14 {a b : Int} : e_op (-14) a b = if b = 0 then 0 else e_fm a b := by
  unfold e_op
  rw [if_neg (by decide), if_neg (by decide), if_neg (by decide), if_neg (by decide), if_pos rfl]
theorem e_op15 {a b : Int} : e_op (-15) a b = if a < b then a else b := by
  unfold e_op
  rw [if_neg (by decide), if_neg (by decide), if_neg (by decide), if_neg (by decide), if_neg (by decide), if_pos rfl]
theorem e_op16 {a b : Int} : e_op (-16) a b = if b < a then a else b := by
  unfold e_op
  rw [if_neg (by decide), if_neg (by decide), if_neg (by decide), if_neg (by decide), if_neg (by decide), if_neg (by decide), if_pos rfl]
theorem e_op17 {a b : Int} : e_op (-17) a b = if a < b then 1 else 0 := by
  unfold e_op
  rw [if_neg (by decide), if_neg (by decide), if_neg (by decide), if_neg (by decide), if_neg (by decide), if_neg (by decide), if_neg (by decide), if_pos rfl]
theorem e_op18 {a b : Int} : e_op (-18) a b = if b < a then 1 else 0 := by
  unfold e_op
  rw [if_neg (by decide), if_neg (by decide), if_neg (by decide), if_neg (by decide), if_neg (by decide), if_neg (by decide), if_neg (by decide), if_neg (by decide), if_pos rfl]
theorem e_op19 {a b : Int} : e_op (-19) a b = if a = b then 1 else 0 := by
  unfold e_op
  rw [if_neg (by decide), if_neg (by decide), if_neg (by decide), if_neg (by decide), if_neg (by decide), if_neg (by decide), if_neg (by decide), if_neg (by decide), if_neg (by decide), if_pos rfl]
theorem e_op20 {a b : Int} : e_op (-20) a b = e_and a b := by
  unfold e_op
  rw [if_neg (by decide), if_neg (by decide), if_neg (by decide), if_neg (by decide), if_neg (by decide), if_neg (by decide), if_neg (by decide), if_neg (by decide), if_neg (by decide), if_neg (by decide), if_pos rfl]
theorem e_op21 {a b : Int} : e_op (-21) a b = e_or a b := by
  unfold e_op
  rw [if_neg (by decide), if_neg (by decide), if_neg (by decide), if_neg (by decide), if_neg (by decide), if_neg (by decide), if_neg (by decide), if_neg (by decide), if_neg (by decide), if_neg (by decide), if_neg (by decide)]
theorem mx_two (hs : 31 ≤ a1.toInt ∧ a1.toInt ≤ 42) (hx : -1000000 ≤ x.toInt ∧ x.toInt ≤ 1000000) (hy : -1000000 ≤ y.toInt ∧ y.toInt ≤ 1000000) (hb : 41 ≤ a1.toInt → (x.toInt = 0 ∨ x.toInt = 1) ∧ (y.toInt = 0 ∨ y.toInt = 1)) : (F_m_two o S a1 x y).toInt = e_op (21 - a1.toInt) x.toInt y.toInt := by
  have z0 : (0 : Int64).toInt = 0 := by decide +kernel
  have z1 : (1 : Int64).toInt = 1 := by decide +kernel
  have c : a1.toInt = 31 ∨ a1.toInt = 32 ∨ a1.toInt = 33 ∨ a1.toInt = 34 ∨ a1.toInt = 35 ∨ a1.toInt = 36 ∨ a1.toInt = 37 ∨ a1.toInt = 38 ∨ a1.toInt = 39 ∨ a1.toInt = 40 ∨ a1.toInt = 41 ∨ a1.toInt = 42 := by omega
  rcases c with c | c | c | c | c | c | c | c | c | c | c | c
  · rw [c, show (21 - 31 : Int) = -10 by decide, e_op10]
    rw [F_m_two_p1 (dk_eqT c (k := 31) (by decide +kernel)) rfl rfl, mx_within, l_add rfl rfl (by omega) (by omega)]
  · rw [c, show (21 - 32 : Int) = -11 by decide, e_op11]
    rw [F_m_two_p2 (dk_neT c (k := 31) (b := 31) (by decide +kernel) (by decide)) (dk_eqT c (k := 32) (by decide +kernel)) rfl rfl, mx_within, l_sub rfl rfl (by omega) (by omega)]
  · rw [c, show (21 - 33 : Int) = -12 by decide, e_op12]
    have p2 := e_p2 hx hy
    rw [F_m_two_p3 (dk_neT c (k := 31) (b := 31) (by decide +kernel) (by decide)) (dk_neT c (k := 32) (b := 32) (by decide +kernel) (by decide)) (dk_eqT c (k := 33) (by decide +kernel)) rfl rfl, mx_within, l_mul rfl rfl (by omega) (by omega)]
  · rw [c, show (21 - 34 : Int) = -13 by decide, e_op13]
    rw [F_m_two_p4 (dk_neT c (k := 31) (b := 31) (by decide +kernel) (by decide)) (dk_neT c (k := 32) (b := 32) (by decide +kernel) (by decide)) (dk_neT c (k := 33) (b := 33) (by decide +kernel) (by decide)) (dk_eqT c (k := 34) (by decide +kernel)) rfl rfl, mx_within]
    by_cases q : y.toInt = 0
    · rw [if_pos q, F_m_floor_p7 rfl (l_eq.mpr (by rw [q, z0])), z0]
      rfl
    · rw [if_neg q, mx_floor hx hy q]
  · rw [c, show (21 - 35 : Int) = -14 by decide, e_op14]
    by_cases q : y.toInt = 0
    · rw [if_pos q, F_m_two_p6 (dk_neT c (k := 31) (b := 31) (by decide +kernel) (by decide)) (dk_neT c (k := 32) (b := 32) (by decide +kernel) (by decide)) (dk_neT c (k := 33) (b := 33) (by decide +kernel) (by decide)) (dk_neT c (k := 34) (b := 34) (by decide +kernel) (by decide)) (dk_eqT c (k := 35) (by decide +kernel)) rfl (l_eq.mpr (by rw [q, z0])), z0]
    · have n0 : ¬ lg_cmp y 0 = (0 : Int32) := fun z => q (by rw [← z0]; exact l_eq.mp z)
      have ef := mx_floor (o := o) (S := S) hx hy q
      have fb := e_fm_b (a := x.toInt) hy q
      have fe : e_fm x.toInt y.toInt = x.toInt - y.toInt * e_fd x.toInt y.toInt := rfl
      have em : (y * F_m_floor o S x y).toInt = y.toInt * e_fd x.toInt y.toInt := l_mul rfl ef (by omega) (by omega)
      rw [if_neg q, F_m_two_p5 (dk_neT c (k := 31) (b := 31) (by decide +kernel) (by decide)) (dk_neT c (k := 32) (b := 32) (by decide +kernel) (by decide)) (dk_neT c (k := 33) (b := 33) (by decide +kernel) (by decide)) (dk_neT c (k := 34) (b := 34) (by decide +kernel) (by decide)) (dk_eqT c (k := 35) (by decide +kernel)) rfl n0 rfl rfl rfl rfl, mx_within, l_sub rfl em (by omega) (by omega), ← fe, e_cl_in fb]
  · rw [c, show (21 - 36 : Int) = -15 by decide, e_op15]
    by_cases q : (0 : Int32) ≤ lg_cmp x y
    · have d := l_ge.mp q
      rw [F_m_two_p7 (dk_neT c (k := 31) (b := 31) (by decide +kernel) (by decide)) (dk_neT c (k := 32) (b := 32) (by decide +kernel) (by decide)) (dk_neT c (k := 33) (b := 33) (by decide +kernel) (by decide)) (dk_neT c (k := 34) (b := 34) (by decide +kernel) (by decide)) (dk_neT c (k := 35) (b := 35) (by decide +kernel) (by decide)) (dk_eqT c (k := 36) (by decide +kernel)) rfl q, if_neg (by omega)]
    · have d : ¬ y.toInt ≤ x.toInt := fun z => q (l_ge.mpr z)
      rw [F_m_two_p8 (dk_neT c (k := 31) (b := 31) (by decide +kernel) (by decide)) (dk_neT c (k := 32) (b := 32) (by decide +kernel) (by decide)) (dk_neT c (k := 33) (b := 33) (by decide +kernel) (by decide)) (dk_neT c (k := 34) (b := 34) (by decide +kernel) (by decide)) (dk_neT c (k := 35) (b := 35) (by decide +kernel) (by decide)) (dk_eqT c (k := 36) (by decide +kernel)) rfl q, if_pos (by omega)]
  · rw [c, show (21 - 37 : Int) = -16 by decide, e_op16]
    by_cases q : lg_cmp x y ≤ (0 : Int32)
    · have d := l_le.mp q
      rw [F_m_two_p9 (dk_neT c (k := 31) (b := 31) (by decide +kernel) (by decide)) (dk_neT c (k := 32) (b := 32) (by decide +kernel) (by decide)) (dk_neT c (k := 33) (b := 33) (by decide +kernel) (by decide)) (dk_neT c (k := 34) (b := 34) (by decide +kernel) (by decide)) (dk_neT c (k := 35) (b := 35) (by decide +kernel) (by decide)) (dk_neT c (k := 36) (b := 36) (by decide +kernel) (by decide)) (dk_eqT c (k := 37) (by decide +kernel)) rfl q, if_neg (by omega)]
    · have d : ¬ x.toInt ≤ y.toInt := fun z => q (l_le.mpr z)
      rw [F_m_two_p10 (dk_neT c (k := 31) (b := 31) (by decide +kernel) (by decide)) (dk_neT c (k := 32) (b := 32) (by decide +kernel) (by decide)) (dk_neT c (k := 33) (b := 33) (by decide +kernel) (by decide)) (dk_neT c (k := 34) (b := 34) (by decide +kernel) (by decide)) (dk_neT c (k := 35) (b := 35) (by decide +kernel) (by decide)) (dk_neT c (k := 36) (b := 36) (by decide +kernel) (by decide)) (dk_eqT c (k := 37) (by decide +kernel)) rfl q, if_pos (by omega)]
  · rw [c, show (21 - 38 : Int) = -17 by decide, e_op17]
    by_cases q : (0 : Int32) ≤ lg_cmp x y
    · have d := l_ge.mp q
      rw [F_m_two_p11 (dk_neT c (k := 31) (b := 31) (by decide +kernel) (by decide)) (dk_neT c (k := 32) (b := 32) (by decide +kernel) (by decide)) (dk_neT c (k := 33) (b := 33) (by decide +kernel) (by decide)) (dk_neT c (k := 34) (b := 34) (by decide +kernel) (by decide)) (dk_neT c (k := 35) (b := 35) (by decide +kernel) (by decide)) (dk_neT c (k := 36) (b := 36) (by decide +kernel) (by decide)) (dk_neT c (k := 37) (b := 37) (by decide +kernel) (by decide)) (dk_eqT c (k := 38) (by decide +kernel)) rfl q, if_neg (by omega), z0]
    · have d : ¬ y.toInt ≤ x.toInt := fun z => q (l_ge.mpr z)
      rw [F_m_two_p12 (dk_neT c (k := 31) (b := 31) (by decide +kernel) (by decide)) (dk_neT c (k := 32) (b := 32) (by decide +kernel) (by decide)) (dk_neT c (k := 33) (b := 33) (by decide +kernel) (by decide)) (dk_neT c (k := 34) (b := 34) (by decide +kernel) (by decide)) (dk_neT c (k := 35) (b := 35) (by decide +kernel) (by decide)) (dk_neT c (k := 36) (b := 36) (by decide +kernel) (by decide)) (dk_neT c (k := 37) (b := 37) (by decide +kernel) (by decide)) (dk_eqT c (k := 38) (by decide +kernel)) rfl q, if_pos (by omega), z1]
  · rw [c, show (21 - 39 : Int) = -18 by decide, e_op18]
    by_cases q : lg_cmp x y ≤ (0 : Int32)
    · have d := l_le.mp q
      rw [F_m_two_p13 (dk_neT c (k := 31) (b := 31) (by decide +kernel) (by decide)) (dk_neT c (k := 32) (b := 32) (by decide +kernel) (by decide)) (dk_neT c (k := 33) (b := 33) (by decide +kernel) (by decide)) (dk_neT c (k := 34) (b := 34) (by decide +kernel) (by decide)) (dk_neT c (k := 35) (b := 35) (by decide +kernel) (by decide)) (dk_neT c (k := 36) (b := 36) (by decide +kernel) (by decide)) (dk_neT c (k := 37) (b := 37) (by decide +kernel) (by decide)) (dk_neT c (k := 38) (b := 38) (by decide +kernel) (by decide)) (dk_eqT c (k := 39) (by decide +kernel)) rfl q, if_neg (by omega), z0]
    · have d : ¬ x.toInt ≤ y.toInt := fun z => q (l_le.mpr z)
      rw [F_m_two_p14 (dk_neT c (k := 31) (b := 31) (by decide +kernel) (by decide)) (dk_neT c (k := 32) (b := 32) (by decide +kernel) (by decide)) (dk_neT c (k := 33) (b := 33) (by decide +kernel) (by decide)) (dk_neT c (k := 34) (b := 34) (by decide +kernel) (by decide)) (dk_neT c (k := 35) (b := 35) (by decide +kernel) (by decide)) (dk_neT c (k := 36) (b := 36) (by decide +kernel) (by decide)) (dk_neT c (k := 37) (b := 37) (by decide +kernel) (by decide)) (dk_neT c (k := 38) (b := 38) (by decide +kernel) (by decide)) (dk_eqT c (k := 39) (by decide +kernel)) rfl q, if_pos (by omega), z1]
  · rw [c, show (21 - 40 : Int) = -19 by decide, e_op19]
    by_cases q : lg_cmp x y = (0 : Int32)
    · have d := l_eq.mp q
      rw [F_m_two_p16 (dk_neT c (k := 31) (b := 31) (by decide +kernel) (by decide)) (dk_neT c (k := 32) (b := 32) (by decide +kernel) (by decide)) (dk_neT c (k := 33) (b := 33) (by decide +kernel) (by decide)) (dk_neT c (k := 34) (b := 34) (by decide +kernel) (by decide)) (dk_neT c (k := 35) (b := 35) (by decide +kernel) (by decide)) (dk_neT c (k := 36) (b := 36) (by decide +kernel) (by decide)) (dk_neT c (k := 37) (b := 37) (by decide +kernel) (by decide)) (dk_neT c (k := 38) (b := 38) (by decide +kernel) (by decide)) (dk_neT c (k := 39) (b := 39) (by decide +kernel) (by decide)) (dk_eqT c (k := 40) (by decide +kernel)) rfl q, if_pos d, z1]
    · have d : ¬ x.toInt = y.toInt := fun z => q (l_eq.mpr z)
      rw [F_m_two_p15 (dk_neT c (k := 31) (b := 31) (by decide +kernel) (by decide)) (dk_neT c (k := 32) (b := 32) (by decide +kernel) (by decide)) (dk_neT c (k := 33) (b := 33) (by decide +kernel) (by decide)) (dk_neT c (k := 34) (b := 34) (by decide +kernel) (by decide)) (dk_neT c (k := 35) (b := 35) (by decide +kernel) (by decide)) (dk_neT c (k := 36) (b := 36) (by decide +kernel) (by decide)) (dk_neT c (k := 37) (b := 37) (by decide +kernel) (by decide)) (dk_neT c (k := 38) (b := 38) (by decide +kernel) (by decide)) (dk_neT c (k := 39) (b := 39) (by decide +kernel) (by decide)) (dk_eqT c (k := 40) (by decide +kernel)) rfl q, if_neg d, z0]
  · rw [c, show (21 - 41 : Int) = -20 by decide, e_op20]
    rw [c] at hb
    obtain ⟨h1, h2⟩ := hb (by decide)
    rw [F_m_two_p17 (dk_neT c (k := 31) (b := 31) (by decide +kernel) (by decide)) (dk_neT c (k := 32) (b := 32) (by decide +kernel) (by decide)) (dk_neT c (k := 33) (b := 33) (by decide +kernel) (by decide)) (dk_neT c (k := 34) (b := 34) (by decide +kernel) (by decide)) (dk_neT c (k := 35) (b := 35) (by decide +kernel) (by decide)) (dk_neT c (k := 36) (b := 36) (by decide +kernel) (by decide)) (dk_neT c (k := 37) (b := 37) (by decide +kernel) (by decide)) (dk_neT c (k := 38) (b := 38) (by decide +kernel) (by decide)) (dk_neT c (k := 39) (b := 39) (by decide +kernel) (by decide)) (dk_neT c (k := 40) (b := 40) (by decide +kernel) (by decide)) (dk_eqT c (k := 41) (by decide +kernel)) rfl]
    rcases l_01 h1 with rfl | rfl <;> rcases l_01 h2 with rfl | rfl <;> (unfold e_and; decide +kernel)
  · rw [c, show (21 - 42 : Int) = -21 by decide, e_op21]
    rw [c] at hb
    obtain ⟨h1, h2⟩ := hb (by decide)
    rw [F_m_two_p0 (dk_neT c (k := 31) (b := 31) (by decide +kernel) (by decide)) (dk_neT c (k := 32) (b := 32) (by decide +kernel) (by decide)) (dk_neT c (k := 33) (b := 33) (by decide +kernel) (by decide)) (dk_neT c (k := 34) (b := 34) (by decide +kernel) (by decide)) (dk_neT c (k := 35) (b := 35) (by decide +kernel) (by decide)) (dk_neT c (k := 36) (b := 36) (by decide +kernel) (by decide)) (dk_neT c (k := 37) (b := 37) (by decide +kernel) (by decide)) (dk_neT c (k := 38) (b := 38) (by decide +kernel) (by decide)) (dk_neT c (k := 39) (b := 39) (by decide +kernel) (by decide)) (dk_neT c (k := 40) (b := 40) (by decide +kernel) (by decide)) (dk_neT c (k := 41) (b := 41) (by decide +kernel) (by decide)) rfl]
    rcases l_01 h1 with rfl | rfl <;> rcases l_01 h2 with rfl | rfl <;> (unfold e_or; decide +kernel)
end MT
