/-! the four ways -/
def dk_dC (w : Int) : Int := if w = 1 then 1 else if w = 3 then -1 else 0
def dk_dR (w : Int) : Int := if w = 2 then 1 else if w = 0 then -1 else 0
theorem dk_lcmp {x y : Int64} {z : Int32} (e : z = lg_cmp x y) : (z.toInt < 0 ↔ x.toInt < y.toInt) ∧ (z.toInt = 0 ↔ x.toInt = y.toInt) ∧ (0 < z.toInt ↔ y.toInt < x.toInt) := by
  subst e
  have h1 : (1 : Int32).toInt = 1 := by decide +kernel
  have h0 : (0 : Int32).toInt = 0 := by decide +kernel
  have hm : (-1 : Int32).toInt = -1 := by decide +kernel
  by_cases h : y < x
  · have h2 := Int64.lt_iff_toInt_lt.mp h
    have e1 : lg_cmp x y = 1 := by simp [lg_cmp, h]
    rw [e1, h1]
    omega
  · have hn : ¬ y.toInt < x.toInt := fun q => h (Int64.lt_iff_toInt_lt.mpr q)
    by_cases he : x = y
    · have h2 : x.toInt = y.toInt := by rw [he]
      have e1 : lg_cmp x y = 0 := by
        subst he
        simp [lg_cmp]
      rw [e1, h0]
      omega
    · have hne : x.toInt ≠ y.toInt := fun q => he (Int64.toInt_inj.mp q)
      have e1 : lg_cmp x y = -1 := by simp [lg_cmp, h, he]
      rw [e1, hm]
      omega
theorem dk_l2i {x : Int64} {z : Int32} (e : x.toInt32 = z) : (-2147483648 ≤ x.toInt ∧ x.toInt ≤ 2147483647) → z.toInt = x.toInt := by
  intro h
  subst e
  rw [Int64.toInt_toInt32]
  exact dk_bm (by omega) (by omega)
