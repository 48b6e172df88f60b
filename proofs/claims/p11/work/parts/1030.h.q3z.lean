/-! a flag in its field -/
theorem dk_zfit {x : Int32} (h0 : 0 ≤ x.toInt) (h1 : x.toInt ≤ 1) : fits .boolean (.int x) = true := by
  rcases (show x.toInt = 0 ∨ x.toInt = 1 by omega) with h | h
  · rw [dk_eqp (c := 0) (k := 0) (by decide +kernel) h]
    decide +kernel
  · rw [dk_eqp (c := 1) (k := 1) (by decide +kernel) h]
    decide +kernel
