/-! a ground as its text is read: columns, rows, the shaft -/
theorem Z1X.cols0 {S S1 : dg_S} {d : Nat} (h : Z1X S) (e : S1 = dg_uF S d 0 (.int 0)) : Z1X S1 := by
  intro d' hd c x y hc hx hy h0
  by_cases q : d' = d
  · subst q
    rw [dg_uF_at e] at hc
    cases hc
    have h3 : (0 : Int32).toInt = 0 := by decide +kernel
    omega
  · rw [dg_uF_ne e (fun z => q z.1)] at hc hx hy
    exact h d' hd c x y hc hx hy h0
theorem Z1X.put0 {S S1 : dg_S} {d k : Nat} {v : Value} (h : Z1X S) (e : S1 = dg_uF S d k v) (hk : k ≠ 0) (hc0 : S.1 d 0 = .int 0) : Z1X S1 := by
  intro d' hd c x y hc hx hy h0
  by_cases q : d' = d
  · subst q
    rw [dg_uF_ne e (fun z => hk z.2.symm), hc0] at hc
    cases hc
    have h3 : (0 : Int32).toInt = 0 := by decide +kernel
    omega
  · rw [dg_uF_ne e (fun z => q z.1)] at hc hx hy
    exact h d' hd c x y hc hx hy h0
theorem Z1X.shaft {S S1 : dg_S} {d : Nat} {v : Int32} (h : Z1X S) (e : S1 = dg_uF S d 2 (.int v)) (h8 : 8 ≤ v.toInt) (hr : ∀ y : Int32, S.1 d 1 = .int y → 0 < y.toInt) : Z1X S1 := by
  intro d' hd c x y hc hx hy h0
  by_cases q : d' = d
  · subst q
    rw [dg_uF_at e] at hx
    rw [dg_uF_ne e (fun z => absurd z.2 (by decide))] at hy
    cases hx
    exact ⟨h8, hr y hy⟩
  · rw [dg_uF_ne e (fun z => q z.1)] at hc hx hy
    exact h d' hd c x y hc hx hy h0
theorem Z1X.seam {S S1 S2 S3 : dg_S} {d : Nat} {c r x : Int32} (h : Z1X S) (e1 : S1 = dg_uF S d 0 (.int c)) (e2 : S2 = dg_uF S1 d 1 (.int r)) (e3 : S3 = dg_uF S2 d 2 (.int x)) (h8 : 8 ≤ x.toInt) (hr : 0 < r.toInt) : Z1X S3 := by
  intro d' hd c' x' y' hc hx hy h0
  by_cases q : d' = d
  · subst q
    rw [dg_uF_at e3] at hx
    rw [dg_uF_ne e3 (fun z => absurd z.2 (by decide)), dg_uF_at e2] at hy
    cases hx
    cases hy
    exact ⟨h8, hr⟩
  · rw [dg_uF_ne e3 (fun z => q z.1), dg_uF_ne e2 (fun z => q z.1), dg_uF_ne e1 (fun z => q z.1)] at hc hx hy
    exact h d' hd c' x' y' hc hx hy h0
