/-! ints with bounds: what arithmetic does to them, as integers -/
theorem dk_bm {z : Int} (h1 : -2147483648 ≤ z) (h2 : z < 2147483648) : z.bmod (2 ^ 32) = z := by
  rw [Int.bmod_def]
  omega
theorem dk_addT {x y : Int32} {a b : Int} (hx : x.toInt = a) (hy : y.toInt = b) (h1 : -2147483648 ≤ a + b) (h2 : a + b < 2147483648) : (x + y).toInt = a + b := by
  subst hx
  subst hy
  rw [Int32.toInt_add]
  exact dk_bm h1 h2
theorem dk_subT {x y : Int32} {a b : Int} (hx : x.toInt = a) (hy : y.toInt = b) (h1 : -2147483648 ≤ a - b) (h2 : a - b < 2147483648) : (x - y).toInt = a - b := by
  subst hx
  subst hy
  rw [Int32.toInt_sub]
  exact dk_bm h1 h2
theorem dk_mulT {x y : Int32} {a b : Int} (hx : x.toInt = a) (hy : y.toInt = b) (h1 : -2147483648 ≤ a * b) (h2 : a * b < 2147483648) : (x * y).toInt = a * b := by
  subst hx
  subst hy
  rw [Int32.toInt_mul]
  exact dk_bm h1 h2
/-- a byte of a number -/
theorem dk_and255 (x : Int32) : 0 ≤ (x &&& 255).toInt ∧ (x &&& 255).toInt ≤ 255 := by
  obtain ⟨j, hj, e⟩ := pk_andE x (m := 255) 8 (by decide +kernel)
  rw [e, nI_toInt (by omega)]
  omega
theorem dk_and7 (x : Int32) : 0 ≤ (x &&& 7).toInt ∧ (x &&& 7).toInt ≤ 7 := by
  obtain ⟨j, hj, e⟩ := pk_andE x (m := 7) 3 (by decide +kernel)
  rw [e, nI_toInt (by omega)]
  omega
/-- a row whose numbers are all of a kind -/
def dk_all (n : Nat) (f : Nat → Int32) (lo hi : Int) : Prop := ∀ j : Nat, j < n → lo ≤ (f j).toInt ∧ (f j).toInt ≤ hi
theorem dk_all_at {n : Nat} {f : Nat → Int32} {lo hi : Int} (h : dk_all n f lo hi) {i : Int32} (hin : vp_in i n) {x : Int32} (hx : x = f i.toNatClampNeg) : lo ≤ x.toInt ∧ x.toInt ≤ hi := by
  subst hx
  exact h _ (Nat.not_le.mp fun q => hin (Or.inr q))
theorem dk_all_upd {n : Nat} {f : Nat → Int32} {lo hi : Int} (h : dk_all n f lo hi) (k : Nat) {x : Int32} (hx : lo ≤ x.toInt ∧ x.toInt ≤ hi) {f' : Nat → Int32} (hf : f' = upd f k x) : dk_all n f' lo hi := by
  subst hf
  intro j hj
  unfold upd
  split
  · exact hx
  · exact h j hj
theorem dk_all_w {n : Nat} {f : Nat → Int32} {lo hi lo' hi' : Int} (h : dk_all n f lo hi) (h1 : lo' ≤ lo) (h2 : hi ≤ hi') : dk_all n f lo' hi' := fun j hj => ⟨Int.le_trans h1 (h j hj).1, Int.le_trans (h j hj).2 h2⟩
theorem dk_all_c {n : Nat} {v : Int32} {lo hi : Int} (h : lo ≤ v.toInt ∧ v.toInt ≤ hi) : dk_all n (fun _ => v) lo hi := fun _ _ => h
theorem dk_inv {x : Int32} {n : Nat} (h0 : 0 ≤ x.toInt) (h1 : x.toInt < n) : vp_in x n := vp_in_iff.mpr ⟨h0, h1⟩
theorem dk_remT {x y : Int32} {a b : Int} (hx : x.toInt = a) (hy : y.toInt = b) (h0 : 0 ≤ a) (h1 : 0 < b) : 0 ≤ (x - x / y * y).toInt ∧ (x - x / y * y).toInt < b := by
  subst hx
  subst hy
  obtain ⟨m, hm, rfl⟩ := nI_of (x := x) (fun q => absurd (Int32.lt_iff_toInt_lt.mp q) (by rw [Int32.toInt_zero]; omega))
  obtain ⟨k, hk, rfl⟩ := nI_of (x := y) (fun q => absurd (Int32.lt_iff_toInt_lt.mp q) (by rw [Int32.toInt_zero]; omega))
  rw [nI_toInt hk] at h1
  have hk0 : 0 < k := by omega
  rw [pk_rem hm hk0 hk]
  have h3 := Nat.mod_lt m hk0
  rw [nI_toInt (by omega), nI_toInt hk]
  omega
theorem dk_znar {x : Int32} (h0 : 0 ≤ x.toInt) (h1 : x.toInt ≤ 1) : narrow .boolean (.int x) = .int x := by
  rcases (show x.toInt = 0 ∨ x.toInt = 1 by omega) with h | h
  · rw [dk_eqp (c := 0) (k := 0) (by decide +kernel) h]
    decide +kernel
  · rw [dk_eqp (c := 1) (k := 1) (by decide +kernel) h]
    decide +kernel
theorem dk_minT {x y z : Int32} {a b : Int} (hx : x.toInt = a) (hy : y.toInt = b) (hz : z = if y < x then y else x) : z.toInt ≤ a ∧ z.toInt ≤ b ∧ (z.toInt = a ∨ z.toInt = b) := by
  subst hx
  subst hy
  by_cases h : y < x
  · rw [if_pos h] at hz
    subst hz
    have := Int32.lt_iff_toInt_lt.mp h
    omega
  · rw [if_neg h] at hz
    subst hz
    have : ¬ y.toInt < z.toInt := fun q => h (Int32.lt_iff_toInt_lt.mpr q)
    omega
theorem dk_maxT {x y z : Int32} {a b : Int} (hx : x.toInt = a) (hy : y.toInt = b) (hz : z = if x < y then y else x) : a ≤ z.toInt ∧ b ≤ z.toInt ∧ (z.toInt = a ∨ z.toInt = b) := by
  subst hx
  subst hy
  by_cases h : x < y
  · rw [if_pos h] at hz
    subst hz
    have := Int32.lt_iff_toInt_lt.mp h
    omega
  · rw [if_neg h] at hz
    subst hz
    have : ¬ z.toInt < y.toInt := fun q => h (Int32.lt_iff_toInt_lt.mpr q)
    omega
theorem dk_mulB {x y : Int32} {A B : Int} (hx : 0 ≤ x.toInt ∧ x.toInt ≤ A) (hy : 0 ≤ y.toInt ∧ y.toInt ≤ B) (h : A * B < 2147483648) : 0 ≤ (x * y).toInt ∧ (x * y).toInt ≤ A * B := by
  have h1 : 0 ≤ x.toInt * y.toInt := Int.mul_nonneg hx.1 hy.1
  have h2 : x.toInt * y.toInt ≤ A * B := Int.mul_le_mul hx.2 hy.2 hy.1 (Int.le_trans hx.1 hx.2)
  rw [Int32.toInt_mul, dk_bm (by omega) (by omega)]
  exact ⟨h1, h2⟩
theorem dk_all_cpy {n0 n1 : Nat} {f h : Nat → Int32} {lo hi : Int} (hf : dk_all n0 f lo hi) (hg : dk_all n1 h lo hi) (sp dp n : Nat) (h0 : sp + n ≤ n0) : dk_all n1 (va_cpy f h sp dp n) lo hi := by
  intro j hj
  by_cases q : dp ≤ j ∧ j < dp + n
  · rw [pk_cpy_in q.1 q.2]
    exact hf _ (by omega)
  · rw [pk_cpy_out (by omega)]
    exact hg j hj
theorem dk_clN (x : Int32) : x.toNatClampNeg = x.toInt.toNat := rfl
theorem dk_nneg {x : Int32} (h : 0 ≤ x.toInt) : ¬ x < 0 := fun q => absurd (dk_ltc (k := 0) (by decide +kernel) q) (by omega)
/-- a side: one of four steps -/
theorem dk_side_at {i : Int32} (h : vp_in i 4) : ∃ x : Int32, dk_sides i.toNatClampNeg = .int x ∧ -8 ≤ x.toInt ∧ x.toInt ≤ 8 := by
  have hlt : i.toNatClampNeg < 4 := Nat.not_le.mp fun q => h (Or.inr q)
  generalize i.toNatClampNeg = k at hlt
  match k, hlt with
  | 0, _ => exact ⟨-8, rfl, by decide +kernel⟩
  | 1, _ => exact ⟨-1, rfl, by decide +kernel⟩
  | 2, _ => exact ⟨1, rfl, by decide +kernel⟩
  | 3, _ => exact ⟨8, rfl, by decide +kernel⟩
