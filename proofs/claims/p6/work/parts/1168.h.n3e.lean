/-! rows that are FELT -/
def FB (f : Nat → Int32) (k : Nat) (cx ry : Int) : Prop := (f k).toInt ≤ 30 ∧ (f (k + 1)).toInt < cx ∧ (f (k + 2)).toInt < ry ∧ ((f (k + 3)).toInt ≤ 9 ∨ (f (k + 3)).toInt = 255)
def FEU (f : Nat → Int32) (k cx ry : Int) : Prop := ∀ j : Nat, 4 * (j : Int) < k → FB f (4 * j) cx ry
def FEL (f : Nat → Int32) (n cx ry : Int) : Prop := n % 4 = 0 ∧ 4 ≤ n ∧ n ≤ 64 ∧ FEU f n cx ry
section FES
variable {f g : Nat → Int32} {k i1 i2 i3 x0 x1 x2 x3 x : Int32} {cx ry n m m' : Int}
theorem fb_ix {k i : Int32} {d : Nat} (h0 : 0 ≤ k.toInt) (j : i.toInt = k.toInt + d) : i.toNatClampNeg = k.toNatClampNeg + d := by
  have c1 := dk_clN k
  have c2 := dk_clN i
  omega
theorem FB.y (p0 : x0 = f k.toNatClampNeg) (p1 : x1 = f i1.toNatClampNeg) (p2 : x2 = f i2.toNatClampNeg) (p3 : x3 = f i3.toNatClampNeg) (h0 : 0 ≤ k.toInt) (j1 : i1.toInt = k.toInt + 1) (j2 : i2.toInt = k.toInt + 2) (j3 : i3.toInt = k.toInt + 3) (c0 : x0.toInt ≤ 30) (c1 : x1.toInt < cx) (c2 : x2.toInt < ry) (c3 : x3.toInt ≤ 9 ∨ x3.toInt = 255) : FB f k.toNatClampNeg cx ry := by
  rw [fb_ix (d := 1) h0 j1] at p1
  rw [fb_ix (d := 2) h0 j2] at p2
  rw [fb_ix (d := 3) h0 j3] at p3
  unfold FB
  rw [← p0, ← p1, ← p2, ← p3]
  exact ⟨c0, c1, c2, c3⟩
theorem FB.n0 (p0 : x0 = f k.toNatClampNeg) (c : 30 < x0.toInt) : ¬ FB f k.toNatClampNeg cx ry := fun h => by
  have h1 := h.1
  rw [← p0] at h1
  omega
theorem FB.n1 (p1 : x1 = f i1.toNatClampNeg) (p2 : x2 = f i2.toNatClampNeg) (h0 : 0 ≤ k.toInt) (j1 : i1.toInt = k.toInt + 1) (j2 : i2.toInt = k.toInt + 2) (c : ¬ (x1.toInt < cx ∧ x2.toInt < ry)) : ¬ FB f k.toNatClampNeg cx ry := fun h => by
  rw [fb_ix (d := 1) h0 j1] at p1
  rw [fb_ix (d := 2) h0 j2] at p2
  have h1 := h.2.1
  have h2 := h.2.2.1
  rw [← p1] at h1
  rw [← p2] at h2
  exact c ⟨h1, h2⟩
theorem FB.n3 (p3 : x3 = f i3.toNatClampNeg) (h0 : 0 ≤ k.toInt) (j3 : i3.toInt = k.toInt + 3) (c : ¬ (x3.toInt ≤ 9 ∨ x3.toInt = 255)) : ¬ FB f k.toNatClampNeg cx ry := fun h => by
  rw [fb_ix (d := 3) h0 j3] at p3
  have h1 := h.2.2.2
  rw [← p3] at h1
  exact c h1
theorem FEU.zr (h : m ≤ 0) : FEU f m cx ry := fun j hj => by omega
theorem FEU.st (h : FEU f m cx ry) (hb : FB f x.toNatClampNeg cx ry) (hx : x.toInt = m) (h4 : m % 4 = 0) (h0 : 0 ≤ m) (hm : m' = m + 4) : FEU f m' cx ry := fun j hj => by
  have c := dk_clN x
  by_cases q : 4 * (j : Int) < m
  · exact h j q
  · rw [show 4 * j = x.toNatClampNeg from by omega]
    exact hb
theorem FEU.le (h : FEU f m cx ry) (hn : n ≤ m) : FEU f n cx ry := fun j hj => h j (by omega)
theorem FEL.no (hb : ¬ FB f x.toNatClampNeg cx ry) (hx : x.toInt = m) (h4 : m % 4 = 0) (h0 : 0 ≤ m) (hm : m < n) : ¬ FEL f n cx ry := fun h => by
  have c := dk_clN x
  have h1 := h.2.2.2 (m.toNat / 4) (by omega)
  rw [show 4 * (m.toNat / 4) = x.toNatClampNeg from by omega] at h1
  exact hb h1
theorem FEL.nn (h : ¬ (n % 4 = 0 ∧ 4 ≤ n ∧ n ≤ 64)) : ¬ FEL f n cx ry := fun q => h ⟨q.1, q.2.1, q.2.2.1⟩
theorem FEL.mk (h4 : n % 4 = 0) (h1 : 4 ≤ n) (h2 : n ≤ 64) (h : FEU f m cx ry) (hm : n ≤ m) : FEL f n cx ry := ⟨h4, h1, h2, h.le hm⟩
/-- two tapes with the same bytes -/
theorem FEL.as {t : Int32} (h : ∀ j, j < t.toNatClampNeg → f j = g j) (q : FEL f t.toInt cx ry) : FEL g t.toInt cx ry := by
  have c := dk_clN t
  refine ⟨q.1, q.2.1, q.2.2.1, fun j hj => ?_⟩
  have h1 := q.2.2.2 j hj
  have h4 := q.1
  unfold FB at h1 ⊢
  rw [← h (4 * j) (by omega), ← h (4 * j + 1) (by omega), ← h (4 * j + 2) (by omega), ← h (4 * j + 3) (by omega)]
  exact h1
theorem law_feel {t r1 r2 : Int32} {c1 c2 : Int} (h : ∀ j, j < t.toNatClampNeg → f j = g j) (e1 : c1 = cx) (e2 : c2 = ry) (w1 : (FEL f t.toInt cx ry → r1.toInt = t.toInt / 4) ∧ (¬ FEL f t.toInt cx ry → r1.toInt = -1)) (w2 : (FEL g t.toInt c1 c2 → r2.toInt = t.toInt / 4) ∧ (¬ FEL g t.toInt c1 c2 → r2.toInt = -1)) : r1.toInt = r2.toInt := by
  subst e1 e2
  by_cases q : FEL f t.toInt c1 c2
  · rw [w1.1 q, w2.1 (q.as h)]
  · rw [w1.2 q, w2.2 (fun z => q (z.as (fun j hj => (h j hj).symm)))]
end FES
/-! how many cells a seam has -/
def IMm (a b : Int) : Int := a * b
theorem IMm.zr {a b : Int} (h : a = 0) : IMm a b = 0 := by
  unfold IMm
  rw [h, Int.zero_mul]
theorem IMm.sc {a a' b : Int} (h : a' = a + 1) : IMm a' b = IMm a b + b := by
  unfold IMm
  rw [h, Int.add_mul, Int.one_mul]
theorem IMm.bd {a b : Int} (h1 : 0 ≤ a) (h2 : a ≤ 7) (h3 : 0 ≤ b) (h4 : b ≤ 7) : 0 ≤ IMm a b ∧ IMm a b ≤ 49 := by
  have ha : a = 0 ∨ a = 1 ∨ a = 2 ∨ a = 3 ∨ a = 4 ∨ a = 5 ∨ a = 6 ∨ a = 7 := by omega
  unfold IMm
  rcases ha with rfl | rfl | rfl | rfl | rfl | rfl | rfl | rfl <;> omega
/-- cells ahead of c, eight places a row -/
def CNm (cx ry : Int) : Nat → Int
  | 0 => 0
  | c + 1 => CNm cx ry c + (if (c : Int) % 8 < cx ∧ (c : Int) / 8 < ry then 1 else 0)
theorem CNm.all {cx ry : Int} (h1 : 0 ≤ cx) (h2 : cx ≤ 7) (h3 : 0 ≤ ry) (h4 : ry ≤ 7) : CNm cx ry 64 = IMm ry cx := by
  have key : ∀ a : Fin 8, ∀ b : Fin 8, CNm (a.val : Int) (b.val : Int) 64 = IMm (b.val : Int) (a.val : Int) := by decide +kernel
  have h := key ⟨cx.toNat, by omega⟩ ⟨ry.toNat, by omega⟩
  simp only [Int.toNat_of_nonneg h1, Int.toNat_of_nonneg h3] at h
  exact h
theorem CNm.st {cx ry : Int} {x x' : Int32} (hx : x'.toInt = x.toInt + 1) (h0 : 0 ≤ x.toInt) : CNm cx ry x'.toNatClampNeg = CNm cx ry x.toNatClampNeg + (if x.toInt % 8 < cx ∧ x.toInt / 8 < ry then 1 else 0) := by
  have c1 := dk_clN x
  have c2 := dk_clN x'
  rw [show x'.toNatClampNeg = x.toNatClampNeg + 1 from by omega]
  show CNm cx ry x.toNatClampNeg + (if ((x.toNatClampNeg : Nat) : Int) % 8 < cx ∧ ((x.toNatClampNeg : Nat) : Int) / 8 < ry then 1 else 0) = _
  rw [show ((x.toNatClampNeg : Nat) : Int) = x.toInt from by omega]
