/-! letters of a name: by 27 (the class), by bytes (the reference) -/
def l_dv (v m : Int) : Int := v / (27 : Int) ^ m.toNat
def l_at (v k : Int) : Int := l_dv v (5 - k) % 27
/-- what letterOf answers -/
def LTX (v k r : Int32) : Prop := ((k.toInt < 0 ∨ 6 ≤ k.toInt) → r.toInt = -1) ∧ (0 ≤ v.toInt → 0 ≤ k.toInt → k.toInt < 6 → r.toInt = l_at v.toInt k.toInt)
section LTS
variable {v k r x x' b b' n n' s z u : Int32} {w m m' yv tv : Int64}
theorem l_zr (hb : b.toInt = k.toInt + 1) : 0 ≤ v.toInt → v.toInt = l_dv v.toInt (b.toInt - k.toInt - 1) ∧ 0 ≤ v.toInt := fun h => by
  refine ⟨?_, h⟩
  unfold l_dv
  rw [show (b.toInt - k.toInt - 1).toNat = 0 from by omega, Int.pow_zero, Int.ediv_one]
theorem l_st (h : 0 ≤ v.toInt → x.toInt = l_dv v.toInt (b.toInt - k.toInt - 1) ∧ 0 ≤ x.toInt) (e : x' = x / 27) (hb : b'.toInt = b.toInt + 1) (hk : k.toInt + 1 ≤ b.toInt) : 0 ≤ v.toInt → x'.toInt = l_dv v.toInt (b'.toInt - k.toInt - 1) ∧ 0 ≤ x'.toInt := fun h0 => by
  obtain ⟨g1, g2⟩ := h h0
  have h1 : x'.toInt = x.toInt / 27 := by
    rw [e]
    exact dk_divL g2 (by decide +kernel) (by decide)
  refine ⟨?_, by omega⟩
  rw [h1, g1]
  unfold l_dv
  rw [show (b'.toInt - k.toInt - 1).toNat = (b.toInt - k.toInt - 1).toNat + 1 from by omega, Int.pow_succ, Int.ediv_ediv_of_nonneg (Int.le_of_lt (Int.pow_pos (by decide)))]
theorem LTX.no (h : k.toInt < 0 ∨ 6 ≤ k.toInt) (hr : r.toInt = -1) : LTX v k r := ⟨fun _ => hr, fun _ h1 h2 => by omega⟩
theorem LTX.y (h : 0 ≤ v.toInt → x.toInt = l_dv v.toInt (b.toInt - k.toInt - 1) ∧ 0 ≤ x.toInt) (hb : b.toInt = 6) (h0 : 0 ≤ k.toInt) (h5 : k.toInt < 6) (e : r = x - x / 27 * 27) : LTX v k r := by
  refine ⟨fun q => by omega, fun hv _ _ => ?_⟩
  obtain ⟨h1, h2⟩ := h hv
  rw [e, dk_remL (b := 27) h2 (by decide +kernel) (by decide), h1, hb]
  unfold l_at
  rw [show (6 : Int) - k.toInt - 1 = 5 - k.toInt from by omega]
/-! how many bytes -/
def NBs (w m : Int64) (n : Int32) : Prop := 0 ≤ n.toInt ∧ n.toInt ≤ 8 ∧ m.toInt = w.toInt / (256 : Int) ^ n.toInt.toNat ∧ ∀ j : Nat, (j : Int) < n.toInt → 0 < w.toInt / (256 : Int) ^ j
def NBY (w : Int64) (n : Int32) : Prop := 0 ≤ n.toInt ∧ n.toInt ≤ 8 ∧ w.toInt / (256 : Int) ^ n.toInt.toNat ≤ 0 ∧ ∀ j : Nat, (j : Int) < n.toInt → 0 < w.toInt / (256 : Int) ^ j
theorem dk_shrK (x : Int64) (t : Int64) {q : Nat} (h : (t.toBitVec.smod 64).toNat = q) : (x >>> t).toInt = x.toInt / ((2 ^ q : Nat) : Int) := by
  show (x.toBitVec.sshiftRight' (t.toBitVec.smod 64)).toInt = x.toBitVec.toInt / _
  rw [BitVec.toInt_sshiftRight', Int.shiftRight_eq_div_pow, h]
theorem dk_lsh8 (x : Int64) : (x >>> ((8 : Int32).toInt64 &&& 63)).toInt = x.toInt / 256 := by
  rw [show ((8 : Int32).toInt64 &&& 63) = (8 : Int64) from by decide +kernel, dk_shrK x 8 (q := 8) (by decide +kernel)]
  rw [show ((2 ^ 8 : Nat) : Int) = 256 from by decide]
theorem NBs.zr (h : n.toInt = 0) : NBs w w n := ⟨by omega, by omega, by rw [h]; show w.toInt = w.toInt / (256 : Int) ^ 0; rw [Int.pow_zero, Int.ediv_one], fun j hj => by omega⟩
theorem NBs.lt (h : NBs w m n) (h0 : 0 < m.toInt) : n.toInt ≤ 7 := by
  by_cases q : n.toInt ≤ 7
  · exact q
  · exfalso
    have n8 : n.toInt = 8 := by
      have := h.2.1
      omega
    have h1 := h.2.2.1
    rw [n8, show (256 : Int) ^ (8 : Int).toNat = 18446744073709551616 from by decide] at h1
    have h2 := Int64.toInt_lt w
    omega
theorem NBs.st (h : NBs w m n) (h0 : 0 < m.toInt) (e : m' = m >>> ((8 : Int32).toInt64 &&& 63)) (hn : n'.toInt = n.toInt + 1) : NBs w m' n' := by
  have h7 := h.lt h0
  obtain ⟨a, b, c, d⟩ := h
  refine ⟨by omega, by omega, ?_, fun j hj => ?_⟩
  · rw [e, dk_lsh8, c, hn, show (n.toInt + 1).toNat = n.toInt.toNat + 1 from by omega, Int.pow_succ, Int.ediv_ediv_of_nonneg (Int.le_of_lt (Int.pow_pos (by decide)))]
  · by_cases q : (j : Int) < n.toInt
    · exact d j q
    · rw [show j = n.toInt.toNat from by omega, ← c]
      exact h0
theorem NBs.e (h : NBs w m n) (h0 : m.toInt ≤ 0) : NBY w n := ⟨h.1, h.2.1, by rw [← h.2.2.1]; exact h0, h.2.2.2⟩
theorem NBY.num (h : NBY w n) : (n.toInt = 0 ∧ w.toInt ≤ 0) ∨ (n.toInt = 1 ∧ 1 ≤ w.toInt ∧ w.toInt < 256) ∨ (n.toInt = 2 ∧ 256 ≤ w.toInt ∧ w.toInt < 65536) ∨ (n.toInt = 3 ∧ 65536 ≤ w.toInt ∧ w.toInt < 16777216) ∨ (n.toInt = 4 ∧ 16777216 ≤ w.toInt ∧ w.toInt < 4294967296) ∨ (n.toInt = 5 ∧ 4294967296 ≤ w.toInt ∧ w.toInt < 1099511627776) ∨ (n.toInt = 6 ∧ 1099511627776 ≤ w.toInt ∧ w.toInt < 281474976710656) ∨ (7 ≤ n.toInt ∧ 281474976710656 ≤ w.toInt) := by
  obtain ⟨a, b, c, d⟩ := h
  have hc : n.toInt = 0 ∨ n.toInt = 1 ∨ n.toInt = 2 ∨ n.toInt = 3 ∨ n.toInt = 4 ∨ n.toInt = 5 ∨ n.toInt = 6 ∨ 7 ≤ n.toInt := by omega
  rcases hc with q | q | q | q | q | q | q | q
  · rw [q, show (256 : Int) ^ (0 : Int).toNat = 1 from by decide] at c
    omega
  · have d0 := d 0 (by omega)
    rw [q, show (256 : Int) ^ (1 : Int).toNat = 256 from by decide] at c
    rw [show (256 : Int) ^ 0 = 1 from by decide] at d0
    omega
  · have d0 := d 1 (by omega)
    rw [q, show (256 : Int) ^ (2 : Int).toNat = 65536 from by decide] at c
    rw [show (256 : Int) ^ 1 = 256 from by decide] at d0
    omega
  · have d0 := d 2 (by omega)
    rw [q, show (256 : Int) ^ (3 : Int).toNat = 16777216 from by decide] at c
    rw [show (256 : Int) ^ 2 = 65536 from by decide] at d0
    omega
  · have d0 := d 3 (by omega)
    rw [q, show (256 : Int) ^ (4 : Int).toNat = 4294967296 from by decide] at c
    rw [show (256 : Int) ^ 3 = 16777216 from by decide] at d0
    omega
  · have d0 := d 4 (by omega)
    rw [q, show (256 : Int) ^ (5 : Int).toNat = 1099511627776 from by decide] at c
    rw [show (256 : Int) ^ 4 = 4294967296 from by decide] at d0
    omega
  · have d0 := d 5 (by omega)
    rw [q, show (256 : Int) ^ (6 : Int).toNat = 281474976710656 from by decide] at c
    rw [show (256 : Int) ^ 5 = 1099511627776 from by decide] at d0
    omega
  · have d0 := d 6 (by omega)
    rw [show (256 : Int) ^ 6 = 281474976710656 from by decide] at d0
    omega
/-- what the reference answers of a name's long -/
def LTR (w : Int64) (k r : Int32) : Prop := ∃ n : Int32, NBY w n ∧ (n.toInt ≤ k.toInt → r.toInt = 0) ∧ (k.toInt < n.toInt → r.toInt = w.toInt / (256 : Int) ^ (n.toInt - 1 - k.toInt).toNat % 256 - 96)
theorem LTR.zr (h : NBY w n) (hk : n.toInt ≤ k.toInt) (hr : r.toInt = 0) : LTR w k r := ⟨n, h, fun _ => hr, fun q => by omega⟩
theorem dk_land255 (x : Int64) : (x &&& 255).toInt = x.toInt % 256 := by
  have h1 : (x &&& 255).toBitVec.toNat = x.toBitVec.toNat % 256 := by
    rw [Int64.toBitVec_and, BitVec.toNat_and]
    exact Nat.and_two_pow_sub_one_eq_mod _ 8
  show (x &&& 255).toBitVec.toInt = x.toBitVec.toInt % 256
  have h2 := x.toBitVec.isLt
  rw [BitVec.toInt_eq_toNat_cond, BitVec.toInt_eq_toNat_cond, h1]
  split <;> split <;> omega
theorem dk_shr8k {i : Int} (hs : s.toInt = 8 * i) (h0 : 0 ≤ i) (h7 : i ≤ 7) : (w >>> (s.toInt64 &&& 63)).toInt = w.toInt / (256 : Int) ^ i.toNat := by
  have hc : i = 0 ∨ i = 1 ∨ i = 2 ∨ i = 3 ∨ i = 4 ∨ i = 5 ∨ i = 6 ∨ i = 7 := by omega
  have key : ∀ (c : Int32) (t : Int64) (q : Nat) (p : Int), s.toInt = c.toInt → (c.toInt64 &&& 63) = t → (t.toBitVec.smod 64).toNat = q → ((2 ^ q : Nat) : Int) = p → (w >>> (s.toInt64 &&& 63)).toInt = w.toInt / p := by
    intro c t q p e1 e2 e3 e4
    rw [Int32.toInt_inj.mp e1, e2, dk_shrK w t e3, e4]
  rcases hc with rfl | rfl | rfl | rfl | rfl | rfl | rfl | rfl
  · exact key 0 0 0 _ (by rw [hs]; decide +kernel) (by decide +kernel) (by decide +kernel) (by decide)
  · exact key 8 8 8 _ (by rw [hs]; decide +kernel) (by decide +kernel) (by decide +kernel) (by decide)
  · exact key 16 16 16 _ (by rw [hs]; decide +kernel) (by decide +kernel) (by decide +kernel) (by decide)
  · exact key 24 24 24 _ (by rw [hs]; decide +kernel) (by decide +kernel) (by decide +kernel) (by decide)
  · exact key 32 32 32 _ (by rw [hs]; decide +kernel) (by decide +kernel) (by decide +kernel) (by decide)
  · exact key 40 40 40 _ (by rw [hs]; decide +kernel) (by decide +kernel) (by decide +kernel) (by decide)
  · exact key 48 48 48 _ (by rw [hs]; decide +kernel) (by decide +kernel) (by decide +kernel) (by decide)
  · exact key 56 56 56 _ (by rw [hs]; decide +kernel) (by decide +kernel) (by decide +kernel) (by decide)
theorem LTR.y (h : NBY w n) (hk : k.toInt < n.toInt) (h0 : 0 ≤ k.toInt) (js : s.toInt = 8 * (n.toInt - 1 - k.toInt)) (e1 : tv = w >>> (s.toInt64 &&& 63)) (e2 : yv = tv &&& 255) (e3 : yv.toInt32 = z) (e4 : u = z - 97) (e5 : r = u + 1) : LTR w k r := by
  refine ⟨n, h, fun q => by omega, fun _ => ?_⟩
  have h8 := h.2.1
  have g1 : tv.toInt = w.toInt / (256 : Int) ^ (n.toInt - 1 - k.toInt).toNat := by
    rw [e1]
    exact dk_shr8k js (by omega) (by omega)
  have g2 : yv.toInt = tv.toInt % 256 := by rw [e2, dk_land255]
  have g3 : z.toInt = yv.toInt := dk_l2i e3 (by omega)
  have g4 : u.toInt = z.toInt - 97 := by rw [e4]; exact dk_subT rfl (by decide +kernel) (by omega) (by omega)
  have g5 : r.toInt = u.toInt + 1 := by rw [e5]; exact dk_addT rfl (by decide +kernel) (by omega) (by omega)
  rw [g5, g4, g3, g2, g1]
  omega
end LTS
