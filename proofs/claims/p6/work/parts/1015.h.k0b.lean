/-! words of the reference: letters by 256 in a long; and what its next sign is, as a token -/
theorem m_nat {x : Int64} (h : 0 ≤ x.toInt) : x.toInt = ((x.toBitVec.toNat : Nat) : Int) := by
  have e : x.toInt = x.toBitVec.toInt := rfl
  rw [e] at h ⊢
  rw [BitVec.toInt_eq_toNat_cond] at h ⊢
  split
  · rfl
  · rename_i q
    rw [if_neg q] at h
    have := x.toBitVec.isLt
    omega
theorem m_lor {w : Int64} {x : Int32} (h0 : 0 ≤ w.toInt) (h1 : w.toInt < 1099511627776) (hx : 0 ≤ x.toInt ∧ x.toInt ≤ 255) : ((w <<< ((8 : Int32).toInt64 &&& 63)) ||| x.toInt64).toInt = 256 * w.toInt + x.toInt := by
  have e1 : ((8 : Int32).toInt64 &&& 63) = (8 : Int64) := by decide +kernel
  have e3 : ((8 : Int64).toBitVec.smod 64) = 8#64 := by decide +kernel
  have hw := m_nat h0
  have ex : x.toInt64.toInt = x.toInt := Int32.toInt_toInt64 x
  have hx2 := m_nat (x := x.toInt64) (by omega)
  have e4 : ((w <<< (8 : Int64)) ||| x.toInt64).toBitVec = (w.toBitVec <<< ((8 : Int64).toBitVec.smod 64)) ||| x.toInt64.toBitVec := rfl
  have e5 : ((w <<< (8 : Int64)) ||| x.toInt64).toBitVec.toNat = w.toBitVec.toNat * 256 + x.toInt64.toBitVec.toNat := by
    rw [e4, e3, BitVec.toNat_or, BitVec.shiftLeft_eq', BitVec.toNat_shiftLeft, show (8#64).toNat = 8 from rfl, Nat.mod_eq_of_lt (by rw [Nat.shiftLeft_eq]; omega), ← Nat.shiftLeft_add_eq_or_of_lt (by omega), Nat.shiftLeft_eq]
  rw [e1]
  have e6 : ((w <<< (8 : Int64)) ||| x.toInt64).toInt = ((w <<< (8 : Int64)) ||| x.toInt64).toBitVec.toInt := rfl
  rw [e6, BitVec.toInt_eq_toNat_cond, if_pos (by rw [e5]; omega), e5]
  omega
def m_wc (tb : Nat → Int32) (s e i : Nat) : Int := if s + i < e then (tb (s + i)).toInt - 96 else 0
def m_f27 (c0 c1 c2 c3 c4 c5 : Int) : Int := 14348907 * c0 + 531441 * c1 + 19683 * c2 + 729 * c3 + 27 * c4 + c5
theorem m_let27 {tb : Nat → Int32} {s e : Nat} : t_let tb s e 6 = m_f27 (m_wc tb s e 0) (m_wc tb s e 1) (m_wc tb s e 2) (m_wc tb s e 3) (m_wc tb s e 4) (m_wc tb s e 5) := by
  have h : t_let tb s e 6 = 27 * (27 * (27 * (27 * (27 * (27 * 0 + m_wc tb s e 0) + m_wc tb s e 1) + m_wc tb s e 2) + m_wc tb s e 3) + m_wc tb s e 4) + m_wc tb s e 5 := rfl
  rw [h]
  unfold m_f27
  omega
def m_ap (p d : Int) : Int := if d = 0 then p else 256 * p + (d + 96)
/-- a name's letters by 27, brought to bytes -/
def m_WF (v : Int) : Int := m_ap (m_ap (m_ap (m_ap (m_ap (m_ap 0 (v / 14348907)) (v / 531441 % 27)) (v / 19683 % 27)) (v / 729 % 27)) (v / 27 % 27)) (v % 27)
/-- and back -/
def m_WG (p : Int) : Int :=
  if p < 256 then m_f27 (p - 96) 0 0 0 0 0
  else if p < 65536 then m_f27 (p / 256 - 96) (p % 256 - 96) 0 0 0 0
  else if p < 16777216 then m_f27 (p / 65536 - 96) (p / 256 % 256 - 96) (p % 256 - 96) 0 0 0
  else if p < 4294967296 then m_f27 (p / 16777216 - 96) (p / 65536 % 256 - 96) (p / 256 % 256 - 96) (p % 256 - 96) 0 0
  else if p < 1099511627776 then m_f27 (p / 4294967296 - 96) (p / 16777216 % 256 - 96) (p / 65536 % 256 - 96) (p / 256 % 256 - 96) (p % 256 - 96) 0
  else m_f27 (p / 1099511627776 - 96) (p / 4294967296 % 256 - 96) (p / 16777216 % 256 - 96) (p / 65536 % 256 - 96) (p / 256 % 256 - 96) (p % 256 - 96)
theorem m_dig {c0 c1 c2 c3 c4 c5 : Int} (h0 : 0 ≤ c0 ∧ c0 ≤ 26) (h1 : 0 ≤ c1 ∧ c1 ≤ 26) (h2 : 0 ≤ c2 ∧ c2 ≤ 26) (h3 : 0 ≤ c3 ∧ c3 ≤ 26) (h4 : 0 ≤ c4 ∧ c4 ≤ 26) (h5 : 0 ≤ c5 ∧ c5 ≤ 26) : m_WF (m_f27 c0 c1 c2 c3 c4 c5) = m_ap (m_ap (m_ap (m_ap (m_ap (m_ap 0 c0) c1) c2) c3) c4) c5 := by
  have g0 : m_f27 c0 c1 c2 c3 c4 c5 / 14348907 = c0 := by unfold m_f27; omega
  have g1 : m_f27 c0 c1 c2 c3 c4 c5 / 531441 % 27 = c1 := by unfold m_f27; omega
  have g2 : m_f27 c0 c1 c2 c3 c4 c5 / 19683 % 27 = c2 := by unfold m_f27; omega
  have g3 : m_f27 c0 c1 c2 c3 c4 c5 / 729 % 27 = c3 := by unfold m_f27; omega
  have g4 : m_f27 c0 c1 c2 c3 c4 c5 / 27 % 27 = c4 := by unfold m_f27; omega
  have g5 : m_f27 c0 c1 c2 c3 c4 c5 % 27 = c5 := by unfold m_f27; omega
  unfold m_WF
  rw [g0, g1, g2, g3, g4, g5]
theorem m_f27_inj {c0 c1 c2 c3 c4 c5 d0 d1 d2 d3 d4 d5 : Int} (h0 : 0 ≤ c0 ∧ c0 ≤ 26) (h1 : 0 ≤ c1 ∧ c1 ≤ 26) (h2 : 0 ≤ c2 ∧ c2 ≤ 26) (h3 : 0 ≤ c3 ∧ c3 ≤ 26) (h4 : 0 ≤ c4 ∧ c4 ≤ 26) (h5 : 0 ≤ c5 ∧ c5 ≤ 26) (k0 : 0 ≤ d0 ∧ d0 ≤ 26) (k1 : 0 ≤ d1 ∧ d1 ≤ 26) (k2 : 0 ≤ d2 ∧ d2 ≤ 26) (k3 : 0 ≤ d3 ∧ d3 ≤ 26) (k4 : 0 ≤ d4 ∧ d4 ≤ 26) (k5 : 0 ≤ d5 ∧ d5 ≤ 26) (e : m_f27 c0 c1 c2 c3 c4 c5 = m_f27 d0 d1 d2 d3 d4 d5) : c0 = d0 ∧ c1 = d1 ∧ c2 = d2 ∧ c3 = d3 ∧ c4 = d4 ∧ c5 = d5 := by
  unfold m_f27 at e
  have a0 : c0 = d0 := by omega
  have a1 : c1 = d1 := by omega
  have a2 : c2 = d2 := by omega
  have a3 : c3 = d3 := by omega
  have a4 : c4 = d4 := by omega
  exact ⟨a0, a1, a2, a3, a4, by omega⟩
def m_pk (tb : Nat → Int32) (s : Nat) : Nat → Int
  | 0 => 0
  | i + 1 => 256 * m_pk tb s i + (tb (s + i)).toInt
section MT9
variable {tb : Nat → Int32} {s e n : Nat}
theorem m_wc_b (h : ∀ j : Nat, s ≤ j → j < e → t_l (tb j) = true) (i : Nat) : 0 ≤ m_wc tb s e i ∧ m_wc tb s e i ≤ 26 := by
  unfold m_wc
  by_cases q : s + i < e
  · have := t_l_iff.mp (h (s + i) (Nat.le_add_right s i) q)
    rw [if_pos q]
    omega
  · rw [if_neg q]
    omega
theorem m_wc_in (h : ∀ j : Nat, s ≤ j → j < e → t_l (tb j) = true) {i : Nat} (q : s + i < e) : m_wc tb s e i = (tb (s + i)).toInt - 96 ∧ 97 ≤ (tb (s + i)).toInt ∧ (tb (s + i)).toInt ≤ 122 := by
  have := t_l_iff.mp (h (s + i) (Nat.le_add_right s i) q)
  unfold m_wc
  rw [if_pos q]
  exact ⟨rfl, this⟩
theorem m_wc_out {i : Nat} (q : ¬ s + i < e) : m_wc tb s e i = 0 := by
  unfold m_wc
  rw [if_neg q]
theorem m_ap_0 {p d : Int} (h : d = 0) : m_ap p d = p := by
  unfold m_ap
  rw [if_pos h]
theorem m_ap_1 {p d x : Int} (h : d = x - 96 ∧ 97 ≤ x ∧ x ≤ 122) : m_ap p d = 256 * p + x := by
  unfold m_ap
  rw [if_neg (by omega)]
  omega
theorem m_WFl (h : ∀ j : Nat, s ≤ j → j < e → t_l (tb j) = true) (h1 : s < e) (h2 : e - s ≤ 6) : m_WF (t_let tb s e 6) = m_pk tb s (e - s) := by
  rw [m_let27, m_dig (m_wc_b h 0) (m_wc_b h 1) (m_wc_b h 2) (m_wc_b h 3) (m_wc_b h 4) (m_wc_b h 5)]
  have hm : e - s = 1 ∨ e - s = 2 ∨ e - s = 3 ∨ e - s = 4 ∨ e - s = 5 ∨ e - s = 6 := by omega
  rcases hm with q | q | q | q | q | q
  · rw [q, m_ap_0 (m_wc_out (by omega)), m_ap_0 (m_wc_out (by omega)), m_ap_0 (m_wc_out (by omega)), m_ap_0 (m_wc_out (by omega)), m_ap_0 (m_wc_out (by omega)), m_ap_1 (m_wc_in h (by omega))]
    rfl
  · rw [q, m_ap_0 (m_wc_out (by omega)), m_ap_0 (m_wc_out (by omega)), m_ap_0 (m_wc_out (by omega)), m_ap_0 (m_wc_out (by omega)), m_ap_1 (m_wc_in h (by omega)), m_ap_1 (m_wc_in h (by omega))]
    rfl
  · rw [q, m_ap_0 (m_wc_out (by omega)), m_ap_0 (m_wc_out (by omega)), m_ap_0 (m_wc_out (by omega)), m_ap_1 (m_wc_in h (by omega)), m_ap_1 (m_wc_in h (by omega)), m_ap_1 (m_wc_in h (by omega))]
    rfl
  · rw [q, m_ap_0 (m_wc_out (by omega)), m_ap_0 (m_wc_out (by omega)), m_ap_1 (m_wc_in h (by omega)), m_ap_1 (m_wc_in h (by omega)), m_ap_1 (m_wc_in h (by omega)), m_ap_1 (m_wc_in h (by omega))]
    rfl
  · rw [q, m_ap_0 (m_wc_out (by omega)), m_ap_1 (m_wc_in h (by omega)), m_ap_1 (m_wc_in h (by omega)), m_ap_1 (m_wc_in h (by omega)), m_ap_1 (m_wc_in h (by omega)), m_ap_1 (m_wc_in h (by omega))]
    rfl
  · rw [q, m_ap_1 (m_wc_in h (by omega)), m_ap_1 (m_wc_in h (by omega)), m_ap_1 (m_wc_in h (by omega)), m_ap_1 (m_wc_in h (by omega)), m_ap_1 (m_wc_in h (by omega)), m_ap_1 (m_wc_in h (by omega))]
    rfl
theorem m_WG1 {x : Int} (h : 97 ≤ x ∧ x ≤ 122) : m_WG x = m_f27 (x - 96) 0 0 0 0 0 := by
  unfold m_WG
  rw [if_pos (by omega)]
theorem m_WG2 {x y p : Int} (h : 97 ≤ x ∧ x ≤ 122) (h2 : 97 ≤ y ∧ y ≤ 122) (e : p = 256 * x + y) : m_WG p = m_f27 (x - 96) (y - 96) 0 0 0 0 := by
  have g0 : p / 256 = x := by omega
  have g1 : p % 256 = y := by omega
  unfold m_WG
  rw [if_neg (by omega), if_pos (by omega), g0, g1]
theorem m_WG3 {x y z p : Int} (h : 97 ≤ x ∧ x ≤ 122) (h2 : 97 ≤ y ∧ y ≤ 122) (h3 : 97 ≤ z ∧ z ≤ 122) (e : p = 65536 * x + 256 * y + z) : m_WG p = m_f27 (x - 96) (y - 96) (z - 96) 0 0 0 := by
  have g0 : p / 65536 = x := by omega
  have g1 : p / 256 % 256 = y := by omega
  have g2 : p % 256 = z := by omega
  unfold m_WG
  rw [if_neg (by omega), if_neg (by omega), if_pos (by omega), g0, g1, g2]
theorem m_WG4 {x y z u p : Int} (h : 97 ≤ x ∧ x ≤ 122) (h2 : 97 ≤ y ∧ y ≤ 122) (h3 : 97 ≤ z ∧ z ≤ 122) (h4 : 97 ≤ u ∧ u ≤ 122) (e : p = 16777216 * x + 65536 * y + 256 * z + u) : m_WG p = m_f27 (x - 96) (y - 96) (z - 96) (u - 96) 0 0 := by
  have g0 : p / 16777216 = x := by omega
  have g1 : p / 65536 % 256 = y := by omega
  have g2 : p / 256 % 256 = z := by omega
  have g3 : p % 256 = u := by omega
  unfold m_WG
  rw [if_neg (by omega), if_neg (by omega), if_neg (by omega), if_pos (by omega), g0, g1, g2, g3]
theorem m_WG5 {x y z u v p : Int} (h : 97 ≤ x ∧ x ≤ 122) (h2 : 97 ≤ y ∧ y ≤ 122) (h3 : 97 ≤ z ∧ z ≤ 122) (h4 : 97 ≤ u ∧ u ≤ 122) (h5 : 97 ≤ v ∧ v ≤ 122) (e : p = 4294967296 * x + 16777216 * y + 65536 * z + 256 * u + v) : m_WG p = m_f27 (x - 96) (y - 96) (z - 96) (u - 96) (v - 96) 0 := by
  have g0 : p / 4294967296 = x := by omega
  have g1 : p / 16777216 % 256 = y := by omega
  have g2 : p / 65536 % 256 = z := by omega
  have g3 : p / 256 % 256 = u := by omega
  have g4 : p % 256 = v := by omega
  unfold m_WG
  rw [if_neg (by omega), if_neg (by omega), if_neg (by omega), if_neg (by omega), if_pos (by omega), g0, g1, g2, g3, g4]
theorem m_WG6 {x y z u v w p : Int} (h : 97 ≤ x ∧ x ≤ 122) (h2 : 97 ≤ y ∧ y ≤ 122) (h3 : 97 ≤ z ∧ z ≤ 122) (h4 : 97 ≤ u ∧ u ≤ 122) (h5 : 97 ≤ v ∧ v ≤ 122) (h6 : 97 ≤ w ∧ w ≤ 122) (e : p = 1099511627776 * x + 4294967296 * y + 16777216 * z + 65536 * u + 256 * v + w) : m_WG p = m_f27 (x - 96) (y - 96) (z - 96) (u - 96) (v - 96) (w - 96) := by
  have g0 : p / 1099511627776 = x := by omega
  have g1 : p / 4294967296 % 256 = y := by omega
  have g2 : p / 16777216 % 256 = z := by omega
  have g3 : p / 65536 % 256 = u := by omega
  have g4 : p / 256 % 256 = v := by omega
  have g5 : p % 256 = w := by omega
  unfold m_WG
  rw [if_neg (by omega), if_neg (by omega), if_neg (by omega), if_neg (by omega), if_neg (by omega), g0, g1, g2, g3, g4, g5]
theorem m_pk_s {i : Nat} : m_pk tb s (i + 1) = 256 * m_pk tb s i + (tb (s + i)).toInt := rfl
theorem m_WGp (h : ∀ j : Nat, s ≤ j → j < e → t_l (tb j) = true) (h1 : s < e) (h2 : e - s ≤ 6) : m_WG (m_pk tb s (e - s)) = t_let tb s e 6 := by
  have p0 : m_pk tb s 0 = 0 := rfl
  have p1 : m_pk tb s 1 = 256 * m_pk tb s 0 + (tb (s + 0)).toInt := rfl
  have p2 : m_pk tb s 2 = 256 * m_pk tb s 1 + (tb (s + 1)).toInt := rfl
  have p3 : m_pk tb s 3 = 256 * m_pk tb s 2 + (tb (s + 2)).toInt := rfl
  have p4 : m_pk tb s 4 = 256 * m_pk tb s 3 + (tb (s + 3)).toInt := rfl
  have p5 : m_pk tb s 5 = 256 * m_pk tb s 4 + (tb (s + 4)).toInt := rfl
  have p6 : m_pk tb s 6 = 256 * m_pk tb s 5 + (tb (s + 5)).toInt := rfl
  rw [m_let27]
  have hm : e - s = 1 ∨ e - s = 2 ∨ e - s = 3 ∨ e - s = 4 ∨ e - s = 5 ∨ e - s = 6 := by omega
  have i0 := m_wc_in h (i := 0) (by omega)
  rcases hm with q | q | q | q | q | q
  · rw [q, m_wc_out (i := 1) (by omega), m_wc_out (i := 2) (by omega), m_wc_out (i := 3) (by omega), m_wc_out (i := 4) (by omega), m_wc_out (i := 5) (by omega), i0.1, show m_pk tb s 1 = (tb (s + 0)).toInt by omega]
    exact m_WG1 i0.2
  · have i1 := m_wc_in h (i := 1) (by omega)
    rw [q, m_wc_out (i := 2) (by omega), m_wc_out (i := 3) (by omega), m_wc_out (i := 4) (by omega), m_wc_out (i := 5) (by omega), i0.1, i1.1]
    exact m_WG2 i0.2 i1.2 (by omega)
  · have i1 := m_wc_in h (i := 1) (by omega)
    have i2 := m_wc_in h (i := 2) (by omega)
    rw [q, m_wc_out (i := 3) (by omega), m_wc_out (i := 4) (by omega), m_wc_out (i := 5) (by omega), i0.1, i1.1, i2.1]
    exact m_WG3 i0.2 i1.2 i2.2 (by omega)
  · have i1 := m_wc_in h (i := 1) (by omega)
    have i2 := m_wc_in h (i := 2) (by omega)
    have i3 := m_wc_in h (i := 3) (by omega)
    rw [q, m_wc_out (i := 4) (by omega), m_wc_out (i := 5) (by omega), i0.1, i1.1, i2.1, i3.1]
    exact m_WG4 i0.2 i1.2 i2.2 i3.2 (by omega)
  · have i1 := m_wc_in h (i := 1) (by omega)
    have i2 := m_wc_in h (i := 2) (by omega)
    have i3 := m_wc_in h (i := 3) (by omega)
    have i4 := m_wc_in h (i := 4) (by omega)
    rw [q, m_wc_out (i := 5) (by omega), i0.1, i1.1, i2.1, i3.1, i4.1]
    exact m_WG5 i0.2 i1.2 i2.2 i3.2 i4.2 (by omega)
  · have i1 := m_wc_in h (i := 1) (by omega)
    have i2 := m_wc_in h (i := 2) (by omega)
    have i3 := m_wc_in h (i := 3) (by omega)
    have i4 := m_wc_in h (i := 4) (by omega)
    have i5 := m_wc_in h (i := 5) (by omega)
    rw [q, i0.1, i1.1, i2.1, i3.1, i4.1, i5.1]
    exact m_WG6 i0.2 i1.2 i2.2 i3.2 i4.2 i5.2 (by omega)
/-- OWN WORDS: their letters, their longs -/
def m_wd (j i : Nat) : Int := if (t_words.getD j []).getD i 0 = 32 then 0 else (t_words.getD j []).getD i 0 - 96
def m_WL (j : Nat) : Int := m_f27 (m_wd j 0) (m_wd j 1) (m_wd j 2) (m_wd j 3) (m_wd j 4) (m_wd j 5)
def m_cw (j : Int) : Int := m_WF (m_WL j.toNat)
theorem m_wd_b : ∀ j : Nat, j < 27 → ∀ i : Nat, i < 6 → 0 ≤ m_wd j i ∧ m_wd j i ≤ 26 := by decide +kernel
theorem m_WLG : ∀ j : Nat, j < 27 → m_WG (m_WF (m_WL j)) = m_WL j := by decide +kernel
theorem m_cw_inj : ∀ j : Nat, j < 27 → ∀ i : Nat, i < 27 → m_WF (m_WL i) = m_WF (m_WL j) → i = j := by decide +kernel
theorem m_ch_c (h : ∀ j : Nat, s ≤ j → j < e → t_l (tb j) = true) {i j : Nat} (hj : j < 27) (hi : i < 6) : t_ch tb s e i = (t_words.getD j []).getD i 0 ↔ m_wc tb s e i = m_wd j i := by
  have w : ∀ j : Nat, j < 27 → ∀ i : Nat, i < 6 → (t_words.getD j []).getD i 0 = 32 ∨ (97 ≤ (t_words.getD j []).getD i 0 ∧ (t_words.getD j []).getD i 0 ≤ 122) := by decide +kernel
  have w1 := w j hj i hi
  unfold t_ch m_wc m_wd
  by_cases q : s + i < e
  · have := t_l_iff.mp (h (s + i) (Nat.le_add_right s i) q)
    rw [if_pos q, if_pos q]
    by_cases z : (t_words.getD j []).getD i 0 = 32
    · rw [if_pos z]
      omega
    · rw [if_neg z]
      omega
  · rw [if_neg q, if_neg q]
    by_cases z : (t_words.getD j []).getD i 0 = 32
    · rw [if_pos z]
      omega
    · rw [if_neg z]
      omega
theorem m_mt_L (h : ∀ j : Nat, s ≤ j → j < e → t_l (tb j) = true) {j : Nat} (hj : j < 27) : t_mt tb s e j = true ↔ t_let tb s e 6 = m_WL j := by
  rw [t_mt_iff, m_let27]
  constructor
  · intro a
    have b : ∀ i, i < 6 → m_wc tb s e i = m_wd j i := fun i hi => (m_ch_c h hj hi).mp (a i hi)
    unfold m_WL
    rw [b 0 (by decide), b 1 (by decide), b 2 (by decide), b 3 (by decide), b 4 (by decide), b 5 (by decide)]
  · intro a i hi
    have d := m_wd_b j hj
    obtain ⟨a0, a1, a2, a3, a4, a5⟩ := m_f27_inj (m_wc_b h 0) (m_wc_b h 1) (m_wc_b h 2) (m_wc_b h 3) (m_wc_b h 4) (m_wc_b h 5) (d 0 (by decide)) (d 1 (by decide)) (d 2 (by decide)) (d 3 (by decide)) (d 4 (by decide)) (d 5 (by decide)) a
    rw [m_ch_c h hj hi]
    have hi6 : i = 0 ∨ i = 1 ∨ i = 2 ∨ i = 3 ∨ i = 4 ∨ i = 5 := by omega
    rcases hi6 with q | q | q | q | q | q <;> subst q <;> assumption
theorem t_own_cases : (∃ j : Nat, j < 27 ∧ t_own tb s e = (j : Int) ∧ t_mt tb s e j = true) ∨ (t_own tb s e = -1 ∧ ∀ j : Nat, j < 27 → t_mt tb s e j = false) := by
  unfold t_own
  cases q : (List.range 27).find? (fun j => t_mt tb s e j) with
  | none => exact Or.inr ⟨rfl, fun j hj => by
      have := List.find?_range_eq_none.mp q j hj
      cases z : t_mt tb s e j with
      | false => rfl
      | true => rw [z] at this; exact absurd this (by decide)⟩
  | some j =>
    have := List.find?_range_eq_some.mp q
    exact Or.inl ⟨j, List.mem_range.mp this.2.1, rfl, this.1⟩
/-- what the reference's next sign is: sign, value, where it is wrong, word; of token k -/
def k_tok (kd vl : Nat → Int32) (k : Nat) (sg va lx : Int32) (wd : Int64) : Prop :=
  (lx.toInt = -1 ↔ (kd k).toInt ≠ 5) ∧ (sg.toInt = 0 ↔ (kd k).toInt = 0) ∧ ((kd k).toInt ≠ 5 → (sg.toInt = 3 ↔ (kd k).toInt = 4) ∧ (sg.toInt = 2 ↔ (kd k).toInt = 3) ∧ (sg.toInt = 1 ↔ ((kd k).toInt = 1 ∨ (kd k).toInt = 2)) ∧ ((kd k).toInt = 3 ∨ (kd k).toInt = 4 → va.toInt = (vl k).toInt) ∧ ((kd k).toInt = 1 → 0 ≤ (vl k).toInt ∧ (vl k).toInt ≤ 26 ∧ wd.toInt = m_cw (vl k).toInt) ∧ ((kd k).toInt = 2 → wd.toInt = m_WF (vl k).toInt ∧ m_WG wd.toInt = (vl k).toInt ∧ ∀ j : Nat, j < 27 → wd.toInt ≠ m_WF (m_WL j)))
theorem T_kd_at {k : Nat} {v : Int} (h : t_kd tb n k = v) (h0 : 0 ≤ v) (h1 : v ≤ 5) : (T_kd tb n k).toInt = v := by
  unfold T_kd
  rw [h]
  exact Int32.toInt_ofInt_of_le (by omega) (by omega)
theorem T_vl_at {k : Nat} {v : Int} (h : t_vl tb n k = v) (h0 : -2147483648 ≤ v) (h1 : v ≤ 2147483647) : (T_vl tb n k).toInt = v := by
  unfold T_vl
  rw [h]
  exact Int32.toInt_ofInt_of_le (by omega) (by omega)
theorem k_tok.eod {k : Nat} {sg va lx : Int32} {wd : Int64} (hs : ¬ t_s tb n k < n) (h1 : sg.toInt = 0) (h2 : lx.toInt = -1) : k_tok (T_kd tb n) (T_vl tb n) k sg va lx wd := by
  have e : (T_kd tb n k).toInt = 0 := T_kd_at (by unfold t_kd; rw [if_neg hs]) (by decide) (by decide)
  unfold k_tok
  rw [e]
  refine ⟨by omega, by omega, fun _ => ⟨by omega, by omega, by omega, by omega, fun q => absurd q (by decide), fun q => absurd q (by decide)⟩⟩
theorem k_tok.sgn {k : Nat} {sg va lx : Int32} {wd : Int64} (hs : t_s tb n k < n) (h1 : sg.toInt = 3) (h2 : lx.toInt = -1) (hv : tb (t_s tb n k) = va) (hl : t_l va = false) (hd : t_d va = false) : k_tok (T_kd tb n) (T_vl tb n) k sg va lx wd := by
  obtain ⟨a, b⟩ := t_K_sign (ad := t_adj tb (t_s tb n k)) (e := t_P tb n (k + 1)) hv hl hd
  have e1 : (T_kd tb n k).toInt = 4 := T_kd_at (by unfold t_kd; rw [if_pos hs, ← a]; decide +kernel) (by decide) (by decide)
  have e2 : (T_vl tb n k).toInt = va.toInt := T_vl_at (by unfold t_vl; rw [if_pos hs, ← b]) (Int32.le_toInt va) (Int32.toInt_le va)
  unfold k_tok
  rw [e1, e2]
  refine ⟨by omega, by omega, fun _ => ⟨by omega, by omega, by omega, by omega, fun q => absurd q (by decide), fun q => absurd q (by decide)⟩⟩
theorem k_tok.num {k : Nat} {sg va lx : Int32} {wd : Int64} {m : Nat} (hs : t_s tb n k < n) (h1 : sg.toInt = 2) (hd : t_d (tb (t_s tb n k)) = true) (hm : t_P tb n (k + 1) - t_s tb n k = m) (hx : lx.toInt ≠ -1 ↔ (t_adj tb (t_s tb n k) = true ∨ 4 < m)) (hv : m ≤ 4 → va.toInt = t_num tb (t_s tb n k) m) : k_tok (T_kd tb n) (T_vl tb n) k sg va lx wd := by
  have hl : ¬ t_l (tb (t_s tb n k)) = true := by rw [t_ld hd]; decide
  have eK : t_kd tb n k = if 4 < m ∨ t_adj tb (t_s tb n k) = true then 5 else 3 := by
    unfold t_kd t_K
    rw [if_pos hs, if_neg hl, if_pos hd, hm]
  by_cases q : 4 < m ∨ t_adj tb (t_s tb n k) = true
  · rw [if_pos q] at eK
    have e1 : (T_kd tb n k).toInt = 5 := T_kd_at eK (by decide) (by decide)
    have q2 : lx.toInt ≠ -1 := hx.mpr q.symm
    unfold k_tok
    rw [e1]
    exact ⟨by omega, by omega, fun z => absurd rfl z⟩
  · rw [if_neg q] at eK
    have e1 : (T_kd tb n k).toInt = 3 := T_kd_at eK (by decide) (by decide)
    have q2 : ¬ lx.toInt ≠ -1 := fun z => q (hx.mp z).symm
    have q3 : ¬ t_adj tb (t_s tb n k) = true := fun z => q (Or.inr z)
    have hv2 := hv (by omega)
    have eV : t_vl tb n k = va.toInt := by
      unfold t_vl t_V
      rw [if_pos hs, if_neg hl, if_pos hd, hm, if_neg (by omega), if_neg q3, hv2]
    have e2 : (T_vl tb n k).toInt = va.toInt := T_vl_at eV (Int32.le_toInt va) (Int32.toInt_le va)
    unfold k_tok
    rw [e1, e2]
    refine ⟨by omega, by omega, fun _ => ⟨by omega, by omega, by omega, by omega, fun q => absurd q (by decide), fun q => absurd q (by decide)⟩⟩
theorem k_tok.wrd {k : Nat} {sg va lx : Int32} {wd : Int64} {m : Nat} (hs : t_s tb n k < n) (h1 : sg.toInt = 1) (h0 : t_s tb n k < t_P tb n (k + 1)) (hl : ∀ j : Nat, t_s tb n k ≤ j → j < t_P tb n (k + 1) → t_l (tb j) = true) (hm : t_P tb n (k + 1) - t_s tb n k = m) (hx : lx.toInt ≠ -1 ↔ (t_adj tb (t_s tb n k) = true ∨ 6 < m)) (hv : m ≤ 6 → wd.toInt = m_pk tb (t_s tb n k) m) : k_tok (T_kd tb n) (T_vl tb n) k sg va lx wd := by
  have hl0 := hl (t_s tb n k) (Nat.le_refl _) h0
  have eK : t_kd tb n k = if 6 < m ∨ t_adj tb (t_s tb n k) = true then 5 else if t_own tb (t_s tb n k) (t_P tb n (k + 1)) = -1 then 2 else 1 := by
    unfold t_kd t_K
    rw [if_pos hs, if_pos hl0, hm]
  by_cases q : 6 < m ∨ t_adj tb (t_s tb n k) = true
  · rw [if_pos q] at eK
    have e1 : (T_kd tb n k).toInt = 5 := T_kd_at eK (by decide) (by decide)
    have q2 : lx.toInt ≠ -1 := hx.mpr q.symm
    unfold k_tok
    rw [e1]
    exact ⟨by omega, by omega, fun z => absurd rfl z⟩
  · rw [if_neg q] at eK
    have q2 : ¬ lx.toInt ≠ -1 := fun z => q (hx.mp z).symm
    have q3 : ¬ t_adj tb (t_s tb n k) = true := fun z => q (Or.inr z)
    have hm6 : m ≤ 6 := by omega
    have hv2 := hv hm6
    have F := m_WFl (tb := tb) hl h0 (by omega)
    have G := m_WGp (tb := tb) hl h0 (by omega)
    rw [hm] at F G
    rcases t_own_cases (tb := tb) (s := t_s tb n k) (e := t_P tb n (k + 1)) with ⟨j, hj, o1, o2⟩ | ⟨o1, o2⟩
    · rw [if_neg (by omega)] at eK
      have e1 : (T_kd tb n k).toInt = 1 := T_kd_at eK (by decide) (by decide)
      have eV : t_vl tb n k = (j : Int) := by
        unfold t_vl t_V
        rw [if_pos hs, if_pos hl0, hm, if_neg (by omega), if_neg q3, if_neg (by omega), o1]
      have e2 : (T_vl tb n k).toInt = (j : Int) := T_vl_at eV (by omega) (by omega)
      have e3 := (m_mt_L (tb := tb) hl hj).mp o2
      unfold k_tok
      rw [e1, e2]
      refine ⟨by omega, by omega, fun _ => ⟨by omega, by omega, by omega, by omega, fun _ => ⟨by omega, by omega, ?_⟩, fun q => absurd q (by decide)⟩⟩
      unfold m_cw
      rw [Int.toNat_natCast, hv2, ← F, e3]
    · rw [if_pos o1] at eK
      have e1 : (T_kd tb n k).toInt = 2 := T_kd_at eK (by decide) (by decide)
      have eV : t_vl tb n k = t_let tb (t_s tb n k) (t_P tb n (k + 1)) 6 := by
        unfold t_vl t_V
        rw [if_pos hs, if_pos hl0, hm, if_neg (by omega), if_neg q3, if_pos o1]
      have b := t_let_b (tb := tb) hl 6
      have c6 : (27 : Int) ^ 6 = 387420489 := by decide
      have e2 : (T_vl tb n k).toInt = t_let tb (t_s tb n k) (t_P tb n (k + 1)) 6 := T_vl_at eV (by omega) (by omega)
      unfold k_tok
      rw [e1, e2]
      refine ⟨by omega, by omega, fun _ => ⟨by omega, by omega, by omega, by omega, fun q => absurd q (by decide), fun _ => ⟨by rw [hv2, F], by rw [hv2, G], fun j hj z => ?_⟩⟩⟩
      have z2 : t_let tb (t_s tb n k) (t_P tb n (k + 1)) 6 = m_WL j := by rw [← G, ← hv2, z, m_WLG j hj]
      have z3 := (m_mt_L (tb := tb) hl hj).mpr z2
      rw [o2 j hj] at z3
      cases z3
/-! which token it is -/
/-- the number of the token that begins there -/
def t_ix (tb : Nat → Int32) (n a : Nat) : Nat := ((List.range (n + 1)).find? (fun k => decide (a ≤ t_s tb n k))).getD 0
theorem t_s_ge {k : Nat} : t_P tb n k ≤ t_s tb n k := t_sk_ge
theorem t_s_lt {k : Nat} (h : t_s tb n k < n) : t_s tb n k < t_s tb n (k + 1) := by
  have a := t_en_gt (b := tb) h
  rw [← t_P_s h] at a
  exact Nat.lt_of_lt_of_le a t_s_ge
theorem t_s_mono {k : Nat} (h : ∀ j : Nat, j < k → t_s tb n j < n) : ∀ j : Nat, j < k → t_s tb n j < t_s tb n k := by
  induction k with
  | zero => intro j hj; exact absurd hj (Nat.not_lt_zero j)
  | succ k ih =>
    intro j hj
    have a := t_s_lt (h k (Nat.lt_succ_self k))
    by_cases q : j = k
    · rw [q]; exact a
    · exact Nat.lt_trans (ih (fun i hi => h i (Nat.lt_succ_of_lt hi)) j (by omega)) a
theorem t_s_idx {k : Nat} (h : ∀ j : Nat, j < k → t_s tb n j < n) : k ≤ n := by
  cases k with
  | zero => exact Nat.zero_le n
  | succ k =>
    have a : ∀ i : Nat, i ≤ k → i ≤ t_s tb n i := by
      intro i
      induction i with
      | zero => intro _; exact Nat.zero_le _
      | succ i ih =>
        intro hi
        have b := t_s_lt (h i (by omega))
        have c := ih (by omega)
        omega
    have b := a k (Nat.le_refl k)
    have c := h k (Nat.lt_succ_self k)
    omega
theorem t_ix_eq {k a : Nat} (h : ∀ j : Nat, j < k → t_s tb n j < n) (e : t_s tb n k = a) : t_ix tb n a = k := by
  have m := t_s_mono h
  have q : (List.range (n + 1)).find? (fun k => decide (a ≤ t_s tb n k)) = some k := List.find?_range_eq_some.mpr ⟨decide_eq_true (by omega), List.mem_range.mpr (by have := t_s_idx h; omega), fun j hj => by
    have := m j hj
    show (!decide (a ≤ t_s tb n j)) = true
    rw [decide_eq_false (by omega)]; rfl⟩
  unfold t_ix
  rw [q]
  rfl
end MT9
