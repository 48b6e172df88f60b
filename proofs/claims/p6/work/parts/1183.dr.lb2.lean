/-! the law: what is refused, what is not -/
section LB2
variable {oX oM g n : Nat} {G A : aR} {K : Nat → List Int} {L : s_L} {U : s_U} {SX SM : dg_S} {x : Int} {a1 : Int32}
theorem acc_shifts (ok : s_ok G K A U) (hX : RX oX g G K A L U x SX) (hM : RM G K A L U x SM) : ((F_d_shifts oX SX a1).1 = r_X 2 SX ∧ (F_m_shifts oM SM a1).1 = r_M 2 SM) ∨ (0 ≤ (F_d_shifts oX SX a1).2.toInt ∧ 0 ≤ (F_m_shifts oM SM a1).2.toInt) := by
  have z1 : (1 : Int32).toInt = 1 := by decide +kernel
  have z40 : (40 : Int32).toInt = 40 := by decide +kernel
  have zk : (2 : Int32).toInt = ((2 : Nat) : Int) := by decide +kernel
  have cX := cx_come (o := oX) (a1 := 1) (a2 := a1) (a3 := 40) hX.2.1 hX.1 ok.1.1 ok.2.2.1.1 hX.2.2.1 (by decide +kernel) (by decide +kernel)
  have cM := mx_come (o := oM) (a1 := a1) (a2 := 1) (a3 := 40) hM.1.1.1 hM.2.1 ok.2.2.1.1 (by decide +kernel) (by decide +kernel)
  rw [z1, z40] at cX cM
  by_cases q : 1 ≤ a1.toInt ∧ a1.toInt ≤ 40 ∧ A 0 0 + a1.toInt ≤ 999
  · obtain ⟨n, hn⟩ : ∃ n : Nat, a1.toInt = n := ⟨a1.toInt.toNat, by omega⟩
    obtain ⟨S1, y, e1, y1, r1⟩ := cx_shifts (o := oX) ok hX hn (by omega) (by omega) (by omega)
    obtain ⟨S2, w, e2, w2, r2⟩ := mx_shifts (o := oM) ok hM hn (by omega) (by omega) (by omega)
    have b : (0 : Int) ≤ (s_go G K (G 0 3) n (A, L, 0)).2.2 := (s_go_n (G := G) (K := K) (r := G 0 3) (A := A) (q := (L, 0)) n).1
    rw [e1, e2]
    exact Or.inr ⟨by show 0 ≤ y.toInt; rw [y1]; exact b, by show 0 ≤ w.toInt; rw [w2]; exact b⟩
  · have e1 : F_d_shiftsCome oX SX (1 : Int32) a1 (40 : Int32) = 0 := by
      rcases cX with ⟨-, e⟩ | ⟨e, -⟩
      · exact absurd e q
      · exact e
    have e2 : F_m_isAhead oM SM a1 (1 : Int32) (40 : Int32) = 0 := by
      rcases cM with ⟨-, e⟩ | ⟨e, -⟩
      · exact absurd e q
      · exact e
    rw [F_d_shifts_p3 rfl e1 rfl rfl, F_m_shifts_p3 rfl e2 rfl rfl, none_r zk, ref_r zk]
    exact Or.inl ⟨rfl, rfl⟩
theorem acc_chance (ok : s_ok G K A U) (hx : 0 ≤ x ∧ x < 2147483648) (hX : RX oX g G K A L U x SX) (hM : RM G K A L U x SM) : ((F_d_chance oX SX a1).1 = r_X 2 SX ∧ (F_m_chance oM SM a1).1 = r_M 2 SM) ∨ (0 ≤ (F_d_chance oX SX a1).2.toInt ∧ 0 ≤ (F_m_chance oM SM a1).2.toInt) := by
  have z1 : (1 : Int32).toInt = 1 := by decide +kernel
  have z40 : (40 : Int32).toInt = 40 := by decide +kernel
  have zk : (2 : Int32).toInt = ((2 : Nat) : Int) := by decide +kernel
  have cX := cx_come (o := oX) (a1 := 1) (a2 := a1) (a3 := 40) hX.2.1 hX.1 ok.1.1 ok.2.2.1.1 hX.2.2.1 (by decide +kernel) (by decide +kernel)
  have cM := mx_come (o := oM) (a1 := a1) (a2 := 1) (a3 := 40) hM.1.1.1 hM.2.1 ok.2.2.1.1 (by decide +kernel) (by decide +kernel)
  rw [z1, z40] at cX cM
  by_cases q : 1 ≤ a1.toInt ∧ a1.toInt ≤ 40 ∧ A 0 0 + a1.toInt ≤ 999
  · obtain ⟨n, hn⟩ : ∃ n : Nat, a1.toInt = n := ⟨a1.toInt.toNat, by omega⟩
    obtain ⟨S1, y, e1, y1, r1⟩ := cx_chance (o := oX) ok hx hX hn (by omega) (by omega) (by omega)
    obtain ⟨S2, w, e2, w2, r2⟩ := mx_chance (o := oM) ok hx hM hn (by omega) (by omega) (by omega)
    have b := (s_ch_ok (K := K) (r := G 0 3) (L := L) ok.1.1 ok.2.2.1.1 ok.2.2.1.2 hx n).2.2.1
    rw [e1, e2]
    exact Or.inr ⟨by show 0 ≤ y.toInt; rw [y1]; exact b, by show 0 ≤ w.toInt; rw [w2]; exact b⟩
  · have e1 : F_d_shiftsCome oX SX (1 : Int32) a1 (40 : Int32) = 0 := by
      rcases cX with ⟨-, e⟩ | ⟨e, -⟩
      · exact absurd e q
      · exact e
    have e2 : F_m_isAhead oM SM a1 (1 : Int32) (40 : Int32) = 0 := by
      rcases cM with ⟨-, e⟩ | ⟨e, -⟩
      · exact absurd e q
      · exact e
    rw [F_d_chance_p3 rfl e1 rfl rfl, F_m_chance_p6 rfl e2 rfl rfl, none_r zk, ref_r zk]
    exact Or.inl ⟨rfl, rfl⟩
theorem acc_sell (ok : s_ok G K A U) (hX : RX oX g G K A L U x SX) (hM : RM G K A L U x SM) : ((F_d_sell oX SX a1).1 = r_X 3 SX ∧ (F_m_sell oM SM a1).1 = r_M 3 SM) ∨ (0 ≤ (F_d_sell oX SX a1).2.toInt ∧ 0 ≤ (F_m_sell oM SM a1).2.toInt) := by
  have zk : (3 : Int32).toInt = ((3 : Nat) : Int) := by decide +kernel
  have hA := ok.2.2.1.1.2.1.1
  rcases cx_sell (o := oX) (a1 := a1) ok hX with ⟨p, S1, y1, e1, v1, -⟩ | ⟨p, S1, s1, e1, -⟩ <;> rcases mx_sell (o := oM) (a1 := a1) ok hM with ⟨q, S2, y2, e2, v2, -⟩ | ⟨q, S2, s2, e2, -⟩
  · have b := (ok.1.2.2.2.2.2.2.2 a1.toInt.toNat (by have := p.1; omega)).2.2.1
    rw [e1, e2]
    exact Or.inr ⟨by show 0 ≤ y1.toInt; omega, by show 0 ≤ y2.toInt; omega⟩
  · exact absurd p q
  · exact absurd q p
  · rw [e1, e2]
    exact Or.inl ⟨by show S1 = _; rw [s1, none_r zk], by show S2 = _; rw [s2, ref_r zk]⟩
end LB2
