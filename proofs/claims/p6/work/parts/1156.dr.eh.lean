/-! SALE: the reference; both sides -/
section EH
variable {o oX oM g n p : Nat} {G A A' : aR} {K : Nat → List Int} {L L' : s_L} {U : s_U} {S S0 S1 SX SM : dg_S} {x x' r c v t : Int} {a a1 a2 a3 a4 b y : Int32} {s : Nat}
/-- the bank, as a number -/
theorem mx_bank (h : RM G K A L U x S) : ∃ b : Nat, b ≤ 1 ∧ (zI S 0 13).toInt = b ∧ (zI S 0 13).toNatClampNeg = b := by
  obtain ⟨b, hb1, hbk, -⟩ := h.1.1.2
  exact ⟨b, hb1, hbk, by rw [dk_clN]; omega⟩
theorem mx_areTubs (ok : s_ok G K A U) (h : RM G K A L U x S) (ha : a1.toInt = s) (hs : s < 32) : F_m_areTubs o S a1 = 1 ∧ (∀ gr : Nat, gr < 10 → s_wd G s gr (G 0 7).toNat ≤ s_sz A gr (10 - gr)) ∨ F_m_areTubs o S a1 = 0 ∧ ¬ (∀ gr : Nat, gr < 10 → s_wd G s gr (G 0 7).toNat ≤ s_sz A gr (10 - gr)) := by
  have z0 : (0 : Int32).toInt = 0 := by decide +kernel
  have z10 : (10 : Int32).toInt = 10 := by decide +kernel
  have e5 : (5 : Int32).toInt = ((5 : Nat) : Int) := by decide +kernel
  have h7 := ok.1.2.2.2.2.1
  obtain ⟨b, hb1, hbk, bn⟩ := mx_bank h
  have f12 : (S.2.1 12 (zI S 0 13).toNatClampNeg).toInt = G 0 7 := h.1.2.1.2.2.2
  have ho := h.1.2.2.2.2
  rw [F_m_areTubs_p10]
  refine lp_cnt1 (f := F_m_areTubs_B1 S o a1) (z := (0 : Int32)) (W := 10) (P := fun k => ∀ gr : Nat, gr < k → s_wd G s gr (G 0 7).toNat ≤ s_sz A gr (10 - gr)) (Q := fun q => q = 1 ∧ (∀ gr : Nat, gr < 10 → s_wd G s gr (G 0 7).toNat ≤ s_sz A gr (10 - gr)) ∨ q = 0 ∧ ¬ (∀ gr : Nat, gr < 10 → s_wd G s gr (G 0 7).toNat ≤ s_sz A gr (10 - gr))) (by decide) (fun i iI hi hiI hP => ?_) (fun iI hiI hP => ⟨1, F_m_areTubs_p0 (dk_gep z10 (by omega)), Or.inl ⟨rfl, hP⟩⟩) ((11 - ((0 : Int32)).toInt).toNat + 1) 0 0 (by rw [z0]; decide) (by decide) z0 (fun j hj => absurd hj (Nat.not_lt_zero j))
  have q0 : ¬ (10 : Int32) ≤ iI := fun z => by have := dk_gec z10 z; omega
  have inn := lp_cnt (f := F_m_areTubs_B3 S o iI a1) (z := (Sum.inr (0 : Int32) : Int32 ⊕ Int32)) (W := (G 0 7).toNat) (P := fun k u => u.toInt = s_wd G s i k) (Q := fun q => ∃ w : Int32, q = F_m_areTubs_J2 o S iI w ∧ w.toInt = s_wd G s i (G 0 7).toNat) (by omega) (fun k kI u hk hkI hP => by
    have hP : u.toInt = s_wd G s i k := hP
    have q1 : ¬ S.2.1 12 (zI S 0 13).toNatClampNeg ≤ kI := fun z => by have := w_le.mp z; omega
    have bw := s_wd_b (s := s) (gr := (i : Int)) ok k (by omega)
    have h3 := (ok.1.2.2.2.2.2.2.2 k (by omega)).2.1
    obtain ⟨o2, o3, -⟩ := ho k (by omega)
    rw [bn] at o2 o3
    have pl : ((5 : Int32) * zI S 0 13 + kI).toNatClampNeg = 5 * b + k := mx_pl (c := k) hbk (by omega) hkI (by omega) e5 (by omega) (by omega)
    have stay : (if mx_bit s k = 1 ∧ (i : Int) ≤ G 2 k then G 3 k else 0) = 0 → F_m_areTubs_B3 S o iI a1 (kI, u) = F_m_areTubs_J5 u kI → ∃ s1, F_m_areTubs_B3 S o iI a1 (kI, u) = .inl (kI + 1, s1) ∧ s1.toInt = s_wd G s i (k + 1) := fun e0 e => by
      refine ⟨u + (0 : Int32), (e.trans F_m_areTubs_p5).trans (F_m_areTubs_p4 rfl rfl), ?_⟩
      show (u + (0 : Int32)).toInt = s_wd G s i k + (if mx_bit s k = 1 ∧ (i : Int) ≤ G 2 k then G 3 k else 0)
      rw [e0, dk_addT hP z0 (by omega) (by omega)]
    rcases mx_has2 (o := o) (S := S) (a := a1) (b := kI) (by omega) (by omega) with ⟨e, v⟩ | ⟨e, v⟩
    rotate_left
    · rw [ha, hkI, show ((k : Int)).toNat = k by omega] at v
      exact stay (if_neg (fun z => by omega)) (F_m_areTubs_p6 rfl rfl q1 rfl e)
    rw [ha, hkI, show ((k : Int)).toNat = k by omega] at v
    have n1 : ¬ F_m_has2 o S a1 kI = (0 : Int32) := by rw [e]; decide +kernel
    by_cases q2 : S.2.1 13 ((5 : Int32) * zI S 0 13 + kI).toNatClampNeg < iI
    · have d2 := w_lt.mp q2
      rw [pl, o2, hiI] at d2
      exact stay (if_neg (fun z => by omega)) (F_m_areTubs_p7 rfl rfl q1 rfl n1 rfl rfl rfl q2)
    · have d2 : ¬ (S.2.1 13 ((5 : Int32) * zI S 0 13 + kI).toNatClampNeg).toInt < iI.toInt := fun z => q2 (w_lt.mpr z)
      rw [pl, o2, hiI] at d2
      refine ⟨u + S.2.1 14 ((5 : Int32) * zI S 0 13 + kI).toNatClampNeg, (F_m_areTubs_p8 rfl rfl q1 rfl n1 rfl rfl rfl q2 rfl rfl rfl).trans (F_m_areTubs_p4 rfl rfl), ?_⟩
      show (u + S.2.1 14 ((5 : Int32) * zI S 0 13 + kI).toNatClampNeg).toInt = s_wd G s i k + (if mx_bit s k = 1 ∧ (i : Int) ≤ G 2 k then G 3 k else 0)
      rw [if_pos ⟨v, by omega⟩, pl]
      exact dk_addT hP o3 (by omega) (by omega)) (fun kI u hkI hP => ⟨_, F_m_areTubs_p3 rfl rfl (w_le.mpr (by omega)), u, rfl, hP⟩) ((6 - ((0 : Int32)).toInt).toNat + 1) 0 0 0 (by rw [z0]; omega) (by omega) z0 z0
  obtain ⟨w, e1, e2⟩ := inn
  have et := mx_tubsFrom (o := o) (a1 := 0) (a2 := iI) (n := i) h.2.1 ok.2.2.1.1 z0 (by decide) hiI (by omega)
  have Q := (F_m_areTubs_p9 (S := S) (o := o) (a1 := a1) q0).trans e1
  by_cases q3 : w ≤ F_m_tubsFrom o S (0 : Int32) iI
  · have d3 := w_le.mp q3
    rw [e2, et] at d3
    refine Or.inl ⟨Q.trans (F_m_areTubs_p1 rfl q3 rfl), fun j hj => ?_⟩
    by_cases u : j = i
    · subst u
      exact d3
    · exact hP j (by omega)
  · have d3 : ¬ w.toInt ≤ (F_m_tubsFrom o S (0 : Int32) iI).toInt := fun z => q3 (w_le.mpr z)
    rw [e2, et] at d3
    exact Or.inr ⟨0, Q.trans (F_m_areTubs_p2 rfl q3), Or.inr ⟨rfl, fun z => d3 (z i (by omega))⟩⟩
/-- sold orders of a set -/
theorem w_and0 (ha : a.toInt = s) (hs : s < 32) (hb : 0 ≤ b.toInt ∧ b.toInt < 64) : a &&& b = (0 : Int32) ↔ ∀ k, k < 5 → ¬ (mx_bit s k = 1 ∧ mx_bit b.toInt k = 1) := by
  have key : ∀ s : Nat, s < 32 → ∀ d : Nat, d < 64 → ((Int32.ofInt (s : Int) &&& Int32.ofInt (d : Int) = 0) ↔ ∀ k, k < 5 → ¬ (mx_bit (s : Int) k = 1 ∧ mx_bit (d : Int) k = 1)) := by decide +kernel
  have e1 := key s hs b.toInt.toNat (by omega)
  rw [show ((b.toInt.toNat : Nat) : Int) = b.toInt by omega, ← ha, Int32.ofInt_toInt, Int32.ofInt_toInt, ha] at e1
  exact e1
theorem s_bit_lt : ∀ n : Nat, n < 6 → ∀ s : Nat, s < 2 ^ n → ∀ k, k < 5 → mx_bit (s : Int) k = 1 → k < n := by decide +kernel
theorem mx_sale (ok : s_ok G K A U) (h : RM G K A L U x S) : (F_m_sale o S a1).toInt = s_sV G A a1.toInt := by
  have z0 : (0 : Int32).toInt = 0 := by decide +kernel
  have z1 : (1 : Int32).toInt = 1 := by decide +kernel
  have m1 : (-1 : Int32).toInt = -1 := by decide +kernel
  have n0 : (0 : Int32).toNatClampNeg = 0 := by decide +kernel
  have e5 : (5 : Int32).toInt = ((5 : Nat) : Int) := by decide +kernel
  have h7 := ok.1.2.2.2.2.1
  obtain ⟨b, hb1, hbk, bn⟩ := mx_bank h
  have f12 : (S.2.1 12 (zI S 0 13).toNatClampNeg).toInt = G 0 7 := h.1.2.1.2.2.2
  have ho := h.1.2.2.2.2
  obtain ⟨sb1, sb2⟩ := h.2.1.2.2.2.2.2.1
  obtain ⟨w1, w2⟩ := w_shl1 (a := S.2.1 12 (zI S 0 13).toNatClampNeg) (by omega)
  rw [f12] at w1 w2
  have hpos : 1 ≤ 2 ^ (G 0 7).toNat := Nat.one_le_two_pow
  have hj := mx_is (o := o) (S := S) (a := a1) (b := 0) (c := 1)
  rw [z0, z1] at hj
  rcases hj with ⟨f, u⟩ | ⟨f, u⟩
  rotate_left
  · rw [F_m_sale_p16 rfl f, m1]
    unfold s_sV
    rw [if_neg (by omega), if_neg (by omega)]
  have nf : ¬ F_m_is o S a1 (0 : Int32) (1 : Int32) = (0 : Int32) := by rw [f]; decide +kernel
  rw [F_m_sale_p15 rfl nf]
  refine lp_cnt (f := F_m_sale_B1 S a1 o) (z := (0 : Int32)) (W := 2 ^ (G 0 7).toNat) (P := fun k u => u.1.toInt = s_pd G (s_bS G A k) (G 0 7).toNat ∧ u.2.toInt = s_bS G A k ∧ 1 ≤ k) (Q := fun q => q.toInt = s_sV G A a1.toInt) (by omega) (fun k kI u hk hkI hP => ?_) (fun kI u hkI hP => ?_) ((2147483648 - ((1 : Int32)).toInt).toNat + 1) 1 1 (0, 0) (by rw [z1]; omega) hpos z1 (by
    have e : s_bS G A 1 = 0 := by
      have := s_bS_lt (G := G) (A := A) 1
      omega
    have ez : ∀ m : Nat, s_pd G 0 m = 0 := fun m => by
      induction m with
      | zero => rfl
      | succ m ih =>
        show s_pd G 0 m + (if mx_bit ((0 : Nat) : Int) m = 1 then G 4 m else 0) = 0
        have e0 : mx_bit ((0 : Nat) : Int) m = 0 := by
          unfold mx_bit
          simp
        rw [ih, e0, if_neg (by decide)]
        rfl
    rw [e, ez]
    exact ⟨z0, z0, Nat.le_refl _⟩)
  · obtain ⟨mo, be⟩ := u
    obtain ⟨p1, p2, k1⟩ := hP
    have p1 : mo.toInt = s_pd G (s_bS G A k) (G 0 7).toNat := p1
    have p2 : be.toInt = ((s_bS G A k : Nat) : Int) := p2
    have q0 : ¬ (1 : Int32) <<< (S.2.1 12 (zI S 0 13).toNatClampNeg &&& 31) ≤ kI := fun z => by have := w_le.mp z; omega
    have bl := s_bS_lt (G := G) (A := A) k
    have stay : ¬ (s_cA G A k ∧ s_bt G k (s_bS G A k)) → F_m_sale_B1 S a1 o (kI, mo, be) = F_m_sale_J2 kI mo be → ∃ s1, F_m_sale_B1 S a1 o (kI, mo, be) = .inl (kI + 1, s1) ∧ s1.1.toInt = s_pd G (s_bS G A (k + 1)) (G 0 7).toNat ∧ s1.2.toInt = s_bS G A (k + 1) ∧ 1 ≤ k + 1 := fun hn e => by
      refine ⟨(mo, be), e.trans (F_m_sale_p2 rfl), ?_⟩
      rw [s_bS_n hn]
      exact ⟨p1, p2, by omega⟩
    have hand := w_and0 (a := kI) (b := S.2.1 34 (0 : Int32).toNatClampNeg) hkI (by omega) (by rw [n0]; exact sb1)
    have hall := s_cA_all (A := A) (s := k) ok
    by_cases q1 : kI &&& S.2.1 34 (0 : Int32).toNatClampNeg = (0 : Int32)
    rotate_left
    · refine stay (fun z => ?_) (F_m_sale_p3 rfl rfl rfl q0 rfl rfl q1)
      apply q1
      rw [hand]
      intro j hj hz
      rw [n0, ← sb2 j hj] at hz
      have hl := s_bit_lt (G 0 7).toNat (by omega) k hk j hj hz.1
      exact (hall.mp z.1).1 j (by omega) hz.1 hz.2
    have hsold : ∀ j : Nat, (j : Int) < G 0 7 → mx_bit k j = 1 → A 5 j ≠ 1 := fun j hj hz hs => by
      have := (hand.mp q1) j (by omega)
      rw [n0, ← sb2 j (by omega)] at this
      exact this ⟨hz, hs⟩
    rcases mx_areTubs (o := o) (a1 := kI) ok h hkI (by omega) with ⟨e, v⟩ | ⟨e, v⟩
    rotate_left
    · exact stay (fun z => v (hall.mp z.1).2) (F_m_sale_p14 rfl rfl rfl q0 rfl rfl q1 rfl e)
    have ne : ¬ F_m_areTubs o S kI = (0 : Int32) := by rw [e]; decide +kernel
    have hcA : s_cA G A k := hall.mpr ⟨hsold, v⟩
    have inn := lp_cnt (f := F_m_sale_B5 (S.2.1 12 (zI S 0 13).toNatClampNeg) mo kI be o S (zI S 0 13)) (z := (Sum.inr (0 : Int32) : (Int32 × Int32 × Int32) ⊕ Int32)) (W := (G 0 7).toNat) (P := fun j w => w.toInt = s_pd G k j) (Q := fun q => ∃ w : Int32, q = F_m_sale_J3 w mo kI be o S ∧ w.toInt = s_pd G k (G 0 7).toNat) (by omega) (fun j jI w hj hjI hW => by
      have hW : w.toInt = s_pd G k j := hW
      have q2 : ¬ S.2.1 12 (zI S 0 13).toNatClampNeg ≤ jI := fun z => by have := w_le.mp z; omega
      have bw := s_pd_b (s := k) ok j (by omega)
      have h3 := (ok.1.2.2.2.2.2.2.2 j (by omega)).2.2
      obtain ⟨-, -, o4⟩ := ho j (by omega)
      rw [bn] at o4
      have pl : ((5 : Int32) * zI S 0 13 + jI).toNatClampNeg = 5 * b + j := mx_pl (c := j) hbk (by omega) hjI (by omega) e5 (by omega) (by omega)
      rcases mx_has2 (o := o) (S := S) (a := kI) (b := jI) (by omega) (by omega) with ⟨e, v⟩ | ⟨e, v⟩
      · rw [hkI, hjI, show ((j : Int)).toNat = j by omega] at v
        refine ⟨w + S.2.1 15 ((5 : Int32) * zI S 0 13 + jI).toNatClampNeg, (F_m_sale_p12 q2 rfl (by rw [e]; decide +kernel) rfl rfl rfl).trans (F_m_sale_p10 rfl rfl), ?_⟩
        show (w + S.2.1 15 ((5 : Int32) * zI S 0 13 + jI).toNatClampNeg).toInt = s_pd G k j + (if mx_bit k j = 1 then G 4 j else 0)
        rw [if_pos v, pl]
        exact dk_addT hW o4 (by omega) (by omega)
      · rw [hkI, hjI, show ((j : Int)).toNat = j by omega] at v
        refine ⟨w + (0 : Int32), (F_m_sale_p11 q2 rfl e).trans (F_m_sale_p10 rfl rfl), ?_⟩
        show (w + (0 : Int32)).toInt = s_pd G k j + (if mx_bit k j = 1 then G 4 j else 0)
        rw [if_neg (by omega)]
        exact dk_addT hW z0 (by omega) (by omega)) (fun jI w hjI hW => ⟨_, F_m_sale_p9 (w_le.mpr (by omega)), w, rfl, hW⟩) ((6 - ((0 : Int32)).toInt).toNat + 1) 0 0 0 (by rw [z0]; omega) (by omega) z0 z0
    obtain ⟨w, e1, e2⟩ := inn
    have Q := (F_m_sale_p13 (a1 := a1) (x_523 := mo) (x_524 := be) rfl rfl rfl q0 rfl rfl q1 rfl ne).trans e1
    have b1 := s_pd_b (s := k) ok (G 0 7).toNat (by omega)
    have take : s_bt G k (s_bS G A k) → F_m_sale_J3 w mo kI be o S = F_m_sale_J4 kI w → ∃ s1, F_m_sale_B1 S a1 o (kI, mo, be) = .inl (kI + 1, s1) ∧ s1.1.toInt = s_pd G (s_bS G A (k + 1)) (G 0 7).toNat ∧ s1.2.toInt = s_bS G A (k + 1) ∧ 1 ≤ k + 1 := fun hb e => by
      refine ⟨(w, kI), ((Q.trans e).trans F_m_sale_p5).trans (F_m_sale_p2 rfl), ?_⟩
      rw [s_bS_y k1 hcA hb]
      exact ⟨e2, hkI, by omega⟩
    by_cases q3 : w < mo
    · have d3 := w_lt.mp q3
      rw [e2, p1] at d3
      exact stay (fun z => by
        rcases z.2 with z | z <;> omega) (Q.trans (F_m_sale_p4 q3))
    have d3 : ¬ w.toInt < mo.toInt := fun z => q3 (w_lt.mpr z)
    rw [e2, p1] at d3
    by_cases q4 : w = mo
    · have d4 := w_eq.mp q4
      rw [e2, p1] at d4
      have c1 := w_bits (o := o) (S := S) (a := kI) (by omega)
      have c2 := w_bits (o := o) (S := S) (a := be) (by omega)
      rw [hkI, show ((k : Int)).toNat = k by omega] at c1
      rw [p2, show (((s_bS G A k : Nat) : Int)).toNat = s_bS G A k by omega] at c2
      by_cases q5 : F_m_bits o S kI < F_m_bits o S be
      · have d5 := w_lt.mp q5
        rw [c1, c2] at d5
        exact take (Or.inr ⟨by omega, by omega⟩) (F_m_sale_p7 q3 q4 rfl rfl q5)
      · have d5 : ¬ (F_m_bits o S kI).toInt < (F_m_bits o S be).toInt := fun z => q5 (w_lt.mpr z)
        rw [c1, c2] at d5
        exact stay (fun z => by
          rcases z.2 with z | z <;> omega) (Q.trans (F_m_sale_p8 q3 q4 rfl rfl q5))
    · have d4 : ¬ w.toInt = mo.toInt := fun z => q4 (w_eq.mpr z)
      rw [e2, p1] at d4
      exact take (Or.inl (by omega)) (F_m_sale_p6 q3 q4)
  · obtain ⟨mo, be⟩ := u
    obtain ⟨p1, p2, -⟩ := hP
    have p1 : mo.toInt = s_pd G (s_bS G A (2 ^ (G 0 7).toNat)) (G 0 7).toNat := p1
    have p2 : be.toInt = ((s_bS G A (2 ^ (G 0 7).toNat) : Nat) : Int) := p2
    have q0 : (1 : Int32) <<< (S.2.1 12 (zI S 0 13).toNatClampNeg &&& 31) ≤ kI := w_le.mpr (by omega)
    unfold s_sV
    by_cases c0 : a1 = (0 : Int32)
    · have d0 := dk_eqc z0 c0
      refine ⟨be, F_m_sale_p1 rfl rfl rfl q0 c0, ?_⟩
      rw [if_pos d0]
      exact p2
    · have d0 := dk_neqc z0 c0
      refine ⟨mo, F_m_sale_p0 rfl rfl rfl q0 c0, ?_⟩
      rw [if_neg d0, if_pos (by omega)]
      exact p1
/-- SALE on both sides -/
theorem sim_sale (ok : s_ok G K A U) (hX : RX oX g G K A L U x SX) (hM : RM G K A L U x SM) : F_d_sale oX SX a1 = F_m_sale oM SM a1 := Int32.toInt_inj.mp ((cx_sale ok hX).trans (mx_sale ok hM).symm)
end EH
