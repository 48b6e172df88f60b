/-! ON: the reference reads plan, tubs, all -/
section FK
variable {o oX oM g n p q k i N : Nat} {G A A' : aR} {K : Nat → List Int} {B : Nat → Int} {L : s_L} {U : s_U} {S S0 S1 SX SM T T1 : dg_S} {x x' r c v t m : Int} {a a1 a2 a3 a4 y : Int32}
theorem mx_plansOn (hg : mx_gf G K S) (hG : s_gx G) (tb : mx_by n B S) (hn : p + 3 * (G 0 6).toNat ≤ n) (ha : a1.toInt = p) : ∃ (T : dg_S) (y : Int32), F_m_plansOn o S a1 = (T, y) ∧ (k_v 1 S T ∧ kp (fun _ _ => False) (fun a => a = 35 ∨ a = 36) S T) ∧ ((y = 1 ∧ (∀ k : Nat, (k : Int) < G 0 6 → B (p + 3 * k) < G 0 5 ∧ B (p + 3 * k + 1) < G 0 0 ∧ B (p + 3 * k + 2) < G 0 1) ∧ ∀ k : Nat, (k : Int) < G 0 6 → (T.2.1 35 (16 + k)).toInt = B (p + 3 * k) ∧ (T.2.1 36 (16 + k)).toInt = 8 * B (p + 3 * k + 2) + B (p + 3 * k + 1)) ∨ (y = 0 ∧ ¬ (∀ k : Nat, (k : Int) < G 0 6 → B (p + 3 * k) < G 0 5 ∧ B (p + 3 * k + 1) < G 0 0 ∧ B (p + 3 * k + 2) < G 0 1))) := by
  have z0 : (0 : Int32).toInt = 0 := by decide +kernel
  have z1 : (1 : Int32).toInt = 1 := by decide +kernel
  have z2 : (2 : Int32).toInt = 2 := by decide +kernel
  have z3 : (3 : Int32).toInt = 3 := by decide +kernel
  have z8 : (8 : Int32).toInt = 8 := by decide +kernel
  have z16 : (16 : Int32).toInt = 16 := by decide +kernel
  have hgb := hG.1
  have hb0 := hgb.2.2
  have hw := hgb.1
  obtain ⟨t1, t2⟩ := id tb
  rw [F_m_plansOn_p4]
  have Q := lp_cnt2 (f := F_m_plansOn_B1 S a1 o) (z := (S, (0 : Int32))) (W := (G 0 6).toNat) (P := fun c T => (k_v 1 S T ∧ kp (fun _ _ => False) (fun a => a = 35 ∨ a = 36) S T) ∧ (∀ k : Nat, k < c → B (p + 3 * k) < G 0 5 ∧ B (p + 3 * k + 1) < G 0 0 ∧ B (p + 3 * k + 2) < G 0 1) ∧ ∀ k : Nat, k < c → (T.2.1 35 (16 + k)).toInt = B (p + 3 * k) ∧ (T.2.1 36 (16 + k)).toInt = 8 * B (p + 3 * k + 2) + B (p + 3 * k + 1)) (Q := fun r => (k_v 1 S r.1 ∧ kp (fun _ _ => False) (fun a => a = 35 ∨ a = 36) S r.1) ∧ ((r.2 = 1 ∧ (∀ k : Nat, (k : Int) < G 0 6 → B (p + 3 * k) < G 0 5 ∧ B (p + 3 * k + 1) < G 0 0 ∧ B (p + 3 * k + 2) < G 0 1) ∧ ∀ k : Nat, (k : Int) < G 0 6 → (r.1.2.1 35 (16 + k)).toInt = B (p + 3 * k) ∧ (r.1.2.1 36 (16 + k)).toInt = 8 * B (p + 3 * k + 2) + B (p + 3 * k + 1)) ∨ (r.2 = 0 ∧ ¬ (∀ k : Nat, (k : Int) < G 0 6 → B (p + 3 * k) < G 0 5 ∧ B (p + 3 * k + 1) < G 0 0 ∧ B (p + 3 * k + 2) < G 0 1)))) (by omega) (fun c cI T hc hcI hP => by
    obtain ⟨⟨p2, p5⟩, p3, p4⟩ := hP
    have gf : mx_gf G K T := hg.keep p2.I p2.I (fun i hi => p2.row (by omega))
    have gd : mx_gd G T := gf.1.1
    have e13 : zI T 0 13 = zI S 0 13 := p2.I
    have e9 : (T.2.1 9 (zI S 0 13).toNatClampNeg).toInt = G 0 6 := by
      have := gd.2.2.2.2
      rw [e13] at this
      exact this
    have q0 : ¬ T.2.1 9 (zI S 0 13).toNatClampNeg ≤ cI := fun z => by have := w_le.mp z; omega
    have rt : T.2.1 1 = S.2.1 1 := p2.row (by decide)
    have i3 : ((3 : Int32) * cI).toInt = 3 * (c : Int) := dk_mulT z3 hcI (by omega) (by omega)
    have ia : (a1 + (3 : Int32) * cI).toInt = ((p + 3 * c : Nat) : Int) := by rw [dk_addT ha i3 (by omega) (by omega)]; omega
    have na : (a1 + (3 : Int32) * cI).toNatClampNeg = p + 3 * c := by rw [dk_clN, ia]; omega
    have ib : (a1 + (3 : Int32) * cI + (1 : Int32)).toInt = ((p + 3 * c + 1 : Nat) : Int) := by rw [dk_addT ia z1 (by omega) (by omega)]; omega
    have nb : (a1 + (3 : Int32) * cI + (1 : Int32)).toNatClampNeg = p + 3 * c + 1 := by rw [dk_clN, ib]; omega
    have ic : (a1 + (3 : Int32) * cI + (2 : Int32)).toInt = ((p + 3 * c + 2 : Nat) : Int) := by rw [dk_addT ia z2 (by omega) (by omega)]; omega
    have nc : (a1 + (3 : Int32) * cI + (2 : Int32)).toNatClampNeg = p + 3 * c + 2 := by rw [dk_clN, ic]; omega
    obtain ⟨ba, b0, b9⟩ := t2 (p + 3 * c) (by omega)
    obtain ⟨bb, c0, c9⟩ := t2 (p + 3 * c + 1) (by omega)
    obtain ⟨bc, d0, d9⟩ := t2 (p + 3 * c + 2) (by omega)
    have bad : ¬ (B (p + 3 * c) < G 0 5 ∧ B (p + 3 * c + 1) < G 0 0 ∧ B (p + 3 * c + 2) < G 0 1) → (k_v 1 S T ∧ kp (fun _ _ => False) (fun a => a = 35 ∨ a = 36) S T) ∧ (((0 : Int32) = 1 ∧ (∀ k : Nat, (k : Int) < G 0 6 → B (p + 3 * k) < G 0 5 ∧ B (p + 3 * k + 1) < G 0 0 ∧ B (p + 3 * k + 2) < G 0 1) ∧ ∀ k : Nat, (k : Int) < G 0 6 → (T.2.1 35 (16 + k)).toInt = B (p + 3 * k) ∧ (T.2.1 36 (16 + k)).toInt = 8 * B (p + 3 * k + 2) + B (p + 3 * k + 1)) ∨ ((0 : Int32) = 0 ∧ ¬ (∀ k : Nat, (k : Int) < G 0 6 → B (p + 3 * k) < G 0 5 ∧ B (p + 3 * k + 1) < G 0 0 ∧ B (p + 3 * k + 2) < G 0 1))) := fun z => ⟨⟨p2, p5⟩, Or.inr ⟨rfl, fun w => z (w c (by omega))⟩⟩
    rcases mx_miner (o := o) (a1 := T.2.1 1 (a1 + (3 : Int32) * cI).toNatClampNeg) gf with ⟨im, hm⟩ | ⟨im, hm⟩
    rotate_left
    · right
      rw [na, rt, ba] at hm
      exact ⟨_, F_m_plansOn_p1 rfl rfl q0 rfl rfl rfl rfl im, bad (fun w => hm ⟨b0, w.1⟩)⟩
    have nm : ¬ F_m_isMiner o T (T.2.1 1 (a1 + (3 : Int32) * cI).toNatClampNeg) = (0 : Int32) := by rw [im]; decide
    rw [na, rt, ba] at hm
    rcases mx_isCell (o := o) (a := T.2.1 1 (a1 + (3 : Int32) * cI + (1 : Int32)).toNatClampNeg) (b := T.2.1 1 (a1 + (3 : Int32) * cI + (2 : Int32)).toNatClampNeg) gd hgb.1 with ⟨is, hs⟩ | ⟨is, hs⟩
    rotate_left
    · right
      rw [nb, nc, rt, bb, bc] at hs
      exact ⟨_, F_m_plansOn_p3 rfl rfl q0 rfl rfl rfl rfl nm rfl rfl rfl rfl rfl is, bad (fun w => hs ⟨⟨c0, w.2.1⟩, d0, w.2.2⟩)⟩
    have ns : ¬ F_m_isCell o T (T.2.1 1 (a1 + (3 : Int32) * cI + (1 : Int32)).toNatClampNeg) (T.2.1 1 (a1 + (3 : Int32) * cI + (2 : Int32)).toNatClampNeg) = (0 : Int32) := by rw [is]; decide
    rw [nb, nc, rt, bb, bc] at hs
    left
    have i16 : ((16 : Int32) + cI).toInt = ((16 + c : Nat) : Int) := by rw [dk_addT z16 hcI (by omega) (by omega)]; omega
    have n16 : ((16 : Int32) + cI).toNatClampNeg = 16 + c := by rw [dk_clN, i16]; omega
    obtain ⟨T1, e1⟩ : ∃ X, X = dg_uf T 35 (upd (T.2.1 35) ((16 : Int32) + cI).toNatClampNeg (T.2.1 1 (a1 + (3 : Int32) * cI).toNatClampNeg)) := ⟨_, rfl⟩
    have r1 : T1.2.1 1 = S.2.1 1 := by rw [e1, w_f, if_neg (by decide)]; exact rt
    obtain ⟨w, hw2⟩ : ∃ w : Int32, w = (8 : Int32) * T1.2.1 1 (a1 + (3 : Int32) * cI + (2 : Int32)).toNatClampNeg + T1.2.1 1 (a1 + (3 : Int32) * cI + (1 : Int32)).toNatClampNeg := ⟨_, rfl⟩
    have wv : w.toInt = 8 * B (p + 3 * c + 2) + B (p + 3 * c + 1) := by
      have e8 : ((8 : Int32) * T1.2.1 1 (a1 + (3 : Int32) * cI + (2 : Int32)).toNatClampNeg).toInt = 8 * B (p + 3 * c + 2) := by
        rw [nc, r1]
        exact dk_mulT z8 bc (by omega) (by omega)
      rw [hw2]
      refine dk_addT e8 ?_ (by omega) (by omega)
      rw [nb, r1]
      exact bb
    obtain ⟨T2, e2⟩ : ∃ X, X = dg_uf T1 36 (upd (T1.2.1 36) ((16 : Int32) + cI).toNatClampNeg w) := ⟨_, rfl⟩
    refine ⟨T2, F_m_plansOn_p2 rfl rfl q0 rfl rfl rfl rfl nm rfl rfl rfl rfl rfl ns rfl e1 rfl rfl rfl rfl rfl rfl hw2 e2 rfl, ⟨?_, ?_⟩, fun k hk => ?_, fun k hk => ?_⟩
    · rw [e2, e1, n16]
      exact (p2.uf (by decide) (by decide) (by show 16 * 1 ≤ _ ∧ _ < 16 * 1 + 16; omega)).uf (by decide) (by decide) (by show 16 * 1 ≤ _ ∧ _ < 16 * 1 + 16; omega)
    · rw [e2, e1]
      exact kp.uf (kp.uf p5 (Or.inl rfl)) (Or.inr rfl)
    · by_cases z : k = c
      · subst z
        exact ⟨hm.2, hs.1.2, hs.2.2⟩
      · exact p3 k (by omega)
    · have r35 : T2.2.1 35 = upd (T.2.1 35) (16 + c) (S.2.1 1 (p + 3 * c)) := by rw [e2, w_f, if_neg (by decide), e1, w_f, if_pos rfl, n16, na, rt]
      have r36 : T2.2.1 36 = upd (T.2.1 36) (16 + c) w := by rw [e2, w_f, if_pos rfl, n16, e1, w_f, if_neg (by decide)]
      rw [r35, r36, w_u, w_u]
      by_cases z : k = c
      · subst z
        rw [if_pos rfl, if_pos rfl]
        exact ⟨ba, wv⟩
      · rw [if_neg (by omega), if_neg (by omega)]
        exact p4 k (by omega)) (fun cI T hcI hP => by
    obtain ⟨⟨p2, p5⟩, p3, p4⟩ := hP
    have gd : mx_gd G T := p2.gd hg.1.1
    have e13 : zI T 0 13 = zI S 0 13 := p2.I
    have e9 : (T.2.1 9 (zI S 0 13).toNatClampNeg).toInt = G 0 6 := by
      have := gd.2.2.2.2
      rw [e13] at this
      exact this
    exact ⟨(T, 1), F_m_plansOn_p0 rfl rfl (w_le.mpr (by omega)), ⟨p2, p5⟩, Or.inl ⟨rfl, fun k hk => p3 k (by omega), fun k hk => p4 k (by omega)⟩⟩) ((17 - ((0 : Int32)).toInt).toNat + 1) 0 0 S (by rw [z0]; omega) (by omega) z0 ⟨⟨k_v.rf, kp.rf⟩, fun d hd => absurd hd (Nat.not_lt_zero _), fun d hd => absurd hd (Nat.not_lt_zero _)⟩
  exact ⟨_, _, rfl, Q⟩
theorem mx_tubsOn {z : dg_S × Int32} (hp : a3.toInt = p) (tb : mx_by n B S) (hn : p + 10 ≤ n) : ∃ T, (k_v 1 S T ∧ kp (fun _ _ => False) (fun a => a = 37) S T) ∧ (((∀ k, k < 10 → B (p + k) ≤ 99) ∧ (∀ k, k < 10 → (T.2.1 37 (10 + k)).toInt = B (p + k)) ∧ lp (F_m_comesOn_B4 a1 a2 o a4 a3) z ((11 - ((0 : Int32)).toInt).toNat + 1) ((0 : Int32), S) = F_m_comesOn_J3 a1 T a2 o a4) ∨ (¬ (∀ k, k < 10 → B (p + k) ≤ 99) ∧ lp (F_m_comesOn_B4 a1 a2 o a4 a3) z ((11 - ((0 : Int32)).toInt).toNat + 1) ((0 : Int32), S) = (T, 0))) := by
  have z0 : (0 : Int32).toInt = 0 := by decide +kernel
  have z10 : (10 : Int32).toInt = 10 := by decide +kernel
  have z99 : (99 : Int32).toInt = 99 := by decide +kernel
  obtain ⟨t1, t2⟩ := id tb
  exact lp_cnt2 (f := F_m_comesOn_B4 a1 a2 o a4 a3) (z := z) (W := 10) (P := fun c T => (k_v 1 S T ∧ kp (fun _ _ => False) (fun a => a = 37) S T) ∧ ∀ k, k < c → B (p + k) ≤ 99 ∧ (T.2.1 37 (10 + k)).toInt = B (p + k)) (Q := fun r => ∃ T, (k_v 1 S T ∧ kp (fun _ _ => False) (fun a => a = 37) S T) ∧ (((∀ k, k < 10 → B (p + k) ≤ 99) ∧ (∀ k, k < 10 → (T.2.1 37 (10 + k)).toInt = B (p + k)) ∧ r = F_m_comesOn_J3 a1 T a2 o a4) ∨ (¬ (∀ k, k < 10 → B (p + k) ≤ 99) ∧ r = (T, 0)))) (by decide) (fun c cI T hc hcI hP => by
    obtain ⟨⟨p2, p5⟩, p4⟩ := hP
    have q0 : ¬ (10 : Int32) ≤ cI := fun z => by have := w_le.mp z; omega
    have rt : T.2.1 1 = S.2.1 1 := p2.row (by decide)
    have i10 : ((10 : Int32) + cI).toInt = ((10 + c : Nat) : Int) := by rw [dk_addT z10 hcI (by omega) (by omega)]; omega
    have n10 : ((10 : Int32) + cI).toNatClampNeg = 10 + c := by rw [dk_clN, i10]; omega
    have ia : (a3 + cI).toInt = ((p + c : Nat) : Int) := by rw [dk_addT hp hcI (by omega) (by omega)]; omega
    have na : (a3 + cI).toNatClampNeg = p + c := by rw [dk_clN, ia]; omega
    obtain ⟨b1, b2, b3⟩ := t2 (p + c) (by omega)
    obtain ⟨T1, e1⟩ : ∃ X, X = dg_uf T 37 (upd (T.2.1 37) ((10 : Int32) + cI).toNatClampNeg (T.2.1 1 (a3 + cI).toNatClampNeg)) := ⟨_, rfl⟩
    have r1 : T1.2.1 1 = S.2.1 1 := by rw [e1, w_f, if_neg (by decide)]; exact rt
    have k1 : k_v 1 S T1 := by
      rw [e1, n10]
      exact p2.uf (by decide) (by decide) (by show 10 * 1 ≤ _ ∧ _ < 10 * 1 + 10; omega)
    have k5 : kp (fun _ _ => False) (fun a => a = 37) S T1 := by
      rw [e1]
      exact kp.uf p5 rfl
    by_cases q : T1.2.1 1 (a3 + cI).toNatClampNeg ≤ (99 : Int32)
    · left
      have d := w_le.mp q
      rw [na, r1, b1, z99] at d
      refine ⟨T1, F_m_comesOn_p9 q0 rfl rfl rfl e1 rfl rfl q rfl, ⟨k1, k5⟩, fun k hk => ?_⟩
      have r37 : T1.2.1 37 = upd (T.2.1 37) (10 + c) (S.2.1 1 (p + c)) := by rw [e1, w_f, if_pos rfl, n10, na, rt]
      rw [r37, w_u]
      by_cases z : k = c
      · subst z
        rw [if_pos rfl]
        exact ⟨d, b1⟩
      · rw [if_neg (by omega)]
        exact p4 k (by omega)
    · right
      refine ⟨_, F_m_comesOn_p10 q0 rfl rfl rfl e1 rfl rfl q, T1, ⟨k1, k5⟩, Or.inr ⟨fun w => q (w_le.mpr ?_), rfl⟩⟩
      rw [na, r1, b1, z99]
      exact w c hc) (fun cI T hcI hP => ⟨_, F_m_comesOn_p8 (w_le.mpr (by omega)), T, hP.1, Or.inl ⟨fun k hk => (hP.2 k hk).1, fun k hk => (hP.2 k hk).2, rfl⟩⟩) ((11 - ((0 : Int32)).toInt).toNat + 1) 0 0 S (by rw [z0]; decide) (by decide) z0 ⟨⟨k_v.rf, kp.rf⟩, fun d hd => absurd hd (Nat.not_lt_zero _)⟩
end FK
