/-! a mine begins: the reference -/
section FE
variable {o oX oM g n p k i : Nat} {G A A' : aR} {K : Nat → List Int} {L L' : s_L} {U : s_U} {S S0 S1 SX SM T : dg_S} {x x' r c v t : Int} {a a1 a2 a3 a4 y : Int32}
theorem mx_bit0 : ∀ k, k < 6 → mx_bit 0 k = 0 := by decide +kernel
/-- what begin writes -/
def k_bg (S S1 : dg_S) : Prop := kp (fun a b => a = 0 ∧ (b = 61 ∨ b = 63 ∨ b = 69)) (fun a => 29 ≤ a ∧ a ≤ 38) S S1
theorem mx_begin (h : mx_gf G K S) (hG : s_gx G) : ∃ S1, F_m_begin o S = S1 ∧ k_bg S S1 ∧ mx_gf G K S1 ∧ mx_lay G (s_bg G) [] S1 0 ∧ (zI S1 0 63).toInt = G 0 3 ∧ (zI S1 0 61).toInt = 0 ∧ (zI S1 0 69).toInt = 0 := by
  have z0 : (0 : Int32).toInt = 0 := by decide +kernel
  have z10 : (10 : Int32).toInt = 10 := by decide +kernel
  have z16 : (16 : Int32).toInt = 16 := by decide +kernel
  have z64 : (64 : Int32).toInt = 64 := by decide +kernel
  have m1 : (-1 : Int32).toInt = -1 := by decide +kernel
  have n0 : (0 : Int32).toNatClampNeg = 0 := by decide +kernel
  have h6 := hG.1.2.2
  obtain ⟨⟨g1, b, hb, hbk, -⟩, ⟨q5, -⟩, q7, q10, -⟩ := id h
  have f4 : (S.2.1 4 (zI S 0 13).toNatClampNeg).toInt = G 0 2 := g1.2.2.2.1
  have bn : (zI S 0 13).toNatClampNeg = b := by rw [dk_clN]; omega
  rw [bn] at q7 q10
  obtain ⟨S2, e2⟩ : ∃ X, X = dg_uf S 29 (upd (S.2.1 29) (0 : Int32).toNatClampNeg (0 : Int32)) := ⟨_, rfl⟩
  obtain ⟨S6, e6⟩ : ∃ X, X = dg_uf S2 30 (upd (S2.2.1 30) (0 : Int32).toNatClampNeg (0 : Int32)) := ⟨_, rfl⟩
  obtain ⟨S10, e10⟩ : ∃ X, X = dg_uf S6 33 (upd (S6.2.1 33) (0 : Int32).toNatClampNeg (0 : Int32)) := ⟨_, rfl⟩
  obtain ⟨S14, e14⟩ : ∃ X, X = dg_uf S10 34 (upd (S10.2.1 34) (0 : Int32).toNatClampNeg (0 : Int32)) := ⟨_, rfl⟩
  have t14 : kp (fun _ _ => False) (fun a => a = 29 ∨ a = 30 ∨ a = 33 ∨ a = 34) S S14 := by
    rw [e14, e10, e6, e2]
    exact kp.uf (kp.uf (kp.uf (kp.uf kp.rf (Or.inl rfl)) (Or.inr (Or.inl rfl))) (Or.inr (Or.inr (Or.inl rfl)))) (Or.inr (Or.inr (Or.inr rfl)))
  have v29 : S14.2.1 29 0 = 0 := by
    rw [e14, w_f, if_neg (show ¬ (29 : Nat) = 34 by decide), e10, w_f, if_neg (show ¬ (29 : Nat) = 33 by decide), e6, w_f, if_neg (show ¬ (29 : Nat) = 30 by decide), e2, w_f, if_pos rfl, w_u, n0, if_pos rfl]
  have v30 : S14.2.1 30 0 = 0 := by
    rw [e14, w_f, if_neg (show ¬ (30 : Nat) = 34 by decide), e10, w_f, if_neg (show ¬ (30 : Nat) = 33 by decide), e6, w_f, if_pos rfl, w_u, n0, if_pos rfl]
  have v33 : S14.2.1 33 0 = 0 := by
    rw [e14, w_f, if_neg (show ¬ (33 : Nat) = 34 by decide), e10, w_f, if_pos rfl, w_u, n0, if_pos rfl]
  have v34 : S14.2.1 34 0 = 0 := by
    rw [e14, w_f, if_pos rfl, w_u, n0, if_pos rfl]
  rw [F_m_begin_p13 e2 e6 e10 e14, F_m_begin_p12]
  -- the cells
  have cells := lp_cnt (f := F_m_begin_B8 S) (z := S) (W := 64) (P := fun c T => kp (fun _ _ => False) (fun a => a = 31 ∨ a = 32) S14 T ∧ ∀ j, j < c → (T.2.1 31 j).toInt = (if (j : Int) = G 0 2 then -1 else (S.2.1 7 (64 * b + j)).toInt) ∧ T.2.1 32 j = 0) (Q := fun q => ∃ T, q = F_m_begin_J2 S T ∧ kp (fun _ _ => False) (fun a => a = 31 ∨ a = 32) S14 T ∧ ∀ j, j < 64 → (T.2.1 31 j).toInt = (if (j : Int) = G 0 2 then -1 else (S.2.1 7 (64 * b + j)).toInt) ∧ T.2.1 32 j = 0) (by decide) (fun c cI T hc hcI hP => by
    obtain ⟨t1, t2⟩ := hP
    have q0 : ¬ (64 : Int32) ≤ cI := fun z => by have := dk_gec z64 z; omega
    have cn : cI.toNatClampNeg = c := by rw [dk_clN]; omega
    have r4 : T.2.1 4 = S.2.1 4 := ((t1.2 4 (by decide)).1).trans (t14.2 4 (by decide)).1
    have r7 : T.2.1 7 = S.2.1 7 := ((t1.2 7 (by decide)).1).trans (t14.2 7 (by decide)).1
    have fin : ∀ w : Int32, w.toInt = (if (c : Int) = G 0 2 then -1 else (S.2.1 7 (64 * b + c)).toInt) → F_m_begin_B8 S (cI, T) = F_m_begin_J9 T cI w → ∃ s1, F_m_begin_B8 S (cI, T) = .inl (cI + 1, s1) ∧ kp (fun _ _ => False) (fun a => a = 31 ∨ a = 32) S14 s1 ∧ ∀ j, j < c + 1 → (s1.2.1 31 j).toInt = (if (j : Int) = G 0 2 then -1 else (S.2.1 7 (64 * b + j)).toInt) ∧ s1.2.1 32 j = 0 := fun w hw e => by
      obtain ⟨X1, x1⟩ : ∃ X, X = dg_uf T 31 (upd (T.2.1 31) cI.toNatClampNeg w) := ⟨_, rfl⟩
      obtain ⟨X2, x2⟩ : ∃ X, X = dg_uf X1 32 (upd (X1.2.1 32) cI.toNatClampNeg (0 : Int32)) := ⟨_, rfl⟩
      refine ⟨X2, e.trans (F_m_begin_p9 x1 x2 rfl), ?_, fun j hj => ?_⟩
      · rw [x2, x1]
        exact kp.uf (kp.uf t1 (Or.inl rfl)) (Or.inr rfl)
      · have y31 : X2.2.1 31 j = if j = c then w else T.2.1 31 j := by
          rw [x2, w_f, if_neg (show ¬ (31 : Nat) = 32 by decide), x1, w_f, if_pos rfl, w_u, cn]
        have y32 : X2.2.1 32 j = if j = c then 0 else T.2.1 32 j := by
          rw [x2, w_f, if_pos rfl, w_u, cn, x1, w_f, if_neg (show ¬ (32 : Nat) = 31 by decide)]
        rw [y31, y32]
        by_cases q : j = c
        · rw [if_pos q, if_pos q, q]
          exact ⟨hw, rfl⟩
        · rw [if_neg q, if_neg q]
          exact t2 j (by omega)
    by_cases q : cI = T.2.1 4 (zI S 0 13).toNatClampNeg
    · have d := w_eq.mp q
      rw [r4, f4, hcI] at d
      exact fin (-1) (by rw [if_pos d]; exact m1) (F_m_begin_p11 q0 rfl rfl q)
    · have d : ¬ (c : Int) = G 0 2 := fun z => q (Int32.toInt_inj.mp (by rw [r4, f4, hcI]; exact z))
      have pl : ((64 : Int32) * zI S 0 13 + cI).toNatClampNeg = 64 * b + c := by
        have e1 : ((64 : Int32) * zI S 0 13).toInt = 64 * (b : Int) := dk_mulT z64 hbk (by omega) (by omega)
        rw [dk_clN, dk_addT e1 hcI (by omega) (by omega)]
        omega
      exact fin _ (by rw [if_neg d, pl, r7]) (F_m_begin_p10 q0 rfl rfl q rfl rfl rfl)) (fun cI T hcI hP => ⟨_, F_m_begin_p8 (dk_gep z64 (by omega)), T, rfl, hP⟩) ((65 - ((0 : Int32)).toInt).toNat + 1) 0 0 S14 (by rw [z0]; decide) (by decide) z0 ⟨kp.rf, fun j hj => absurd hj (Nat.not_lt_zero j)⟩
  obtain ⟨T1, eT1, k1, c1⟩ := cells
  rw [eT1, F_m_begin_p7]
  -- the plan
  have plan := lp_cnt (f := F_m_begin_B7 S) (z := S) (W := 16) (P := fun c T => kp (fun _ _ => False) (fun a => a = 35 ∨ a = 36) T1 T ∧ ∀ j, j < c → T.2.1 35 j = S.2.1 10 (16 * b + j) ∧ T.2.1 36 j = S.2.1 11 (16 * b + j)) (Q := fun q => ∃ T, q = F_m_begin_J3 S T ∧ kp (fun _ _ => False) (fun a => a = 35 ∨ a = 36) T1 T ∧ ∀ j, j < 16 → T.2.1 35 j = S.2.1 10 (16 * b + j) ∧ T.2.1 36 j = S.2.1 11 (16 * b + j)) (by decide) (fun c cI T hc hcI hP => by
    obtain ⟨t1, t2⟩ := hP
    have q0 : ¬ (16 : Int32) ≤ cI := fun z => by have := dk_gec z16 z; omega
    have cn : cI.toNatClampNeg = c := by rw [dk_clN]; omega
    have r10 : T.2.1 10 = S.2.1 10 := (((t1.2 10 (by decide)).1).trans (k1.2 10 (by decide)).1).trans (t14.2 10 (by decide)).1
    have r11 : T.2.1 11 = S.2.1 11 := (((t1.2 11 (by decide)).1).trans (k1.2 11 (by decide)).1).trans (t14.2 11 (by decide)).1
    have pl : ((16 : Int32) * zI S 0 13 + cI).toNatClampNeg = 16 * b + c := by
      have e1 : ((16 : Int32) * zI S 0 13).toInt = 16 * (b : Int) := dk_mulT z16 hbk (by omega) (by omega)
      rw [dk_clN, dk_addT e1 hcI (by omega) (by omega)]
      omega
    obtain ⟨w, hw⟩ : ∃ w : Int32, w = T.2.1 10 ((16 : Int32) * zI S 0 13 + cI).toNatClampNeg := ⟨_, rfl⟩
    obtain ⟨X1, x1⟩ : ∃ X, X = dg_uf T 35 (upd (T.2.1 35) cI.toNatClampNeg w) := ⟨_, rfl⟩
    obtain ⟨w2, hw2⟩ : ∃ w : Int32, w = X1.2.1 11 ((16 : Int32) * zI S 0 13 + cI).toNatClampNeg := ⟨_, rfl⟩
    obtain ⟨X2, x2⟩ : ∃ X, X = dg_uf X1 36 (upd (X1.2.1 36) cI.toNatClampNeg w2) := ⟨_, rfl⟩
    refine ⟨X2, F_m_begin_p6 q0 rfl rfl rfl hw x1 rfl rfl hw2 x2 rfl, ?_, fun j hj => ?_⟩
    · rw [x2, x1]
      exact kp.uf (kp.uf t1 (Or.inl rfl)) (Or.inr rfl)
    · have y35 : X2.2.1 35 j = if j = c then w else T.2.1 35 j := by
        rw [x2, w_f, if_neg (show ¬ (35 : Nat) = 36 by decide), x1, w_f, if_pos rfl, w_u, cn]
      have y36 : X2.2.1 36 j = if j = c then w2 else T.2.1 36 j := by
        rw [x2, w_f, if_pos rfl, w_u, cn, x1, w_f, if_neg (show ¬ (36 : Nat) = 35 by decide)]
      rw [y35, y36]
      by_cases q : j = c
      · rw [if_pos q, if_pos q, q]
        refine ⟨by rw [hw, pl, r10], ?_⟩
        rw [hw2, pl, x1, w_f, if_neg (show ¬ (11 : Nat) = 35 by decide), r11]
      · rw [if_neg q, if_neg q]
        exact t2 j (by omega)) (fun cI T hcI hP => ⟨_, F_m_begin_p5 (dk_gep z16 (by omega)), T, rfl, hP⟩) ((17 - ((0 : Int32)).toInt).toNat + 1) 0 0 T1 (by rw [z0]; decide) (by decide) z0 ⟨kp.rf, fun j hj => absurd hj (Nat.not_lt_zero j)⟩
  obtain ⟨T2, eT2, k2, c2⟩ := plan
  rw [eT2, F_m_begin_p4]
  -- tubs
  have tubs := lp_cnt (f := F_m_begin_B6 S) (z := S) (W := 10) (P := fun c T => kp (fun _ _ => False) (fun a => a = 37) T2 T ∧ ∀ j, j < c → T.2.1 37 j = 0) (Q := fun q => ∃ T, q = F_m_begin_J4 S T ∧ kp (fun _ _ => False) (fun a => a = 37) T2 T ∧ ∀ j, j < 10 → T.2.1 37 j = 0) (by decide) (fun c cI T hc hcI hP => by
    obtain ⟨t1, t2⟩ := hP
    have q0 : ¬ (10 : Int32) ≤ cI := fun z => by have := dk_gec z10 z; omega
    have cn : cI.toNatClampNeg = c := by rw [dk_clN]; omega
    obtain ⟨X1, x1⟩ : ∃ X, X = dg_uf T 37 (upd (T.2.1 37) cI.toNatClampNeg (0 : Int32)) := ⟨_, rfl⟩
    refine ⟨X1, F_m_begin_p3 q0 x1 rfl, by rw [x1]; exact kp.uf t1 rfl, fun j hj => ?_⟩
    rw [x1, w_f, if_pos rfl, w_u, cn]
    by_cases q : j = c
    · rw [if_pos q]
    · rw [if_neg q]
      exact t2 j (by omega)) (fun cI T hcI hP => ⟨_, F_m_begin_p2 (dk_gep z10 (by omega)), T, rfl, hP⟩) ((11 - ((0 : Int32)).toInt).toNat + 1) 0 0 T2 (by rw [z0]; decide) (by decide) z0 ⟨kp.rf, fun j hj => absurd hj (Nat.not_lt_zero j)⟩
  obtain ⟨T3, eT3, k3, c3⟩ := tubs
  have k03 : kp (fun _ _ => False) (fun a => 29 ≤ a ∧ a ≤ 37) S T3 := (((t14.w (fun a b z => z) (fun a z => by omega)).tr (k1.w (fun a b z => z) (fun a z => by omega))).tr (k2.w (fun a b z => z) (fun a z => by omega))).tr (k3.w (fun a b z => z) (fun a z => by omega))
  obtain ⟨Y1, y1⟩ : ∃ X, X = dg_uF T3 0 63 (.int (T3.2.1 5 (zI S 0 13).toNatClampNeg)) := ⟨_, rfl⟩
  obtain ⟨Y2, y2⟩ : ∃ X, X = dg_uf Y1 38 (upd (Y1.2.1 38) (0 : Int32).toNatClampNeg (0 : Int32)) := ⟨_, rfl⟩
  obtain ⟨Y3, y3⟩ : ∃ X, X = dg_uF Y2 0 61 (.int (0 : Int32)) := ⟨_, rfl⟩
  obtain ⟨Y4, y4⟩ : ∃ X, X = dg_uF Y3 0 69 (.int (0 : Int32)) := ⟨_, rfl⟩
  rw [eT3, F_m_begin_p1 rfl rfl y1 y2 y3 y4, F_m_begin_p0]
  have kf : k_bg S Y4 := by
    rw [y4, y3, y2, y1]
    have k0 : k_bg S T3 := k03.w (fun a b z => z.elim) (fun a z => by omega)
    exact kp.uF (kp.uF (kp.uf (kp.uF k0 ⟨rfl, Or.inr (Or.inl rfl)⟩) ⟨by decide, by decide⟩) ⟨rfl, Or.inl rfl⟩) ⟨rfl, Or.inr (Or.inr rfl)⟩
  have row : ∀ q, q ≠ 38 → Y4.2.1 q = T3.2.1 q := fun q hq => by
    rw [y4, y3]
    show Y2.2.1 q = T3.2.1 q
    rw [y2, w_f, if_neg hq, y1]
    rfl
  have r38 : Y4.2.1 38 0 = 0 := by
    rw [y4, y3]
    show Y2.2.1 38 0 = 0
    rw [y2, w_f, if_pos rfl, w_u, n0, if_pos rfl]
  refine ⟨Y4, rfl, kf, h.keep (kf.I (by decide)) (kf.I (by decide)) (fun i hi => (kf.2 i (by omega)).1), ⟨fun c hc => ?_, ?_, ?_, ⟨?_, fun k hk => ?_⟩, fun k hk => ?_, ⟨?_, fun k hk => ?_⟩, fun k hk => ?_, ?_⟩, ?_, ?_, ?_⟩
  · have hc0 := hc.1
    have ad : mx_ad 0 c = c.toNat := by unfold mx_ad; omega
    obtain ⟨d1, d2⟩ := c1 c.toNat (by omega)
    have gv := q7 c hc
    have gb := hG.2.2.2.2.2.1 c hc
    rw [show ((c.toNat : Nat) : Int) = c by omega, gv] at d1
    rw [ad, row 31 (by decide), row 32 (by decide), (k3.2 31 (by decide)).1, (k3.2 32 (by decide)).1, (k2.2 31 (by decide)).1, (k2.2 32 (by decide)).1, d1, d2, s_bg_c hc, z0]
    unfold mx_en mx_cu
    by_cases q : c = G 0 2
    · rw [if_pos q]
      exact ⟨rfl, rfl, by decide, by decide⟩
    · rw [if_neg q, if_neg (by omega), if_neg (by omega)]
      exact ⟨rfl, rfl, by omega, by omega⟩
  · rw [row 29 (by decide), (k3.2 29 (by decide)).1, (k2.2 29 (by decide)).1, (k1.2 29 (by decide)).1, v29]
    exact z0
  · rw [row 30 (by decide), (k3.2 30 (by decide)).1, (k2.2 30 (by decide)).1, (k1.2 30 (by decide)).1, v30]
    exact z0
  · rw [row 33 (by decide), (k3.2 33 (by decide)).1, (k2.2 33 (by decide)).1, (k1.2 33 (by decide)).1, v33, z0]
    decide
  · rw [row 33 (by decide), (k3.2 33 (by decide)).1, (k2.2 33 (by decide)).1, (k1.2 33 (by decide)).1, v33, z0, mx_bit0 k hk]
    rfl
  · obtain ⟨d1, d2⟩ := c2 k (by omega)
    obtain ⟨p1, p2⟩ := q10 k hk
    rw [show 16 * 0 + k = k by omega, row 35 (by decide), row 36 (by decide), (k3.2 35 (by decide)).1, (k3.2 36 (by decide)).1, d1, d2, s_bg_3, s_bg_4]
    exact ⟨p1, p2⟩
  · rw [row 34 (by decide), (k3.2 34 (by decide)).1, (k2.2 34 (by decide)).1, (k1.2 34 (by decide)).1, v34, z0]
    decide
  · rw [row 34 (by decide), (k3.2 34 (by decide)).1, (k2.2 34 (by decide)).1, (k1.2 34 (by decide)).1, v34, z0, mx_bit0 k (by omega)]
    rfl
  · rw [show 10 * 0 + k = k by omega, row 37 (by decide), c3 k hk]
    exact z0
  · exact ⟨by rw [r38]; exact z0, by decide, fun i hi => absurd hi (Nat.not_lt_zero i)⟩
  · rw [y4, w_I0 (by decide), y3, w_I0 (by decide), y2]
    show (zI Y1 0 63).toInt = G 0 3
    rw [y1, w_I, if_pos ⟨rfl, rfl⟩, (k03.2 5 (by decide)).1]
    exact q5
  · rw [y4, w_I0 (by decide), y3, w_I, if_pos ⟨rfl, rfl⟩]
    exact z0
  · rw [y4, w_I, if_pos ⟨rfl, rfl⟩]
    exact z0
end FE
