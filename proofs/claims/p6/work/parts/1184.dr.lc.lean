/-! the law: acts -/
section LC
variable {o oX oM g gD gE n k i : Nat} {WF WF' : List (Nat × Nat)} {WA WA' : List Nat} {S S0 S1 S2 SX SM : dg_S} {G A : aR} {K : Nat → List Int} {L : s_L} {U : s_U} {F : s_F} {x : Int} {a a1 a2 a3 a4 rX' rM' : Int32} {B : Nat → Int}
theorem LW.act (w : LW oX gD gE SX SM) (mX : dg_sm shX WF WA SX S1) (mM : dg_sm shM WF' WA' SM S2) (cB : ckB WF WA WF' WA') (cF : ckF WF WA WF' WA') (hk : k < 6) (p : (S1 = r_X k SX ∧ S2 = r_M k SM) ∨ ((zI S1 221 2).toInt = 0 ∧ (zI S1 221 3).toInt = 0 ∧ (zI S1 229 4).toInt = 0 ∧ S1.2.1 184 = SX.2.1 184 ∧ S2.2.1 28 = SM.2.1 28)) (hy : ∀ g G K A L U x F, LSy oX g G K A L U x F SX SM → ∃ (A' : aR) (L' : s_L) (U' : s_U) (x' : Int), s_ok G K A' U' ∧ (0 ≤ x' ∧ x' < 2147483648) ∧ RX oX g G K A' L' U' x' S1 ∧ RM G K A' L' U' x' S2) (hn : ∀ g x, LSn oX g x SX SM → S1 = r_X k SX ∧ S2 = r_M k SM) : LW oX gD gE S1 S2 := by
  rcases p with ⟨p1, p2⟩ | ⟨p1, p2, p3, p4, p5⟩
  · subst p1 p2
    exact w.mk mX mM cB (w.2.1.no hk) w.2.2.2.2.no
  · refine w.mk mX mM cB (w.2.1.eq p4 p5) ?_
    rcases w.2.2.2.2 with ⟨g, G, K, A, L, U, x, F, h⟩ | ⟨g, x, h⟩
    · obtain ⟨A', L', U', x', ok, hx, r1, r2⟩ := hy g G K A L U x F h
      exact Or.inl ⟨g, G, K, A', L', U', x', F, ⟨ok, hx, h.1.2.2⟩, ⟨r1, r2⟩, fe_sm mX mM cF h.2.2.1, Or.inl p1, Or.inl p2, Or.inl p3⟩
    · obtain ⟨e1, e2⟩ := hn g x h
      rw [e1, e2]
      exact Or.inr ⟨g, x, h.no⟩
theorem W_shifts (w : LW oX gD gE SX SM) (mX : dg_sm shX WF WA SX S1) (mM : dg_sm shM WF' WA' SM S2) (cB : ckB WF WA WF' WA') (cF : ckF WF WA WF' WA') (pX : m_hid ((S1 = (F_d_none oX SX (2 : Int32)).1 ∧ rX'.toInt = -1) ∨ ((zI S1 221 2).toInt = 0 ∧ (zI S1 221 3).toInt = 0 ∧ (zI S1 229 4).toInt = 0 ∧ S1.2.1 184 = SX.2.1 184))) (pM : m_hid ((S2 = (F_m_refuses oM SM (2 : Int32)).1 ∧ rM'.toInt = -1) ∨ S2.2.1 28 = SM.2.1 28)) (eX : S1 = (F_d_shifts oX SX a1).1 ∧ rX' = (F_d_shifts oX SX a1).2) (eM : S2 = (F_m_shifts oM SM a1).1 ∧ rM' = (F_m_shifts oM SM a1).2) : rX' = rM' ∧ LW oX gD gE S1 S2 := by
  obtain ⟨e1, e2⟩ := eX
  obtain ⟨e3, e4⟩ := eM
  have zk : (2 : Int32).toInt = ((2 : Nat) : Int) := by decide +kernel
  have eq : rX' = rM' := by
    rw [e2, e4]
    rcases w.2.2.2.2 with ⟨g, G, K, A, L, U, x, F, h⟩ | ⟨g, x, h⟩
    · obtain ⟨A', L', U', e, ok, r1, r2⟩ := sim_shifts (oM := oM) (a1 := a1) h.1.1 h.2.1.1 h.2.1.2
      exact e
    · rw [(sim0_shifts (oM := oM) h.2.1.1 h.2.1.2).1, (sim0_shifts (oM := oM) h.2.1.1 h.2.1.2).2, none_r zk, ref_r zk]
  refine ⟨eq, w.act (k := 2) mX mM cB cF (by decide) ?_ (fun g G K A L U x F h => ?_) (fun g x h => ?_)⟩
  · rcases w.2.2.2.2 with ⟨g, G, K, A, L, U, x, F, h⟩ | ⟨g, x, h⟩
    · rcases acc_shifts (oM := oM) (a1 := a1) h.1.1 h.2.1.1 h.2.1.2 with ⟨y1, y2⟩ | ⟨y1, y2⟩
      · exact Or.inl ⟨by rw [e1, y1], by rw [e3, y2]⟩
      · rw [← e2] at y1
        rw [← e4] at y2
        rcases pX.out with ⟨-, z1⟩ | ⟨z5, z6, z7, z8⟩
        · omega
        rcases pM.out with ⟨-, z1⟩ | z2
        · omega
        exact Or.inr ⟨z5, z6, z7, z8, z2⟩
    · rw [e1, e3, (sim0_shifts (oM := oM) h.2.1.1 h.2.1.2).1, (sim0_shifts (oM := oM) h.2.1.1 h.2.1.2).2, none_r zk, ref_r zk]
      exact Or.inl ⟨rfl, rfl⟩
  · rw [e1, e3]
    obtain ⟨A', L', U', e, ok, r1, r2⟩ := sim_shifts (oM := oM) (a1 := a1) h.1.1 h.2.1.1 h.2.1.2
    exact ⟨A', L', U', x, ok, h.1.2.1, r1, r2⟩
  · rw [e1, e3, (sim0_shifts (oM := oM) h.2.1.1 h.2.1.2).1, (sim0_shifts (oM := oM) h.2.1.1 h.2.1.2).2, none_r zk, ref_r zk]
    exact ⟨rfl, rfl⟩
theorem W_chance (w : LW oX gD gE SX SM) (mX : dg_sm shX WF WA SX S1) (mM : dg_sm shM WF' WA' SM S2) (cB : ckB WF WA WF' WA') (cF : ckF WF WA WF' WA') (pX : m_hid ((S1 = (F_d_none oX SX (2 : Int32)).1 ∧ rX'.toInt = -1) ∨ ((zI S1 221 2).toInt = 0 ∧ (zI S1 221 3).toInt = 0 ∧ (zI S1 229 4).toInt = 0 ∧ S1.2.1 184 = SX.2.1 184))) (pM : m_hid ((S2 = (F_m_refuses oM SM (2 : Int32)).1 ∧ rM'.toInt = -1) ∨ S2.2.1 28 = SM.2.1 28)) (eX : S1 = (F_d_chance oX SX a1).1 ∧ rX' = (F_d_chance oX SX a1).2) (eM : S2 = (F_m_chance oM SM a1).1 ∧ rM' = (F_m_chance oM SM a1).2) : rX' = rM' ∧ LW oX gD gE S1 S2 := by
  obtain ⟨e1, e2⟩ := eX
  obtain ⟨e3, e4⟩ := eM
  have zk : (2 : Int32).toInt = ((2 : Nat) : Int) := by decide +kernel
  have eq : rX' = rM' := by
    rw [e2, e4]
    rcases w.2.2.2.2 with ⟨g, G, K, A, L, U, x, F, h⟩ | ⟨g, x, h⟩
    · obtain ⟨A', L', U', x', e, ok, hx, r1, r2⟩ := sim_chance (oM := oM) (a1 := a1) h.1.1 h.1.2.1 h.2.1.1 h.2.1.2
      exact e
    · rw [(sim0_chance (oM := oM) h.2.1.1 h.2.1.2).1, (sim0_chance (oM := oM) h.2.1.1 h.2.1.2).2, none_r zk, ref_r zk]
  refine ⟨eq, w.act (k := 2) mX mM cB cF (by decide) ?_ (fun g G K A L U x F h => ?_) (fun g x h => ?_)⟩
  · rcases w.2.2.2.2 with ⟨g, G, K, A, L, U, x, F, h⟩ | ⟨g, x, h⟩
    · rcases acc_chance (oM := oM) (a1 := a1) h.1.1 h.1.2.1 h.2.1.1 h.2.1.2 with ⟨y1, y2⟩ | ⟨y1, y2⟩
      · exact Or.inl ⟨by rw [e1, y1], by rw [e3, y2]⟩
      · rw [← e2] at y1
        rw [← e4] at y2
        rcases pX.out with ⟨-, z1⟩ | ⟨z5, z6, z7, z8⟩
        · omega
        rcases pM.out with ⟨-, z1⟩ | z2
        · omega
        exact Or.inr ⟨z5, z6, z7, z8, z2⟩
    · rw [e1, e3, (sim0_chance (oM := oM) h.2.1.1 h.2.1.2).1, (sim0_chance (oM := oM) h.2.1.1 h.2.1.2).2, none_r zk, ref_r zk]
      exact Or.inl ⟨rfl, rfl⟩
  · rw [e1, e3]
    obtain ⟨A', L', U', x', e, ok, hx, r1, r2⟩ := sim_chance (oM := oM) (a1 := a1) h.1.1 h.1.2.1 h.2.1.1 h.2.1.2
    exact ⟨A', L', U', x', ok, hx, r1, r2⟩
  · rw [e1, e3, (sim0_chance (oM := oM) h.2.1.1 h.2.1.2).1, (sim0_chance (oM := oM) h.2.1.1 h.2.1.2).2, none_r zk, ref_r zk]
    exact ⟨rfl, rfl⟩
theorem W_hang (w : LW oX gD gE SX SM) (mX : dg_sm shX WF WA SX S1) (mM : dg_sm shM WF' WA' SM S2) (cB : ckB WF WA WF' WA') (cF : ckF WF WA WF' WA') (pX : m_hid ((S1 = (F_d_no oX SX (3 : Int32)).1 ∧ rX'.toInt = 0) ∨ ((zI S1 221 2).toInt = 0 ∧ (zI S1 221 3).toInt = 0 ∧ (zI S1 229 4).toInt = 0 ∧ S1.2.1 184 = SX.2.1 184 ∧ rX'.toInt ≠ 0))) (pM : m_hid ((S2 = (F_m_refuses oM SM (3 : Int32)).1 ∧ rM'.toInt = 0) ∨ (S2.2.1 28 = SM.2.1 28 ∧ rM'.toInt ≠ 0))) (eX : S1 = (F_d_hang oX SX a1 a2 a3).1 ∧ rX' = (F_d_hang oX SX a1 a2 a3).2) (eM : S2 = (F_m_hang oM SM a1 a2 a3).1 ∧ rM' = (F_m_hang oM SM a1 a2 a3).2) : rX' = rM' ∧ LW oX gD gE S1 S2 := by
  obtain ⟨e1, e2⟩ := eX
  obtain ⟨e3, e4⟩ := eM
  have zk : (3 : Int32).toInt = ((3 : Nat) : Int) := by decide +kernel
  have eq : rX' = rM' := by
    rw [e2, e4]
    rcases w.2.2.2.2 with ⟨g, G, K, A, L, U, x, F, h⟩ | ⟨g, x, h⟩
    · obtain ⟨A', U', e, ok, r1, r2⟩ := sim_hang (oM := oM) (a1 := a1) (a2 := a2) (a3 := a3) h.1.1 h.2.1.1 h.2.1.2
      exact e
    · rw [(sim0_hang (oM := oM) h.2.1.1 h.2.1.2).1, (sim0_hang (oM := oM) h.2.1.1 h.2.1.2).2, no_r zk, ref_r zk]
  refine ⟨eq, w.act (k := 3) mX mM cB cF (by decide) ?_ (fun g G K A L U x F h => ?_) (fun g x h => ?_)⟩
  · rcases pX.out with ⟨z0, z1⟩ | ⟨z5, z6, z7, z8, z9⟩ <;> rcases pM.out with ⟨z2, z3⟩ | ⟨z2, z3⟩
    · exact Or.inl ⟨by rw [z0, no_r zk], by rw [z2, ref_r zk]⟩
    · exact absurd (by rw [← eq]; exact z1) z3
    · exact absurd (by rw [eq]; exact z3) z9
    · exact Or.inr ⟨z5, z6, z7, z8, z2⟩
  · rw [e1, e3]
    obtain ⟨A', U', e, ok, r1, r2⟩ := sim_hang (oM := oM) (a1 := a1) (a2 := a2) (a3 := a3) h.1.1 h.2.1.1 h.2.1.2
    exact ⟨A', L, U', x, ok, h.1.2.1, r1, r2⟩
  · rw [e1, e3, (sim0_hang (oM := oM) h.2.1.1 h.2.1.2).1, (sim0_hang (oM := oM) h.2.1.1 h.2.1.2).2, no_r zk, ref_r zk]
    exact ⟨rfl, rfl⟩
theorem W_send (w : LW oX gD gE SX SM) (mX : dg_sm shX WF WA SX S1) (mM : dg_sm shM WF' WA' SM S2) (cB : ckB WF WA WF' WA') (cF : ckF WF WA WF' WA') (pX : m_hid ((S1 = (F_d_no oX SX (3 : Int32)).1 ∧ rX'.toInt = 0) ∨ ((zI S1 221 2).toInt = 0 ∧ (zI S1 221 3).toInt = 0 ∧ (zI S1 229 4).toInt = 0 ∧ S1.2.1 184 = SX.2.1 184 ∧ rX'.toInt ≠ 0))) (pM : m_hid ((S2 = (F_m_refuses oM SM (3 : Int32)).1 ∧ rM'.toInt = 0) ∨ (S2.2.1 28 = SM.2.1 28 ∧ rM'.toInt ≠ 0))) (eX : S1 = (F_d_send oX SX a1 a2 a3 a4).1 ∧ rX' = (F_d_send oX SX a1 a2 a3 a4).2) (eM : S2 = (F_m_send oM SM a1 a2 a3 a4).1 ∧ rM' = (F_m_send oM SM a1 a2 a3 a4).2) : rX' = rM' ∧ LW oX gD gE S1 S2 := by
  obtain ⟨e1, e2⟩ := eX
  obtain ⟨e3, e4⟩ := eM
  have zk : (3 : Int32).toInt = ((3 : Nat) : Int) := by decide +kernel
  have eq : rX' = rM' := by
    rw [e2, e4]
    rcases w.2.2.2.2 with ⟨g, G, K, A, L, U, x, F, h⟩ | ⟨g, x, h⟩
    · obtain ⟨A', U', e, ok, r1, r2⟩ := sim_send (oM := oM) (a1 := a1) (a2 := a2) (a3 := a3) (a4 := a4) h.1.1 h.2.1.1 h.2.1.2
      exact e
    · rw [(sim0_send (oM := oM) h.2.1.1 h.2.1.2).1, (sim0_send (oM := oM) h.2.1.1 h.2.1.2).2, no_r zk, ref_r zk]
  refine ⟨eq, w.act (k := 3) mX mM cB cF (by decide) ?_ (fun g G K A L U x F h => ?_) (fun g x h => ?_)⟩
  · rcases pX.out with ⟨z0, z1⟩ | ⟨z5, z6, z7, z8, z9⟩ <;> rcases pM.out with ⟨z2, z3⟩ | ⟨z2, z3⟩
    · exact Or.inl ⟨by rw [z0, no_r zk], by rw [z2, ref_r zk]⟩
    · exact absurd (by rw [← eq]; exact z1) z3
    · exact absurd (by rw [eq]; exact z3) z9
    · exact Or.inr ⟨z5, z6, z7, z8, z2⟩
  · rw [e1, e3]
    obtain ⟨A', U', e, ok, r1, r2⟩ := sim_send (oM := oM) (a1 := a1) (a2 := a2) (a3 := a3) (a4 := a4) h.1.1 h.2.1.1 h.2.1.2
    exact ⟨A', L, U', x, ok, h.1.2.1, r1, r2⟩
  · rw [e1, e3, (sim0_send (oM := oM) h.2.1.1 h.2.1.2).1, (sim0_send (oM := oM) h.2.1.1 h.2.1.2).2, no_r zk, ref_r zk]
    exact ⟨rfl, rfl⟩
theorem W_heal (w : LW oX gD gE SX SM) (mX : dg_sm shX WF WA SX S1) (mM : dg_sm shM WF' WA' SM S2) (cB : ckB WF WA WF' WA') (cF : ckF WF WA WF' WA') (pX : m_hid ((S1 = (F_d_no oX SX (3 : Int32)).1 ∧ rX'.toInt = 0) ∨ ((zI S1 221 2).toInt = 0 ∧ (zI S1 221 3).toInt = 0 ∧ (zI S1 229 4).toInt = 0 ∧ S1.2.1 184 = SX.2.1 184 ∧ rX'.toInt ≠ 0))) (pM : m_hid ((S2 = (F_m_refuses oM SM (3 : Int32)).1 ∧ rM'.toInt = 0) ∨ (S2.2.1 28 = SM.2.1 28 ∧ rM'.toInt ≠ 0))) (eX : S1 = (F_d_heal oX SX a1).1 ∧ rX' = (F_d_heal oX SX a1).2) (eM : S2 = (F_m_heal oM SM a1).1 ∧ rM' = (F_m_heal oM SM a1).2) : rX' = rM' ∧ LW oX gD gE S1 S2 := by
  obtain ⟨e1, e2⟩ := eX
  obtain ⟨e3, e4⟩ := eM
  have zk : (3 : Int32).toInt = ((3 : Nat) : Int) := by decide +kernel
  have eq : rX' = rM' := by
    rw [e2, e4]
    rcases w.2.2.2.2 with ⟨g, G, K, A, L, U, x, F, h⟩ | ⟨g, x, h⟩
    · obtain ⟨A', U', e, ok, r1, r2⟩ := sim_heal (oM := oM) (a1 := a1) h.1.1 h.2.1.1 h.2.1.2
      exact e
    · rw [(sim0_heal (oM := oM) h.2.1.1 h.2.1.2).1, (sim0_heal (oM := oM) h.2.1.1 h.2.1.2).2, no_r zk, ref_r zk]
  refine ⟨eq, w.act (k := 3) mX mM cB cF (by decide) ?_ (fun g G K A L U x F h => ?_) (fun g x h => ?_)⟩
  · rcases pX.out with ⟨z0, z1⟩ | ⟨z5, z6, z7, z8, z9⟩ <;> rcases pM.out with ⟨z2, z3⟩ | ⟨z2, z3⟩
    · exact Or.inl ⟨by rw [z0, no_r zk], by rw [z2, ref_r zk]⟩
    · exact absurd (by rw [← eq]; exact z1) z3
    · exact absurd (by rw [eq]; exact z3) z9
    · exact Or.inr ⟨z5, z6, z7, z8, z2⟩
  · rw [e1, e3]
    obtain ⟨A', U', e, ok, r1, r2⟩ := sim_heal (oM := oM) (a1 := a1) h.1.1 h.2.1.1 h.2.1.2
    exact ⟨A', L, U', x, ok, h.1.2.1, r1, r2⟩
  · rw [e1, e3, (sim0_heal (oM := oM) h.2.1.1 h.2.1.2).1, (sim0_heal (oM := oM) h.2.1.1 h.2.1.2).2, no_r zk, ref_r zk]
    exact ⟨rfl, rfl⟩
theorem W_sell (w : LW oX gD gE SX SM) (mX : dg_sm shX WF WA SX S1) (mM : dg_sm shM WF' WA' SM S2) (cB : ckB WF WA WF' WA') (cF : ckF WF WA WF' WA') (pX : m_hid ((S1 = (F_d_none oX SX (3 : Int32)).1 ∧ rX'.toInt = -1) ∨ ((zI S1 221 2).toInt = 0 ∧ (zI S1 221 3).toInt = 0 ∧ (zI S1 229 4).toInt = 0 ∧ S1.2.1 184 = SX.2.1 184))) (pM : m_hid ((S2 = (F_m_refuses oM SM (3 : Int32)).1 ∧ rM'.toInt = -1) ∨ S2.2.1 28 = SM.2.1 28)) (eX : S1 = (F_d_sell oX SX a1).1 ∧ rX' = (F_d_sell oX SX a1).2) (eM : S2 = (F_m_sell oM SM a1).1 ∧ rM' = (F_m_sell oM SM a1).2) : rX' = rM' ∧ LW oX gD gE S1 S2 := by
  obtain ⟨e1, e2⟩ := eX
  obtain ⟨e3, e4⟩ := eM
  have zk : (3 : Int32).toInt = ((3 : Nat) : Int) := by decide +kernel
  have eq : rX' = rM' := by
    rw [e2, e4]
    rcases w.2.2.2.2 with ⟨g, G, K, A, L, U, x, F, h⟩ | ⟨g, x, h⟩
    · obtain ⟨A', U', e, ok, r1, r2⟩ := sim_sell (oM := oM) (a1 := a1) h.1.1 h.2.1.1 h.2.1.2
      exact e
    · rw [(sim0_sell (oM := oM) h.2.1.1 h.2.1.2).1, (sim0_sell (oM := oM) h.2.1.1 h.2.1.2).2, none_r zk, ref_r zk]
  refine ⟨eq, w.act (k := 3) mX mM cB cF (by decide) ?_ (fun g G K A L U x F h => ?_) (fun g x h => ?_)⟩
  · rcases w.2.2.2.2 with ⟨g, G, K, A, L, U, x, F, h⟩ | ⟨g, x, h⟩
    · rcases acc_sell (oM := oM) (a1 := a1) h.1.1 h.2.1.1 h.2.1.2 with ⟨y1, y2⟩ | ⟨y1, y2⟩
      · exact Or.inl ⟨by rw [e1, y1], by rw [e3, y2]⟩
      · rw [← e2] at y1
        rw [← e4] at y2
        rcases pX.out with ⟨-, z1⟩ | ⟨z5, z6, z7, z8⟩
        · omega
        rcases pM.out with ⟨-, z1⟩ | z2
        · omega
        exact Or.inr ⟨z5, z6, z7, z8, z2⟩
    · rw [e1, e3, (sim0_sell (oM := oM) h.2.1.1 h.2.1.2).1, (sim0_sell (oM := oM) h.2.1.1 h.2.1.2).2, none_r zk, ref_r zk]
      exact Or.inl ⟨rfl, rfl⟩
  · rw [e1, e3]
    obtain ⟨A', U', e, ok, r1, r2⟩ := sim_sell (oM := oM) (a1 := a1) h.1.1 h.2.1.1 h.2.1.2
    exact ⟨A', L, U', x, ok, h.1.2.1, r1, r2⟩
  · rw [e1, e3, (sim0_sell (oM := oM) h.2.1.1 h.2.1.2).1, (sim0_sell (oM := oM) h.2.1.1 h.2.1.2).2, none_r zk, ref_r zk]
    exact ⟨rfl, rfl⟩
theorem W_undo (w : LW oX gD gE SX SM) (mX : dg_sm shX WF WA SX S1) (mM : dg_sm shM WF' WA' SM S2) (cB : ckB WF WA WF' WA') (cF : ckF WF WA WF' WA') (pX : m_hid ((rX'.toInt = 0) ∨ ((zI S1 221 2).toInt = 0 ∧ (zI S1 221 3).toInt = 0 ∧ (zI S1 229 4).toInt = 0 ∧ S1.2.1 184 = SX.2.1 184 ∧ rX'.toInt ≠ 0))) (pM : m_hid ((S2 = (F_m_refuses oM SM (4 : Int32)).1 ∧ rM'.toInt = 0) ∨ (S2.2.1 28 = SM.2.1 28 ∧ rM'.toInt ≠ 0))) (eX : S1 = (F_d_undo oX SX).1 ∧ rX' = (F_d_undo oX SX).2) (eM : S2 = (F_m_undo oM SM).1 ∧ rM' = (F_m_undo oM SM).2) : rX' = rM' ∧ LW oX gD gE S1 S2 := by
  obtain ⟨e1, e2⟩ := eX
  obtain ⟨e3, e4⟩ := eM
  have zk : (4 : Int32).toInt = ((4 : Nat) : Int) := by decide +kernel
  have eq : rX' = rM' := by
    rw [e2, e4]
    rcases w.2.2.2.2 with ⟨g, G, K, A, L, U, x, F, h⟩ | ⟨g, x, h⟩
    · obtain ⟨A', L', U', e, ok, r1, r2⟩ := sim_undo (oM := oM) h.1.1 h.2.1.1 h.2.1.2
      exact e
    · rw [(sim0_undo (oM := oM) h.2.1.1 h.2.1.2).1, (sim0_undo (oM := oM) h.2.1.1 h.2.1.2).2, no_r zk, ref_r zk]
  have left : rX'.toInt = 0 → S1 = r_X 4 SX := fun z => by
    rw [e1]
    rcases w.2.2.2.2 with ⟨g, G, K, A, L, U, x, F, h⟩ | ⟨g, x, h⟩
    · by_cases q : U = []
      · subst q
        have q1 : zI SX 17 2 = (0 : Int32) := dk_eqp (by decide +kernel) h.2.1.1.2.2.2.2.1.1
        have t := F_h_takeBack_p2 (o := oX) (S := SX) (pt := 3) rfl q1
        rw [F_d_undo_p1 (S_2 := SX) (x_1 := 0) (by rw [t]) (by rw [t]) rfl rfl rfl, no_r zk]
      · exfalso
        obtain ⟨U0, ⟨A', L'⟩, hU⟩ : ∃ U0 e, U = U0 ++ [e] := ⟨U.dropLast, U.getLast q, (List.dropLast_concat_getLast q).symm⟩
        subst hU
        obtain ⟨S9, t, -⟩ := cx_back (o := oX) (p := 3) h.1.1.1.1.2.2.2 pX_3' (by decide) h.2.1.1.2.2.2.2.1
        rw [F_d_undo_p0 (S_2 := S9) (x_1 := 1) (by rw [t]) (by rw [t]) (by decide +kernel) rfl] at e2
        rw [e2] at z
        exact absurd z (show ¬ (1 : Int32).toInt = 0 by decide +kernel)
    · rw [(sim0_undo (oM := oM) h.2.1.1 h.2.1.2).1, no_r zk]
  refine ⟨eq, w.act (k := 4) mX mM cB cF (by decide) ?_ (fun g G K A L U x F h => ?_) (fun g x h => ?_)⟩
  · rcases pX.out with z1 | ⟨z5, z6, z7, z8, z9⟩ <;> rcases pM.out with ⟨z2, z3⟩ | ⟨z2, z3⟩
    · exact Or.inl ⟨left z1, by rw [z2, ref_r zk]⟩
    · exact absurd (by rw [← eq]; exact z1) z3
    · exact absurd (by rw [eq]; exact z3) z9
    · exact Or.inr ⟨z5, z6, z7, z8, z2⟩
  · rw [e1, e3]
    obtain ⟨A', L', U', e, ok, r1, r2⟩ := sim_undo (oM := oM) h.1.1 h.2.1.1 h.2.1.2
    exact ⟨A', L', U', x, ok, h.1.2.1, r1, r2⟩
  · rw [e1, e3, (sim0_undo (oM := oM) h.2.1.1 h.2.1.2).1, (sim0_undo (oM := oM) h.2.1.1 h.2.1.2).2, no_r zk, ref_r zk]
    exact ⟨rfl, rfl⟩
end LC
