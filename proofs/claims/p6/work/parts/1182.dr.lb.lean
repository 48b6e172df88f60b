/-! the law: looks -/
abbrev ckL (WF : List (Nat × Nat)) (WA : List Nat) (WF' : List (Nat × Nat)) (WA' : List Nat) : Prop := ckB WF WA WF' WA' ∧ ckR WA WA' ∧ ckS WF ∧ ckF WF WA WF' WA'
abbrev ckC (WF : List (Nat × Nat)) (WA : List Nat) (WF' : List (Nat × Nat)) (WA' : List Nat) : Prop := ckB WF WA WF' WA' ∧ ckR WA WA' ∧ ckF WF WA WF' WA'
section LB
variable {o oX oM g gD gE n k i : Nat} {WF WF' : List (Nat × Nat)} {WA WA' : List Nat} {S S0 S1 S2 SX SM : dg_S} {G A : aR} {K : Nat → List Int} {L : s_L} {U : s_U} {F : s_F} {x : Int} {a a1 a2 a3 rX' rM' : Int32} {B : Nat → Int}
theorem LW.look (w : LW oX gD gE SX SM) (mX : dg_sm shX WF WA SX S1) (mM : dg_sm shM WF' WA' SM S2) (c : ckL WF WA WF' WA') (hy : ∀ g G K A L U x F, LSy oX g G K A L U x F SX SM → RX oX g G K A L U x S1 ∧ RM G K A L U x S2) (hn : ∀ g x, LSn oX g x SX SM → cx_0 oX g x S1 ∧ mx_0 x S2) : LW oX gD gE S1 S2 := by
  obtain ⟨c1, c2, c3, c4⟩ := c
  refine w.mk mX mM c1 (w.2.1.sm mX mM c2) ?_
  rcases w.2.2.2.2 with ⟨g, G, K, A, L, U, x, F, h⟩ | ⟨g, x, h⟩
  · have r := hy g G K A L U x F h
    have sk := k_sk.m mX c3 c4.1.2
    exact Or.inl ⟨g, G, K, A, L, U, x, F, h.1, r, fe_sm mX mM c4 h.2.2.1, h.2.2.2.1.f (fun b _ => sk.1 b), h.2.2.2.2.1.f (fun b _ => sk.1 b), h.2.2.2.2.2.f (fun b _ => sk.2.1 b)⟩
  · exact Or.inr ⟨g, x, h.1, hn g x h, n5_sm mX mM c4 h.2.2⟩
theorem W_cell (w : LW oX gD gE SX SM) (mX : dg_sm shX WF WA SX S1) (mM : dg_sm shM WF' WA' SM S2) (c : ckL WF WA WF' WA') (eX : S1 = (F_d_cell oX SX a1 a2 a3).1 ∧ rX' = (F_d_cell oX SX a1 a2 a3).2) (eM : S2 = (F_m_cell oM SM a1 a2 a3).1 ∧ rM' = (F_m_cell oM SM a1 a2 a3).2) : rX' = rM' ∧ LW oX gD gE S1 S2 := by
  obtain ⟨e1, e2⟩ := eX
  obtain ⟨e3, e4⟩ := eM
  subst e1 e3
  refine ⟨?_, w.look mX mM c (fun g G K A L U x F h => (sim_cell h.1.1 h.2.1.1 h.2.1.2).2) (fun g x h => ?_)⟩
  · rw [e2, e4]
    rcases w.2.2.2.2 with ⟨g, G, K, A, L, U, x, F, h⟩ | ⟨g, x, h⟩
    · exact (sim_cell h.1.1 h.2.1.1 h.2.1.2).1
    · rw [(sim0_cell (oM := oM) h.2.1.1 h.2.1.2).1, (sim0_cell (oM := oM) h.2.1.1 h.2.1.2).2]
  · rw [(sim0_cell (oM := oM) h.2.1.1 h.2.1.2).1, (sim0_cell (oM := oM) h.2.1.1 h.2.1.2).2]
    exact h.2.1
theorem W_later (w : LW oX gD gE SX SM) (mX : dg_sm shX WF WA SX S1) (mM : dg_sm shM WF' WA' SM S2) (c : ckL WF WA WF' WA') (eX : S1 = (F_d_later oX SX a1 a2 a3).1 ∧ rX' = (F_d_later oX SX a1 a2 a3).2) (eM : S2 = (F_m_later oM SM a1 a2 a3).1 ∧ rM' = (F_m_later oM SM a1 a2 a3).2) : rX' = rM' ∧ LW oX gD gE S1 S2 := by
  obtain ⟨e1, e2⟩ := eX
  obtain ⟨e3, e4⟩ := eM
  subst e1 e3
  refine ⟨?_, w.look mX mM c (fun g G K A L U x F h => (sim_later h.1.1 h.2.1.1 h.2.1.2).2) (fun g x h => ?_)⟩
  · rw [e2, e4]
    rcases w.2.2.2.2 with ⟨g, G, K, A, L, U, x, F, h⟩ | ⟨g, x, h⟩
    · exact (sim_later h.1.1 h.2.1.1 h.2.1.2).1
    · rw [(sim0_later (oM := oM) h.2.1.1 h.2.1.2).1, (sim0_later (oM := oM) h.2.1.1 h.2.1.2).2]
  · rw [(sim0_later (oM := oM) h.2.1.1 h.2.1.2).1, (sim0_later (oM := oM) h.2.1.1 h.2.1.2).2]
    exact h.2.1
theorem W_opens (w : LW oX gD gE SX SM) (mX : dg_sm shX WF WA SX S1) (mM : dg_sm shM WF' WA' SM S2) (c : ckL WF WA WF' WA') (eX : S1 = (F_d_opens oX SX a1 a2).1 ∧ rX' = (F_d_opens oX SX a1 a2).2) (eM : S2 = (F_m_opens oM SM a1 a2).1 ∧ rM' = (F_m_opens oM SM a1 a2).2) : rX' = rM' ∧ LW oX gD gE S1 S2 := by
  obtain ⟨e1, e2⟩ := eX
  obtain ⟨e3, e4⟩ := eM
  subst e1 e3
  refine ⟨?_, w.look mX mM c (fun g G K A L U x F h => (sim_opens h.1.1 h.2.1.1 h.2.1.2).2) (fun g x h => ?_)⟩
  · rw [e2, e4]
    rcases w.2.2.2.2 with ⟨g, G, K, A, L, U, x, F, h⟩ | ⟨g, x, h⟩
    · exact (sim_opens h.1.1 h.2.1.1 h.2.1.2).1
    · rw [(sim0_opens (oM := oM) h.2.1.1 h.2.1.2).1, (sim0_opens (oM := oM) h.2.1.1 h.2.1.2).2]
  · rw [(sim0_opens (oM := oM) h.2.1.1 h.2.1.2).1, (sim0_opens (oM := oM) h.2.1.1 h.2.1.2).2]
    exact h.2.1
theorem W_worth (w : LW oX gD gE SX SM) (mX : dg_sm shX WF WA SX S1) (mM : dg_sm shM WF' WA' SM S2) (c : ckL WF WA WF' WA') (eX : S1 = (F_d_worth oX SX a1).1 ∧ rX' = (F_d_worth oX SX a1).2) (eM : S2 = (F_m_worth oM SM a1).1 ∧ rM' = (F_m_worth oM SM a1).2) : rX' = rM' ∧ LW oX gD gE S1 S2 := by
  obtain ⟨e1, e2⟩ := eX
  obtain ⟨e3, e4⟩ := eM
  subst e1 e3
  refine ⟨?_, w.look mX mM c (fun g G K A L U x F h => (sim_worth h.1.1 h.2.1.1 h.2.1.2).2) (fun g x h => ?_)⟩
  · rw [e2, e4]
    rcases w.2.2.2.2 with ⟨g, G, K, A, L, U, x, F, h⟩ | ⟨g, x, h⟩
    · exact (sim_worth h.1.1 h.2.1.1 h.2.1.2).1
    · rw [(sim0_worth (oM := oM) h.2.1.1 h.2.1.2).1, (sim0_worth (oM := oM) h.2.1.1 h.2.1.2).2]
  · rw [(sim0_worth (oM := oM) h.2.1.1 h.2.1.2).1, (sim0_worth (oM := oM) h.2.1.1 h.2.1.2).2]
    exact h.2.1
theorem W_odds (w : LW oX gD gE SX SM) (mX : dg_sm shX WF WA SX S1) (mM : dg_sm shM WF' WA' SM S2) (c : ckL WF WA WF' WA') (eX : S1 = (F_d_odds oX SX a1 a2).1 ∧ rX' = (F_d_odds oX SX a1 a2).2) (eM : S2 = (F_m_odds oM SM a1 a2).1 ∧ rM' = (F_m_odds oM SM a1 a2).2) : rX' = rM' ∧ LW oX gD gE S1 S2 := by
  obtain ⟨e1, e2⟩ := eX
  obtain ⟨e3, e4⟩ := eM
  subst e1 e3
  refine ⟨?_, w.look mX mM c (fun g G K A L U x F h => ⟨(sim_odds (oM := oM) h.1.1 h.2.1.1 h.2.1.2).2.1, (sim_odds (oM := oM) h.1.1 h.2.1.1 h.2.1.2).2.2.2⟩) (fun g x h => ?_)⟩
  · rw [e2, e4]
    rcases w.2.2.2.2 with ⟨g, G, K, A, L, U, x, F, h⟩ | ⟨g, x, h⟩
    · exact (sim_odds h.1.1 h.2.1.1 h.2.1.2).1
    · rw [(sim0_odds (oM := oM) h.2.1.1 h.2.1.2).1, (sim0_odds (oM := oM) h.2.1.1 h.2.1.2).2]
  · rw [(sim0_odds (oM := oM) h.2.1.1 h.2.1.2).1, (sim0_odds (oM := oM) h.2.1.1 h.2.1.2).2]
    exact h.2.1
theorem W_reaches (w : LW oX gD gE SX SM) (mX : dg_sm shX WF WA SX S1) (mM : dg_sm shM WF' WA' SM S2) (c : ckL WF WA WF' WA') (eX : S1 = (F_d_reaches oX SX).1 ∧ rX' = (F_d_reaches oX SX).2) (eM : S2 = (F_m_reaches oM SM).1 ∧ rM' = (F_m_reaches oM SM).2) : rX' = rM' ∧ LW oX gD gE S1 S2 := by
  obtain ⟨e1, e2⟩ := eX
  obtain ⟨e3, e4⟩ := eM
  subst e1 e3
  refine ⟨?_, w.look mX mM c (fun g G K A L U x F h => ⟨(sim_reaches (oM := oM) h.1.1 h.1.2.2 h.2.1.1 h.2.2.1.1 h.2.1.2 h.2.2.1.2).2.1, (sim_reaches (oM := oM) h.1.1 h.1.2.2 h.2.1.1 h.2.2.1.1 h.2.1.2 h.2.2.1.2).2.2.2.1⟩) (fun g x h => ?_)⟩
  · rw [e2, e4]
    rcases w.2.2.2.2 with ⟨g, G, K, A, L, U, x, F, h⟩ | ⟨g, x, h⟩
    · exact (sim_reaches h.1.1 h.1.2.2 h.2.1.1 h.2.2.1.1 h.2.1.2 h.2.2.1.2).1
    · rw [(sim0_reaches (oM := oM) h.2.1.1 h.2.1.2).1, (sim0_reaches (oM := oM) h.2.1.1 h.2.1.2).2]
  · rw [(sim0_reaches (oM := oM) h.2.1.1 h.2.1.2).1, (sim0_reaches (oM := oM) h.2.1.1 h.2.1.2).2]
    exact h.2.1
theorem W_has (w : LW oX gD gE SX SM) (mX : dg_sm shX WF WA SX S1) (mM : dg_sm shM WF' WA' SM S2) (c : ckL WF WA WF' WA') (eX : S1 = (F_d_has oX SX a1).1 ∧ rX' = (F_d_has oX SX a1).2) (eM : S2 = (F_m_has oM SM a1).1 ∧ rM' = (F_m_has oM SM a1).2) : rX' = rM' ∧ LW oX gD gE S1 S2 := by
  obtain ⟨e1, e2⟩ := eX
  obtain ⟨e3, e4⟩ := eM
  subst e1 e3
  refine ⟨?_, w.look mX mM c (fun g G K A L U x F h => (sim_has h.1.1 h.2.1.1 h.2.2.1.1 h.2.1.2 h.2.2.1.2).2) (fun g x h => ?_)⟩
  · rw [e2, e4]
    rcases w.2.2.2.2 with ⟨g, G, K, A, L, U, x, F, h⟩ | ⟨g, x, h⟩
    · exact (sim_has h.1.1 h.2.1.1 h.2.2.1.1 h.2.1.2 h.2.2.1.2).1
    · exact (sim0_has (oM := oM) h.2.1.1 h.2.1.2 h.2.2).1
  · obtain ⟨-, z1, z2⟩ := sim0_has (a1 := a1) h.2.1.1 h.2.1.2 h.2.2
    rw [z1]
    exact ⟨h.2.1.1, h.2.1.2.keep z2⟩
theorem W_shade (w : LW oX gD gE SX SM) (mX : dg_sm shX WF WA SX S1) (mM : dg_sm shM WF' WA' SM S2) (c : ckC WF WA WF' WA') (eX : S1 = (F_d_shade oX SX a1 a2).1 ∧ rX' = (F_d_shade oX SX a1 a2).2) (eM : S2 = (F_m_shade oM SM a1 a2).1 ∧ rM' = (F_m_shade oM SM a1 a2).2) : rX' = rM' ∧ LW oX gD gE S1 S2 := by
  obtain ⟨e1, e2⟩ := eX
  obtain ⟨e3, e4⟩ := eM
  subst e1 e3
  obtain ⟨c1, c2, c4⟩ := c
  refine ⟨?_, w.mk mX mM c1 (w.2.1.sm mX mM c2) ?_⟩
  · rw [e2, e4]
    rcases w.2.2.2.2 with ⟨g, G, K, A, L, U, x, F, h⟩ | ⟨g, x, h⟩
    · exact (sim_shade h.1.1 h.2.1.1 h.2.2.2.1 h.2.1.2).1
    · rw [(sim0_shade (oM := oM) h.2.1.1 h.2.1.2).1, (sim0_shade (oM := oM) h.2.1.1 h.2.1.2).2]
  · rcases w.2.2.2.2 with ⟨g, G, K, A, L, U, x, F, h⟩ | ⟨g, x, h⟩
    · obtain ⟨-, r1, cs, k, r2⟩ := sim_shade (oM := oM) (a1 := a1) (a2 := a2) h.1.1 h.2.1.1 h.2.2.2.1 h.2.1.2
      exact Or.inl ⟨g, G, K, A, L, U, x, F, h.1, ⟨r1, r2⟩, fe_sm mX mM c4 h.2.2.1, cs, h.2.2.2.2.1.f (fun b hb => k.1 b (by omega) (by omega) (by omega)), h.2.2.2.2.2.f (fun b _ => k.2.1 b)⟩
    · rw [(sim0_shade (oM := oM) h.2.1.1 h.2.1.2).1, (sim0_shade (oM := oM) h.2.1.1 h.2.1.2).2]
      exact Or.inr ⟨g, x, h⟩
theorem W_change (w : LW oX gD gE SX SM) (mX : dg_sm shX WF WA SX S1) (mM : dg_sm shM WF' WA' SM S2) (c : ckC WF WA WF' WA') (eX : S1 = (F_d_change oX SX a1 a2).1 ∧ rX' = (F_d_change oX SX a1 a2).2) (eM : S2 = (F_m_change oM SM a1 a2).1 ∧ rM' = (F_m_change oM SM a1 a2).2) : rX' = rM' ∧ LW oX gD gE S1 S2 := by
  obtain ⟨e1, e2⟩ := eX
  obtain ⟨e3, e4⟩ := eM
  subst e1 e3
  obtain ⟨c1, c2, c4⟩ := c
  refine ⟨?_, w.mk mX mM c1 (w.2.1.sm mX mM c2) ?_⟩
  · rw [e2, e4]
    rcases w.2.2.2.2 with ⟨g, G, K, A, L, U, x, F, h⟩ | ⟨g, x, h⟩
    · exact (sim_change h.1.1 h.2.1.1 h.2.2.2.2.1 h.2.1.2).1
    · rw [(sim0_change (oM := oM) h.2.1.1 h.2.1.2).1, (sim0_change (oM := oM) h.2.1.1 h.2.1.2).2]
  · rcases w.2.2.2.2 with ⟨g, G, K, A, L, U, x, F, h⟩ | ⟨g, x, h⟩
    · obtain ⟨-, r1, cs, k, r2⟩ := sim_change (oM := oM) (a1 := a1) (a2 := a2) h.1.1 h.2.1.1 h.2.2.2.2.1 h.2.1.2
      exact Or.inl ⟨g, G, K, A, L, U, x, F, h.1, ⟨r1, r2⟩, fe_sm mX mM c4 h.2.2.1, h.2.2.2.1.f (fun b hb => k.1 b (by omega) (by omega) (by omega) (by omega)), cs, h.2.2.2.2.2.f (fun b _ => k.2.1 b)⟩
    · rw [(sim0_change (oM := oM) h.2.1.1 h.2.1.2).1, (sim0_change (oM := oM) h.2.1.1 h.2.1.2).2]
      exact Or.inr ⟨g, x, h⟩
theorem W_tells (w : LW oX gD gE SX SM) (mX : dg_sm shX WF WA SX S1) (mM : dg_sm shM WF' WA' SM S2) (c : ckC WF WA WF' WA') (eX : S1 = (F_d_tells oX SX a1).1 ∧ rX' = (F_d_tells oX SX a1).2) (eM : S2 = (F_m_tells oM SM a1).1 ∧ rM' = (F_m_tells oM SM a1).2) : rX' = rM' ∧ LW oX gD gE S1 S2 := by
  obtain ⟨e1, e2⟩ := eX
  obtain ⟨e3, e4⟩ := eM
  subst e1 e3
  obtain ⟨c1, c2, c4⟩ := c
  refine ⟨?_, w.mk mX mM c1 (w.2.1.sm mX mM c2) ?_⟩
  · rw [e2, e4]
    rcases w.2.2.2.2 with ⟨g, G, K, A, L, U, x, F, h⟩ | ⟨g, x, h⟩
    · exact (sim_tells h.1.1 h.1.2.2 h.2.1.1 h.2.2.1.1 h.2.2.2.2.2 h.2.1.2 h.2.2.1.2).1
    · rw [(sim0_tells (oM := oM) h.2.1.1 h.2.1.2).1, (sim0_tells (oM := oM) h.2.1.1 h.2.1.2).2]
  · rcases w.2.2.2.2 with ⟨g, G, K, A, L, U, x, F, h⟩ | ⟨g, x, h⟩
    · obtain ⟨-, r1, cs, k, r2, -⟩ := sim_tells (oM := oM) (a1 := a1) h.1.1 h.1.2.2 h.2.1.1 h.2.2.1.1 h.2.2.2.2.2 h.2.1.2 h.2.2.1.2
      exact Or.inl ⟨g, G, K, A, L, U, x, F, h.1, ⟨r1, r2⟩, fe_sm mX mM c4 h.2.2.1, h.2.2.2.1.f (fun b _ => k.1 b), h.2.2.2.2.1.f (fun b _ => k.1 b), cs⟩
    · rw [(sim0_tells (oM := oM) h.2.1.1 h.2.1.2).1, (sim0_tells (oM := oM) h.2.1.1 h.2.1.2).2]
      exact Or.inr ⟨g, x, h⟩
theorem E_hurt (w : LW oX gD gE SX SM) (eX : rX' = F_d_hurt oX SX a1) (eM : rM' = F_m_hurt oM SM a1) : rX' = rM' := by
  rw [eX, eM]
  rcases w.2.2.2.2 with ⟨g, G, K, A, L, U, x, F, h⟩ | ⟨g, x, h⟩
  · exact sim_hurt h.1.1 h.2.1.1 h.2.1.2
  · rw [(sim0_hurt (oM := oM) h.2.1.1 h.2.1.2).1, (sim0_hurt (oM := oM) h.2.1.1 h.2.1.2).2]
theorem E_plan (w : LW oX gD gE SX SM) (eX : rX' = F_d_plan oX SX a1 a2) (eM : rM' = F_m_plan oM SM a1 a2) : rX' = rM' := by
  rw [eX, eM]
  rcases w.2.2.2.2 with ⟨g, G, K, A, L, U, x, F, h⟩ | ⟨g, x, h⟩
  · exact sim_plan h.1.1 h.2.1.1 h.2.1.2
  · rw [(sim0_plan (oM := oM) h.2.1.1 h.2.1.2).1, (sim0_plan (oM := oM) h.2.1.1 h.2.1.2).2]
theorem E_order (w : LW oX gD gE SX SM) (eX : rX' = F_d_order oX SX a1 a2) (eM : rM' = F_m_order oM SM a1 a2) : rX' = rM' := by
  rw [eX, eM]
  rcases w.2.2.2.2 with ⟨g, G, K, A, L, U, x, F, h⟩ | ⟨g, x, h⟩
  · exact sim_order h.1.1 h.2.1.1 h.2.1.2
  · rw [(sim0_order (oM := oM) h.2.1.1 h.2.1.2).1, (sim0_order (oM := oM) h.2.1.1 h.2.1.2).2]
theorem E_tubs (w : LW oX gD gE SX SM) (eX : rX' = F_d_tubs oX SX a1) (eM : rM' = F_m_tubs oM SM a1) : rX' = rM' := by
  rw [eX, eM]
  rcases w.2.2.2.2 with ⟨g, G, K, A, L, U, x, F, h⟩ | ⟨g, x, h⟩
  · exact sim_tubs h.2.1.1 h.2.1.2
  · exact sim0_tubs h.2.1.1 h.2.1.2
theorem E_kept (w : LW oX gD gE SX SM) (eX : rX' = F_d_kept oX SX a1 a2) (eM : rM' = F_m_kept oM SM a1 a2) : rX' = rM' := by
  rw [eX, eM]
  rcases w.2.2.2.2 with ⟨g, G, K, A, L, U, x, F, h⟩ | ⟨g, x, h⟩
  · exact sim_kept h.2.1.1 h.2.1.2
  · rw [(sim0_kept (oM := oM) h.2.1.1 h.2.1.2).1, (sim0_kept (oM := oM) h.2.1.1 h.2.1.2).2]
theorem E_sale (w : LW oX gD gE SX SM) (eX : rX' = F_d_sale oX SX a1) (eM : rM' = F_m_sale oM SM a1) : rX' = rM' := by
  rw [eX, eM]
  rcases w.2.2.2.2 with ⟨g, G, K, A, L, U, x, F, h⟩ | ⟨g, x, h⟩
  · exact sim_sale h.1.1 h.2.1.1 h.2.1.2
  · exact sim0_sale h.2.1.1 h.2.1.2
theorem E_octet (w : LW oX gD gE SX SM) (eX : rX' = F_d_octet oX SX a1) (eM : rM' = F_m_octet oM SM a1) : rX' = rM' := by
  rw [eX, eM]
  obtain ⟨n, h1, h2, h3, h4⟩ := w.2.2.1
  exact sim_octet h1 h2 h3 h4
theorem E_status (w : LW oX gD gE SX SM) (eX : rX' = F_d_status oX SX a1) (eM : rM' = F_m_status oM SM a1) : rX' = rM' := by
  have z0 : (0 : Int32).toInt = 0 := by decide +kernel
  have z5 : (5 : Int32).toInt = 5 := by decide +kernel
  have z6 : (6 : Int32).toInt = 6 := by decide +kernel
  rw [eX, eM]
  by_cases q1 : a1 < (0 : Int32)
  · rw [F_d_status_p0 q1, F_m_status_p0 rfl (F_m_is_p0 q1)]
  have d1 : ¬ a1.toInt < (0 : Int32).toInt := fun z => q1 (w_lt.mpr z)
  by_cases q2 : (6 : Int32) ≤ a1
  · have d2 := w_le.mp q2
    rw [F_d_status_p1 q1 q2, F_m_status_p0 rfl (F_m_is_p1 q1 (w_lt.mpr (by omega)))]
  have d2 : ¬ (6 : Int32).toInt ≤ a1.toInt := fun z => q2 (w_le.mpr z)
  have n1 : ¬ (1 : Int32) = (0 : Int32) := by decide
  have e : F_m_is oM SM a1 0 5 = 1 := F_m_is_p2 q1 (fun z => by have := w_lt.mp z; omega)
  rw [F_d_status_p2 q1 q2 rfl, F_m_status_p1 rfl (by rw [e]; exact n1) rfl]
  exact w.2.1 _ (by rw [dk_clN]; omega)
end LB
