/-! ON: both sides -/
section FM
variable {o oX oM g n p q k i N : Nat} {G A A' : aR} {K : Nat → List Int} {B : Nat → Int} {L : s_L} {U : s_U} {S S0 S1 SX SM T T1 : dg_S} {x x' r c v t m : Int} {a a1 a2 a3 a4 y : Int32}
/-- an image read, or refused -/
theorem mx_on (ok : s_ok G K A U) (h : RM G K A L U x S) (tp : mx_tp n B S) : ∃ (S1 : dg_S) (y : Int32), F_m_on o S = (S1, y) ∧ (zI S1 0 1).toInt = 0 ∧ ((s_OV G B n ∧ y = 1 ∧ RM G K (s_oA G B) [] [] x S1 ∧ S1.2.1 28 = S.2.1 28) ∨ (¬ s_OV G B n ∧ y = 0 ∧ RM G K A L U x S1 ∧ S1.2.1 28 = upd (S.2.1 28) 5 (S.2.1 28 5 + (1 : Int32)))) ∧ kp (fun a b => a = 0 ∧ (b = 1 ∨ b = 61)) (fun a => 28 ≤ a ∧ a ≤ 44) S S1 := by
  have z0 : (0 : Int32).toInt = 0 := by decide +kernel
  have hG := ok.1
  have hb := hG.1.2.2.2
  obtain ⟨S2, e2⟩ : ∃ X, X = dg_uF S 0 1 (.int (0 : Int32)) := ⟨_, rfl⟩
  have k2 : kp (fun a b => a = 0 ∧ b = 1) (fun _ => False) S S2 := by rw [e2]; exact kp.uF kp.rf ⟨rfl, rfl⟩
  have r2 : RM G K A L U x S2 := h.keep hb k2 (fun b hb => by omega) (fun _ _ => id) (fun _ _ _ => id)
  have f2 : (zI S2 0 1).toInt = 0 := by rw [e2, w_I, if_pos ⟨rfl, rfl⟩]; exact z0
  have tb : mx_by n B S2 := ⟨tp.2.1, fun i hi => by rw [e2]; exact tp.2.2 i hi⟩
  obtain ⟨T, y, eT, kT, D⟩ := mx_comesOn (o := o) (a1 := zI S 0 1) ok r2 tb tp.1
  have rT : RM G K A L U x T := r2.v hb kT (by decide) (kT.lay r2.2.1 (by decide) hb)
  have kk : kp (fun a b => a = 0 ∧ (b = 1 ∨ b = 61)) (fun a => 28 ≤ a ∧ a ≤ 44) S T := (k2.w (fun a b z => by omega) (fun a z => z.elim)).tr (kT.1.w (fun a b z => z.elim) (fun a z => by omega))
  rcases D with ⟨y1, V, l1⟩ | ⟨y0, V⟩
  · have ny : ¬ y = (0 : Int32) := by rw [y1]; decide
    obtain ⟨T3, e3, k3, l3⟩ := mx_copies (o := o) (S := T) (v := 0) (u := 1) (a1 := 0) (a2 := 1) (by decide +kernel) (by decide +kernel) (by decide) (by decide) (by decide) l1 hb
    have r3 : RM G K (s_oA G B) [] U x T3 := rT.v hb k3 (by decide) l3
    obtain ⟨T4, e4⟩ : ∃ X, X = dg_uF T3 0 61 (.int (0 : Int32)) := ⟨_, rfl⟩
    have k4 : kp (fun a b => a = 0 ∧ b = 61) (fun _ => False) T3 T4 := by rw [e4]; exact kp.uF kp.rf ⟨rfl, rfl⟩
    refine ⟨T4, 1, ?_, ?_, Or.inl ⟨V, rfl, ⟨?_, ?_, ?_, ?_, ?_⟩, ?_⟩, (kk.tr (k3.1.w (fun a b z => z.elim) (fun a z => by omega))).tr (k4.w (fun a b z => by omega) (fun a z => z.elim))⟩
    · rw [F_m_on_p1 rfl e2 (show T = _ by rw [eT]) (show y = _ by rw [eT]) ny e3.symm e4, F_m_on_p0]
    · rw [k4.I (by decide), k3.I, kT.I, f2]
    · exact r3.1.keep (k4.I (by decide)) (k4.I (by decide)) (fun i _ => (k4.2 i id).1)
    · exact r3.2.1.keep hb (fun a _ _ j _ _ => by rw [(k4.2 a id).1])
    · obtain ⟨f, fl, f60, -⟩ := r3.2.2.1.2.2
      refine ⟨?_, by decide, f, fl, by rw [k4.I (by decide)]; exact f60, fun i e he => by simp at he⟩
      rw [e4, w_I, if_pos ⟨rfl, rfl⟩]
      exact z0
    · rw [k4.I (by decide)]
      exact r3.2.2.2.1
    · rw [k4.L (by decide)]
      exact r3.2.2.2.2
    · rw [(k4.2 28 id).1, k3.row (by decide), kT.row (by decide), e2]
      rfl
  · obtain ⟨T3, e3, r3, es⟩ := mx_ref (o := o) (a1 := 5) (k := 5) hb rT (by decide +kernel)
    have k3 : kp (fun _ _ => False) (fun a => a = 28) T T3 := by rw [es]; exact kp.uf kp.rf rfl
    have row : T.2.1 28 = S.2.1 28 := by
      rw [kT.row (by decide), e2]
      rfl
    refine ⟨T3, 0, F_m_on_p2 rfl e2 (show T = _ by rw [eT]) (show y = _ by rw [eT]) y0 (show T3 = _ by rw [e3]), ?_, Or.inr ⟨V, rfl, r3, ?_⟩, kk.tr (k3.w (fun a b z => z.elim) (fun a z => by omega))⟩
    · rw [k3.I id, kT.I, f2]
    · rw [es, w_f, if_pos rfl, row]
/-- ON: both sides -/
theorem sim_on (ok : s_ok G K A U) (hX : RX oX g G K A L U x SX) (tX : cx_tp n B SX) (hM : RM G K A L U x SM) (tM : mx_tp n B SM) : (F_d_on oX SX).2 = (F_m_on oM SM).2 ∧ (zI (F_d_on oX SX).1 1 1).toInt = 0 ∧ (zI (F_m_on oM SM).1 0 1).toInt = 0 ∧ ((s_ok G K (s_oA G B) [] ∧ RX oX g G K (s_oA G B) [] [] x (F_d_on oX SX).1 ∧ RM G K (s_oA G B) [] [] x (F_m_on oM SM).1 ∧ (F_d_on oX SX).1.2.1 184 = SX.2.1 184 ∧ (F_m_on oM SM).1.2.1 28 = SM.2.1 28 ∧ zI (F_d_on oX SX).1 221 2 = 0 ∧ zI (F_d_on oX SX).1 221 3 = 0 ∧ zI (F_d_on oX SX).1 229 4 = 0) ∨ (RX oX g G K A L U x (F_d_on oX SX).1 ∧ RM G K A L U x (F_m_on oM SM).1 ∧ (F_d_on oX SX).1.2.1 184 = upd (SX.2.1 184) 5 (SX.2.1 184 5 + (1 : Int32)) ∧ (F_m_on oM SM).1.2.1 28 = upd (SM.2.1 28) 5 (SM.2.1 28 5 + (1 : Int32)) ∧ ∀ a b, a = 221 ∨ a = 229 → zI (F_d_on oX SX).1 a b = zI SX a b)) ∧ kp (fun a b => (a = 182 ∧ 3 ≤ b) ∨ (a = 10 ∧ b < 2) ∨ (a = 3 ∧ b < 2) ∨ (a = 1 ∧ b = 1) ∨ (a = 17 ∧ (b = 1 ∨ b = 2)) ∨ (a = 221 ∧ (b = 2 ∨ b = 3)) ∨ (a = 229 ∧ b = 4)) (fun a => (3 ≤ a ∧ a ≤ 16) ∨ a = 184) SX (F_d_on oX SX).1 ∧ kp (fun a b => a = 0 ∧ (b = 1 ∨ b = 61)) (fun a => 28 ≤ a ∧ a ≤ 44) SM (F_m_on oM SM).1 := by
  obtain ⟨S1, y1, e1, q1, D1, k1⟩ := cx_on (o := oX) ok.1 hX tX
  obtain ⟨S2, y2, e2, q2, D2, k2⟩ := mx_on (o := oM) ok hM tM
  rw [e1, e2]
  rcases D1 with ⟨V1, w1, r1, s1, c1, c2, c3⟩ | ⟨V1, w1, r1, s1, c1⟩ <;> rcases D2 with ⟨V2, w2, r2, s2⟩ | ⟨V2, w2, r2, s2⟩
  · have wf := s_oA_wf ok.1 V1 (fun i hi => (tX.2.2 i hi).2)
    exact ⟨by rw [w1, w2], q1, q2, Or.inl ⟨⟨ok.1, ok.2.1, wf, fun i e he => by simp at he⟩, r1, r2, s1, s2, c1, c2, c3⟩, k1, k2⟩
  · exact absurd V1 V2
  · exact absurd V2 V1
  · exact ⟨by rw [w1, w2], q1, q2, Or.inr ⟨r1, r2, s1, s2, c1⟩, k1, k2⟩
end FM
