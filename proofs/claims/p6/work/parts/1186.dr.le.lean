/-! the law: FEEL, ON, IMAGE -/
section LE
variable {o oX oM g gD gE n k i : Nat} {WF WF' : List (Nat × Nat)} {WA WA' : List Nat} {S S0 S1 S2 SX SM T : dg_S} {G A : aR} {K : Nat → List Int} {L : s_L} {U : s_U} {F : s_F} {x : Int} {a a1 a2 a3 a4 a5 c t rX' rM' : Int32} {B : Nat → Int}
theorem W_feel (w : LW oX gD gE SX SM) (eX : S1 = (F_d_feel oX SX).1 ∧ rX' = (F_d_feel oX SX).2) (eM : S2 = (F_m_feel oM SM).1 ∧ rM' = (F_m_feel oM SM).2) : rX' = rM' ∧ LW oX gD gE S1 S2 := by
  have z5 : (5 : Int32).toInt = ((5 : Nat) : Int) := by decide +kernel
  obtain ⟨n, B, tX, tM⟩ := id w.1
  obtain ⟨e1, e2⟩ := eX
  obtain ⟨e3, e4⟩ := eM
  rcases w.2.2.2.2 with ⟨g, G, K, A, L, U, x, F, h⟩ | ⟨g, x, h⟩
  · obtain ⟨q1, q2, q3, q4, q5, D⟩ := sim_feel (oM := oM) h.1.1 h.2.1.1 tX h.2.1.2 tM
    rw [← e1] at q2 q4 D
    rw [← e3] at q3 q5 D
    refine ⟨by rw [e2, e4]; exact q1, ?_⟩
    obtain ⟨h1, h2, h3, h6, h7, h8⟩ := h
    rcases D with ⟨F', fk, f1, f2, f3, t, t'⟩ | ⟨f1, f2, t, t'⟩
    · exact ⟨LT.z q4 q5, w.2.1.eq (t.2 184 (by omega)).1 (t'.2 28 (by omega)).1, w.2.2.1.eq (t.I (by omega)) (t.2 183 (by omega)).1 (t'.I (by omega)) (t'.2 50 (by omega)).1, w.2.2.2.1.eq (t.1 0 6 (by omega)) (t.1 0 7 (by omega)), Or.inl ⟨g, G, K, A, L, U, x, F', ⟨h1.1, h1.2.1, fk⟩, ⟨q2, q3⟩, ⟨f1, f2⟩, h6.f (fun b _ => t.I (by omega)), h7.f (fun b _ => t.I (by omega)), Or.inl f3⟩⟩
    · exact ⟨LT.z q4 q5, w.2.1.up (by decide) f1 f2, w.2.2.1.eq (t.I (by omega)) (t.2 183 (by omega)).1 (t'.I (by omega)) (t'.2 50 (by omega)).1, w.2.2.2.1.eq (t.1 0 6 (by omega)) (t.1 0 7 (by omega)), Or.inl ⟨g, G, K, A, L, U, x, F, h1, ⟨q2, q3⟩, ⟨h3.1.f (t.I (by omega)) (t.2 230 (by omega)).1, h3.2.f (t'.I (by omega)) (t'.2 45 (by omega)).1 (t'.2 46 (by omega)).1 (t'.2 47 (by omega)).1⟩, h6.f (fun b _ => t.I (by omega)), h7.f (fun b _ => t.I (by omega)), h8.f (fun b _ => t.I (by omega))⟩⟩
  · rw [cx_0_feel h.2.1.1, none_r z5] at e1 e2
    rw [mx_0_feel h.2.1.2 tM.1 tM.2.1, ref_r z5] at e3 e4
    rw [e1, e2, e3, e4]
    exact ⟨rfl, w.t0.no (by decide)⟩
theorem W_on (w : LW oX gD gE SX SM) (eX : S1 = (F_d_on oX SX).1 ∧ rX' = (F_d_on oX SX).2) (eM : S2 = (F_m_on oM SM).1 ∧ rM' = (F_m_on oM SM).2) : rX' = rM' ∧ LW oX gD gE S1 S2 := by
  have z5 : (5 : Int32).toInt = ((5 : Nat) : Int) := by decide +kernel
  have z0 : (0 : Int32).toInt = 0 := by decide +kernel
  obtain ⟨n, B, tX, tM⟩ := id w.1
  obtain ⟨e1, e2⟩ := eX
  obtain ⟨e3, e4⟩ := eM
  rcases w.2.2.2.2 with ⟨g, G, K, A, L, U, x, F, h⟩ | ⟨g, x, h⟩
  · obtain ⟨q1, q2, q3, D, t, t'⟩ := sim_on (oM := oM) h.1.1 h.2.1.1 tX h.2.1.2 tM
    rw [← e1] at q2 D t
    rw [← e3] at q3 D t'
    refine ⟨by rw [e2, e4]; exact q1, ?_⟩
    obtain ⟨h1, h2, h3, h6, h7, h8⟩ := h
    have fe : cx_fe F S1 ∧ mx_fe F S2 := ⟨h3.1.f (t.I (by omega)) (t.2 230 (by omega)).1, h3.2.f (t'.I (by omega)) (t'.2 45 (by omega)).1 (t'.2 46 (by omega)).1 (t'.2 47 (by omega)).1⟩
    have hI : LI S1 S2 := w.2.2.1.eq (t.I (by omega)) (t.2 183 (by omega)).1 (t'.I (by omega)) (t'.2 50 (by omega)).1
    have hG : LG oX gD gE S1 := w.2.2.2.1.eq (t.1 0 6 (by omega)) (t.1 0 7 (by omega))
    rcases D with ⟨ok, r1, r2, f1, f2, c1, c2, c3⟩ | ⟨r1, r2, f1, f2, c1⟩
    · exact ⟨LT.z q2 q3, w.2.1.eq f1 f2, hI, hG, Or.inl ⟨g, G, K, _, [], [], x, F, ⟨ok, h1.2.1, h1.2.2⟩, ⟨r1, r2⟩, fe, Or.inl (by rw [c1]; exact z0), Or.inl (by rw [c2]; exact z0), Or.inl (by rw [c3]; exact z0)⟩⟩
    · exact ⟨LT.z q2 q3, w.2.1.up (by decide) f1 f2, hI, hG, Or.inl ⟨g, G, K, A, L, U, x, F, h1, ⟨r1, r2⟩, fe, h6.f (fun b _ => c1 221 b (Or.inl rfl)), h7.f (fun b _ => c1 221 b (Or.inl rfl)), h8.f (fun b _ => c1 229 b (Or.inr rfl))⟩⟩
  · rw [cx_0_on h.2.1.1, no_r z5] at e1 e2
    rw [mx_0_on h.2.1.2, ref_r z5] at e3 e4
    rw [e1, e2, e3, e4]
    exact ⟨rfl, w.t0.no (by decide)⟩
theorem LI.of {l : List Int} (h1 : cx_wl l SX) (h2 : mx_wl l SM) : LI SX SM := ⟨l.length, h1.1.1, h2.1.1, by have := h1.1.2; omega, fun i hi => Int32.toInt_inj.mp (by rw [h1.2.2 i hi, (h2.2 i hi).1])⟩
theorem W_image (w : LW oX gD gE SX SM) (eX : S1 = (F_d_image oX SX).1 ∧ rX' = (F_d_image oX SX).2) (eM : S2 = (F_m_image oM SM).1 ∧ rM' = (F_m_image oM SM).2) : rX' = rM' ∧ LW oX gD gE S1 S2 := by
  obtain ⟨e1, e2⟩ := eX
  obtain ⟨e3, e4⟩ := eM
  have fin : (k_im SX S1 ∧ k_in SM S2 ∧ LI S1 S2) → LSs oX S1 S2 → LW oX gD gE S1 S2 := fun ⟨t, t', hI⟩ hS => ⟨w.1.eq (t.I (by omega)) (t.2 2 (by omega)).1 (t'.I (by omega)) (t'.2 1 (by omega)).1, w.2.1.eq (t.2 184 (by omega)).1 (t'.2 28 (by omega)).1, hI, w.2.2.2.1.eq (t.1 0 6 (by omega)) (t.1 0 7 (by omega)), hS⟩
  rcases w.2.2.2.2 with ⟨g, G, K, A, L, U, x, F, h⟩ | ⟨g, x, h⟩
  · obtain ⟨q1, r1, r2, t, t', l, l1, l2⟩ := sim_image (oM := oM) h.1.1 h.2.1.1 h.2.1.2
    rw [← e1] at r1 t l1
    rw [← e3] at r2 t' l2
    obtain ⟨h1, h2, h3, h6, h7, h8⟩ := h
    exact ⟨by rw [e2, e4]; exact q1, fin ⟨t, t', LI.of l1 l2⟩ (Or.inl ⟨g, G, K, A, L, U, x, F, h1, ⟨r1, r2⟩, ⟨h3.1.f (t.I (by omega)) (t.2 230 (by omega)).1, h3.2.f (t'.I (by omega)) (t'.2 45 (by omega)).1 (t'.2 46 (by omega)).1 (t'.2 47 (by omega)).1⟩, h6.f (fun b _ => t.I (by omega)), h7.f (fun b _ => t.I (by omega)), h8.f (fun b _ => t.I (by omega))⟩)⟩
  · have hg := w.gr h.2.1.1
    have sep := rX_sep hg
    obtain ⟨T1, y1, u1, u2, u3, u4⟩ := cx_0_image h.2.1.1 hg
    obtain ⟨T2, y2, v1, v2, v3, v4⟩ := mx_0_image (o := oM) h.2.1.2
    rw [u1] at e1 e2
    rw [v1] at e3 e4
    subst e1 e3
    refine ⟨by rw [e2, e4]; exact Int32.toInt_inj.mp (u2.trans v2.symm), fin ⟨u4, v4, LI.of u3 v3⟩ (Or.inr ⟨g, x, h.1, ⟨h.2.1.1.kk u4 (by omega) (by omega) (fun b => by omega) (fun b => by omega) (fun b => by omega) (by omega) (by omega), h.2.1.2.kk v4 (fun b hb => by omega) (fun a ha => by omega)⟩, by rw [u4.I (by omega), v4.I (by omega)]; exact h.2.2⟩)⟩
end LE
