/-! the law: the tape; SEED; FEEL, ON, IMAGE -/
theorem w_ff (y : Int32) : 0 ≤ (y &&& 255).toInt ∧ (y &&& 255).toInt ≤ 255 := by
  obtain ⟨j, hj, e⟩ := pk_andE y (m := 255) 8 (by decide +kernel)
  rw [e, nI_toInt (by omega)]
  omega
/-- one byte more -/
def s_tb (B : Nat → Int) (n : Nat) (v : Int) : Nat → Int := fun i => if i = n then v else B i
section LD
variable {o oX oM g gD gE n k i : Nat} {WF WF' : List (Nat × Nat)} {WA WA' : List Nat} {S S0 S1 S2 SX SM T : dg_S} {G A : aR} {K : Nat → List Int} {L : s_L} {U : s_U} {F : s_F} {x : Int} {a a1 a2 a3 a4 a5 c t rX' rM' : Int32} {B : Nat → Int}
def k_tX (S S1 : dg_S) : Prop := kp (fun a b => a = 1 ∧ b = 1) (fun a => a = 2) S S1
def k_tM (S S1 : dg_S) : Prop := kp (fun a b => a = 0 ∧ b = 1) (fun a => a = 1) S S1
theorem tX_1 (tp : cx_tp n B S) (hn : n + 1 ≤ 1600) (ht : t.toInt = n) (hc : ¬ c < (0 : Int32)) : ∃ S1, F_t_put_B1 a (c, t, S) = .inl (c + (-8), t + (1 : Int32), S1) ∧ cx_tp (n + 1) (s_tb B n ((a >>> (c &&& 31)) &&& 255).toInt) S1 ∧ k_tX S S1 := by
  have z1 : (1 : Int32).toInt = 1 := by decide +kernel
  have z16 : (1600 : Int32).toInt = 1600 := by decide +kernel
  have tn : t.toNatClampNeg = n := by rw [dk_clN, ht]; omega
  have t1 : (t + (1 : Int32)).toInt = (n : Int) + 1 := dk_addT ht z1 (by omega) (by omega)
  obtain ⟨w, hw⟩ : ∃ w : Int32, w = (a >>> (c &&& 31)) &&& 255 := ⟨_, rfl⟩
  obtain ⟨S2, h2⟩ : ∃ X, X = dg_uf S 2 (upd (S.2.1 2) t.toNatClampNeg w) := ⟨_, rfl⟩
  obtain ⟨S3, h3⟩ : ∃ X, X = dg_uF S2 1 1 (.int (t + (1 : Int32))) := ⟨_, rfl⟩
  refine ⟨S3, F_t_put_p2 hc (fun z => by have := w_le.mp z; omega) rfl hw h2 rfl h3 rfl, ⟨?_, by omega, fun i hi => ?_⟩, ?_⟩
  · rw [h3, w_I, if_pos ⟨rfl, rfl⟩, t1]
    rfl
  · have e : S3.2.1 2 i = if i = n then w else S.2.1 2 i := by
      rw [h3]
      show S2.2.1 2 i = _
      rw [h2, w_f, if_pos rfl, w_u, tn]
    rw [e]
    unfold s_tb
    by_cases z : i = n
    · rw [if_pos z, if_pos z, hw]
      exact ⟨rfl, w_ff _⟩
    · rw [if_neg z, if_neg z]
      exact tp.2.2 i (by omega)
  · unfold k_tX
    rw [h3, h2]
    exact kp.uF (kp.uf kp.rf rfl) ⟨rfl, rfl⟩
theorem tM_1 (tp : mx_tp n B S) (hn : n + 1 ≤ 1600) (ht : t.toInt = n) (hc : ¬ c < (0 : Int32)) : ∃ S1, F_m_put_B1 a (c, t, S) = .inl (c + (-8), t + (1 : Int32), S1) ∧ mx_tp (n + 1) (s_tb B n ((a >>> (c &&& 31)) &&& 255).toInt) S1 ∧ k_tM S S1 := by
  have z1 : (1 : Int32).toInt = 1 := by decide +kernel
  have tn : t.toNatClampNeg = n := by rw [dk_clN, ht]; omega
  have t1 : (t + (1 : Int32)).toInt = (n : Int) + 1 := dk_addT ht z1 (by omega) (by omega)
  obtain ⟨w, hw⟩ : ∃ w : Int32, w = (a >>> (c &&& 31)) &&& 255 := ⟨_, rfl⟩
  obtain ⟨S2, h2⟩ : ∃ X, X = dg_uf S 1 (upd (S.2.1 1) t.toNatClampNeg w) := ⟨_, rfl⟩
  obtain ⟨S3, h3⟩ : ∃ X, X = dg_uF S2 0 1 (.int (t + (1 : Int32))) := ⟨_, rfl⟩
  refine ⟨S3, F_m_put_p1 hc rfl hw h2 rfl h3 rfl, ⟨?_, by omega, fun i hi => ?_⟩, ?_⟩
  · rw [h3, w_I, if_pos ⟨rfl, rfl⟩, t1]
    rfl
  · have e : S3.2.1 1 i = if i = n then w else S.2.1 1 i := by
      rw [h3]
      show S2.2.1 1 i = _
      rw [h2, w_f, if_pos rfl, w_u, tn]
    rw [e]
    unfold s_tb
    by_cases z : i = n
    · rw [if_pos z, if_pos z, hw]
      exact ⟨rfl, w_ff _⟩
    · rw [if_neg z, if_neg z]
      exact tp.2.2 i (by omega)
  · unfold k_tM
    rw [h3, h2]
    exact kp.uF (kp.uf kp.rf rfl) ⟨rfl, rfl⟩
theorem t_put (tX : cx_tp n B SX) (tM : mx_tp n B SM) (hn : n + 4 ≤ 1600) : ∃ B', cx_tp (n + 4) B' (F_t_put oX SX a) ∧ mx_tp (n + 4) B' (F_m_put oM SM a) ∧ k_tX SX (F_t_put oX SX a) ∧ k_tM SM (F_m_put oM SM a) := by
  have z1 : (1 : Int32).toInt = 1 := by decide +kernel
  have c0 : ¬ (24 : Int32) < (0 : Int32) := by decide +kernel
  have c1 : ¬ (24 : Int32) + (-8) < (0 : Int32) := by decide +kernel
  have c2 : ¬ (24 : Int32) + (-8) + (-8) < (0 : Int32) := by decide +kernel
  have c3 : ¬ (24 : Int32) + (-8) + (-8) + (-8) < (0 : Int32) := by decide +kernel
  have c4 : (24 : Int32) + (-8) + (-8) + (-8) + (-8) < (0 : Int32) := by decide +kernel
  have fu : ((((24 : Int32)).toInt - (-9)).toNat + 1) = ((((29 + 1) + 1) + 1) + 1) + 1 := by decide +kernel
  have et : zI SX 1 1 = zI SM 0 1 := Int32.toInt_inj.mp (by rw [tX.1, tM.1])
  obtain ⟨t, ht⟩ : ∃ t : Int32, t = zI SX 1 1 := ⟨_, rfl⟩
  have h0 : t.toInt = n := by rw [ht]; exact tX.1
  have h1 : (t + (1 : Int32)).toInt = ((n + 1 : Nat) : Int) := by rw [dk_addT h0 z1 (by omega) (by omega)]; omega
  have h2 : (t + (1 : Int32) + (1 : Int32)).toInt = ((n + 1 + 1 : Nat) : Int) := by rw [dk_addT h1 z1 (by omega) (by omega)]; omega
  have h3 : (t + (1 : Int32) + (1 : Int32) + (1 : Int32)).toInt = ((n + 1 + 1 + 1 : Nat) : Int) := by rw [dk_addT h2 z1 (by omega) (by omega)]; omega
  obtain ⟨X1, e1, p1, q1⟩ := tX_1 (a := a) tX (by omega) h0 c0
  obtain ⟨X2, e2, p2, q2⟩ := tX_1 (a := a) p1 (by omega) h1 c1
  obtain ⟨X3, e3, p3, q3⟩ := tX_1 (a := a) p2 (by omega) h2 c2
  obtain ⟨X4, e4, p4, q4⟩ := tX_1 (a := a) p3 (by omega) h3 c3
  obtain ⟨M1, f1, r1, s1⟩ := tM_1 (a := a) tM (by omega) h0 c0
  obtain ⟨M2, f2, r2, s2⟩ := tM_1 (a := a) r1 (by omega) h1 c1
  obtain ⟨M3, f3, r3, s3⟩ := tM_1 (a := a) r2 (by omega) h2 c2
  obtain ⟨M4, f4, r4, s4⟩ := tM_1 (a := a) r3 (by omega) h3 c3
  have EX : F_t_put oX SX a = X4 := by
    rw [F_t_put_p3 ht, fu, lp_sl e1, lp_sl e2, lp_sl e3, lp_sl e4]
    exact lp_sr (F_t_put_p0 c4)
  have EM : F_m_put oM SM a = M4 := by
    rw [F_m_put_p2 (ht.trans et), fu, lp_sl f1, lp_sl f2, lp_sl f3, lp_sl f4]
    exact lp_sr (F_m_put_p0 c4)
  rw [EX, EM]
  exact ⟨_, p4, r4, q1.tr (q2.tr (q3.tr q4)), s1.tr (s2.tr (s3.tr s4))⟩
theorem mx_gf.k2 (h : mx_gf G K S) (e47 : zI S1 0 47 = zI S 0 47) (e13 : zI S1 0 13 = zI S 0 13) (e : ∀ i, i ≠ 1 → i ≤ 19 → S1.2.1 i = S.2.1 i) : mx_gf G K S1 := by
  have z : ∀ T : dg_S, mx_gf G K (dg_uf T 1 (S.2.1 1)) → (∀ i, i ≠ 1 → (dg_uf T 1 (S.2.1 1)).2.1 i = T.2.1 i) → mx_gf G K T := by
    intro T h q
    unfold mx_gf mx_g mx_gd mx_code mx_c1 at h ⊢
    rw [q 2 (by decide), q 3 (by decide), q 4 (by decide), q 5 (by decide), q 6 (by decide), q 7 (by decide), q 8 (by decide), q 9 (by decide), q 10 (by decide), q 11 (by decide), q 12 (by decide), q 13 (by decide), q 14 (by decide), q 15 (by decide), q 16 (by decide), q 17 (by decide), q 18 (by decide), q 19 (by decide)] at h
    exact h
  refine z S1 (h.keep e47 e13 (fun i hi => ?_)) (fun i hi => by rw [w_f, if_neg hi])
  rw [w_f]
  by_cases q : i = 1
  · rw [if_pos q, q]
  · rw [if_neg q]
    exact e i q hi
theorem RM.tape (h : RM G K A L U x S) (hb : G 0 6 ≤ 16) (t : k_tM S S1) : RM G K A L U x S1 := by
  obtain ⟨h1, h2, h3, h4, h5⟩ := h
  exact ⟨h1.k2 (t.I (by omega)) (t.I (by omega)) (fun i hi _ => (t.2 i hi).1), h2.keep hb (fun a a0 a1 j _ _ => by rw [(t.2 a (by omega)).1]), h3.keep hb (t.I (by omega)) (t.I (by omega)) (fun a a0 a1 j _ => by rw [(t.2 a (by omega)).1]), by rw [t.I (by omega)]; exact h4, by rw [t.L (by omega)]; exact h5⟩
/-- the tape alone is written -/
theorem LSy.tape (h : LSy oX g G K A L U x F SX SM) (t : k_tX SX S1) (t' : k_tM SM S2) : LSy oX g G K A L U x F S1 S2 := by
  have sep := rX_sep h.2.1.1.2.1.1.1
  obtain ⟨h1, ⟨h2, h3⟩, ⟨h4, h5⟩, h6, h7, h8⟩ := h
  exact ⟨h1, ⟨h2.keep t (by omega) (by omega) (fun a b _ _ => by omega) (fun b => by omega) (fun b => by omega) (fun a b _ _ => by omega) (fun a _ _ => by omega) (fun a _ _ => by omega) (by omega) (fun a _ _ => by omega), h3.tape h1.1.1.1.2.2.2 t'⟩, ⟨h4.f (t.I (by omega)) (t.2 230 (by omega)).1, h5.f (t'.I (by omega)) (t'.2 45 (by omega)).1 (t'.2 46 (by omega)).1 (t'.2 47 (by omega)).1⟩, h6.f (fun b _ => t.I (by omega)), h7.f (fun b _ => t.I (by omega)), h8.f (fun b _ => t.I (by omega))⟩
theorem LSn.tape (h : LSn oX g x SX SM) (hg : rX g) (t : k_tX SX S1) (t' : k_tM SM S2) : LSn oX g x S1 S2 := by
  have sep := rX_sep hg
  exact ⟨h.1, ⟨h.2.1.1.kk t (by omega) (by omega) (fun b => by omega) (fun b => by omega) (fun b => by omega) (by omega) (by omega), h.2.1.2.kk t' (fun b hb => by omega) (fun a ha => by omega)⟩, by rw [t.I (by omega), t'.I (by omega)]; exact h.2.2⟩
theorem LW.gr (w : LW oX gD gE SX SM) (h : cx_0 oX g x SX) : rX g := by
  have e := zR_eq w.2.2.2.1.2.1
  rw [← h.1, ← e]
  exact w.2.2.2.1.1.1
theorem LW.tape (w : LW oX gD gE SX SM) (t : k_tX SX S1) (t' : k_tM SM S2) (hT : LT S1 S2) : LW oX gD gE S1 S2 := by
  refine ⟨hT, w.2.1.eq (t.2 184 (by omega)).1 (t'.2 28 (by omega)).1, w.2.2.1.eq (t.I (by omega)) (t.2 183 (by omega)).1 (t'.I (by omega)) (t'.2 50 (by omega)).1, w.2.2.2.1.eq (t.1 0 6 (by omega)) (t.1 0 7 (by omega)), ?_⟩
  rcases w.2.2.2.2 with ⟨g, G, K, A, L, U, x, F, h⟩ | ⟨g, x, h⟩
  · exact Or.inl ⟨g, G, K, A, L, U, x, F, h.tape t t'⟩
  · exact Or.inr ⟨g, x, h.tape (w.gr h.2.1.1) t t'⟩
theorem LW.no (w : LW oX gD gE SX SM) (hk : k < 6) : LW oX gD gE (r_X k SX) (r_M k SM) := by
  have t := r_X.kp (k := k) (S := SX)
  have t' := r_M.kp (k := k) (S := SM)
  exact ⟨w.1.eq (t.I id) (t.2 2 (by decide)).1 (t'.I id) (t'.2 1 (by decide)).1, w.2.1.no hk, w.2.2.1.eq (t.I id) (t.2 183 (by decide)).1 (t'.I id) (t'.2 50 (by decide)).1, w.2.2.2.1.eq (t.1 0 6 id) (t.1 0 7 id), w.2.2.2.2.no⟩
theorem LT.z (h1 : (zI SX 1 1).toInt = 0) (h2 : (zI SM 0 1).toInt = 0) : LT SX SM := ⟨0, fun _ => 0, ⟨h1, by decide, fun i hi => absurd hi (Nat.not_lt_zero _)⟩, h2, by decide, fun i hi => absurd hi (Nat.not_lt_zero _)⟩
theorem LW.t0 (w : LW oX gD gE SX SM) : LW oX gD gE (dg_uF SX 1 1 (.int (0 : Int32))) (dg_uF SM 0 1 (.int (0 : Int32))) := by
  have z0 : (0 : Int32).toInt = 0 := by decide +kernel
  exact w.tape (kp.uF kp.rf ⟨rfl, rfl⟩) (kp.uF kp.rf ⟨rfl, rfl⟩) (LT.z (by rw [w_I, if_pos ⟨rfl, rfl⟩]; exact z0) (by rw [w_I, if_pos ⟨rfl, rfl⟩]; exact z0))
theorem W_feed (w : LW oX gD gE SX SM) (eX : S1 = (F_d_feed oX SX a1 a2 a3 a4 a5).1 ∧ rX' = (F_d_feed oX SX a1 a2 a3 a4 a5).2) (eM : S2 = (F_m_feed oM SM a1 a2 a3 a4 a5).1 ∧ rM' = (F_m_feed oM SM a1 a2 a3 a4 a5).2) : rX' = rM' ∧ LW oX gD gE S1 S2 := by
  have z0 : (0 : Int32).toInt = ((0 : Nat) : Int) := by decide +kernel
  have z20 : (20 : Int32).toInt = 20 := by decide +kernel
  have z16 : (1600 : Int32).toInt = 1600 := by decide +kernel
  obtain ⟨n, B, tX, tM⟩ := id w.1
  have n9 := tX.2.1
  have x1 : (zI SX 1 1 + (20 : Int32)).toInt = (n : Int) + 20 := dk_addT tX.1 z20 (by omega) (by omega)
  have m1 : (zI SM 0 1 + (20 : Int32)).toInt = (n : Int) + 20 := dk_addT tM.1 z20 (by omega) (by omega)
  obtain ⟨e1, e2⟩ := eX
  obtain ⟨e3, e4⟩ := eM
  by_cases q : n + 20 ≤ 1600
  · have qX : zI SX 1 1 + (20 : Int32) ≤ (1600 : Int32) := w_le.mpr (by omega)
    have qM : zI SM 0 1 + (20 : Int32) ≤ (1600 : Int32) := w_le.mpr (by omega)
    obtain ⟨B1, p1, r1, k1, j1⟩ := t_put (oX := oX) (oM := oM) (a := a1) tX tM (by omega)
    obtain ⟨B2, p2, r2, k2, j2⟩ := t_put (oX := oX) (oM := oM) (a := a2) p1 r1 (by omega)
    obtain ⟨B3, p3, r3, k3, j3⟩ := t_put (oX := oX) (oM := oM) (a := a3) p2 r2 (by omega)
    obtain ⟨B4, p4, r4, k4, j4⟩ := t_put (oX := oX) (oM := oM) (a := a4) p3 r3 (by omega)
    obtain ⟨B5, p5, r5, k5, j5⟩ := t_put (oX := oX) (oM := oM) (a := a5) p4 r4 (by omega)
    rw [F_d_feed_p1 rfl rfl qX rfl rfl rfl rfl, F_d_feed_p0 rfl rfl] at e1 e2
    rw [F_m_feed_p1 rfl rfl qM rfl rfl rfl rfl, F_m_feed_p0 rfl rfl] at e3 e4
    rw [e1, e2, e3, e4]
    exact ⟨Int32.toInt_inj.mp (p5.1.trans r5.1.symm), w.tape (k1.tr (k2.tr (k3.tr (k4.tr k5)))) (j1.tr (j2.tr (j3.tr (j4.tr j5)))) ⟨_, B5, p5, r5⟩⟩
  · have qX : ¬ zI SX 1 1 + (20 : Int32) ≤ (1600 : Int32) := fun z => by have := w_le.mp z; omega
    have qM : ¬ zI SM 0 1 + (20 : Int32) ≤ (1600 : Int32) := fun z => by have := w_le.mp z; omega
    rw [F_d_feed_p2 rfl rfl qX rfl rfl, none_r z0] at e1 e2
    rw [F_m_feed_p2 rfl rfl qM rfl rfl, ref_r z0] at e3 e4
    rw [e1, e2, e3, e4]
    exact ⟨rfl, w.no (by decide)⟩
theorem W_end (w : LW oX gD gE SX SM) (eX : S1 = (F_d_end oX SX a1).1 ∧ rX' = (F_d_end oX SX a1).2) (eM : S2 = (F_m_end oM SM a1).1 ∧ rM' = (F_m_end oM SM a1).2) : rX' = rM' ∧ LW oX gD gE S1 S2 := by
  have z0 : (0 : Int32).toInt = ((0 : Nat) : Int) := by decide +kernel
  obtain ⟨n, B, tX, tM⟩ := id w.1
  have n9 := tX.2.1
  have tX1 := tX.1
  have tM1 := tM.1
  obtain ⟨e1, e2⟩ := eX
  obtain ⟨e3, e4⟩ := eM
  by_cases q : a1 < (0 : Int32)
  · rw [F_d_end_p0 q rfl rfl, no_r z0] at e1 e2
    rw [F_m_end_p0 q rfl, ref_r z0] at e3 e4
    rw [e1, e2, e3, e4]
    exact ⟨rfl, w.no (by decide)⟩
  have d : ¬ a1.toInt < (0 : Int32).toInt := fun z => q (w_lt.mpr z)
  by_cases q2 : a1 ≤ zI SX 1 1
  · have d2 := w_le.mp q2
    have qM : a1 ≤ zI SM 0 1 := w_le.mpr (by omega)
    rw [F_d_end_p1 rfl q q2 rfl] at e1 e2
    rw [F_m_end_p1 rfl q qM rfl] at e3 e4
    rw [e1, e2, e3, e4]
    refine ⟨rfl, w.tape (kp.uF kp.rf ⟨rfl, rfl⟩) (kp.uF kp.rf ⟨rfl, rfl⟩) ⟨a1.toInt.toNat, B, ⟨?_, by omega, fun i hi => tX.2.2 i (by omega)⟩, ?_, by omega, fun i hi => tM.2.2 i (by omega)⟩⟩
    · rw [w_I, if_pos ⟨rfl, rfl⟩]
      omega
    · rw [w_I, if_pos ⟨rfl, rfl⟩]
      omega
  · have d2 : ¬ a1.toInt ≤ (zI SX 1 1).toInt := fun z => q2 (w_le.mpr z)
    have qM : ¬ a1 ≤ zI SM 0 1 := fun z => by have := w_le.mp z; omega
    rw [F_d_end_p2 rfl q q2 rfl rfl, no_r z0] at e1 e2
    rw [F_m_end_p2 rfl q qM rfl, ref_r z0] at e3 e4
    rw [e1, e2, e3, e4]
    exact ⟨rfl, w.no (by decide)⟩
theorem W_seed (w : LW oX gD gE SX SM) (eX : S1 = (F_d_seed oX SX a1).1 ∧ rX' = (F_d_seed oX SX a1).2) (eM : S2 = (F_m_seed oM SM a1).1 ∧ rM' = (F_m_seed oM SM a1).2) : rX' = rM' ∧ LW oX gD gE S1 S2 := by
  have z0 : (0 : Int32).toInt = 0 := by decide +kernel
  have z5 : (5 : Int32).toInt = ((5 : Nat) : Int) := by decide +kernel
  have hf := dk_full a1
  obtain ⟨e1, e2⟩ := eX
  obtain ⟨e3, e4⟩ := eM
  by_cases q : (0 : Int32) ≤ a1
  · have d := dk_gec z0 q
    rw [F_d_seed_p0 q rfl] at e1 e2
    rw [F_m_seed_p0 q rfl rfl] at e3 e4
    have t : kp (fun a b => a = 0 ∧ b = 12) (fun _ => False) SX S1 := by rw [e1]; exact kp.uF kp.rf ⟨rfl, rfl⟩
    have t' : kp (fun a b => a = 0 ∧ b = 62) (fun _ => False) SM S2 := by rw [e3]; exact kp.uF kp.rf ⟨rfl, rfl⟩
    have v : (zI S1 0 12).toInt = a1.toInt := by rw [e1, w_I, if_pos ⟨rfl, rfl⟩]
    have v' : (zL S2 0 62).toInt = a1.toInt := by
      rw [e3]
      unfold zL
      rw [w_F, if_pos ⟨rfl, rfl⟩]
      exact Int32.toInt_toInt64 a1
    refine ⟨by rw [e2, e4], w.1.eq (t.I (by omega)) (t.2 2 id).1 (t'.I (by omega)) (t'.2 1 id).1, w.2.1.eq (t.2 184 id).1 (t'.2 28 id).1, w.2.2.1.eq (t.I (by omega)) (t.2 183 id).1 (t'.I (by omega)) (t'.2 50 id).1, w.2.2.2.1.eq (t.1 0 6 (by omega)) (t.1 0 7 (by omega)), ?_⟩
    rcases w.2.2.2.2 with ⟨g, G, K, A, L, U, x, F, h⟩ | ⟨g, x, h⟩
    · obtain ⟨h1, ⟨h2, h3⟩, ⟨h4, h5⟩, h6, h7, h8⟩ := h
      exact Or.inl ⟨g, G, K, A, L, U, a1.toInt, F, ⟨h1.1, ⟨d, by omega⟩, h1.2.2⟩, ⟨h2.sx t v, h3.sx h1.1.1.1.2.2.2 t' v'⟩, ⟨h4.f (t.I (by omega)) (t.2 230 id).1, h5.f (t'.I (by omega)) (t'.2 45 id).1 (t'.2 46 id).1 (t'.2 47 id).1⟩, h6.f (fun b _ => t.I (by omega)), h7.f (fun b _ => t.I (by omega)), h8.f (fun b _ => t.I (by omega))⟩
    · have sep := rX_sep (w.gr h.2.1.1)
      obtain ⟨h1, ⟨⟨u1, u2, u3, u4, u5⟩, v1, v2, v3, v4, v5⟩, h4⟩ := h
      have e13 : zI S2 0 13 = zI SM 0 13 := t'.I (by omega)
      refine Or.inr ⟨g, a1.toInt, ⟨d, by omega⟩, ⟨⟨by rw [t.R (by omega)]; exact u1, ⟨by rw [t.I (by omega)]; exact u2.1, by rw [t.I (by omega)]; exact u2.2.1, by rw [t.I (by omega)]; exact u2.2.2.1, by rw [t.I (by omega)]; exact u2.2.2.2.1, by rw [t.I (by omega)]; exact u2.2.2.2.2⟩, ⟨by rw [t.I (by omega)]; exact u3.1, by rw [t.I (by omega)]; exact u3.2.1, fun k => by rw [(t.2 4 id).1]; exact u3.2.2.1 k, fun k => by rw [(t.2 9 id).1]; exact u3.2.2.2 k⟩, ⟨by rw [t.I (by omega)]; exact u4.1, by rw [t.I (by omega)]; exact u4.2⟩, v⟩, by rw [t'.I (by omega)]; exact v1, ⟨by rw [e13, (t'.2 2 id).1]; exact v2.1, by rw [e13, (t'.2 3 id).1]; exact v2.2.1, by rw [e13, (t'.2 8 id).1]; exact v2.2.2.1, by rw [e13, (t'.2 9 id).1]; exact v2.2.2.2.1, by rw [e13, (t'.2 12 id).1]; exact v2.2.2.2.2⟩, ⟨by rw [(t'.2 29 id).1]; exact v3.1, by rw [(t'.2 30 id).1]; exact v3.2.1, by rw [(t'.2 33 id).1]; exact v3.2.2.1, by rw [(t'.2 38 id).1]; exact v3.2.2.2.1, fun k => by rw [(t'.2 37 id).1]; exact v3.2.2.2.2 k⟩, by rw [t'.I (by omega)]; exact v4, v'⟩, by rw [t.I (by omega), t'.I (by omega)]; exact h4⟩
  · rw [F_d_seed_p1 q rfl rfl, no_r z5] at e1 e2
    rw [F_m_seed_p1 q rfl, ref_r z5] at e3 e4
    rw [e1, e2, e3, e4]
    exact ⟨rfl, w.no (by decide)⟩
end LD
