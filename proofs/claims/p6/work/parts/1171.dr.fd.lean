/-! a mine begins: the class -/
def s_bg (G : aR) : aR := fun a b => if a = 1 then (if (b : Int) = G 0 2 then -1 else G 1 b) else if a = 3 then G 5 b else if a = 4 then G 6 b else 0
section FD
variable {o oX oM g n p k i : Nat} {G A A' : aR} {K : Nat → List Int} {L L' : s_L} {U : s_U} {S S0 S1 SX SM T : dg_S} {x x' r c v t : Int} {a a1 a2 a3 a4 y : Int32}
theorem s_bg_0 {b : Nat} : s_bg G 0 b = 0 := rfl
theorem s_bg_2 {b : Nat} : s_bg G 2 b = 0 := rfl
theorem s_bg_3 {b : Nat} : s_bg G 3 b = G 5 b := rfl
theorem s_bg_4 {b : Nat} : s_bg G 4 b = G 6 b := rfl
theorem s_bg_5 {b : Nat} : s_bg G 5 b = 0 := rfl
theorem s_bg_6 {b : Nat} : s_bg G 6 b = 0 := rfl
theorem s_bg_c (hc : s_in G c) : s_c (s_bg G) c = if c = G 0 2 then -1 else G 1 c.toNat := by
  have c0 := hc.1
  show (if ((c.toNat : Nat) : Int) = G 0 2 then (-1 : Int) else G 1 c.toNat) = _
  rw [show ((c.toNat : Nat) : Int) = c by omega]
theorem s_bg_ok (hG : s_gx G) (hK : s_cd K) : s_ok G K (s_bg G) [] := by
  have h5 := hG.2.2.2.1
  obtain ⟨⟨⟨g1, g2⟩, g3, g4⟩, ⟨s1, s2⟩, -⟩ := hG.1
  refine ⟨hG, hK, ⟨⟨⟨by rw [s_bg_0]; decide, by rw [s_bg_0]; decide⟩, ⟨by rw [s_bg_0]; decide, by rw [s_bg_0]; decide⟩, fun k _ => Or.inl rfl, fun k hk => ?_, fun k _ => Or.inl rfl, fun k _ => ⟨by rw [s_bg_6]; decide, by rw [s_bg_6]; decide⟩⟩, fun d hd => ?_, ?_⟩, fun i e h => ?_⟩
  · obtain ⟨w1, w2⟩ := hG.2.2.2.2.2.2.1 k hk
    rw [s_bg_3, s_bg_4]
    exact ⟨⟨w1.1, by omega⟩, w2⟩
  · rw [s_bg_c hd]
    have := hG.2.2.2.2.2.1 d hd
    split <;> omega
  · have hin : s_in G (G 0 2) := ⟨by omega, by omega, by omega⟩
    refine ⟨hin, ?_⟩
    rw [s_bg_c hin, if_pos rfl]
  · exact absurd h (by simp)
theorem cx_begin (hg : cx_g G K S g) (hG : s_gx G) (hp : pX p) : ∃ S1, F_p_begin o S p g = S1 ∧ k_pt p S S1 ∧ cx_pit G (s_bg G) S1 p := by
  have z0 : (0 : Int32).toInt = 0 := by decide +kernel
  have z8 : (8 : Int32).toInt = 8 := by decide +kernel
  have z100 : (100 : Int32).toInt = 100 := by decide +kernel
  have z255 : (255 : Int32).toInt = 255 := by decide +kernel
  have n0 : (0 : Int32).toNatClampNeg = 0 := by decide +kernel
  have n16 : (16 : Int32).toNatClampNeg = 16 := by decide +kernel
  have sep := rX_sep hg.1.1
  have p17 := pX_17 hp
  obtain ⟨⟨rg, f2, f8, -⟩, ⟨f0, f1, -⟩, hc, hpl, -⟩ := hg
  have hgb := hG.1.1
  have hG1 := hG.1.2
  obtain ⟨R, hR⟩ : ∃ R : Nat, (R : Int) = G 0 1 := ⟨(G 0 1).toNat, by omega⟩
  obtain ⟨C, hC⟩ : ∃ C : Nat, (C : Int) = G 0 0 := ⟨(G 0 0).toNat, by omega⟩
  obtain ⟨S2, e2⟩ : ∃ X, X = dg_uF S p 0 (.int (0 : Int32)) := ⟨_, rfl⟩
  obtain ⟨S4, e4⟩ : ∃ X, X = dg_uF S2 p 1 (.int (0 : Int32)) := ⟨_, rfl⟩
  obtain ⟨S6, e6⟩ : ∃ X, X = dg_uf S4 (p + 1) (dk_fl (S4.2.1 (p + 1)) (100 : Int32) 72) := ⟨_, rfl⟩
  have t6 : kp (fun a b => a = p ∧ b < 2) (fun a => a = p + 1) S S6 := by
    rw [e6, e4, e2]
    exact kp.uf (kp.uF (kp.uF kp.rf ⟨rfl, by decide⟩) ⟨rfl, by decide⟩) rfl
  have eg : ∀ T, kp (fun a b => a = p ∧ b < 2) (fun a => a = p + 1) S T → T.2.1 (g + 1) = S.2.1 (g + 1) := fun T t => (t.2 (g + 1) (by omega)).1
  have eI : ∀ T b, kp (fun a b => a = p ∧ b < 2) (fun a => a = p + 1) S T → zI T g b = zI S g b := fun T b t => t.I (by omega)
  rw [F_p_begin_p6 rfl rfl e2 e4 rfl e6]
  have main := lp_cnt (f := F_p_begin_B4 S g o p (zI S g 2) (zI S g 0)) (z := S) (W := R) (P := fun r T => kp (fun a b => a = p ∧ b < 2) (fun a => a = p + 1) S T ∧ (zI T p 0 = 0 ∧ zI T p 1 = 0) ∧ ∀ j, j < 72 → T.2.1 (p + 1) j = if 8 ≤ j ∧ (j - 8) / 8 < r ∧ (j - 8) % 8 < C then S.2.1 (g + 1) j else 100) (Q := fun q => ∃ T, q = F_p_begin_J1 o T g p (zI S g 2) ∧ kp (fun a b => a = p ∧ b < 2) (fun a => a = p + 1) S T ∧ (zI T p 0 = 0 ∧ zI T p 1 = 0) ∧ ∀ j, j < 72 → T.2.1 (p + 1) j = if 8 ≤ j ∧ (j - 8) / 8 < R ∧ (j - 8) % 8 < C then S.2.1 (g + 1) j else 100) (by omega) (fun r rI T hr hrI hP => by
    obtain ⟨t1, t2, t3⟩ := hP
    have e8 : ((8 : Int32) * rI).toInt = 8 * (r : Int) := dk_mulT z8 hrI (by omega) (by omega)
    have e88 : ((8 : Int32) * rI + (8 : Int32)).toInt = 8 * (r : Int) + 8 := dk_addT e8 z8 (by omega) (by omega)
    have n88 : ((8 : Int32) * rI + (8 : Int32)).toNatClampNeg = 8 * r + 8 := by rw [dk_clN, e88]; omega
    have nC : (zI S g 0).toNatClampNeg = C := by rw [dk_clN, f0]; omega
    refine ⟨_, F_p_begin_p5 rfl (fun z => by have := w_le.mp z; rw [f1] at this; omega) rfl rfl rfl rfl, kp.uf t1 rfl, t2, fun j hj => ?_⟩
    rw [w_f, if_pos rfl, n88, nC, eg T t1]
    unfold va_cpy
    by_cases q : 8 * r + 8 ≤ j ∧ j < 8 * r + 8 + C
    · rw [if_pos q, if_pos (by omega), show 8 * r + 8 + (j - (8 * r + 8)) = j by omega]
    · rw [if_neg q, t3 j hj]
      by_cases q2 : 8 ≤ j ∧ (j - 8) / 8 < r ∧ (j - 8) % 8 < C
      · rw [if_pos q2, if_pos (by omega)]
      · rw [if_neg q2, if_neg (by omega)]) (fun rI T hrI hP => ⟨_, F_p_begin_p4 rfl (w_le.mpr (by rw [f1]; omega)), T, rfl, hP⟩) ((8 - ((0 : Int32)).toInt).toNat + 1) 0 0 S6 (by rw [z0]; omega) (by omega) z0 ⟨t6, ⟨by rw [e6]; show zI S4 p 0 = 0; rw [e4, w_I0 (by omega), e2, w_I, if_pos ⟨rfl, rfl⟩], by rw [e6]; show zI S4 p 1 = 0; rw [e4, w_I, if_pos ⟨rfl, rfl⟩]⟩, fun j hj => by
    rw [e6, w_f, if_pos rfl, if_neg (by omega)]
    unfold dk_fl
    rw [if_pos hj]⟩
  obtain ⟨T, eT, tT, ⟨i0, i1⟩, rT⟩ := main
  have hseam : ¬ F_g_hasSeam o T g = (0 : Int32) := by
    rw [F_g_hasSeam_p1 rfl (fun z => by have := dk_lec (k := 0) (by decide +kernel) z; rw [eI T 0 tT, f0] at this; omega)]
    decide +kernel
  obtain ⟨S7, e7⟩ : ∃ X, X = dg_uf T (p + 1) (upd (T.2.1 (p + 1)) (zI S g 2).toNatClampNeg (255 : Int32)) := ⟨_, rfl⟩
  obtain ⟨S8, e8⟩ : ∃ X, X = dg_uf S7 (p + 2) (dk_fl (S7.2.1 (p + 2)) (0 : Int32) 6) := ⟨_, rfl⟩
  obtain ⟨S9, e9⟩ : ∃ X, X = dg_uf S8 (p + 3) (va_cpy (S8.2.1 (g + 3)) (S8.2.1 (p + 3)) (0 : Int32).toNatClampNeg (0 : Int32).toNatClampNeg (16 : Int32).toNatClampNeg) := ⟨_, rfl⟩
  obtain ⟨S10, e10⟩ : ∃ X, X = dg_uf S9 (p + 4) (va_cpy (S9.2.1 (g + 4)) (S9.2.1 (p + 4)) (0 : Int32).toNatClampNeg (0 : Int32).toNatClampNeg (16 : Int32).toNatClampNeg) := ⟨_, rfl⟩
  obtain ⟨S11, e11⟩ : ∃ X, X = dg_uf S10 (p + 5) (dk_fl (S10.2.1 (p + 5)) (0 : Int32) 5) := ⟨_, rfl⟩
  obtain ⟨S12, e12⟩ : ∃ X, X = dg_uf S11 (p + 6) (dk_fl (S11.2.1 (p + 6)) (0 : Int32) 10) := ⟨_, rfl⟩
  rw [eT, F_p_begin_p3 rfl hseam e7, F_p_begin_p1 rfl e8 e9 e10 rfl e11, F_p_begin_p0 rfl e12]
  have ro : ∀ q, q ≠ p + 1 → q ≠ p + 2 → q ≠ p + 3 → q ≠ p + 4 → q ≠ p + 5 → q ≠ p + 6 → S12.2.1 q = T.2.1 q := fun q h1 h2 h3 h4 h5 h6 => by
    rw [e12, w_f, if_neg h6, e11, w_f, if_neg h5, e10, w_f, if_neg h4, e9, w_f, if_neg h3, e8, w_f, if_neg h2, e7, w_f, if_neg h1]
  have zi : ∀ a b, zI S12 a b = zI T a b := fun a b => by
    rw [e12, e11, e10, e9, e8, e7]
    rfl
  have w1 : S12.2.1 (p + 1) = upd (T.2.1 (p + 1)) (zI S g 2).toNatClampNeg (255 : Int32) := by
    rw [e12, w_f, if_neg (show ¬ p + 1 = p + 6 by omega), e11, w_f, if_neg (show ¬ p + 1 = p + 5 by omega), e10, w_f, if_neg (show ¬ p + 1 = p + 4 by omega), e9, w_f, if_neg (show ¬ p + 1 = p + 3 by omega), e8, w_f, if_neg (show ¬ p + 1 = p + 2 by omega), e7, w_f, if_pos rfl]
  have w2 : ∀ k, k < 6 → S12.2.1 (p + 2) k = 0 := fun k hk => by
    rw [e12, w_f, if_neg (show ¬ p + 2 = p + 6 by omega), e11, w_f, if_neg (show ¬ p + 2 = p + 5 by omega), e10, w_f, if_neg (show ¬ p + 2 = p + 4 by omega), e9, w_f, if_neg (show ¬ p + 2 = p + 3 by omega), e8, w_f, if_pos rfl]
    unfold dk_fl
    rw [if_pos hk]
  have w3 : ∀ k, k < 16 → S12.2.1 (p + 3) k = S.2.1 (g + 3) k := fun k hk => by
    rw [e12, w_f, if_neg (show ¬ p + 3 = p + 6 by omega), e11, w_f, if_neg (show ¬ p + 3 = p + 5 by omega), e10, w_f, if_neg (show ¬ p + 3 = p + 4 by omega), e9, w_f, if_pos rfl, n0, n16, va_c0, if_pos hk, e8, w_f, if_neg (show ¬ g + 3 = p + 2 by omega), e7, w_f, if_neg (show ¬ g + 3 = p + 1 by omega), (tT.2 (g + 3) (by omega)).1]
  have w4 : ∀ k, k < 16 → S12.2.1 (p + 4) k = S.2.1 (g + 4) k := fun k hk => by
    rw [e12, w_f, if_neg (show ¬ p + 4 = p + 6 by omega), e11, w_f, if_neg (show ¬ p + 4 = p + 5 by omega), e10, w_f, if_pos rfl, n0, n16, va_c0, if_pos hk, e9, w_f, if_neg (show ¬ g + 4 = p + 3 by omega), e8, w_f, if_neg (show ¬ g + 4 = p + 2 by omega), e7, w_f, if_neg (show ¬ g + 4 = p + 1 by omega), (tT.2 (g + 4) (by omega)).1]
  have w5 : ∀ k, k < 5 → S12.2.1 (p + 5) k = 0 := fun k hk => by
    rw [e12, w_f, if_neg (show ¬ p + 5 = p + 6 by omega), e11, w_f, if_pos rfl]
    unfold dk_fl
    rw [if_pos hk]
  have w6 : ∀ k, k < 10 → S12.2.1 (p + 6) k = 0 := fun k hk => by
    rw [e12, w_f, if_pos rfl]
    unfold dk_fl
    rw [if_pos hk]
  refine ⟨S12, rfl, ?_, fun x0 hx0 hx1 => ?_, by rw [zi, i0]; exact z0, by rw [zi, i1]; exact z0, fun k hk => by rw [w2 k hk]; exact z0, fun k hk => ?_, fun k hk => by rw [w5 k hk]; exact z0, fun k hk => by rw [w6 k hk]; exact z0⟩
  · rw [e12, e11, e10, e9, e8, e7]
    have tw : k_pt p S T := tT.w (fun a b z => by omega) (fun a z => by omega)
    exact kp.uf (kp.uf (kp.uf (kp.uf (kp.uf (kp.uf tw (by omega)) (by omega)) (by omega)) (by omega)) (by omega)) (by omega)
  · obtain ⟨j, hj⟩ : ∃ j : Nat, x0 = j := ⟨x0.toNat, by omega⟩
    subst hj
    have sn : (zI S g 2).toNatClampNeg = (G 0 2 + 8).toNat := by rw [dk_clN, f2]
    have ev : cx_at S12 p (j : Int) = (if j = (G 0 2 + 8).toNat then (255 : Int32) else if 8 ≤ j ∧ (j - 8) / 8 < R ∧ (j - 8) % 8 < C then S.2.1 (g + 1) j else 100).toInt := by
      unfold cx_at
      rw [show ((j : Int)).toNat = j by omega, w1, w_u, sn, rT j (by omega)]
    refine ⟨fun hin => ?_, fun hn => ?_⟩
    · have hin0 := hin.1
      have hin1 := hin.2
      have e1 : S.2.1 (g + 1) j = S.2.1 (g + 1) ((j : Int) - 8 + 8).toNat := by rw [show ((j : Int) - 8 + 8).toNat = j by omega]
      have gv := hc _ hin
      rw [← e1] at gv
      have gb := hG.2.2.2.2.2.1 _ hin
      rw [ev, s_bg_c hin]
      by_cases q : (j : Int) - 8 = G 0 2
      · rw [if_pos (by omega), if_pos q, z255]
        exact ⟨rfl, by decide, by decide⟩
      · rw [if_neg (by omega), if_pos (by omega), if_neg q, gv]
        refine ⟨?_, by omega, by omega⟩
        unfold cx_en
        rw [if_neg (by omega), if_neg (by omega)]
    · rw [ev, if_neg (fun z => hn ⟨by omega, by omega, by omega⟩), if_neg (fun z => hn ⟨by omega, by omega, by omega⟩), z100]
  · have h6 := hG.1.2.2
    obtain ⟨q3, q4⟩ := hpl k hk
    rw [w3 k (by omega), w4 k (by omega), s_bg_3, s_bg_4]
    exact ⟨q3, q4⟩
end FD
