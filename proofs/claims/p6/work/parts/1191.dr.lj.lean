/-! the law: how both begin -/
/-- the class behind its constructor -/
def s_X1 (o : Nat) (S : dg_S) : Prop := cx_0 o 185 1 S ∧ zI S 229 5 = 0 ∧ (∀ k, S.2.1 184 k = 0) ∧ zI S 182 1 = 0
/-- the reference behind its own -/
def s_M1 (S : dg_S) : Prop := mx_0 1 S ∧ zI S 0 69 = 0 ∧ (∀ k, S.2.1 28 k = 0) ∧ zI S 0 76 = 0
section LJ
variable {o oX oM n k i : Nat} {S S1 SX SM : dg_S}
theorem zI_0 {a b : Nat} (h : S.1 a b = .int 0) : zI S a b = 0 := (zI_eq h).symm
theorem s_X1.mk (e : S1 = F_p_begin o S 3 185) (f6 : S.1 0 6 = .ref (o + 185)) (g0 : S.1 185 0 = .int 0) (g1 : S.1 185 1 = .int 0) (g6 : S.1 185 6 = .int 0) (g8 : S.1 185 8 = .int 0) (g11 : S.1 185 11 = .int 0) (r4 : S.2.1 4 = fun _ => 0) (r9 : S.2.1 9 = fun _ => 0) (h1 : S.1 17 1 = .int 0) (h2 : S.1 17 2 = .int 0) (x : S.1 0 12 = .int 1) (f5 : S.1 229 5 = .int 0) (r184 : S.2.1 184 = fun _ => 0) (p1 : S.1 182 1 = .int 0) : s_X1 o S1 := by
  have z0 : (0 : Int32).toInt = 0 := by decide +kernel
  obtain ⟨S2, e2⟩ : ∃ X, X = dg_uF S 3 0 (.int (0 : Int32)) := ⟨_, rfl⟩
  obtain ⟨S4, e4⟩ : ∃ X, X = dg_uF S2 3 1 (.int (0 : Int32)) := ⟨_, rfl⟩
  obtain ⟨S6, e6⟩ : ∃ X, X = dg_uf S4 (3 + 1) (dk_fl (S4.2.1 (3 + 1)) (100 : Int32) 72) := ⟨_, rfl⟩
  have t6 : kp (fun a b => a = 3 ∧ b < 2) (fun a => a = 4) S S6 := by
    rw [e6, e4, e2]
    exact kp.uf (kp.uF (kp.uF kp.rf ⟨rfl, by decide⟩) ⟨rfl, by decide⟩) rfl
  have e := e.trans (F_p_begin_p6 rfl rfl e2 e4 rfl e6)
  have e := e.trans (lp_sr (F_p_begin_p4 rfl (by rw [zI_0 g1]; decide +kernel)))
  have hs : F_g_hasSeam o S6 185 = 0 := F_g_hasSeam_p0 rfl (by rw [t6.I (by decide), zI_0 g0]; decide +kernel)
  obtain ⟨S8, e8⟩ : ∃ X, X = dg_uf S6 (3 + 2) (dk_fl (S6.2.1 (3 + 2)) (0 : Int32) 6) := ⟨_, rfl⟩
  obtain ⟨S9, e9⟩ : ∃ X, X = dg_uf S8 (3 + 3) (va_cpy (S8.2.1 (185 + 3)) (S8.2.1 (3 + 3)) (0 : Int32).toNatClampNeg (0 : Int32).toNatClampNeg (16 : Int32).toNatClampNeg) := ⟨_, rfl⟩
  obtain ⟨S10, e10⟩ : ∃ X, X = dg_uf S9 (3 + 4) (va_cpy (S9.2.1 (185 + 4)) (S9.2.1 (3 + 4)) (0 : Int32).toNatClampNeg (0 : Int32).toNatClampNeg (16 : Int32).toNatClampNeg) := ⟨_, rfl⟩
  obtain ⟨S11, e11⟩ : ∃ X, X = dg_uf S10 (3 + 5) (dk_fl (S10.2.1 (3 + 5)) (0 : Int32) 5) := ⟨_, rfl⟩
  obtain ⟨S12, e12⟩ : ∃ X, X = dg_uf S11 (3 + 6) (dk_fl (S11.2.1 (3 + 6)) (0 : Int32) 10) := ⟨_, rfl⟩
  have e := e.trans ((F_p_begin_p2 hs.symm rfl).trans ((F_p_begin_p1 rfl e8 e9 e10 rfl e11).trans (F_p_begin_p0 rfl e12)))
  subst e
  have zi : ∀ a b, zI S1 a b = zI S6 a b := fun a b => by
    rw [e12, e11, e10, e9, e8]
    rfl
  have ro : ∀ q, q ≠ 5 → q ≠ 6 → q ≠ 7 → q ≠ 8 → q ≠ 9 → S1.2.1 q = S6.2.1 q := fun q h2 h3 h4 h5 h6 => by
    rw [e12, w_f, if_neg h6, e11, w_f, if_neg h5, e10, w_f, if_neg h4, e9, w_f, if_neg h3, e8, w_f, if_neg h2]
  have v4 : ∀ k, S1.2.1 4 k = 100 ∨ S1.2.1 4 k = 0 := fun k => by
    rw [ro 4 (by decide) (by decide) (by decide) (by decide) (by decide), e6, w_f, if_pos rfl]
    unfold dk_fl
    by_cases q : k < 72
    · rw [if_pos q]
      exact Or.inl rfl
    · rw [if_neg q, e4, e2]
      exact Or.inr (congrFun r4 k)
  have v9 : ∀ k, S1.2.1 9 k = 0 := fun k => by
    rw [e12, w_f, if_pos rfl]
    unfold dk_fl
    by_cases q : k < 10
    · rw [if_pos q]
    · rw [if_neg q, e11, w_f, if_neg (by decide), e10, w_f, if_neg (by decide), e9, w_f, if_neg (by decide), e8, w_f, if_neg (by decide), (t6.2 9 (by decide)).1]
      exact congrFun r9 k
  have f0 : S1.1 0 6 = .ref (o + 185) := by
    rw [e12, e11, e10, e9, e8]
    exact (t6.1 0 6 (by decide)).trans f6
  have y0 : zI S6 3 0 = 0 := by
    rw [e6]
    show zI S4 3 0 = 0
    rw [e4, w_I0 (by decide), e2, w_I, if_pos ⟨rfl, rfl⟩]
  have y1 : zI S6 3 1 = 0 := by
    rw [e6]
    show zI S4 3 1 = 0
    rw [e4, w_I, if_pos ⟨rfl, rfl⟩]
  refine ⟨⟨(zR_eq f0).symm, ⟨?_, ?_, ?_, ?_, ?_⟩, ⟨by rw [zi]; exact y0, by rw [zi]; exact y1, v4, v9⟩, ⟨?_, ?_⟩, ?_⟩, ?_, fun k => ?_, ?_⟩
  · rw [zi, t6.I (by decide), zI_0 g0]
  · rw [zi, t6.I (by decide), zI_0 g1]
  · rw [zi, t6.I (by decide), zI_0 g6]
  · rw [zi, t6.I (by decide), zI_0 g8]
  · rw [zi, t6.I (by decide), zI_0 g11]
  · rw [zi, t6.I (by decide), zI_0 h1]
  · rw [zi, t6.I (by decide), zI_0 h2]
  · rw [zi, t6.I (by decide), ← zI_eq x]
    decide +kernel
  · rw [zi, t6.I (by decide), zI_0 f5]
  · rw [ro 184 (by decide) (by decide) (by decide) (by decide) (by decide), (t6.2 184 (by decide)).1, r184]
  · rw [zi, t6.I (by decide), zI_0 p1]
theorem s_M1.mk (f47 : S.1 0 47 = .int 0) (f61 : S.1 0 61 = .int 0) (f62 : S.1 0 62 = .long 1) (f69 : S.1 0 69 = .int 0) (f76 : S.1 0 76 = .int 0) (r2 : S.2.1 2 = fun _ => 0) (r3 : S.2.1 3 = fun _ => 0) (r8 : S.2.1 8 = fun _ => 0) (r9 : S.2.1 9 = fun _ => 0) (r12 : S.2.1 12 = fun _ => 0) (r29 : S.2.1 29 = fun _ => 0) (r30 : S.2.1 30 = fun _ => 0) (r33 : S.2.1 33 = fun _ => 0) (r38 : S.2.1 38 = fun _ => 0) (r37 : S.2.1 37 = fun _ => 0) (r28 : S.2.1 28 = fun _ => 0) : s_M1 S := by
  unfold s_M1 mx_0
  rw [r2, r3, r8, r9, r12, r29, r30, r33, r38, r37, r28]
  refine ⟨⟨zI_0 f47, ⟨rfl, rfl, rfl, rfl, rfl⟩, ⟨rfl, rfl, rfl, rfl, fun _ => rfl⟩, zI_0 f61, ?_⟩, zI_0 f69, fun _ => rfl, zI_0 f76⟩
  unfold zL
  rw [f62]
  rfl
theorem LW.start (h : s_X1 oX SX) (h2 : s_M1 SM) (tX : SX.1 1 1 = .int 0) (tM : SM.1 0 1 = .int 0) (f6 : SX.1 0 6 = .ref (oX + 185)) (f7 : SX.1 0 7 = .ref (oX + 197)) : LW oX 185 197 SX SM := by
  have z0 : (0 : Int32).toInt = 0 := by decide +kernel
  refine ⟨LT.z (by rw [zI_0 tX]; exact z0) (by rw [zI_0 tM]; exact z0), fun k _ => by rw [h.2.2.1 k, h2.2.2.1 k], ⟨0, by rw [h.2.2.2]; exact z0, by rw [h2.2.2.2]; exact z0, by decide, fun i hi => absurd hi (Nat.not_lt_zero i)⟩, ⟨⟨by unfold rX; decide, by unfold rX; decide, by decide⟩, f6, f7⟩, Or.inr ⟨185, 1, ⟨by decide, by decide⟩, ⟨h.1, h2.1⟩, by rw [h.2.1, h2.2.1]⟩⟩
end LJ
