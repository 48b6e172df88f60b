/-! the law: MINE -/
section LI
variable {o oX oM g gD gE n k i tn m1 m2 : Nat} {WF WF2 WF3 WF4 WF5 : List (Nat × Nat)} {WA WA2 WA3 WA4 WA5 : List Nat} {S S0 S1 S2 SX SM T : dg_S} {G A : aR} {K : Nat → List Int} {L : s_L} {U : s_U} {F : s_F} {x : Int} {rX' rM' : Int32} {f1 f2 : Nat → Int32} {TX : Option (Nat × y_S)}
/-- a text that is refused -/
theorem LW.mineNo (w : LW oX gD gE SX SM) (tX : (zI (r_X 1 S1) 1 1).toInt = 0) (tM : (zI (r_M 1 S2) 0 1).toInt = 0) (f6 : (r_X 1 S1).1 0 6 = .ref (oX + gD)) (f7 : (r_X 1 S1).1 0 7 = .ref (oX + gE)) (go : GOX SX gD (r_X 1 S1)) (g9 : G9X SX gD (r_X 1 S1)) (gb : GBM SM (r_M 1 S2)) (g8 : G8M SM (r_M 1 S2)) (m1 : dg_sm shX WF WA SX S1) (m2 : dg_sm shM WF2 WA2 SM S2)
    (c1 : WF.all (fun p => decide (p.1 = 1 ∨ (p.1 = 0 ∧ (p.2 = 6 ∨ p.2 = 7)) ∨ 19 ≤ p.1)) = true) (c2 : WA.all (fun r => decide (19 ≤ r)) = true) (c3 : ckS WF) (c4 : 45 ∉ WA) (c5 : WA2.all (fun r => decide (2 ≤ r ∧ r ≤ 27)) = true) (c6 : (0, 60) ∉ WF2 ∧ (0, 61) ∉ WF2 ∧ (0, 62) ∉ WF2 ∧ (0, 63) ∉ WF2 ∧ (0, 69) ∉ WF2 ∧ (0, 76) ∉ WF2) : LW oX gD gE (r_X 1 S1) (r_M 1 S2) := by
  have t1 := sm_kX m1 c1 c2
  have t2 := sm_kM m2 c5
  have t1' : kp (fun a b => a = 1 ∨ (a = 0 ∧ (b = 6 ∨ b = 7)) ∨ 185 ≤ a) (fun a => 184 ≤ a) SX (r_X 1 S1) := (t1.w (fun a b z => z) (fun a z => by omega)).tr (r_X.kp.w (fun a b z => z.elim) (fun a z => by omega))
  have t2' : kp (fun a b => (a, b) ∈ WF2 ∨ 51 ≤ a) (fun a => (2 ≤ a ∧ a ≤ 28) ∨ 51 ≤ a) SM (r_M 1 S2) := (t2.w (fun a b z => z) (fun a z => by omega)).tr (r_M.kp.w (fun a b z => z.elim) (fun a z => by omega))
  have sk := k_sk.m m1 c3 c4
  have s221 : ∀ b, zI (r_X 1 S1) 221 b = zI SX 221 b := fun b => sk.1 b
  have s229 : ∀ b, zI (r_X 1 S1) 229 b = zI SX 229 b := fun b => sk.2.1 b
  have s230 : (r_X 1 S1).2.1 230 = SX.2.1 230 := by
    unfold r_X
    rw [w_f, if_neg (by decide)]
    exact sk.2.2
  have no : ∀ b, (0, b) ∉ WF2 → zI (r_M 1 S2) 0 b = zI SM 0 b := fun b hb => t2'.I (fun z => by
    rcases z with z | z
    · exact hb z
    · omega)
  have e69 := no 69 c6.2.2.2.2.1
  refine ⟨LT.z tX tM, w.2.1.up (k := 1) (by decide) ?_ ?_, w.2.2.1.eq (t1'.I (by omega)) (t1'.2 183 (by omega)).1 (no 76 c6.2.2.2.2.2) (t2'.2 50 (by omega)).1, ⟨w.2.2.2.1.1, f6, f7⟩, ?_⟩
  · unfold r_X
    rw [w_f, if_pos rfl, (t1.2 184 (by omega)).1]
  · unfold r_M
    rw [w_f, if_pos rfl, (t2.2 28 (by omega)).1]
  rcases w.2.2.2.2 with ⟨g, G, K, A, L, U, x, F, h⟩ | ⟨g, x, h⟩
  · obtain ⟨h1, ⟨⟨x1, x2, x3, x4, x5, x6⟩, y1, y2, y3, y4, y5⟩, ⟨h4, h5⟩, h6, h7, h8⟩ := h
    have eg : g = gD := x1.symm.trans (zR_eq w.2.2.2.1.2.1).symm
    subst eg
    have hb := h1.1.1.1.2.2.2
    have h17 := h1.1.1.2.2.2.2.1
    refine Or.inl ⟨g, G, K, A, L, U, x, F, h1, ⟨⟨(zR_eq f6).symm, x2.go go g9, x3.keep (fun i i0 i1 => (t1'.2 i (by omega)).1) (fun b _ => t1'.I (by omega)), x4.keep (t1'.I (by omega)) (t1'.2 18 (by omega)).1, x5.keep (t1'.I (by omega)) (t1'.I (by omega)) (fun i i0 i1 => (t1'.2 i (by omega)).1) (fun a b a0 a1 => t1'.I (by omega)), by rw [t1'.I (by omega)]; exact x6⟩, ⟨y1.gb hb h17.2 gb g8, y2.keep hb (fun a a0 a1 j _ _ => by rw [(t2'.2 a (by omega)).1]), y3.keep hb (no 60 c6.1) (no 61 c6.2.1) (fun a a0 a1 j _ => by rw [(t2'.2 a (by omega)).1]), by rw [no 63 c6.2.2.2.1]; exact y4, ?_⟩⟩, ⟨h4.f (s229 5) s230, h5.f e69 (t2'.2 45 (by omega)).1 (t2'.2 46 (by omega)).1 (t2'.2 47 (by omega)).1⟩, h6.f (fun b _ => s221 b), h7.f (fun b _ => s221 b), h8.f (fun b _ => s229 b)⟩
    rw [t2'.L (fun z => by
      rcases z with z | z
      · exact c6.2.2.1 z
      · omega)]
    exact y5
  · obtain ⟨hx, ⟨⟨x1, ⟨a0, a1, a6, a8, a11⟩, ⟨p0, p1, p4, p9⟩, ⟨q1, q2⟩, x6⟩, y⟩, h5⟩ := h
    have eg : g = gD := x1.symm.trans (zR_eq w.2.2.2.1.2.1).symm
    subst eg
    refine Or.inr ⟨g, x, hx, ⟨⟨(zR_eq f6).symm, ⟨by rw [go.zf]; exact a0, by rw [go.zf]; exact a1, by rw [go.zf]; exact a6, by rw [go.zf]; exact a8, by rw [go.zf]; exact a11⟩, ⟨by rw [t1'.I (by omega)]; exact p0, by rw [t1'.I (by omega)]; exact p1, fun k => by rw [(t1'.2 4 (by omega)).1]; exact p4 k, fun k => by rw [(t1'.2 9 (by omega)).1]; exact p9 k⟩, ⟨by rw [t1'.I (by omega)]; exact q1, by rw [t1'.I (by omega)]; exact q2⟩, by rw [t1'.I (by omega)]; exact x6⟩, y.gb gb (t2'.2 29 (by omega)).1 (t2'.2 30 (by omega)).1 (t2'.2 33 (by omega)).1 (t2'.2 38 (by omega)).1 (t2'.2 37 (by omega)).1 (no 61 c6.2.1) (t2'.L (fun z => by
      rcases z with z | z
      · exact c6.2.2.1 z
      · omega))⟩, by rw [s229 5, e69]; exact h5⟩
theorem LW.sd (w : LW oX gD gE SX SM) : ∃ x : Int, (0 ≤ x ∧ x < 2147483648) ∧ (zI SX 0 12).toInt = x ∧ (zL SM 0 62).toInt = x := by
  rcases w.2.2.2.2 with ⟨g, G, K, A, L, U, x, F, h⟩ | ⟨g, x, h⟩
  · exact ⟨x, h.1.2.1, h.2.1.1.2.2.2.2.2, h.2.1.2.2.2.2.2⟩
  · exact ⟨x, h.1, h.2.1.1.2.2.2.2, h.2.1.2.2.2.2.2⟩
theorem sX_17' : shX[17]? = some (0, 3, 7, 10) := by decide +kernel
/-- a text that is taken: behind begin -/
theorem LW.mineYes {σ : y_S} {d : k_D} {b9 : Int32} (w : LW oX gD gE SX SM) (H : kOK σ d) (hkx : kx d S gE) (IX : CX oX S) (m1 : dg_sm shX WF WA SX S) (eX : S1 = F_d_forgetTrials oX (dg_uF (F_h_clear oX (F_p_begin oX S 3 gE)) 229 5 (.int 0))) (f6 : S1.1 0 6 = .ref (oX + gE)) (f7 : S1.1 0 7 = .ref (oX + gD)) (tX : (zI S1 1 1).toInt = 0)
    (f13 : T.1 0 13 = .int b9) (f35 : T.1 0 35 = .int b9) (f47 : T.1 0 47 = .int 1) (IM : CM oM T) (ZW : ZWM T) (es : σ = GSv T b9.toNatClampNeg) (hkm : km d T) (m3 : dg_sm shM WF3 WA3 SM T) (eM : S2 = F_m_begin oM T) (tM : (zI S2 0 1).toInt = 0)
    (c1 : WF.all (fun p => decide (p.1 = 1 ∨ (p.1 = 0 ∧ (p.2 = 6 ∨ p.2 = 7)) ∨ 19 ≤ p.1)) = true) (c2 : WA.all (fun r => decide (19 ≤ r)) = true) (c5 : WA3.all (fun r => decide (2 ≤ r ∧ r ≤ 27)) = true) (c6 : (0, 62) ∉ WF3 ∧ (0, 76) ∉ WF3) : LW oX gE gD S1 S2 := by
  have z0 : (0 : Int32).toInt = 0 := by decide +kernel
  have t1 := sm_kX m1 c1 c2
  have t2 := sm_kM m3 c5
  have hg := hkx.1.1
  have sep := rX_sep hg
  obtain ⟨y, fy, -, by1⟩ := dg_I.int (k := 7) (lo := 0) (hi := 1600) IX sX_209 (by decide +kernel)
  have cg := hkx.gg (by rw [← zI_eq fy]; exact by1)
  obtain ⟨hG, hK⟩ := H.gx
  obtain ⟨x, hx, ex, ey⟩ := w.sd
  obtain ⟨nx, fn, nx0, nx1⟩ := dg_I.int (k := 3) (lo := 0) (hi := 19) IX sX_17' (by decide +kernel)
  obtain ⟨B1, eB, kB, pB⟩ := cx_begin (o := oX) (p := 3) cg hG pX_3'
  rw [eB] at eX
  obtain ⟨V1, v1⟩ : ∃ X, X = dg_uF B1 17 1 (.int (0 : Int32)) := ⟨_, rfl⟩
  obtain ⟨V2, v2⟩ : ∃ X, X = dg_uF V1 17 2 (.int (0 : Int32)) := ⟨_, rfl⟩
  obtain ⟨V3, v3⟩ : ∃ X, X = dg_uF V2 229 5 (.int (0 : Int32)) := ⟨_, rfl⟩
  have ec : F_h_clear oX B1 = V2 := by rw [v2, v1]; rfl
  rw [ec, ← v3] at eX
  have kf := cx_forget (o := oX) (S := V3)
  rw [← eX] at kf
  have kv : kp (fun a b => (a = 17 ∧ (b = 1 ∨ b = 2)) ∨ (a = 229 ∧ b = 5)) (fun _ => False) B1 V3 := by
    rw [v3, v2, v1]
    exact kp.uF (kp.uF (kp.uF kp.rf (by omega)) (by omega)) (by omega)
  have kS : kp (fun a b => (a = 17 ∧ (b = 1 ∨ b = 2)) ∨ (a = 229 ∧ (b = 4 ∨ b = 5)) ∨ (a = 221 ∧ (b = 2 ∨ b = 3))) (fun _ => False) B1 S1 := (kv.w (fun a b z => by omega) (fun a z => z)).tr (kf.w (fun a b z => by omega) (fun a z => z))
  have kA : kp (fun a b => (a = 3 ∧ b < 2) ∨ (a = 17 ∧ (b = 1 ∨ b = 2)) ∨ (a = 229 ∧ (b = 4 ∨ b = 5)) ∨ (a = 221 ∧ (b = 2 ∨ b = 3))) (fun a => 3 < a ∧ a ≤ 9) S S1 := (kB.w (fun a b z => by omega) (fun a z => by omega)).tr (kS.w (fun a b z => by omega) (fun a z => z.elim))
  have eF : S1 = dg_uF (dg_uF (dg_uF V3 221 2 (.int 0)) 221 3 (.int 0)) 229 4 (.int 0) := by
    rw [eX, F_d_forgetTrials_p0 rfl rfl, F_e_forget_p0 rfl, F_f_forget_p0 rfl rfl]
  have gf := km.gf f13 f35 f47 IM ZW es H hkm
  obtain ⟨Y, eY, kY, gY, lY, y63, y61, y69⟩ := mx_begin (o := oM) gf hG
  rw [eY] at eM
  subst eM
  obtain ⟨ny, gn, ny0, ny1⟩ := dg_I.int (k := 60) (lo := 0) (hi := 19) IM sM_0 (by decide +kernel)
  have no : ∀ b, (0, b) ∉ WF3 → zI T 0 b = zI SM 0 b := fun b hb => t2.I (fun z => by
    rcases z with z | z
    · exact hb z
    · omega)
  have ok := s_bg_ok hG hK
  refine ⟨LT.z tX tM, w.2.1.eq ((kA.2 184 (by omega)).1.trans (t1.2 184 (by omega)).1) ((kY.2 28 (by omega)).1.trans (t2.2 28 (by omega)).1), w.2.2.1.eq ((kA.I (by omega)).trans (t1.I (by omega))) ((kA.2 183 (by omega)).1.trans (t1.2 183 (by omega)).1) ((kY.I (by omega)).trans (no 76 c6.2)) ((kY.2 50 (by omega)).1.trans (t2.2 50 (by omega)).1), ⟨⟨hg, w.2.2.2.1.1.1, fun z => w.2.2.2.1.1.2.2 z.symm⟩, f6, f7⟩, Or.inl ⟨gE, d.1, d.2, s_bg d.1, [], [], x, [], ⟨ok, hx, by decide, fun i hi => absurd hi (Nat.not_lt_zero i)⟩, ⟨⟨(zR_eq f6).symm, ?_, ?_, ⟨?_, by decide, fun i hi => absurd hi (Nat.not_lt_zero i)⟩, ⟨?_, by decide, nx.toInt.toNat, by omega, ?_, fun i e he => by simp at he⟩, ?_⟩, ⟨gY, lY, ⟨y61, by decide, ny.toInt.toNat, by omega, ?_, fun i e he => by simp at he⟩, y63, ?_⟩⟩, ⟨⟨?_, fun i hi => absurd hi (Nat.not_lt_zero i)⟩, y69, fun i hi => absurd hi (Nat.not_lt_zero i)⟩, Or.inl ?_, Or.inl ?_, Or.inl ?_⟩⟩
  · exact cg.keep (fun i i0 i1 => (kA.2 i (by omega)).1) (fun b => kA.I (by omega))
  · exact pB.keep (fun i _ _ => (kS.2 i id).1) (fun b _ => kS.I (by omega))
  · rw [kf.I (by omega), v3, w_I0 (by omega), v2, w_I0 (by omega), v1, w_I, if_pos ⟨rfl, rfl⟩]
    exact z0
  · rw [kf.I (by omega), v3, w_I0 (by omega), v2, w_I, if_pos ⟨rfl, rfl⟩]
    exact z0
  · rw [kA.I (by omega), ← zI_eq fn]
    omega
  · rw [kA.I (by omega), t1.I (by omega)]
    exact ex
  · rw [kY.I (by omega), ← zI_eq gn]
    omega
  · rw [kY.L (by omega), t2.L (fun z => by
      rcases z with z | z
      · exact c6.1 z
      · omega)]
    exact ey
  · rw [kf.I (by omega), v3, w_I, if_pos ⟨rfl, rfl⟩]
    exact z0
  · rw [eF, w_I0 (by omega), w_I0 (by omega), w_I, if_pos ⟨rfl, rfl⟩]
    exact z0
  · rw [eF, w_I0 (by omega), w_I, if_pos ⟨rfl, rfl⟩]
    exact z0
  · rw [eF, w_I, if_pos ⟨rfl, rfl⟩]
    exact z0
theorem W_mine (w : LW oX gD gE SX SM) (er : rX' = rM') (hb : ∀ j, j < tn → f1 j = f2 j) (tX : (zI S1 1 1).toInt = 0) (tM : (zI S2 0 1).toInt = 0) (ZB : ZBM S2) (I2 : CM oM S2)
    (gX : (rX'.toInt = -1 → S1.1 0 6 = .ref (oX + gD) ∧ S1.1 0 7 = .ref (oX + gE) ∧ GOX SX gD S1) ∧ (rX'.toInt ≠ -1 → S1.1 0 6 = .ref (oX + gE) ∧ S1.1 0 7 = .ref (oX + gD) ∧ GXN gE TX m1 S1)) (g9 : rX'.toInt = -1 → G9X SX gD S1)
    (gM : (rM'.toInt = -1 → GBM SM S2) ∧ (rM'.toInt ≠ -1 → GMN (y_mine (T_kd f2 tn) (T_vl f2 tn)) m2 S2 ∧ (∃ b9 : Int32, S2.1 0 13 = .int b9 ∧ S2.1 0 35 = .int b9) ∧ S2.1 0 47 = .int 1)) (g8 : rM'.toInt = -1 → G8M SM S2)
    (pX : rX'.toInt ≠ -1 → ∃ S9 : dg_S, S1 = F_d_forgetTrials oX (dg_uF (F_h_clear oX (F_p_begin oX S9 3 gE)) 229 5 (.int 0)) ∧ S9.1 0 6 = .ref (oX + gE) ∧ kx (z_all (T_kd f1 tn) (T_vl f1 tn) (k_st (T_kd f1 tn) (T_vl f1 tn)) k_0) S9 gE ∧ CX oX S9 ∧ dg_sm shX WF WA SX S9)
    (qX : rX'.toInt = -1 → ∃ S9 : dg_S, S1 = (F_d_none oX S9 1).1 ∧ dg_sm shX WF2 WA2 SX S9)
    (pM : rM'.toInt ≠ -1 → ∃ S9 : dg_S, S2 = F_m_begin oM S9 ∧ ∃ b9 : Int32, S9.1 0 13 = .int b9 ∧ S9.1 0 35 = .int b9 ∧ S9.1 0 47 = .int 1 ∧ kI (GSv S9 b9.toNatClampNeg) (z_all (T_kd f2 tn) (T_vl f2 tn) (k_st (T_kd f2 tn) (T_vl f2 tn)) k_0) ∧ km (z_all (T_kd f2 tn) (T_vl f2 tn) (k_st (T_kd f2 tn) (T_vl f2 tn)) k_0) S9 ∧ CM oM S9 ∧ ZWM S9 ∧ dg_sm shM WF3 WA3 SM S9 ∧ dg_sm shM WF4 WA4 S9 S2)
    (qM : rM'.toInt = -1 → ∃ S9 : dg_S, S2 = (F_m_refuses oM S9 1).1 ∧ dg_sm shM WF5 WA5 SM S9)
    (c1 : (WF.all (fun p => decide (p.1 = 1 ∨ (p.1 = 0 ∧ (p.2 = 6 ∨ p.2 = 7)) ∨ 19 ≤ p.1)) = true ∧ WA.all (fun r => decide (19 ≤ r)) = true) ∧ (WF2.all (fun p => decide (p.1 = 1 ∨ (p.1 = 0 ∧ (p.2 = 6 ∨ p.2 = 7)) ∨ 19 ≤ p.1)) = true ∧ WA2.all (fun r => decide (19 ≤ r)) = true) ∧ ckS WF2 ∧ 45 ∉ WA2)
    (c2 : (WA3.all (fun r => decide (2 ≤ r ∧ r ≤ 27)) = true ∧ (0, 62) ∉ WF3 ∧ (0, 76) ∉ WF3) ∧ ((0, 13) ∉ WF4 ∧ 2 ∉ WA4 ∧ 3 ∉ WA4 ∧ 8 ∉ WA4 ∧ 9 ∉ WA4 ∧ 12 ∉ WA4 ∧ 16 ∉ WA4 ∧ 20 ∉ WA4 ∧ 21 ∉ WA4) ∧ WA5.all (fun r => decide (2 ≤ r ∧ r ≤ 27)) = true ∧ (0, 60) ∉ WF5 ∧ (0, 61) ∉ WF5 ∧ (0, 62) ∉ WF5 ∧ (0, 63) ∉ WF5 ∧ (0, 69) ∉ WF5 ∧ (0, 76) ∉ WF5) : ∃ gD gE, LW oX gD gE S1 S2 := by
  have z1 : (1 : Int32).toInt = ((1 : Nat) : Int) := by decide +kernel
  by_cases q : rX'.toInt = -1
  · have q2 : rM'.toInt = -1 := by rw [← er]; exact q
    obtain ⟨f6, f7, go⟩ := gX.1 q
    obtain ⟨X9, e1, n1⟩ := qX q
    obtain ⟨M9, e2, n2⟩ := qM q2
    have e1 : S1 = r_X 1 X9 := by rw [e1, none_r z1]
    have e2 : S2 = r_M 1 M9 := by rw [e2, ref_r z1]
    have h9 := g9 q
    have h8 := g8 q2
    have hB := gM.1 q2
    subst e1 e2
    exact ⟨gD, gE, w.mineNo tX tM f6 f7 go h9 hB h8 n1 n2 c1.2.1.1 c1.2.1.2 c1.2.2.1 c1.2.2.2 c2.2.2.1 c2.2.2.2⟩
  · have q2 : ¬ rM'.toInt = -1 := by rw [← er]; exact q
    obtain ⟨e1, e2⟩ := tc_kd hb
    obtain ⟨f6, f7, -⟩ := gX.2 q
    obtain ⟨X9, x1, x2, x3, x4, x5⟩ := pX q
    obtain ⟨M9, y1, b9, y2, y3, y4, -, y6, y7, y8, y9, ya⟩ := pM q2
    obtain ⟨n2, fb, fs⟩ := gM.2 q2
    obtain ⟨σ, eT, b, sm, v1, v2, v3, v4, es, -⟩ := n2.use fb fs ZB I2
    rw [e1, e2] at x3
    have k13 : S2.1 0 13 = M9.1 0 13 := ya.1 0 13 _ sM_0 c2.2.1.1
    cases (v1.symm.trans k13).trans y2
    have es9 : σ = GSv M9 b9.toNatClampNeg := by
      rw [es]
      unfold GSv
      rw [(ya.2 2 _ sM_2 c2.2.1.2.1).1, (ya.2 3 _ sM_3 c2.2.1.2.2.1).1, (ya.2 8 _ sM_8 c2.2.1.2.2.2.1).1, (ya.2 9 _ sM_9 c2.2.1.2.2.2.2.1).1, (ya.2 12 _ sM_12 c2.2.1.2.2.2.2.2.1).1, (ya.2 16 _ sM_16 c2.2.1.2.2.2.2.2.2.1).1, (ya.2 20 _ sM_20 c2.2.1.2.2.2.2.2.2.2.1).2, (ya.2 21 _ sM_21 c2.2.1.2.2.2.2.2.2.2.2).2]
    exact ⟨gE, gD, w.mineYes (kOK.all eT) x3 x4 x5 x1 f6 f7 tX y2 y3 y4 y7 y8 es9 y6 y9 y1 tM c1.1.1 c1.1.2 c2.1.1 c2.1.2⟩
end LI
