/-! ON: the reference, whole; both sides -/
section FL
variable {o oX oM g n p q k i N : Nat} {G A A' : aR} {K : Nat → List Int} {B : Nat → Int} {L : s_L} {U : s_U} {S S0 S1 SX SM T T1 : dg_S} {x x' r c v t m : Int} {a a1 a2 a3 a4 y : Int32}
set_option maxHeartbeats 4000000 in
theorem mx_onJ1 {x44 x47 x28 x8 x10 x15 x17 x11 x18 w : Int32} (ok : s_ok G K A U) (h : RM G K A L U x S) (tb : mx_by n B S) (ha : a1.toInt = n) (en : n = s_Ee G + 1) (v8 : x8.toInt = ((s_H G : Nat) : Int)) (v11 : x11.toInt = ((s_Pp G : Nat) : Int)) (v15 : x15.toInt = ((s_Oo G : Nat) : Int)) (v18 : x18.toInt = ((s_Tt G : Nat) : Int)) (f8 : x10.toInt = G 0 5) (f12 : x17.toInt = G 0 7) (v48 : (x44 <<< ((8 : Int32) &&& 31) ||| x47).toInt = 256 * B 0 + B 1) (v28 : x28.toInt = 65536 * B 2 + 256 * B 3 + B 4) (d9 : 256 * B 0 + B 1 ≤ 999) (d99 : 65536 * B 2 + 256 * B 3 + B 4 ≤ 99999) (hw : w.toInt = s_cb B (s_Ee G)) : ∃ (T : dg_S) (y : Int32), F_m_comesOn_J1 a1 S w o x44 x47 x28 x8 x10 x15 x17 x11 x18 = (T, y) ∧ k_v 1 S T ∧ ((y = 1 ∧ s_OV G B n ∧ mx_lay G (s_oA G B) [] T 1) ∨ (y = 0 ∧ ¬ s_OV G B n)) := by
  have z0 : (0 : Int32).toInt = 0 := by decide +kernel
  have z1 : (1 : Int32).toInt = 1 := by decide +kernel
  have z5 : (5 : Int32).toInt = 5 := by decide +kernel
  have n1 : (1 : Int32).toNatClampNeg = 1 := by decide +kernel
  have hG := ok.1
  have hb := hG.1.2.2.2
  have h5 := hG.2.2.2.1
  have h6 := hG.1.2.2
  have h7 := hG.2.2.2.2.1
  have c2 := (s_cp64 hG.1).2
  have eH : s_H G = 5 + s_cp G 64 := rfl
  have eP : s_Pp G = s_H G + (G 0 5).toNat := rfl
  have eO : s_Oo G = s_Pp G + 3 * (G 0 6).toNat := rfl
  have eT : s_Tt G = s_Oo G + (G 0 7).toNat := rfl
  have eE : s_Ee G = s_Tt G + 10 := rfl
  obtain ⟨t1, t2⟩ := id tb
  obtain ⟨x48, hx48⟩ : ∃ u : Int32, u = x44 <<< ((8 : Int32) &&& 31) ||| x47 := ⟨_, rfl⟩
  rw [← hx48] at v48
  have w615 : (a1 - (1 : Int32)).toInt = ((s_Ee G : Nat) : Int) := by rw [dk_subT ha z1 (by omega) (by omega)]; omega
  have n615 : (a1 - (1 : Int32)).toNatClampNeg = s_Ee G := by rw [dk_clN, w615]; omega
  have bE := (t2 (s_Ee G) (by omega)).1
  by_cases qs : S.2.1 1 (a1 - (1 : Int32)).toNatClampNeg = w
  rotate_left
  · exact ⟨S, 0, F_m_comesOn_p13 rfl rfl qs, k_v.rf, Or.inr ⟨rfl, fun V => qs (Int32.toInt_inj.mp (by rw [n615, bE, hw]; exact V.2.2.2.2.2.2.1))⟩⟩
  have ds := w_eq.mp qs
  rw [n615, bE, hw] at ds
  obtain ⟨T2, e2, -, -, k2⟩ := mx_try1 (o := o) ok h
  obtain ⟨T5, e5⟩ : ∃ X, X = dg_uf T2 29 (upd (T2.2.1 29) (1 : Int32).toNatClampNeg x48) := ⟨_, rfl⟩
  obtain ⟨T8, e8⟩ : ∃ X, X = dg_uf T5 30 (upd (T5.2.1 30) (1 : Int32).toNatClampNeg x28) := ⟨_, rfl⟩
  have k8 : k_v 1 S T8 := by
    rw [e8, e5, n1]
    exact (k2.uf (by decide) (by decide) (by show 1 * 1 ≤ _ ∧ _ < 1 * 1 + 1; omega)).uf (by decide) (by decide) (by show 1 * 1 ≤ _ ∧ _ < 1 * 1 + 1; omega)
  obtain ⟨f1, hf1⟩ : ∃ u : Int32, u = F_m_flagsOn o T8 x8 x10 := ⟨_, rfl⟩
  have F1 := mx_flagsOn (o := o) (S := T8) (N := (G 0 5).toNat) v8 (show x10.toInt = _ by rw [f8]; omega) (by omega) (tb.keep (k8.row (by decide))) (by omega)
  rw [← hf1] at F1
  obtain ⟨T15, e15⟩ : ∃ X, X = dg_uf T8 33 (upd (T8.2.1 33) (1 : Int32).toNatClampNeg f1) := ⟨_, rfl⟩
  have k15 : k_v 1 S T15 := by
    rw [e15, n1]
    exact k8.uf (by decide) (by decide) (by show 1 * 1 ≤ _ ∧ _ < 1 * 1 + 1; omega)
  obtain ⟨f2, hf2⟩ : ∃ u : Int32, u = F_m_flagsOn o T15 x15 x17 := ⟨_, rfl⟩
  have F2 := mx_flagsOn (o := o) (S := T15) (N := (G 0 7).toNat) v15 (show x17.toInt = _ by rw [f12]; omega) (by omega) (tb.keep (k15.row (by decide))) (by omega)
  rw [← hf2] at F2
  obtain ⟨T22, e22⟩ : ∃ X, X = dg_uf T15 34 (upd (T15.2.1 34) (1 : Int32).toNatClampNeg f2) := ⟨_, rfl⟩
  obtain ⟨T25, e25⟩ : ∃ X, X = dg_uf T22 38 (upd (T22.2.1 38) (1 : Int32).toNatClampNeg (0 : Int32)) := ⟨_, rfl⟩
  have k25 : k_v 1 S T25 := by
    rw [e25, e22, n1]
    exact (k15.uf (by decide) (by decide) (by show 1 * 1 ≤ _ ∧ _ < 1 * 1 + 1; omega)).uf (by decide) (by decide) (by show 1 * 1 ≤ _ ∧ _ < 1 * 1 + 1; omega)
  rw [F_m_comesOn_p12 rfl rfl qs e2.symm rfl hx48 e5 e8 hf1 e15, F_m_comesOn_p11 hf2 e22 e25]
  obtain ⟨T37, ⟨k37, r37⟩, D⟩ := mx_tubsOn (o := o) (a1 := f1) (a2 := f2) (a4 := x11) (z := (S, (0 : Int32))) v18 (tb.keep (k25.row (by decide))) (by omega)
  have k37 := k25.tr k37
  rcases D with ⟨tu, tv, eD⟩ | ⟨tu, eD⟩
  rotate_left
  · exact ⟨T37, 0, eD, k37, Or.inr ⟨rfl, fun V => tu (fun k hk => V.2.2.2.2.2.1 k hk)⟩⟩
  rw [eD]
  rcases F1 with ⟨u1, u2, u3⟩ | ⟨u1, u2⟩
  rotate_left
  · exact ⟨T37, 0, F_m_comesOn_p3 u2, k37, Or.inr ⟨rfl, fun V => u1 V.2.2.1⟩⟩
  have nf1 : ¬ f1 = (-1 : Int32) := fun z => by
    have e : (-1 : Int32).toInt = -1 := by decide +kernel
    have := dk_eqc e z
    omega
  rcases F2 with ⟨w1, w2, w3⟩ | ⟨w1, w2⟩
  rotate_left
  · exact ⟨T37, 0, F_m_comesOn_p4 nf1 w2, k37, Or.inr ⟨rfl, fun V => w1 V.2.2.2.2.1⟩⟩
  have nf2 : ¬ f2 = (-1 : Int32) := fun z => by
    have e : (-1 : Int32).toInt = -1 := by decide +kernel
    have := dk_eqc e z
    omega
  have gk : ∀ T, k_v 1 S T → mx_gf G K T := fun T t => h.1.keep t.I t.I (fun i hi => t.row (by omega))
  obtain ⟨Tc, yc, ec, ⟨kc, rc⟩, Dc⟩ := mx_cellsOn (o := o) (a1 := 5) (gk T37 k37) hG (tb.keep (k37.row (by decide))) (by omega) z5
  have kc := k37.tr kc
  rcases Dc with ⟨yc1, oc, ov⟩ | ⟨yc0, oc⟩
  rotate_left
  · exact ⟨Tc, 0, F_m_comesOn_p5 nf1 nf2 (show Tc = _ by rw [ec]) (show yc = _ by rw [ec]) yc0, kc, Or.inr ⟨rfl, fun V => oc V.2.1⟩⟩
  have nyc : ¬ yc = (0 : Int32) := by rw [yc1]; decide
  obtain ⟨Tp, yp, ep, ⟨kq, rp⟩, Dp⟩ := mx_plansOn (o := o) (a1 := x11) (gk Tc kc) hG (tb.keep (kc.row (by decide))) (by omega) v11
  have kq := kc.tr kq
  rcases Dp with ⟨yp1, pc, pv⟩ | ⟨yp0, pc⟩
  rotate_left
  · exact ⟨Tp, 0, F_m_comesOn_p6 nf1 nf2 (show Tc = _ by rw [ec]) (show yc = _ by rw [ec]) nyc (show Tp = _ by rw [ep]) (show yp = _ by rw [ep]) yp0, kq, Or.inr ⟨rfl, fun V => pc V.2.2.2.1⟩⟩
  have nyp : ¬ yp = (0 : Int32) := by rw [yp1]; decide
  refine ⟨Tp, 1, F_m_comesOn_p7 nf1 nf2 (show Tc = _ by rw [ec]) (show yc = _ by rw [ec]) nyc (show Tp = _ by rw [ep]) (show yp = _ by rw [ep]) nyp, kq, Or.inl ⟨rfl, ⟨en, oc, u1, pc, w1, tu, ds, by omega, by omega⟩, ?_⟩⟩
  have row : ∀ a, a ≠ 31 → a ≠ 32 → a ≠ 35 → a ≠ 36 → a ≠ 37 → Tp.2.1 a = T25.2.1 a := fun a h1 h2 h3 h4 h5 => by rw [(rp.2 a (by omega)).1, (rc.2 a (by omega)).1, (r37.2 a h5).1]
  have r29 : Tp.2.1 29 1 = x48 := by
    rw [row 29 (by decide) (by decide) (by decide) (by decide) (by decide), e25, w_f, if_neg (by decide), e22, w_f, if_neg (by decide), e15, w_f, if_neg (by decide), e8, w_f, if_neg (by decide), e5, w_f, if_pos rfl, n1, w_u, if_pos rfl]
  have r30 : Tp.2.1 30 1 = x28 := by
    rw [row 30 (by decide) (by decide) (by decide) (by decide) (by decide), e25, w_f, if_neg (by decide), e22, w_f, if_neg (by decide), e15, w_f, if_neg (by decide), e8, w_f, if_pos rfl, n1, w_u, if_pos rfl]
  have r33 : Tp.2.1 33 1 = f1 := by
    rw [row 33 (by decide) (by decide) (by decide) (by decide) (by decide), e25, w_f, if_neg (by decide), e22, w_f, if_neg (by decide), e15, w_f, if_pos rfl, n1, w_u, if_pos rfl]
  have r34 : Tp.2.1 34 1 = f2 := by
    rw [row 34 (by decide) (by decide) (by decide) (by decide) (by decide), e25, w_f, if_neg (by decide), e22, w_f, if_pos rfl, n1, w_u, if_pos rfl]
  have r38 : Tp.2.1 38 1 = 0 := by
    rw [row 38 (by decide) (by decide) (by decide) (by decide) (by decide), e25, w_f, if_pos rfl, n1, w_u, if_pos rfl]
  have r31 : ∀ a, a = 31 ∨ a = 32 → Tp.2.1 a = Tc.2.1 a := fun a h => (rp.2 a (by omega)).1
  have r7 : Tp.2.1 37 = T37.2.1 37 := by rw [(rp.2 37 (by decide)).1, (rc.2 37 (by decide)).1]
  have wf := (s_oA_wf hG ⟨en, oc, u1, pc, w1, tu, ds, by omega, by omega⟩ (fun i hi => (t2 i hi).2)).2.1
  refine ⟨fun c hc => ?_, by rw [r29, v48]; rfl, by rw [r30, v28]; rfl, ⟨by rw [r33]; exact u2, fun k hk => ?_⟩, fun k hk => ?_, ⟨by rw [r34]; exact w2, fun k hk => ?_⟩, fun k hk => ?_, ?_, by decide, fun i hi => absurd hi (Nat.not_lt_zero _)⟩
  · have hc0 := hc.1
    have ad : mx_ad 1 c = 64 + c.toNat := by unfold mx_ad; omega
    have cd : ((c.toNat : Nat) : Int) = c := by omega
    obtain ⟨o1, o2⟩ := ov c.toNat (by omega) (by rw [cd]; exact hc)
    rw [ad, r31 31 (Or.inl rfl), r31 32 (Or.inr rfl)]
    exact ⟨o1, o2, wf c hc⟩
  · rw [r33, u3 k hk]
    rfl
  · rw [show 16 * 1 + k = 16 + k by omega]
    exact pv k hk
  · rw [r34, w3 k (by omega)]
    rfl
  · rw [show 10 * 1 + k = 10 + k by omega, r7]
    exact tv k hk
  · rw [r38]
    exact z0
set_option maxHeartbeats 4000000 in
theorem mx_comesOn (ok : s_ok G K A U) (h : RM G K A L U x S) (tb : mx_by n B S) (ha : a1.toInt = n) : ∃ (T : dg_S) (y : Int32), F_m_comesOn o S a1 = (T, y) ∧ k_v 1 S T ∧ ((y = 1 ∧ s_OV G B n ∧ mx_lay G (s_oA G B) [] T 1) ∨ (y = 0 ∧ ¬ s_OV G B n)) := by
  have z0 : (0 : Int32).toInt = 0 := by decide +kernel
  have z1 : (1 : Int32).toInt = 1 := by decide +kernel
  have z3 : (3 : Int32).toInt = 3 := by decide +kernel
  have z5 : (5 : Int32).toInt = 5 := by decide +kernel
  have z10 : (10 : Int32).toInt = 10 := by decide +kernel
  have z251 : (251 : Int32).toInt = 251 := by decide +kernel
  have z233 : (233 : Int32).toInt = 233 := by decide +kernel
  have z999 : (999 : Int32).toInt = 999 := by decide +kernel
  have z99999 : (99999 : Int32).toInt = 99999 := by decide +kernel
  have n0 : (0 : Int32).toNatClampNeg = 0 := by decide +kernel
  have n1 : (1 : Int32).toNatClampNeg = 1 := by decide +kernel
  have n2 : (2 : Int32).toNatClampNeg = 2 := by decide +kernel
  have n3 : (3 : Int32).toNatClampNeg = 3 := by decide +kernel
  have n4 : (4 : Int32).toNatClampNeg = 4 := by decide +kernel
  have s8 : (((8 : Int32) &&& 31).toBitVec.smod 32).toNat = 8 := by decide +kernel
  have s16 : (((16 : Int32) &&& 31).toBitVec.smod 32).toNat = 16 := by decide +kernel
  have hG := ok.1
  have hb := hG.1.2.2.2
  have h5 := hG.2.2.2.1
  have h6 := hG.1.2.2
  have h7 := hG.2.2.2.2.1
  obtain ⟨gm, ⟨f5, f6, f8, f12⟩, -⟩ := id h.1
  obtain ⟨g47, g2, g3, g4, g9⟩ := id gm.1
  obtain ⟨c1, c2⟩ := s_cp64 hG.1
  have eH : s_H G = 5 + s_cp G 64 := rfl
  have eP : s_Pp G = s_H G + (G 0 5).toNat := rfl
  have eO : s_Oo G = s_Pp G + 3 * (G 0 6).toNat := rfl
  have eT : s_Tt G = s_Oo G + (G 0 7).toNat := rfl
  have eE : s_Ee G = s_Tt G + 10 := rfl
  have nz : ¬ zI S 0 47 = (0 : Int32) := fun z => g47 (by rw [z]; exact z0)
  obtain ⟨t1, t2⟩ := id tb
  obtain ⟨x7, hx7⟩ : ∃ u : Int32, u = S.2.1 2 (zI S 0 13).toNatClampNeg * S.2.1 3 (zI S 0 13).toNatClampNeg := ⟨_, rfl⟩
  have v7 : x7.toInt = ((s_cp G 64 : Nat) : Int) := by rw [hx7, c1]; exact dk_mulT g2 g3 (by omega) (by omega)
  obtain ⟨x8, hx8⟩ : ∃ u : Int32, u = (5 : Int32) + x7 := ⟨_, rfl⟩
  have v8 : x8.toInt = ((s_H G : Nat) : Int) := by rw [hx8, dk_addT z5 v7 (by omega) (by omega)]; omega
  obtain ⟨x11, hx11⟩ : ∃ u : Int32, u = x8 + S.2.1 8 (zI S 0 13).toNatClampNeg := ⟨_, rfl⟩
  have v11 : x11.toInt = ((s_Pp G : Nat) : Int) := by rw [hx11, dk_addT v8 f8 (by omega) (by omega)]; omega
  obtain ⟨x14, hx14⟩ : ∃ u : Int32, u = (3 : Int32) * S.2.1 9 (zI S 0 13).toNatClampNeg := ⟨_, rfl⟩
  have v14 : x14.toInt = 3 * G 0 6 := by rw [hx14]; exact dk_mulT z3 g9 (by omega) (by omega)
  obtain ⟨x15, hx15⟩ : ∃ u : Int32, u = x11 + x14 := ⟨_, rfl⟩
  have v15 : x15.toInt = ((s_Oo G : Nat) : Int) := by rw [hx15, dk_addT v11 v14 (by omega) (by omega)]; omega
  obtain ⟨x18, hx18⟩ : ∃ u : Int32, u = x15 + S.2.1 12 (zI S 0 13).toNatClampNeg := ⟨_, rfl⟩
  have v18 : x18.toInt = ((s_Tt G : Nat) : Int) := by rw [hx18, dk_addT v15 f12 (by omega) (by omega)]; omega
  obtain ⟨x35, hx35⟩ : ∃ u : Int32, u = x18 + (10 : Int32) := ⟨_, rfl⟩
  have v35 : x35.toInt = ((s_Ee G : Nat) : Int) := by rw [hx35, dk_addT v18 z10 (by omega) (by omega)]; omega
  obtain ⟨x36, hx36⟩ : ∃ u : Int32, u = x35 + (1 : Int32) := ⟨_, rfl⟩
  have v36 : x36.toInt = ((s_Ee G + 1 : Nat) : Int) := by rw [hx36, dk_addT v35 z1 (by omega) (by omega)]; omega
  by_cases qn : a1 = x36
  rotate_left
  · exact ⟨S, 0, F_m_comesOn_p1 rfl rfl rfl rfl hx7 hx8 rfl hx11 rfl hx14 hx15 rfl hx18 nz hx35 hx36 qn, k_v.rf, Or.inr ⟨rfl, fun V => qn (Int32.toInt_inj.mp (by rw [ha, v36, V.1]))⟩⟩
  have en : n = s_Ee G + 1 := by
    have := w_eq.mp qn
    omega
  obtain ⟨b0, b0a, b0b⟩ := t2 0 (by omega)
  obtain ⟨b1, b1a, b1b⟩ := t2 1 (by omega)
  obtain ⟨b2, b2a, b2b⟩ := t2 2 (by omega)
  obtain ⟨b3, b3a, b3b⟩ := t2 3 (by omega)
  obtain ⟨b4, b4a, b4b⟩ := t2 4 (by omega)
  obtain ⟨x44, hx44⟩ : ∃ u : Int32, u = S.2.1 1 (0 : Int32).toNatClampNeg := ⟨_, rfl⟩
  obtain ⟨x47, hx47⟩ : ∃ u : Int32, u = S.2.1 1 (1 : Int32).toNatClampNeg := ⟨_, rfl⟩
  obtain ⟨x20, hx20⟩ : ∃ u : Int32, u = S.2.1 1 (2 : Int32).toNatClampNeg := ⟨_, rfl⟩
  obtain ⟨x23, hx23⟩ : ∃ u : Int32, u = S.2.1 1 (3 : Int32).toNatClampNeg := ⟨_, rfl⟩
  obtain ⟨x27, hx27⟩ : ∃ u : Int32, u = S.2.1 1 (4 : Int32).toNatClampNeg := ⟨_, rfl⟩
  have v44 : x44.toInt = B 0 := by rw [hx44, n0]; exact b0
  have v47 : x47.toInt = B 1 := by rw [hx47, n1]; exact b1
  have v20 : x20.toInt = B 2 := by rw [hx20, n2]; exact b2
  have v23 : x23.toInt = B 3 := by rw [hx23, n3]; exact b3
  have v27 : x27.toInt = B 4 := by rw [hx27, n4]; exact b4
  have p8 : (2 : Nat) ^ 8 = 256 := by decide
  have p16 : (2 : Nat) ^ 16 = 65536 := by decide
  obtain ⟨x45, hx45⟩ : ∃ u : Int32, u = x44 <<< ((8 : Int32) &&& 31) := ⟨_, rfl⟩
  have v45 : x45.toInt = ((2 ^ 8 * (B 0).toNat : Nat) : Int) := by
    rw [hx45, w_shlk (v := (B 0).toNat) (by omega) (by omega) (by decide) s8, p8]
    omega
  obtain ⟨x48, hx48⟩ : ∃ u : Int32, u = x45 ||| x47 := ⟨_, rfl⟩
  have v48 : x48.toInt = 256 * B 0 + B 1 := by
    rw [hx48, w_orN (r := 8) (b := (B 1).toNat) (by decide) v45 (by omega) (by rw [p8]; omega) (by rw [p8]; omega), p8]
    omega
  obtain ⟨x21, hx21⟩ : ∃ u : Int32, u = x20 <<< ((16 : Int32) &&& 31) := ⟨_, rfl⟩
  have v21 : x21.toInt = ((2 ^ 16 * (B 2).toNat : Nat) : Int) := by
    rw [hx21, w_shlk (v := (B 2).toNat) (by omega) (by omega) (by decide) s16, p16]
    omega
  obtain ⟨x24, hx24⟩ : ∃ u : Int32, u = x23 <<< ((8 : Int32) &&& 31) := ⟨_, rfl⟩
  have v24 : x24.toInt = ((256 * (B 3).toNat : Nat) : Int) := by
    rw [hx24, w_shlk (v := (B 3).toNat) (by omega) (by omega) (by decide) s8, p8]
    omega
  obtain ⟨x25, hx25⟩ : ∃ u : Int32, u = x21 ||| x24 := ⟨_, rfl⟩
  have v25 : x25.toInt = ((2 ^ 8 * (256 * (B 2).toNat + (B 3).toNat) : Nat) : Int) := by
    rw [hx25, w_orN (r := 16) (b := 256 * (B 3).toNat) (by decide) v21 v24 (by rw [p16]; omega) (by rw [p16]; omega), p16, p8]
    omega
  obtain ⟨x28, hx28⟩ : ∃ u : Int32, u = x25 ||| x27 := ⟨_, rfl⟩
  have v28 : x28.toInt = 65536 * B 2 + 256 * B 3 + B 4 := by
    rw [hx28, w_orN (r := 8) (b := (B 4).toNat) (by decide) v25 (by omega) (by rw [p8]; omega) (by rw [p8]; omega), p8]
    omega
  by_cases q9 : (999 : Int32) < x48
  · have d9 := w_lt.mp q9
    exact ⟨S, 0, F_m_comesOn_p2 rfl rfl rfl rfl hx7 hx8 rfl hx11 rfl hx14 hx15 rfl hx18 nz hx35 hx36 qn hx44 hx45 hx47 hx48 q9, k_v.rf, Or.inr ⟨rfl, fun V => by have := V.2.2.2.2.2.2.2.1; omega⟩⟩
  have d9 : ¬ (999 : Int32).toInt < x48.toInt := fun z => q9 (w_lt.mpr z)
  by_cases q99 : x28 ≤ (99999 : Int32)
  rotate_left
  · have d99 : ¬ x28.toInt ≤ (99999 : Int32).toInt := fun z => q99 (w_le.mpr z)
    exact ⟨S, 0, F_m_comesOn_p17 rfl rfl rfl rfl hx7 hx8 rfl hx11 rfl hx14 hx15 rfl hx18 hx20 hx21 hx23 hx24 hx25 hx27 hx28 nz hx35 hx36 qn hx44 hx45 hx47 hx48 q9 q99, k_v.rf, Or.inr ⟨rfl, fun V => by have := V.2.2.2.2.2.2.2.2; omega⟩⟩
  have d99 := w_le.mp q99
  rw [F_m_comesOn_p16 rfl rfl rfl rfl hx7 hx8 rfl hx11 rfl hx14 hx15 rfl hx18 hx20 hx21 hx23 hx24 hx25 hx27 hx28 nz hx35 hx36 qn hx44 hx45 hx47 hx48 q9 q99]
  have w615 : (a1 - (1 : Int32)).toInt = ((s_Ee G : Nat) : Int) := by rw [dk_subT ha z1 (by omega) (by omega)]; omega
  have sum := lp_cnt (f := F_m_comesOn_B5 a1 S o x44 x47 x28 x8 (S.2.1 8 (zI S 0 13).toNatClampNeg) x15 (S.2.1 12 (zI S 0 13).toNatClampNeg) x11 x18) (z := (S, (0 : Int32))) (W := s_Ee G) (P := fun c s => s.toInt = s_cb B c) (Q := fun q => ∃ w : Int32, w.toInt = s_cb B (s_Ee G) ∧ q = F_m_comesOn_J1 a1 S w o x44 x47 x28 x8 (S.2.1 8 (zI S 0 13).toNatClampNeg) x15 (S.2.1 12 (zI S 0 13).toNatClampNeg) x11 x18) (by omega) (fun c cI s hc hcI hP => by
    have q0 : ¬ a1 - (1 : Int32) ≤ cI := fun z => by have := w_le.mp z; omega
    have nc : cI.toNatClampNeg = c := by rw [dk_clN, hcI]; omega
    obtain ⟨y1, y2, y3⟩ := t2 c (by omega)
    have cb := s_cb_b (B := B) c
    have hP : s.toInt = s_cb B c := hP
    have e5 : ((5 : Int32) * s).toInt = 5 * s_cb B c := dk_mulT z5 hP (by omega) (by omega)
    obtain ⟨u, hu⟩ : ∃ u : Int32, u = (5 : Int32) * s + S.2.1 1 cI.toNatClampNeg := ⟨_, rfl⟩
    have eu : u.toInt = 5 * s_cb B c + B c := by rw [hu, nc]; exact dk_addT e5 y1 (by omega) (by omega)
    refine ⟨u - u / (251 : Int32) * (251 : Int32), F_m_comesOn_p15 rfl q0 rfl rfl hu rfl rfl, ?_⟩
    show (u - u / (251 : Int32) * (251 : Int32)).toInt = _
    rw [dk_remL (by omega) z251 (by decide), eu]
    rfl) (fun cI s hcI hP => ⟨_, F_m_comesOn_p14 rfl (w_le.mpr (by omega)), s, hP, rfl⟩) ((124 - ((0 : Int32)).toInt).toNat + 1) 0 0 (233 : Int32) (by rw [z0]; omega) (by omega) z0 z233
  obtain ⟨w, hw, eJ⟩ := sum
  rw [eJ]
  exact mx_onJ1 ok h tb ha en v8 v11 v15 v18 f8 f12 (by rw [← hx45, ← hx48]; exact v48) v28 (by omega) (by omega) hw
end FL
