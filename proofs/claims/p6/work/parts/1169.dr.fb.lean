/-! no seam: HAS, IMAGE -/
section FB
variable {o oX oM g n p k i : Nat} {B : Nat → Int} {S S0 S1 SX SM T : dg_S} {x x' c v : Int} {a a1 a2 a3 a4 y : Int32}
theorem mx_0.cellOf (h : mx_0 x S) : F_m_isCellOf o S a = 0 := by
  by_cases q : a < (0 : Int32)
  · exact F_m_isCellOf_p0 q
  · exact F_m_isCellOf_p1 q rfl rfl rfl h.cell
theorem mx_0.keep (h : mx_0 x S) (t : kp (fun _ _ => False) (fun a => a = 42 ∨ a = 43) S S1) : mx_0 x S1 := by
  obtain ⟨h1, ⟨h2, h3, h8, h9, h12⟩, ⟨h29, h30, h33, h38, h37⟩, h61, hx⟩ := h
  have e13 : zI S1 0 13 = zI S 0 13 := t.I id
  refine ⟨by rw [t.I id]; exact h1, ⟨?_, ?_, ?_, ?_, ?_⟩, ⟨?_, ?_, ?_, ?_, fun k => ?_⟩, by rw [t.I id]; exact h61, by rw [t.L id]; exact hx⟩
  · rw [e13, (t.2 2 (by decide)).1]; exact h2
  · rw [e13, (t.2 3 (by decide)).1]; exact h3
  · rw [e13, (t.2 8 (by decide)).1]; exact h8
  · rw [e13, (t.2 9 (by decide)).1]; exact h9
  · rw [e13, (t.2 12 (by decide)).1]; exact h12
  · rw [(t.2 29 (by decide)).1]; exact h29
  · rw [(t.2 30 (by decide)).1]; exact h30
  · rw [(t.2 33 (by decide)).1]; exact h33
  · rw [(t.2 38 (by decide)).1]; exact h38
  · rw [(t.2 37 (by decide)).1]; exact h37 k
theorem mx_0.beside (h : mx_0 x S) : F_m_besideOf o S a a1 = -1 := by
  by_cases q1 : a1 = (1 : Int32)
  · exact mx_b6 q1 h.cell
  · by_cases q3 : a1 = (3 : Int32)
    · exact mx_b4 q1 q3 h.cell
    · by_cases q2 : a1 = (2 : Int32)
      · exact mx_b2 q1 q3 q2 h.cell
      · exact mx_b0 q1 q3 q2 h.cell
theorem mx_0.measures (h : mx_0 x S) : ∃ T, F_m_measures o S a1 = T ∧ kp (fun _ _ => False) (fun a => a = 42 ∨ a = 43) S T := by
  have z0 : (0 : Int32).toInt = 0 := by decide +kernel
  have z1 : (1 : Int32).toInt = 1 := by decide +kernel
  have z4 : (4 : Int32).toInt = 4 := by decide +kernel
  have z64 : (64 : Int32).toInt = 64 := by decide +kernel
  obtain ⟨sh, hsh⟩ : ∃ sh : Int32, sh = S.2.1 4 (zI S 0 13).toNatClampNeg := ⟨_, rfl⟩
  obtain ⟨bk, hbk⟩ : ∃ bk : Int32, bk = zI S 0 13 := ⟨_, rfl⟩
  rw [F_m_measures_p13 (bk := bk) (sh := sh) hbk (hsh.trans (by rw [hbk]))]
  have first := lp_cnt (f := F_m_measures_B5 sh a1 S bk o) (z := S) (W := 64) (P := fun i T => kp (fun _ _ => False) (fun a => a = 42 ∨ a = 43) S T) (Q := fun q => ∃ T, q = F_m_measures_J1 T sh a1 S bk o ∧ kp (fun _ _ => False) (fun a => a = 42 ∨ a = 43) S T) (by decide) (fun i iI T hi hiI hP => by
    have q0 : ¬ (64 : Int32) ≤ iI := fun z => by have := dk_gec z64 z; omega
    by_cases q : iI = sh
    · exact ⟨_, F_m_measures_p12 q0 q rfl rfl, kp.uf hP (Or.inl rfl)⟩
    · exact ⟨_, F_m_measures_p11 q0 q rfl rfl, kp.uf hP (Or.inl rfl)⟩) (fun iI T hiI hP => ⟨_, F_m_measures_p10 (dk_gep z64 (by omega)), T, rfl, hP⟩) ((65 - ((0 : Int32)).toInt).toNat + 1) 0 0 S (by rw [z0]; decide) (by decide) z0 kp.rf
  obtain ⟨T, eT, kT⟩ := first
  obtain ⟨T1, h1⟩ : ∃ X, X = dg_uf T 43 (upd (T.2.1 43) (0 : Int32).toNatClampNeg sh) := ⟨_, rfl⟩
  have k1 : kp (fun _ _ => False) (fun a => a = 42 ∨ a = 43) S T1 := by
    rw [h1]
    exact kp.uf kT (Or.inr rfl)
  have m1 := h.keep k1
  rw [eT, F_m_measures_p9 h1]
  have z01 : ((0 : Int32) + 1).toInt = 1 := by decide +kernel
  have n10 : ¬ (1 : Int32) ≤ (0 : Int32) := by decide +kernel
  have step : F_m_measures_B2 a1 S bk o ((0 : Int32), (1 : Int32), T1) = .inl ((0 : Int32) + 1, (1 : Int32), T1) := by
    by_cases q : T1.2.1 32 ((64 : Int32) * a1 + T1.2.1 43 (0 : Int32).toNatClampNeg).toNatClampNeg = (1 : Int32)
    · exact F_m_measures_p8 n10 rfl rfl rfl rfl q rfl
    · refine (F_m_measures_p7 n10 rfl rfl rfl rfl q).trans ?_
      exact lp_cnt (f := F_m_measures_B4 (0 : Int32) S bk o (T1.2.1 43 (0 : Int32).toNatClampNeg) a1) (z := Sum.inr S) (W := 4) (P := fun i s => s = ((1 : Int32), T1)) (Q := fun q => q = .inl ((0 : Int32) + 1, (1 : Int32), T1)) (by decide) (fun i iI s hi hiI hP => by
        rw [hP]
        exact ⟨_, F_m_measures_p3 (fun z => by have := dk_gec z4 z; omega) rfl m1.beside rfl, rfl⟩) (fun iI s hiI hP => by
        rw [hP]
        exact ⟨_, F_m_measures_p2 (dk_gep z4 (by omega)), F_m_measures_p1 rfl⟩) ((5 - ((0 : Int32)).toInt).toNat + 1) 0 0 ((1 : Int32), T1) (by rw [z0]; decide) (by decide) z0 rfl
  refine ⟨T1, ?_, k1⟩
  rw [show ((65 - ((0 : Int32)).toInt).toNat + 1) = (64 + 1) + 1 by decide +kernel, lp_sl step]
  exact lp_sr (F_m_measures_p0 (by decide +kernel))
theorem w_00 : (0 : Int32) + 0 = 0 := by decide +kernel
theorem w_m0 {a : Int32} : a * (0 : Int32) = 0 := Int32.mul_zero
theorem cx_0.opn (h : cx_0 o g x S) : F_d_countOpen o S = 0 := by
  have z0 : (0 : Int32).toInt = 0 := by decide +kernel
  have z72 : (72 : Int32).toInt = 72 := by decide +kernel
  rw [F_d_countOpen_p2]
  refine lp_cnt (f := F_d_countOpen_B1 o S) (z := (0 : Int32)) (W := 72) (P := fun _ u => u = 0) (Q := fun q => q = 0) (by decide) (fun p pI u hp hpI hP => ?_) (fun pI u hpI hP => ⟨_, F_d_countOpen_p0 (dk_gep z72 (by omega)), hP⟩) ((73 - ((0 : Int32)).toInt).toNat + 1) 0 0 0 (by rw [z0]; decide) (by decide) z0 rfl
  have hP : u = 0 := hP
  have e1 : F_p_isOpen o S 3 pI = 0 := F_p_isOpen_p0 rfl (by rw [show (3 + 1 : Nat) = 4 from rfl]; rcases h.2.2.1.2.2.1 pI.toNatClampNeg with e | e <;> (rw [e]; decide +kernel))
  refine ⟨_, F_d_countOpen_p1 (fun z => by have := dk_gec z72 z; omega) rfl rfl rfl rfl, ?_⟩
  rw [e1, F_flag_p0 rfl, hP]
  exact w_00
theorem cx_0.curtains (h : cx_0 o g x S) : F_d_countCurtains o S = 0 := by
  have z0 : (0 : Int32).toInt = 0 := by decide +kernel
  have z72 : (72 : Int32).toInt = 72 := by decide +kernel
  rw [F_d_countCurtains_p4]
  refine lp_cnt (f := F_d_countCurtains_B1 S o) (z := (0 : Int32)) (W := 72) (P := fun _ u => u = 0) (Q := fun q => q = 0) (by decide) (fun p pI u hp hpI hP => ?_) (fun pI u hpI hP => ⟨_, F_d_countCurtains_p0 (dk_gep z72 (by omega)), hP⟩) ((73 - ((0 : Int32)).toInt).toNat + 1) 0 0 0 (by rw [z0]; decide) (by decide) z0 rfl
  have hP : u = 0 := hP
  have n254 : ¬ S.2.1 4 pI.toNatClampNeg = (254 : Int32) := by rcases h.2.2.1.2.2.1 pI.toNatClampNeg with e | e <;> (rw [e]; decide +kernel)
  refine ⟨_, (F_d_countCurtains_p2 (fun z => by have := dk_gec z72 z; omega) rfl n254).trans (F_d_countCurtains_p1 rfl rfl rfl), ?_⟩
  rw [F_flag_p0 rfl, hP]
  exact w_00
theorem cx_0.tubs (h : cx_0 o g x S) : F_p_tubsFrom o S 3 0 = 0 := by
  have z0 : (0 : Int32).toInt = 0 := by decide +kernel
  have z9 : (9 : Int32).toInt = 9 := by decide +kernel
  rw [F_p_tubsFrom_p2]
  refine lp_cnt (f := F_p_tubsFrom_B1 S 3) (z := (0 : Int32)) (W := 10) (P := fun _ u => u = 0) (Q := fun q => q = 0) (by decide) (fun p pI u hp hpI hP => ?_) (fun pI u hpI hP => ⟨_, F_p_tubsFrom_p0 (dk_gtp z9 (by omega)), hP⟩) ((11 - ((0 : Int32)).toInt).toNat + 1) 0 0 0 (by rw [z0]; decide) (by decide) z0 rfl
  have hP : u = 0 := hP
  refine ⟨_, F_p_tubsFrom_p1 (fun z => by have := dk_gtc z9 z; omega) rfl rfl rfl, ?_⟩
  rw [show (3 + 6 : Nat) = 9 from rfl, h.2.2.1.2.2.2, hP]
  exact w_00
theorem cx_0.worth (h : cx_0 o g x S) : F_p_wholeWorth o S 3 = 0 := by
  have z0 : (0 : Int32).toInt = 0 := by decide +kernel
  have z9 : (9 : Int32).toInt = 9 := by decide +kernel
  have z72 : (72 : Int32).toInt = 72 := by decide +kernel
  have tg : F_p_tubGrades o S 3 = 0 := by
    rw [F_p_tubGrades_p2]
    refine lp_cnt (f := F_p_tubGrades_B1 S 3) (z := (0 : Int32)) (W := 10) (P := fun _ u => u = 0) (Q := fun q => q = 0) (by decide) (fun p pI u hp hpI hP => ?_) (fun pI u hpI hP => ⟨_, F_p_tubGrades_p0 (dk_gtp z9 (by omega)), hP⟩) ((11 - ((0 : Int32)).toInt).toNat + 1) 0 0 0 (by rw [z0]; decide) (by decide) z0 rfl
    have hP : u = 0 := hP
    refine ⟨_, F_p_tubGrades_p1 (fun z => by have := dk_gtc z9 z; omega) rfl rfl rfl rfl, ?_⟩
    rw [show (3 + 6 : Nat) = 9 from rfl, h.2.2.1.2.2.2, hP, w_m0]
    exact w_00
  rw [F_p_wholeWorth_p4 rfl, tg]
  refine lp_cnt (f := F_p_wholeWorth_B1 o S 3) (z := (0 : Int32)) (W := 72) (P := fun _ u => u = 0) (Q := fun q => q = 0) (by decide) (fun p pI u hp hpI hP => ?_) (fun pI u hpI hP => ⟨_, F_p_wholeWorth_p0 (dk_gep z72 (by omega)), hP⟩) ((73 - ((0 : Int32)).toInt).toNat + 1) 0 0 0 (by rw [z0]; decide) (by decide) z0 rfl
  have hP : u = 0 := hP
  have q0 : ¬ (72 : Int32) ≤ pI := fun z => by have := dk_gec z72 z; omega
  by_cases q : F_p_isSolid0 o S 3 pI = (0 : Int32)
  · exact ⟨_, (F_p_wholeWorth_p2 q0 rfl q).trans (F_p_wholeWorth_p1 rfl), hP⟩
  · have e4 : S.2.1 4 pI.toNatClampNeg = 0 := by
      rcases h.2.2.1.2.2.1 pI.toNatClampNeg with e | e
      · exact absurd (F_p_isSolid0_p0 (o := o) (pt := 3) (a1 := pI) rfl (by rw [show (3 + 1 : Nat) = 4 from rfl, e]; decide +kernel)) q
      · exact e
    refine ⟨_, (F_p_wholeWorth_p3 q0 rfl rfl q rfl).trans (F_p_wholeWorth_p1 rfl), ?_⟩
    rw [show (3 + 1 : Nat) = 4 from rfl, e4, hP]
    exact w_00
theorem mx_0.worth (h : mx_0 x S) : F_m_worthOf o S a1 = 0 := by
  have z0 : (0 : Int32).toInt = 0 := by decide +kernel
  have z10 : (10 : Int32).toInt = 10 := by decide +kernel
  have z64 : (64 : Int32).toInt = 64 := by decide +kernel
  have tg : F_m_tubGrades o S a1 = 0 := by
    rw [F_m_tubGrades_p2]
    refine lp_cnt (f := F_m_tubGrades_B1 a1 S) (z := (0 : Int32)) (W := 10) (P := fun _ u => u = 0) (Q := fun q => q = 0) (by decide) (fun p pI u hp hpI hP => ?_) (fun pI u hpI hP => ⟨_, F_m_tubGrades_p0 (dk_gep z10 (by omega)), hP⟩) ((11 - ((0 : Int32)).toInt).toNat + 1) 0 0 0 (by rw [z0]; decide) (by decide) z0 rfl
    have hP : u = 0 := hP
    refine ⟨_, F_m_tubGrades_p1 (fun z => by have := dk_gec z10 z; omega) rfl rfl rfl rfl rfl rfl, ?_⟩
    rw [h.2.2.1.2.2.2.2, hP, w_m0]
    exact w_00
  rw [F_m_worthOf_p6 rfl, tg]
  refine lp_cnt (f := F_m_worthOf_B1 o S a1) (z := (0 : Int32)) (W := 64) (P := fun _ u => u = 0) (Q := fun q => q = 0) (by decide) (fun p pI u hp hpI hP => ?_) (fun pI u hpI hP => ⟨_, F_m_worthOf_p0 (dk_gep z64 (by omega)), hP⟩) ((65 - ((0 : Int32)).toInt).toNat + 1) 0 0 0 (by rw [z0]; decide) (by decide) z0 rfl
  have hP : u = 0 := hP
  refine ⟨_, (F_m_worthOf_p3 (fun z => by have := dk_gec z64 z; omega) rfl h.cellOf).trans (F_m_worthOf_p2.trans (F_m_worthOf_p1 rfl rfl)), ?_⟩
  rw [hP]
  exact w_00
/-- a count of the reference that counts nothing -/
theorem mx_0cnt {f : Int32 × Int32 → (Int32 × Int32) ⊕ (dg_S × Int32)} {z : dg_S × Int32} {W : Nat} (hW : W ≤ 64) (h0 : ∀ (iI u : Int32), iI.toInt < W → 0 ≤ iI.toInt → f (iI, u) = .inl (iI + 1, u + 0)) (h1 : ∀ (iI u : Int32), iI.toInt = W → f (iI, u) = .inr (T, u)) {N : Nat} (hN : W + 1 ≤ N) : lp f z N ((0 : Int32), (0 : Int32)) = (T, 0) := by
  have z0 : (0 : Int32).toInt = 0 := by decide +kernel
  refine lp_cnt (f := f) (z := z) (W := W) (P := fun _ u => u = 0) (Q := fun q => q = (T, 0)) (by omega) (fun p pI u hp hpI hP => ?_) (fun pI u hpI hP => ?_) N 0 0 0 (by omega) (by omega) z0 rfl
  · have hP : u = 0 := hP
    refine ⟨_, h0 pI u (by omega) (by omega), ?_⟩
    rw [hP]
    exact w_00
  · have hP : u = 0 := hP
    exact ⟨_, h1 pI u hpI, by rw [hP]⟩
/-- HAS -/
theorem sim0_has (hX : cx_0 oX g x SX) (hM : mx_0 x SM) (hf : zI SX 229 5 = zI SM 0 69) : (F_d_has oX SX a1).2 = (F_m_has oM SM a1).2 ∧ (F_d_has oX SX a1).1 = SX ∧ kp (fun _ _ => False) (fun a => a = 42 ∨ a = 43) SM (F_m_has oM SM a1).1 := by
  have z0 : (0 : Int32).toInt = 0 := by decide +kernel
  have z10 : (10 : Int32).toInt = 10 := by decide +kernel
  have z64 : (64 : Int32).toInt = 64 := by decide +kernel
  have n0 : (0 : Int32).toNatClampNeg = 0 := by decide +kernel
  have fin : ∀ (S2 : dg_S) (y1 y2 : Int32), F_d_has oX SX a1 = (SX, y1) → F_m_has oM SM a1 = (S2, y2) → y1 = y2 → kp (fun _ _ => False) (fun a => a = 42 ∨ a = 43) SM S2 → (F_d_has oX SX a1).2 = (F_m_has oM SM a1).2 ∧ (F_d_has oX SX a1).1 = SX ∧ kp (fun _ _ => False) (fun a => a = 42 ∨ a = 43) SM (F_m_has oM SM a1).1 := fun S2 y1 y2 e1 e2 e k => by
    rw [e1, e2]
    exact ⟨e, rfl, k⟩
  by_cases c0 : a1 = (0 : Int32)
  · exact fin SM _ _ (F_d_has_p1  c0 hX.1.symm rfl) (F_m_has_p1  c0 rfl rfl) (hX.2.1.1.trans hM.2.1.1.symm) kp.rf
  by_cases c1 : a1 = (1 : Int32)
  · exact fin SM _ _ (F_d_has_p2 c0 c1 hX.1.symm rfl) (F_m_has_p2 c0 c1 rfl rfl) (hX.2.1.2.1.trans hM.2.1.2.1.symm) kp.rf
  by_cases c2 : a1 = (2 : Int32)
  · exact fin SM _ _ (F_d_has_p3 c0 c1 c2 hX.1.symm rfl) (F_m_has_p3 c0 c1 c2 rfl rfl) (hX.2.1.2.2.1.trans hM.2.1.2.2.1.symm) kp.rf
  by_cases c3 : a1 = (3 : Int32)
  · exact fin SM _ _ (F_d_has_p4 c0 c1 c2 c3 hX.1.symm rfl) (F_m_has_p4 c0 c1 c2 c3 rfl rfl) (hX.2.1.2.2.2.1.trans hM.2.1.2.2.2.1.symm) kp.rf
  by_cases c4 : a1 = (4 : Int32)
  · exact fin SM _ _ (F_d_has_p5 c0 c1 c2 c3 c4 hX.1.symm rfl) (F_m_has_p5 c0 c1 c2 c3 c4 rfl rfl) (hX.2.1.2.2.2.2.trans hM.2.1.2.2.2.2.symm) kp.rf
  by_cases c5 : a1 = (5 : Int32)
  · exact fin SM _ _ (F_d_has_p6 c0 c1 c2 c3 c4 c5 rfl) (F_m_has_p6 c0 c1 c2 c3 c4 c5 rfl) (hX.2.2.1.1.trans (by rw [n0]; exact hM.2.2.1.1.symm)) kp.rf
  by_cases c6 : a1 = (6 : Int32)
  · refine fin SM _ _ (F_d_has_p7 c0 c1 c2 c3 c4 c5 c6 rfl) ((F_m_has_p13 c0 c1 c2 c3 c4 c5 c6).trans (mx_0cnt (W := 64) (T := SM) (by decide) (fun iI u h1 h2 => (F_m_has_p10 (fun z => by have := dk_gec z64 z; omega) rfl hM.cellOf).trans (F_m_has_p9.trans (F_m_has_p8 rfl rfl))) (fun iI u h1 => F_m_has_p7 (dk_gep z64 (by omega))) (by rw [z0]; decide))) hX.opn kp.rf
  by_cases c7 : a1 = (7 : Int32)
  · have e1 : F_d_countLit oX SX = (SX, 0) := F_d_countLit_p3 hX.1.symm rfl hX.seam
    obtain ⟨T, eT, kT⟩ := mx_0.measures (o := oM) (a1 := 0) hM
    have hT := hM.keep kT
    exact fin T _ _ (F_d_has_p8 (S_16 := SX) (x_15 := 0) c0 c1 c2 c3 c4 c5 c6 c7 (by rw [e1]) (by rw [e1])) ((F_m_has_p20 c0 c1 c2 c3 c4 c5 c6 c7 eT.symm).trans (mx_0cnt (W := 64) (T := T) (by decide) (fun iI u h1 h2 => (F_m_has_p17 (fun z => by have := dk_gec z64 z; omega) rfl hT.cellOf).trans (F_m_has_p16.trans (F_m_has_p15 rfl rfl))) (fun iI u h1 => F_m_has_p14 (dk_gep z64 (by omega))) (by rw [z0]; decide))) rfl kT
  by_cases c8 : a1 = (8 : Int32)
  · exact fin SM _ _ (F_d_has_p9 c0 c1 c2 c3 c4 c5 c6 c7 c8 rfl) ((F_m_has_p25 c0 c1 c2 c3 c4 c5 c6 c7 c8).trans (mx_0cnt (W := 64) (T := SM) (by decide) (fun iI u h1 h2 => (F_m_has_p23 (fun z => by have := dk_gec z64 z; omega) rfl hM.cellOf).trans (F_m_has_p22 rfl rfl)) (fun iI u h1 => F_m_has_p21 (dk_gep z64 (by omega))) (by rw [z0]; decide))) hX.curtains kp.rf
  by_cases c9 : a1 = (9 : Int32)
  · have e1 : F_d_countHurt oX SX = 0 := by
      rw [F_d_countHurt_p2]
      exact lp_sr (F_d_countHurt_p0 hX.1.symm rfl (by rw [hX.2.1.2.2.1]; decide +kernel))
    have e2 : F_m_bits oM SM 0 = 0 := by
      rw [F_m_bits_p2]
      exact lp_sr (F_m_bits_p0 rfl)
    exact fin SM _ _ (F_d_has_p10 c0 c1 c2 c3 c4 c5 c6 c7 c8 c9 rfl) (F_m_has_p26 c0 c1 c2 c3 c4 c5 c6 c7 c8 c9 rfl rfl) (by rw [e1, n0, hM.2.2.1.2.2.1, e2]) kp.rf
  by_cases c10 : a1 = (10 : Int32)
  · exact fin SM _ _ (F_d_has_p11 c0 c1 c2 c3 c4 c5 c6 c7 c8 c9 c10 rfl) ((F_m_has_p29 c0 c1 c2 c3 c4 c5 c6 c7 c8 c9 c10).trans (mx_0cnt (W := 10) (T := SM) (by decide) (fun iI u h1 h2 => by
      have := F_m_has_p28 (S := SM) (x_310 := iI) (x_311 := u) (fun z => by have := dk_gec z10 z; omega) rfl rfl rfl
      rw [hM.2.2.1.2.2.2.2] at this
      exact this) (fun iI u h1 => F_m_has_p27 (dk_gep z10 (by omega))) (by rw [z0]; decide))) hX.tubs kp.rf
  by_cases c11 : a1 = (11 : Int32)
  · exact fin SM _ _ (F_d_has_p12 c0 c1 c2 c3 c4 c5 c6 c7 c8 c9 c10 c11 rfl) (F_m_has_p30 c0 c1 c2 c3 c4 c5 c6 c7 c8 c9 c10 c11 rfl) (hX.2.2.1.2.1.trans (by rw [n0]; exact hM.2.2.1.2.1.symm)) kp.rf
  by_cases c12 : a1 = (12 : Int32)
  · exact fin SM _ _ (F_d_has_p13 c0 c1 c2 c3 c4 c5 c6 c7 c8 c9 c10 c11 c12 rfl) (F_m_has_p31 c0 c1 c2 c3 c4 c5 c6 c7 c8 c9 c10 c11 c12 rfl) (hX.worth.trans hM.worth.symm) kp.rf
  by_cases c13 : a1 = (13 : Int32)
  · exact fin SM _ _ (F_d_has_p14 c0 c1 c2 c3 c4 c5 c6 c7 c8 c9 c10 c11 c12 c13 rfl) (F_m_has_p32 c0 c1 c2 c3 c4 c5 c6 c7 c8 c9 c10 c11 c12 c13 rfl) (hX.2.2.2.1.1.trans (by rw [n0]; exact hM.2.2.1.2.2.2.1.symm)) kp.rf
  by_cases c14 : a1 = (14 : Int32)
  · exact fin SM _ _ (F_d_has_p15 c0 c1 c2 c3 c4 c5 c6 c7 c8 c9 c10 c11 c12 c13 c14 rfl) (F_m_has_p33 c0 c1 c2 c3 c4 c5 c6 c7 c8 c9 c10 c11 c12 c13 c14 rfl) (hf) kp.rf
  by_cases c15 : a1 = (15 : Int32)
  · exact fin SM _ _ (F_d_has_p16 c0 c1 c2 c3 c4 c5 c6 c7 c8 c9 c10 c11 c12 c13 c14 c15 rfl) (F_m_has_p34 c0 c1 c2 c3 c4 c5 c6 c7 c8 c9 c10 c11 c12 c13 c14 c15 rfl) (hX.2.2.2.1.2.trans hM.2.2.2.1.symm) kp.rf
  by_cases c16 : a1 = (16 : Int32)
  · have b1 := Int32.le_toInt (zI SX 0 12)
    have b2 := Int32.toInt_lt (zI SX 0 12)
    have hx := hX.2.2.2.2
    have hl := hM.2.2.2.2
    exact fin SM _ _ (F_d_has_p17 c0 c1 c2 c3 c4 c5 c6 c7 c8 c9 c10 c11 c12 c13 c14 c15 c16 rfl) (F_m_has_p35 c0 c1 c2 c3 c4 c5 c6 c7 c8 c9 c10 c11 c12 c13 c14 c15 c16 rfl rfl) (Int32.toInt_inj.mp (by rw [cx_l2i (by omega) (by omega)]; exact hx.trans hl.symm)) kp.rf
  exact fin SM _ _ (F_d_has_p0 c0 c1 c2 c3 c4 c5 c6 c7 c8 c9 c10 c11 c12 c13 c14 c15 c16) (F_m_has_p0 c0 c1 c2 c3 c4 c5 c6 c7 c8 c9 c10 c11 c12 c13 c14 c15 c16) rfl kp.rf
end FB
