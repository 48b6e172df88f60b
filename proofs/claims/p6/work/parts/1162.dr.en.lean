/-! FEEL: both sides -/
/-- the tape: n bytes -/
def cx_tp (n : Nat) (B : Nat → Int) (S : dg_S) : Prop := (zI S 1 1).toInt = n ∧ n ≤ 1600 ∧ ∀ i, i < n → (S.2.1 2 i).toInt = B i ∧ 0 ≤ B i ∧ B i ≤ 255
def mx_tp (n : Nat) (B : Nat → Int) (S : dg_S) : Prop := (zI S 0 1).toInt = n ∧ n ≤ 1600 ∧ ∀ i, i < n → (S.2.1 1 i).toInt = B i ∧ 0 ≤ B i ∧ B i ≤ 255
/-- a row that can be felt -/
def s_fr (G : aR) (B : Nat → Int) (i : Nat) : Prop := B (4 * i) ≤ 30 ∧ ((0 ≤ B (4 * i + 1) ∧ B (4 * i + 1) < G 0 0) ∧ 0 ≤ B (4 * i + 2) ∧ B (4 * i + 2) < G 0 1) ∧ (B (4 * i + 3) ≤ 9 ∨ B (4 * i + 3) = 255)
def s_fO (G : aR) (B : Nat → Int) (n : Nat) : Prop := (0 < n ∧ n ≤ 64 ∧ n % 4 = 0) ∧ ∀ i, i < n / 4 → s_fr G B i
def s_f4 (B : Nat → Int) (i : Nat) : Int × Int × Int := (B (4 * i), 8 * B (4 * i + 2) + B (4 * i + 1), if B (4 * i + 3) = 255 then -1 else B (4 * i + 3))
def s_fF (B : Nat → Int) (m : Nat) : s_F := (List.range m).map (s_f4 B)
theorem s_fF_l {B : Nat → Int} {m : Nat} : (s_fF B m).length = m := by
  unfold s_fF
  rw [List.length_map, List.length_range]
theorem s_fF_e {B : Nat → Int} {m i : Nat} (h : i < m) : s_fe (s_fF B m) i = s_f4 B i := by
  unfold s_fe s_fF
  rw [List.getD_eq_getElem?_getD, List.getElem?_map, List.getElem?_range h]
  rfl
theorem s_fF_k {G : aR} {B : Nat → Int} {n : Nat} (h : s_fO G B n) (hb : ∀ i, i < n → 0 ≤ B i ∧ B i ≤ 255) (hg : s_gb G) : s_fk G (s_fF B (n / 4)) := by
  obtain ⟨⟨h1, h2, h3⟩, h4⟩ := h
  obtain ⟨⟨g1, g2⟩, g3, g4⟩ := hg
  refine ⟨by rw [s_fF_l]; omega, fun i hi => ?_⟩
  rw [s_fF_l] at hi
  rw [s_fF_e hi]
  obtain ⟨r1, r2, r3⟩ := h4 i hi
  have b0 := hb (4 * i) (by omega)
  have b3 := hb (4 * i + 3) (by omega)
  refine ⟨⟨b0.1, r1⟩, ⟨⟨?_, ?_⟩, ?_, ?_⟩, ?_, ?_⟩
  · show 0 ≤ 8 * B (4 * i + 2) + B (4 * i + 1)
    omega
  · show 8 * B (4 * i + 2) + B (4 * i + 1) < 64
    omega
  · show (8 * B (4 * i + 2) + B (4 * i + 1)) % 8 < G 0 0
    omega
  · show (8 * B (4 * i + 2) + B (4 * i + 1)) / 8 < G 0 1
    omega
  · show -1 ≤ (if B (4 * i + 3) = 255 then -1 else B (4 * i + 3))
    split <;> omega
  · show (if B (4 * i + 3) = 255 then -1 else B (4 * i + 3)) ≤ 9
    split <;> omega
/-- a loop that counts by fours, and may end before -/
theorem lp_cnt4 {σ ρ : Type} {f : Int32 × σ → (Int32 × σ) ⊕ ρ} {z : ρ} {W : Nat} {P : Nat → σ → Prop} {Q : ρ → Prop} (hW : W < 200000000) (hs : ∀ (c : Nat) (cI : Int32) (s : σ), c < W → cI.toInt = 4 * c → P c s → (∃ s1, f (cI, s) = .inl (cI + 4, s1) ∧ P (c + 1) s1) ∨ ∃ r, f (cI, s) = .inr r ∧ Q r) (he : ∀ (cI : Int32) (s : σ), cI.toInt = 4 * W → P W s → ∃ r, f (cI, s) = .inr r ∧ Q r) : ∀ (n c : Nat) (cI : Int32) (s : σ), W + 1 ≤ n + c → c ≤ W → cI.toInt = 4 * c → P c s → Q (lp f z n (cI, s)) := by
  intro n
  induction n with
  | zero =>
    intro c cI s h1 h2
    omega
  | succ n ih =>
    intro c cI s h1 h2 h3 h4
    by_cases q : c < W
    · rcases hs c cI s q h3 h4 with ⟨s1, e1, p1⟩ | ⟨r, e1, q1⟩
      · rw [lp_sl e1]
        refine ih (c + 1) (cI + 4) s1 (by omega) (by omega) ?_ p1
        rw [dk_addT h3 (b := 4) (by decide +kernel) (by omega) (by omega)]
        omega
      · rw [lp_sr e1]
        exact q1
    · have ec : c = W := by omega
      subst ec
      obtain ⟨r, e1, q1⟩ := he cI s h3 h4
      rw [lp_sr e1]
      exact q1
section EN
variable {o oX oM g n p k i : Nat} {G A A' : aR} {K : Nat → List Int} {L L' : s_L} {U : s_U} {F : s_F} {B : Nat → Int} {S S0 S1 SX SM T : dg_S} {x x' r c v t : Int} {a a1 a2 a3 a4 y : Int32}
theorem cx_canBeFelt (hg : cx_g G K S g) (hb : s_gb G) (tp : cx_tp n B S) (ha : a1.toInt = 4 * i) (hi : 4 * i + 3 < n) : F_e_canBeFelt o S g a1 = 1 ∧ s_fr G B i ∨ F_e_canBeFelt o S g a1 = 0 ∧ ¬ s_fr G B i := by
  have z30 : (30 : Int32).toInt = 30 := by decide +kernel
  have z9 : (9 : Int32).toInt = 9 := by decide +kernel
  have z255 : (255 : Int32).toInt = 255 := by decide +kernel
  obtain ⟨t1, t2, t3⟩ := tp
  have n0 : a1.toNatClampNeg = 4 * i := by rw [dk_clN]; omega
  have n1 : (a1 + (1 : Int32)).toNatClampNeg = 4 * i + 1 := by rw [dk_clN, dk_addT ha (b := 1) (by decide +kernel) (by omega) (by omega)]; omega
  have n2 : (a1 + (2 : Int32)).toNatClampNeg = 4 * i + 2 := by rw [dk_clN, dk_addT ha (b := 2) (by decide +kernel) (by omega) (by omega)]; omega
  have n3 : (a1 + (3 : Int32)).toNatClampNeg = 4 * i + 3 := by rw [dk_clN, dk_addT ha (b := 3) (by decide +kernel) (by omega) (by omega)]; omega
  have b0 := t3 (4 * i) (by omega)
  have b1 := t3 (4 * i + 1) (by omega)
  have b2 := t3 (4 * i + 2) (by omega)
  have b3 := t3 (4 * i + 3) (by omega)
  rw [← n0] at b0
  by_cases q0 : (30 : Int32) < S.2.1 2 a1.toNatClampNeg
  · have d0 := w_lt.mp q0
    rw [z30, b0.1, n0] at d0
    exact Or.inr ⟨F_e_canBeFelt_p0 rfl q0, fun z => by have := z.1; omega⟩
  have d0 : ¬ (30 : Int32).toInt < (S.2.1 2 a1.toNatClampNeg).toInt := fun z => q0 (w_lt.mpr z)
  rw [z30, b0.1, n0] at d0
  rcases cx_place (o := o) (a1 := S.2.1 2 (a1 + (1 : Int32)).toNatClampNeg) (a2 := S.2.1 2 (a1 + (2 : Int32)).toNatClampNeg) hg hb with ⟨p1, p2, p3, p4⟩ | ⟨p1, p2⟩
  rotate_left
  · refine Or.inr ⟨F_e_canBeFelt_p1 rfl q0 rfl rfl rfl rfl rfl p2, fun z => p1 ?_⟩
    rw [n1, n2, b1.1, b2.1]
    exact z.2.1
  have np : ¬ F_g_placeOf o S g (S.2.1 2 (a1 + (1 : Int32)).toNatClampNeg) (S.2.1 2 (a1 + (2 : Int32)).toNatClampNeg) = (-1 : Int32) := fun z => by
    have := dk_eqc (k := -1) (by decide +kernel) z
    have := p4.1
    omega
  rw [n1, b1.1] at p1
  rw [n2, b2.1] at p2
  have e3 : (S.2.1 2 (a1 + (3 : Int32)).toNatClampNeg).toInt = B (4 * i + 3) := by rw [n3]; exact b3.1
  by_cases q1 : S.2.1 2 (a1 + (3 : Int32)).toNatClampNeg ≤ (9 : Int32)
  · have d1 := dk_lec z9 q1
    rw [e3] at d1
    exact Or.inl ⟨F_e_canBeFelt_p2 rfl rfl rfl q0 rfl rfl rfl rfl rfl np q1, by omega, ⟨p1, p2⟩, Or.inl d1⟩
  have d1 := dk_nlec z9 q1
  rw [e3] at d1
  by_cases q2 : S.2.1 2 (a1 + (3 : Int32)).toNatClampNeg = (255 : Int32)
  · have d2 := dk_eqc z255 q2
    rw [e3] at d2
    exact Or.inl ⟨F_e_canBeFelt_p4 rfl rfl rfl q0 rfl rfl rfl rfl rfl np q1 q2, by omega, ⟨p1, p2⟩, Or.inr d2⟩
  · have d2 := dk_neqc z255 q2
    rw [e3] at d2
    exact Or.inr ⟨F_e_canBeFelt_p3 rfl rfl rfl q0 rfl rfl rfl rfl rfl np q1 q2, fun z => by have := z.2.2; omega⟩
/-- what is taken as felt -/
theorem cx_eTake (hg : cx_g G K S g) (hb : s_gb G) (tp : cx_tp n B S) : (s_fO G B n ∧ ∃ S1, F_e_take o S g = (S1, 1) ∧ cx_fe (s_fF B (n / 4)) S1 ∧ (zI S1 229 4).toInt = 0 ∧ kp (fun a b => a = 229 ∧ (b = 4 ∨ b = 5)) (fun a => a = 230) S S1) ∨ (¬ s_fO G B n ∧ F_e_take o S g = (S, 0)) := by
  have z0 : (0 : Int32).toInt = 0 := by decide +kernel
  have z1 : (1 : Int32).toInt = 1 := by decide +kernel
  have z4 : (4 : Int32).toInt = 4 := by decide +kernel
  have z16 : (16 : Int32).toInt = 16 := by decide +kernel
  have n0 : (0 : Int32).toNatClampNeg = 0 := by decide +kernel
  have t := tp
  obtain ⟨t1, t2, t3⟩ := tp
  have r1 : (zI S 1 1 - zI S 1 1 / (4 : Int32) * (4 : Int32)).toInt = (n : Int) % 4 := by rw [dk_remL (by omega) z4 (by decide), t1]
  have r2 : (zI S 1 1 / (4 : Int32)).toInt = (n : Int) / 4 := by rw [dk_divL (by omega) z4 (by decide), t1]
  by_cases q1 : zI S 1 1 - zI S 1 1 / (4 : Int32) * (4 : Int32) = (0 : Int32)
  rotate_left
  · have d1 := dk_neqc z0 q1
    rw [r1] at d1
    exact Or.inr ⟨fun z => by have := z.1.2.2; omega, F_e_take_p0 rfl rfl q1⟩
  have d1 := dk_eqc z0 q1
  rw [r1] at d1
  by_cases q2 : zI S 1 1 / (4 : Int32) < (1 : Int32)
  · have d2 := dk_ltc z1 q2
    rw [r2] at d2
    exact Or.inr ⟨fun z => by have := z.1.1; omega, F_e_take_p1 rfl rfl rfl q1 q2⟩
  have d2 := dk_nltc z1 q2
  rw [r2] at d2
  by_cases q3 : zI S 1 1 / (4 : Int32) ≤ (16 : Int32)
  rotate_left
  · have d3 := dk_nlec z16 q3
    rw [r2] at d3
    exact Or.inr ⟨fun z => by have := z.1.2.1; omega, F_e_take_p7 rfl rfl rfl q1 q2 q3⟩
  have d3 := dk_lec z16 q3
  rw [r2] at d3
  rw [F_e_take_p6 rfl rfl rfl q1 q2 q3]
  have main := lp_cnt1 (f := F_e_take_B2 (zI S 1 1 / (4 : Int32)) S (zI S 1 1) o g) (z := (S, (0 : Int32))) (W := n / 4) (P := fun i => ∀ j, j < i → s_fr G B j) (Q := fun q => (q = F_e_take_J1 S (zI S 1 1) (zI S 1 1 / (4 : Int32)) o ∧ ∀ j, j < n / 4 → s_fr G B j) ∨ (q = (S, 0) ∧ ¬ ∀ j, j < n / 4 → s_fr G B j)) (by omega) (fun i iI hi hiI hP => by
    have q0 : ¬ zI S 1 1 / (4 : Int32) ≤ iI := fun z => by have := w_le.mp z; rw [r2] at this; omega
    have e4 : ((4 : Int32) * iI).toInt = 4 * (i : Int) := dk_mulT z4 hiI (by omega) (by omega)
    rcases cx_canBeFelt (o := o) (a1 := (4 : Int32) * iI) (i := i) hg hb t e4 (by omega) with ⟨e, w⟩ | ⟨e, w⟩
    · refine Or.inl ⟨F_e_take_p4 q0 rfl rfl (by rw [e]; decide +kernel) rfl, fun j hj => ?_⟩
      by_cases v : j = i
      · rw [v]
        exact w
      · exact hP j (by omega)
    · exact Or.inr ⟨_, F_e_take_p5 q0 rfl rfl e, Or.inr ⟨rfl, fun z => w (z i hi)⟩⟩) (fun iI hiI hP => ⟨_, F_e_take_p3 (w_le.mpr (by rw [r2]; omega)), Or.inl ⟨rfl, hP⟩⟩) ((17 - ((0 : Int32)).toInt).toNat + 1) 0 0 (by rw [z0]; omega) (by omega) z0 (fun j hj => absurd hj (Nat.not_lt_zero j))
  rcases main with ⟨e, w⟩ | ⟨e, w⟩
  rotate_left
  · exact Or.inr ⟨fun z => w z.2, e⟩
  refine Or.inl ⟨⟨⟨by omega, by omega, by omega⟩, w⟩, ?_⟩
  obtain ⟨S2, h2⟩ : ∃ X, X = dg_uf S 230 (va_cpy (S.2.1 2) (S.2.1 230) (0 : Int32).toNatClampNeg (0 : Int32).toNatClampNeg (zI S 1 1).toNatClampNeg) := ⟨_, rfl⟩
  obtain ⟨S3, h3⟩ : ∃ X, X = dg_uF S2 229 5 (.int (zI S 1 1 / (4 : Int32))) := ⟨_, rfl⟩
  obtain ⟨S4, h4⟩ : ∃ X, X = dg_uF S3 229 4 (.int (0 : Int32)) := ⟨_, rfl⟩
  rw [e, F_e_take_p2 h2 h3 (show S4 = F_e_forget o S3 from by rw [F_e_forget_p0 h4])]
  have k4 : kp (fun a b => a = 229 ∧ (b = 4 ∨ b = 5)) (fun a => a = 230) S S4 := by
    rw [h4, h3, h2]
    exact kp.uF (kp.uF (kp.uf kp.rf rfl) ⟨rfl, Or.inr rfl⟩) ⟨rfl, Or.inl rfl⟩
  refine ⟨S4, rfl, ⟨?_, fun i hi => ?_⟩, ?_, k4⟩
  · rw [s_fF_l, h4, w_I0 (by decide), h3, w_I, if_pos ⟨rfl, rfl⟩, r2]
    omega
  · rw [s_fF_l] at hi
    have row : ∀ j, j < n → (S4.2.1 230 j).toInt = B j := fun j hj => by
      have nn : (zI S 1 1).toNatClampNeg = n := by rw [dk_clN, t1]; omega
      rw [h4, h3]
      show (S2.2.1 230 j).toInt = B j
      rw [h2, w_f, if_pos rfl, n0, va_c0, nn, if_pos hj]
      exact (t3 j hj).1
    rw [s_fF_e hi, row _ (by omega), row _ (by omega), row _ (by omega), row _ (by omega)]
    have v := w i hi
    have b1 := t3 (4 * i + 1) (by omega)
    have b2 := t3 (4 * i + 2) (by omega)
    have b3 := t3 (4 * i + 3) (by omega)
    obtain ⟨⟨g1, g2⟩, g3, g4⟩ := hb
    refine ⟨rfl, ?_, ?_, ?_⟩
    · show B (4 * i + 1) = (8 * B (4 * i + 2) + B (4 * i + 1)) % 8
      have := v.2.1.1
      omega
    · show B (4 * i + 2) = (8 * B (4 * i + 2) + B (4 * i + 1)) / 8
      have := v.2.1.1
      omega
    · show B (4 * i + 3) = if (if B (4 * i + 3) = 255 then (-1 : Int) else B (4 * i + 3)) = -1 then 255 else (if B (4 * i + 3) = 255 then (-1 : Int) else B (4 * i + 3))
      by_cases u : B (4 * i + 3) = 255
      · rw [if_pos u, if_pos rfl]
        exact u
      · rw [if_neg u, if_neg (by omega)]
  · rw [h4, w_I, if_pos ⟨rfl, rfl⟩]
    exact z0
/-- FEEL of the class -/
theorem cx_feel (ok : s_ok G K A U) (h : RX o g G K A L U x S) (tp : cx_tp n B S) : (s_fO G B n ∧ ∃ (S1 : dg_S) (y : Int32), F_d_feel o S = (S1, y) ∧ y.toInt = ((n / 4 : Nat) : Int) ∧ RX o g G K A L U x S1 ∧ cx_fe (s_fF B (n / 4)) S1 ∧ (zI S1 229 4).toInt = 0 ∧ (zI S1 1 1).toInt = 0 ∧ kp (fun a b => (a = 229 ∧ (b = 4 ∨ b = 5)) ∨ (a = 1 ∧ b = 1)) (fun a => a = 230) S S1) ∨ (¬ s_fO G B n ∧ ∃ S1, F_d_feel o S = (S1, (-1 : Int32)) ∧ RX o g G K A L U x S1 ∧ (zI S1 1 1).toInt = 0 ∧ S1.2.1 184 = upd (S.2.1 184) 5 (S.2.1 184 5 + 1) ∧ kp (fun a b => a = 1 ∧ b = 1) (fun a => a = 184) S S1) := by
  have z0 : (0 : Int32).toInt = 0 := by decide +kernel
  have n5 : (5 : Int32).toNatClampNeg = 5 := by decide +kernel
  rcases cx_eTake (o := o) h.2.1 ok.1.1.1 tp with ⟨w, S1, e1, f1, i1, k1⟩ | ⟨w, e1⟩
  · obtain ⟨S2, h2⟩ : ∃ X, X = dg_uF S1 1 1 (.int (0 : Int32)) := ⟨_, rfl⟩
    have k2 : kp (fun a b => (a = 229 ∧ (b = 4 ∨ b = 5)) ∨ (a = 1 ∧ b = 1)) (fun a => a = 230) S S2 := by
      rw [h2]
      exact kp.uF (k1.w (fun a b z => Or.inl z) (fun a z => z)) (Or.inr ⟨rfl, rfl⟩)
    have t2 : kp (fun a b => a = 1 ∧ b = 1) (fun _ => False) S1 S2 := by
      rw [h2]
      exact kp.uF kp.rf ⟨rfl, rfl⟩
    have sep := rX_sep h.2.1.1.1
    refine Or.inl ⟨w, S2, zI S2 229 5, F_d_feel_p1 h.1.symm (by rw [e1]) (show (1 : Int32) = _ by rw [e1]) h2 (by decide +kernel) rfl, ?_, h.keep k2 (by omega) (by omega) (fun a b _ _ => by omega) (fun b => by omega) (fun b => by omega) (fun a b _ _ => by omega) (fun a _ _ => by omega) (fun a _ _ => by omega) (by omega) (fun a _ _ => by omega), f1.keep ⟨fun b => t2.I (by omega), fun b => t2.I (by omega), (t2.2 230 id).1⟩, by rw [t2.I (by decide)]; exact i1, by rw [h2, w_I, if_pos ⟨rfl, rfl⟩]; exact z0, k2⟩
    rw [t2.I (by decide), f1.1, s_fF_l]
  · obtain ⟨S2, h2⟩ : ∃ X, X = dg_uF S 1 1 (.int (0 : Int32)) := ⟨_, rfl⟩
    obtain ⟨S3, h3⟩ : ∃ X, X = dg_uf S2 184 (upd (S2.2.1 184) (5 : Int32).toNatClampNeg (S2.2.1 184 (5 : Int32).toNatClampNeg + (1 : Int32))) := ⟨_, rfl⟩
    have k3 : kp (fun a b => a = 1 ∧ b = 1) (fun a => a = 184) S S3 := by
      rw [h3, h2]
      exact kp.uf (kp.uF kp.rf ⟨rfl, rfl⟩) rfl
    have e3 : F_d_none o S2 5 = (S3, -1) := F_d_none_p0 rfl rfl h3
    have sep := rX_sep h.2.1.1.1
    refine Or.inr ⟨w, S3, F_d_feel_p0 h.1.symm (show S = _ by rw [e1]) (show (0 : Int32) = _ by rw [e1]) h2 rfl (by rw [e3]) (by rw [e3]), h.keep k3 (by omega) (by omega) (fun a b _ _ => by omega) (fun b => by omega) (fun b => by omega) (fun a b _ _ => by omega) (fun a _ _ => by omega) (fun a _ _ => by omega) (by omega) (fun a _ _ => by omega), ?_, ?_, k3⟩
    · rw [h3]
      show (zI S2 1 1).toInt = 0
      rw [h2, w_I, if_pos ⟨rfl, rfl⟩]
      exact z0
    · rw [h3, w_f, if_pos rfl, n5, h2]
      rfl
end EN
