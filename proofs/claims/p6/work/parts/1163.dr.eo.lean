/-! FEEL: the reference, both sides -/
section EO
variable {o oX oM g n p k i : Nat} {G A A' : aR} {K : Nat → List Int} {L L' : s_L} {U : s_U} {F : s_F} {B : Nat → Int} {S S0 S1 SX SM T : dg_S} {x x' r c v t : Int} {a a1 a2 a3 a4 y : Int32}
/-- the rows are written down -/
theorem mx_felt (h1 : a1.toInt = ((n / 4 : Nat) : Int)) (hn : n ≤ 64) (hB : ∀ i, i < n → (S.2.1 1 i).toInt = B i ∧ 0 ≤ B i ∧ B i ≤ 255) {z : dg_S × Int32} : ∃ T, lp (F_m_feel_B8 a1) z ((17 - ((0 : Int32)).toInt).toNat + 1) ((0 : Int32), S) = (T, a1) ∧ kp (fun _ _ => False) (fun a => 45 ≤ a ∧ a ≤ 47) S T ∧ ∀ j, j < n / 4 → (T.2.1 45 j).toInt = (s_f4 B j).1 ∧ (T.2.1 46 j).toInt = (s_f4 B j).2.1 ∧ (T.2.1 47 j).toInt = (s_f4 B j).2.2 := by
  have z0 : (0 : Int32).toInt = 0 := by decide +kernel
  have z4 : (4 : Int32).toInt = 4 := by decide +kernel
  have z8 : (8 : Int32).toInt = 8 := by decide +kernel
  have m1 : (-1 : Int32).toInt = -1 := by decide +kernel
  have z255 : (255 : Int32).toInt = 255 := by decide +kernel
  refine lp_cnt (f := F_m_feel_B8 a1) (z := z) (W := n / 4) (P := fun i T => kp (fun _ _ => False) (fun a => 45 ≤ a ∧ a ≤ 47) S T ∧ ∀ j, j < i → (T.2.1 45 j).toInt = (s_f4 B j).1 ∧ (T.2.1 46 j).toInt = (s_f4 B j).2.1 ∧ (T.2.1 47 j).toInt = (s_f4 B j).2.2) (Q := fun q => ∃ T, q = (T, a1) ∧ kp (fun _ _ => False) (fun a => 45 ≤ a ∧ a ≤ 47) S T ∧ ∀ j, j < n / 4 → (T.2.1 45 j).toInt = (s_f4 B j).1 ∧ (T.2.1 46 j).toInt = (s_f4 B j).2.1 ∧ (T.2.1 47 j).toInt = (s_f4 B j).2.2) (by omega) (fun i iI T hi hiI hP => ?_) (fun iI T hiI hP => ⟨_, F_m_feel_p9 (w_le.mpr (by omega)), T, rfl, hP⟩) ((17 - ((0 : Int32)).toInt).toNat + 1) 0 0 S (by rw [z0]; omega) (by omega) z0 ⟨kp.rf, fun j hj => absurd hj (Nat.not_lt_zero j)⟩
  obtain ⟨t1, t2⟩ := hP
  have q0 : ¬ a1 ≤ iI := fun z => by have := w_le.mp z; omega
  have iN : iI.toNatClampNeg = i := by rw [dk_clN]; omega
  have e4 : ((4 : Int32) * iI).toInt = 4 * (i : Int) := dk_mulT z4 hiI (by omega) (by omega)
  have n0 : ((4 : Int32) * iI).toNatClampNeg = 4 * i := by rw [dk_clN, e4]; omega
  have n1 : ((4 : Int32) * iI + (1 : Int32)).toNatClampNeg = 4 * i + 1 := by rw [dk_clN, dk_addT e4 (b := 1) (by decide +kernel) (by omega) (by omega)]; omega
  have n2 : ((4 : Int32) * iI + (2 : Int32)).toNatClampNeg = 4 * i + 2 := by rw [dk_clN, dk_addT e4 (b := 2) (by decide +kernel) (by omega) (by omega)]; omega
  have n3 : ((4 : Int32) * iI + (3 : Int32)).toNatClampNeg = 4 * i + 3 := by rw [dk_clN, dk_addT e4 (b := 3) (by decide +kernel) (by omega) (by omega)]; omega
  have b0 := hB (4 * i) (by omega)
  have b1 := hB (4 * i + 1) (by omega)
  have b2 := hB (4 * i + 2) (by omega)
  have b3 := hB (4 * i + 3) (by omega)
  have r1 : T.2.1 1 = S.2.1 1 := (t1.2 1 (by omega)).1
  obtain ⟨u0, hu0⟩ : ∃ u : Int32, u = T.2.1 1 ((4 : Int32) * iI).toNatClampNeg := ⟨_, rfl⟩
  obtain ⟨S2, h2⟩ : ∃ X, X = dg_uf T 45 (upd (T.2.1 45) iI.toNatClampNeg u0) := ⟨_, rfl⟩
  have r2 : S2.2.1 1 = S.2.1 1 := by rw [h2, w_f, if_neg (by decide), r1]
  obtain ⟨u2, hu2⟩ : ∃ u : Int32, u = S2.2.1 1 ((4 : Int32) * iI + (2 : Int32)).toNatClampNeg := ⟨_, rfl⟩
  obtain ⟨u1, hu1⟩ : ∃ u : Int32, u = S2.2.1 1 ((4 : Int32) * iI + (1 : Int32)).toNatClampNeg := ⟨_, rfl⟩
  obtain ⟨S3, h3⟩ : ∃ X, X = dg_uf S2 46 (upd (S2.2.1 46) iI.toNatClampNeg ((8 : Int32) * u2 + u1)) := ⟨_, rfl⟩
  have r3 : S3.2.1 1 = S.2.1 1 := by rw [h3, w_f, if_neg (by decide), r2]
  obtain ⟨u3, hu3⟩ : ∃ u : Int32, u = S3.2.1 1 ((4 : Int32) * iI + (3 : Int32)).toNatClampNeg := ⟨_, rfl⟩
  have v0 : u0.toInt = B (4 * i) := by rw [hu0, r1, n0]; exact b0.1
  have v1 : u1.toInt = B (4 * i + 1) := by rw [hu1, r2, n1]; exact b1.1
  have v2 : u2.toInt = B (4 * i + 2) := by rw [hu2, r2, n2]; exact b2.1
  have v3 : u3.toInt = B (4 * i + 3) := by rw [hu3, r3, n3]; exact b3.1
  have v12 : ((8 : Int32) * u2 + u1).toInt = 8 * B (4 * i + 2) + B (4 * i + 1) := dk_addT (dk_mulT z8 v2 (by omega) (by omega)) v1 (by omega) (by omega)
  have fin : ∀ (w : Int32) (S4 : dg_S), w.toInt = (if B (4 * i + 3) = 255 then -1 else B (4 * i + 3)) → S4 = dg_uf S3 47 (upd (S3.2.1 47) iI.toNatClampNeg w) → F_m_feel_B8 a1 (iI, T) = .inl (iI + 1, S4) → ∃ s1, F_m_feel_B8 a1 (iI, T) = .inl (iI + 1, s1) ∧ kp (fun _ _ => False) (fun a => 45 ≤ a ∧ a ≤ 47) S s1 ∧ ∀ j, j < i + 1 → (s1.2.1 45 j).toInt = (s_f4 B j).1 ∧ (s1.2.1 46 j).toInt = (s_f4 B j).2.1 ∧ (s1.2.1 47 j).toInt = (s_f4 B j).2.2 := fun w S4 hw h4 e => by
    refine ⟨S4, e, ?_, fun j hj => ?_⟩
    · rw [h4, h3, h2]
      exact kp.uf (kp.uf (kp.uf t1 ⟨by decide, by decide⟩) ⟨by decide, by decide⟩) ⟨by decide, by decide⟩
    · have w45 : S4.2.1 45 j = if j = i then u0 else T.2.1 45 j := by
        rw [h4, w_f, if_neg (show ¬ (45 : Nat) = 47 by decide), h3, w_f, if_neg (show ¬ (45 : Nat) = 46 by decide), h2, w_f, if_pos rfl, w_u, iN]
      have w46 : S4.2.1 46 j = if j = i then (8 : Int32) * u2 + u1 else T.2.1 46 j := by
        rw [h4, w_f, if_neg (show ¬ (46 : Nat) = 47 by decide), h3, w_f, if_pos rfl, w_u, iN, h2, w_f, if_neg (show ¬ (46 : Nat) = 45 by decide)]
      have w47 : S4.2.1 47 j = if j = i then w else T.2.1 47 j := by
        rw [h4, w_f, if_pos rfl, w_u, iN, h3, w_f, if_neg (show ¬ (47 : Nat) = 46 by decide), h2, w_f, if_neg (show ¬ (47 : Nat) = 45 by decide)]
      by_cases q : j = i
      · rw [w45, w46, w47, if_pos q, if_pos q, if_pos q, q]
        exact ⟨v0, v12, hw⟩
      · rw [w45, w46, w47, if_neg q, if_neg q, if_neg q]
        exact t2 j (by omega)
  by_cases q1 : u3 = (255 : Int32)
  · have d := dk_eqc z255 q1
    rw [v3] at d
    exact fin (-1) _ (by rw [if_pos d]; exact m1) rfl (F_m_feel_p11 q0 rfl hu0 h2 rfl rfl hu2 rfl rfl rfl hu1 rfl h3 rfl rfl hu3 q1 rfl rfl)
  · have d := dk_neqc z255 q1
    rw [v3] at d
    exact fin u3 _ (by rw [if_neg d]; exact v3) rfl (F_m_feel_p10 q0 rfl hu0 h2 rfl rfl hu2 rfl rfl rfl hu1 rfl h3 rfl rfl hu3 q1 rfl rfl hu3 rfl rfl)
/-- FEEL of the reference -/
theorem mx_feel (ok : s_ok G K A U) (h : RM G K A L U x S) (tp : mx_tp n B S) : (s_fO G B n ∧ ∃ (S1 : dg_S) (y : Int32), F_m_feel o S = (S1, y) ∧ y.toInt = ((n / 4 : Nat) : Int) ∧ RM G K A L U x S1 ∧ mx_fe (s_fF B (n / 4)) S1 ∧ (zI S1 0 1).toInt = 0 ∧ kp (fun a b => a = 0 ∧ (b = 1 ∨ b = 69)) (fun a => 45 ≤ a ∧ a ≤ 47) S S1) ∨ (¬ s_fO G B n ∧ ∃ S1, F_m_feel o S = (S1, (-1 : Int32)) ∧ RM G K A L U x S1 ∧ (zI S1 0 1).toInt = 0 ∧ S1.2.1 28 = upd (S.2.1 28) 5 (S.2.1 28 5 + 1) ∧ kp (fun a b => a = 0 ∧ b = 1) (fun a => a = 28) S S1) := by
  have z0 : (0 : Int32).toInt = 0 := by decide +kernel
  have z1 : (1 : Int32).toInt = 1 := by decide +kernel
  have z4 : (4 : Int32).toInt = 4 := by decide +kernel
  have z9 : (9 : Int32).toInt = 9 := by decide +kernel
  have z30 : (30 : Int32).toInt = 30 := by decide +kernel
  have z64 : (64 : Int32).toInt = 64 := by decide +kernel
  have z255 : (255 : Int32).toInt = 255 := by decide +kernel
  have n5 : (5 : Int32).toNatClampNeg = 5 := by decide +kernel
  have hb := ok.1.1.2.2.2
  have hgb := ok.1.1.1
  obtain ⟨t1, t2, t3⟩ := tp
  obtain ⟨S3, h3⟩ : ∃ X, X = dg_uF S 0 1 (.int (0 : Int32)) := ⟨_, rfl⟩
  have k3 : kp (fun a b => a = 0 ∧ b = 1) (fun _ => False) S S3 := by
    rw [h3]
    exact kp.uF kp.rf ⟨rfl, rfl⟩
  have r3 : RM G K A L U x S3 := h.keep hb k3 (fun b hb => by omega) (fun a _ => id) (fun a _ _ => id)
  have i3 : (zI S3 0 1).toInt = 0 := by
    rw [h3, w_I, if_pos ⟨rfl, rfl⟩]
    exact z0
  have row3 : S3.2.1 1 = S.2.1 1 := (k3.2 1 id).1
  obtain ⟨S4, h4⟩ : ∃ X, X = dg_uf S3 28 (upd (S3.2.1 28) (5 : Int32).toNatClampNeg (S3.2.1 28 (5 : Int32).toNatClampNeg + (1 : Int32))) := ⟨_, rfl⟩
  have e4 : F_m_refuses o S3 5 = (S4, -1) := F_m_refuses_p0 rfl rfl h4
  have no : ¬ s_fO G B n → F_m_feel o S = (S4, (-1 : Int32)) → (s_fO G B n ∧ ∃ (S1 : dg_S) (y : Int32), F_m_feel o S = (S1, y) ∧ y.toInt = ((n / 4 : Nat) : Int) ∧ RM G K A L U x S1 ∧ mx_fe (s_fF B (n / 4)) S1 ∧ (zI S1 0 1).toInt = 0 ∧ kp (fun a b => a = 0 ∧ (b = 1 ∨ b = 69)) (fun a => 45 ≤ a ∧ a ≤ 47) S S1) ∨ (¬ s_fO G B n ∧ ∃ S1, F_m_feel o S = (S1, (-1 : Int32)) ∧ RM G K A L U x S1 ∧ (zI S1 0 1).toInt = 0 ∧ S1.2.1 28 = upd (S.2.1 28) 5 (S.2.1 28 5 + 1) ∧ kp (fun a b => a = 0 ∧ b = 1) (fun a => a = 28) S S1) := fun w e => by
    have k4 : kp (fun a b => a = 0 ∧ b = 1) (fun a => a = 28) S S4 := by
      rw [h4, h3]
      exact kp.uf (kp.uF kp.rf ⟨rfl, rfl⟩) rfl
    refine Or.inr ⟨w, S4, e, h.keep hb k4 (fun b hb => by omega) (fun a _ => by omega) (fun a _ _ => by omega), ?_, ?_, k4⟩
    · rw [h4]
      exact i3
    · rw [h4, w_f, if_pos rfl, n5, h3]
      rfl
  by_cases q1 : zI S 0 1 ≤ (0 : Int32)
  · have d1 := dk_lec z0 q1
    exact no (fun z => by have := z.1.1; omega) ((F_m_feel_p2 rfl h3 q1).trans ((lp_sr F_m_feel_p1).trans (F_m_feel_p0 (by rw [e4]) (by rw [e4]))))
  have d1 := dk_nlec z0 q1
  have rr : (zI S 0 1 - zI S 0 1 / (4 : Int32) * (4 : Int32)).toInt = (n : Int) % 4 := by rw [dk_remL (by omega) z4 (by decide), t1]
  by_cases q2 : zI S 0 1 - zI S 0 1 / (4 : Int32) * (4 : Int32) = (0 : Int32)
  rotate_left
  · have d2 := dk_neqc z0 q2
    rw [rr] at d2
    exact no (fun z => by have := z.1.2.2; omega) ((F_m_feel_p5 rfl h3 q1 rfl q2).trans ((lp_sr F_m_feel_p4).trans (F_m_feel_p3 (by rw [e4]) (by rw [e4]))))
  have d2 := dk_eqc z0 q2
  rw [rr] at d2
  by_cases q3 : (64 : Int32) < zI S 0 1
  · have d3 := dk_gtc z64 q3
    exact no (fun z => by have := z.1.2.1; omega) ((F_m_feel_p8 rfl h3 q1 rfl q2 q3).trans ((lp_sr F_m_feel_p7).trans (F_m_feel_p6 (by rw [e4]) (by rw [e4]))))
  have d3 : ¬ (64 : Int32).toInt < (zI S 0 1).toInt := fun z => q3 (w_lt.mpr z)
  rw [z64] at d3
  have hg3 := r3.1.1.1
  have main := lp_cnt4 (f := F_m_feel_B9 (zI S 0 1) o S3 S) (z := (S, (0 : Int32))) (W := n / 4) (P := fun c s => (s = 1 ∧ ∀ i, i < c → s_fr G B i) ∨ (s = 0 ∧ ∃ i, i < c ∧ ¬ s_fr G B i)) (Q := fun q => (q = F_m_feel_J7 1 o S3 (zI S 0 1) S ∧ ∀ i, i < n / 4 → s_fr G B i) ∨ (q = F_m_feel_J7 0 o S3 (zI S 0 1) S ∧ ¬ ∀ i, i < n / 4 → s_fr G B i)) (by omega) (fun c cI s hc hcI hP => by
    have q0 : ¬ zI S 0 1 ≤ cI := fun z => by have := w_le.mp z; omega
    rcases hP with ⟨es, hP⟩ | ⟨es, i, hi, hP⟩
    rotate_left
    · rw [es]
      exact Or.inr ⟨_, F_m_feel_p15 q0 rfl, Or.inr ⟨rfl, fun z => hP (z i (by omega))⟩⟩
    rw [es]
    have ns : ¬ (1 : Int32) = (0 : Int32) := by decide +kernel
    have n0 : cI.toNatClampNeg = 4 * c := by rw [dk_clN]; omega
    have n1 : (cI + (1 : Int32)).toNatClampNeg = 4 * c + 1 := by rw [dk_clN, dk_addT hcI (b := 1) (by decide +kernel) (by omega) (by omega)]; omega
    have n2 : (cI + (2 : Int32)).toNatClampNeg = 4 * c + 2 := by rw [dk_clN, dk_addT hcI (b := 2) (by decide +kernel) (by omega) (by omega)]; omega
    have n3 : (cI + (3 : Int32)).toNatClampNeg = 4 * c + 3 := by rw [dk_clN, dk_addT hcI (b := 3) (by decide +kernel) (by omega) (by omega)]; omega
    have b0 := t3 (4 * c) (by omega)
    have b1 := t3 (4 * c + 1) (by omega)
    have b2 := t3 (4 * c + 2) (by omega)
    have b3 := t3 (4 * c + 3) (by omega)
    obtain ⟨u0, hu0⟩ : ∃ u : Int32, u = S3.2.1 1 cI.toNatClampNeg := ⟨_, rfl⟩
    obtain ⟨u1, hu1⟩ : ∃ u : Int32, u = S3.2.1 1 (cI + (1 : Int32)).toNatClampNeg := ⟨_, rfl⟩
    obtain ⟨u2, hu2⟩ : ∃ u : Int32, u = S3.2.1 1 (cI + (2 : Int32)).toNatClampNeg := ⟨_, rfl⟩
    obtain ⟨u3, hu3⟩ : ∃ u : Int32, u = S3.2.1 1 (cI + (3 : Int32)).toNatClampNeg := ⟨_, rfl⟩
    have v0 : u0.toInt = B (4 * c) := by rw [hu0, row3, n0]; exact b0.1
    have v1 : u1.toInt = B (4 * c + 1) := by rw [hu1, row3, n1]; exact b1.1
    have v2 : u2.toInt = B (4 * c + 2) := by rw [hu2, row3, n2]; exact b2.1
    have v3 : u3.toInt = B (4 * c + 3) := by rw [hu3, row3, n3]; exact b3.1
    have yes : s_fr G B c → ∀ i, i < c + 1 → s_fr G B i := fun w i hi => by
      by_cases e : i = c
      · rw [e]
        exact w
      · exact hP i (by omega)
    by_cases p1 : (30 : Int32) < u0
    · have e1 := dk_gtc z30 p1
      exact Or.inl ⟨0, F_m_feel_p16 q0 ns hu0 p1 rfl, Or.inr ⟨rfl, c, by omega, fun z => by have := z.1; omega⟩⟩
    have e1 : ¬ (30 : Int32).toInt < u0.toInt := fun z => p1 (w_lt.mpr z)
    rw [z30, v0] at e1
    rcases mx_isCell (o := o) (a := u1) (b := u2) hg3 hgb with ⟨ec, wc⟩ | ⟨ec, wc⟩
    rotate_left
    · rw [v1, v2] at wc
      exact Or.inl ⟨0, F_m_feel_p17 q0 ns hu0 p1 rfl hu1 rfl hu2 rfl ec rfl, Or.inr ⟨rfl, c, by omega, fun z => wc z.2.1⟩⟩
    rw [v1, v2] at wc
    have nc : ¬ F_m_isCell o S3 u1 u2 = (0 : Int32) := by rw [ec]; decide +kernel
    by_cases p2 : u3 ≤ (9 : Int32)
    · have e2 := dk_lec z9 p2
      rw [v3] at e2
      exact Or.inl ⟨1, F_m_feel_p18 q0 ns hu0 p1 rfl hu1 rfl hu2 rfl nc rfl hu3 p2 rfl, Or.inl ⟨rfl, yes ⟨by omega, wc, Or.inl e2⟩⟩⟩
    have e2 := dk_nlec z9 p2
    rw [v3] at e2
    by_cases p3 : u3 = (255 : Int32)
    · have e3 := dk_eqc z255 p3
      rw [v3] at e3
      exact Or.inl ⟨1, F_m_feel_p20 q0 ns hu0 p1 rfl hu1 rfl hu2 rfl nc rfl hu3 p2 rfl hu3 p3 rfl, Or.inl ⟨rfl, yes ⟨by omega, wc, Or.inr e3⟩⟩⟩
    · have e3 := dk_neqc z255 p3
      rw [v3] at e3
      exact Or.inl ⟨0, F_m_feel_p19 q0 ns hu0 p1 rfl hu1 rfl hu2 rfl nc rfl hu3 p2 rfl hu3 p3 rfl, Or.inr ⟨rfl, c, by omega, fun z => by have := z.2.2; omega⟩⟩) (fun cI s hcI hP => by
    have q0 : zI S 0 1 ≤ cI := w_le.mpr (by omega)
    rcases hP with ⟨es, hP⟩ | ⟨es, i, hi, hP⟩
    · rw [es]
      exact ⟨_, F_m_feel_p14 q0, Or.inl ⟨rfl, hP⟩⟩
    · rw [es]
      exact ⟨_, F_m_feel_p14 q0, Or.inr ⟨rfl, fun z => hP (z i hi)⟩⟩) ((1604 - ((0 : Int32)).toInt).toNat + 1) 0 0 (1 : Int32) (by rw [z0]; omega) (by omega) z0 (Or.inl ⟨rfl, fun i hi => absurd hi (Nat.not_lt_zero i)⟩)
  have Q := F_m_feel_p21 (o := o) rfl h3 q1 rfl q2 q3
  rcases main with ⟨e, w⟩ | ⟨e, w⟩
  rotate_left
  · exact no (fun z => w z.2) (Q.trans (e.trans (F_m_feel_p13 rfl (by rw [e4]) (by rw [e4]))))
  have hO : s_fO G B n := ⟨⟨by omega, by omega, by omega⟩, w⟩
  obtain ⟨S5, h5⟩ : ∃ X, X = dg_uF S3 0 69 (.int (zI S 0 1 / (4 : Int32))) := ⟨_, rfl⟩
  have dv : (zI S 0 1 / (4 : Int32)).toInt = ((n / 4 : Nat) : Int) := by rw [dk_divL (by omega) z4 (by decide), t1]; omega
  have row5 : S5.2.1 1 = S.2.1 1 := by
    rw [h5]
    exact row3
  obtain ⟨T, eT, kT, vT⟩ := mx_felt (a1 := zI S 0 1 / (4 : Int32)) (n := n) (S := S5) (B := B) (z := (S, (0 : Int32))) dv (by omega) (fun i hi => by rw [row5]; exact t3 i hi)
  have k5 : kp (fun a b => a = 0 ∧ (b = 1 ∨ b = 69)) (fun a => 45 ≤ a ∧ a ≤ 47) S T := by
    have k35 : kp (fun a b => a = 0 ∧ (b = 1 ∨ b = 69)) (fun a => 45 ≤ a ∧ a ≤ 47) S S5 := by
      rw [h5, h3]
      exact kp.uF (kp.uF kp.rf ⟨rfl, Or.inl rfl⟩) ⟨rfl, Or.inr rfl⟩
    exact k35.tr (kT.w (fun a b z => z.elim) (fun a z => z))
  refine Or.inl ⟨hO, T, _, Q.trans (e.trans ((F_m_feel_p12 (by decide +kernel) rfl h5).trans eT)), dv, h.keep hb k5 (fun b hb => by omega) (fun a _ => by omega) (fun a _ _ => by omega), ⟨?_, fun i hi => ?_⟩, ?_, k5⟩
  · rw [s_fF_l, kT.I id, h5, w_I, if_pos ⟨rfl, rfl⟩]
    exact dv
  · rw [s_fF_l] at hi
    rw [s_fF_e hi]
    exact vT i hi
  · rw [kT.I id, h5, w_I0 (by decide)]
    exact i3
/-- FEEL on both sides -/
theorem sim_feel (ok : s_ok G K A U) (hX : RX oX g G K A L U x SX) (tX : cx_tp n B SX) (hM : RM G K A L U x SM) (tM : mx_tp n B SM) : (F_d_feel oX SX).2 = (F_m_feel oM SM).2 ∧ RX oX g G K A L U x (F_d_feel oX SX).1 ∧ RM G K A L U x (F_m_feel oM SM).1 ∧ (zI (F_d_feel oX SX).1 1 1).toInt = 0 ∧ (zI (F_m_feel oM SM).1 0 1).toInt = 0 ∧ ((∃ F', s_fk G F' ∧ cx_fe F' (F_d_feel oX SX).1 ∧ mx_fe F' (F_m_feel oM SM).1 ∧ (zI (F_d_feel oX SX).1 229 4).toInt = 0 ∧ kp (fun a b => (a = 229 ∧ (b = 4 ∨ b = 5)) ∨ (a = 1 ∧ b = 1)) (fun a => a = 230) SX (F_d_feel oX SX).1 ∧ kp (fun a b => a = 0 ∧ (b = 1 ∨ b = 69)) (fun a => 45 ≤ a ∧ a ≤ 47) SM (F_m_feel oM SM).1) ∨ ((F_d_feel oX SX).1.2.1 184 = upd (SX.2.1 184) 5 (SX.2.1 184 5 + 1) ∧ (F_m_feel oM SM).1.2.1 28 = upd (SM.2.1 28) 5 (SM.2.1 28 5 + 1) ∧ kp (fun a b => a = 1 ∧ b = 1) (fun a => a = 184) SX (F_d_feel oX SX).1 ∧ kp (fun a b => a = 0 ∧ b = 1) (fun a => a = 28) SM (F_m_feel oM SM).1)) := by
  rcases cx_feel (o := oX) ok hX tX with ⟨w, S1, y1, e1, v1, r1, f1, i1, j1, k1⟩ | ⟨w, S1, e1, r1, j1, b1, k1⟩ <;> rcases mx_feel (o := oM) ok hM tM with ⟨w', S2, y2, e2, v2, r2, f2, j2, k2⟩ | ⟨w', S2, e2, r2, j2, b2, k2⟩
  · rw [e1, e2]
    exact ⟨Int32.toInt_inj.mp (v1.trans v2.symm), r1, r2, j1, j2, Or.inl ⟨_, s_fF_k w (fun i hi => (tX.2.2 i hi).2) ok.1.1.1, f1, f2, i1, k1, k2⟩⟩
  · exact absurd w w'
  · exact absurd w' w
  · rw [e1, e2]
    exact ⟨rfl, r1, r2, j1, j2, Or.inr ⟨b1, b2, k1, k2⟩⟩
end EO
