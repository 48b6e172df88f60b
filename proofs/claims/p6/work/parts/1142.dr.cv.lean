/-! sending, healing: both sides -/
section CV
variable {o oX oM g n : Nat} {G A A' : aR} {K : Nat → List Int} {L L' : s_L} {U : s_U} {S S0 S1 SX SM : dg_S} {x x' r c v : Int} {a a1 a2 a3 a4 y : Int32}
theorem cx_miner (hg : cx_g G K S g) : F_g_hasMiner o S g a1 = 1 ∧ (0 ≤ a1.toInt ∧ a1.toInt < G 0 5) ∨ F_g_hasMiner o S g a1 = 0 ∧ ¬ (0 ≤ a1.toInt ∧ a1.toInt < G 0 5) := by
  have f := hg.2.1.2.2.2.2.1
  have z0 : (0 : Int32).toInt = 0 := by decide +kernel
  by_cases q1 : a1 < (0 : Int32)
  · have := dk_ltc z0 q1
    exact Or.inr ⟨F_g_hasMiner_p0 q1, by omega⟩
  have d1 := dk_nltc z0 q1
  by_cases q2 : zI S g 6 ≤ a1
  · have := w_le.mp q2
    exact Or.inr ⟨F_g_hasMiner_p1 rfl q1 q2, by omega⟩
  · have d2 : ¬ (zI S g 6).toInt ≤ a1.toInt := fun z => q2 (w_le.mpr z)
    exact Or.inl ⟨F_g_hasMiner_p2 rfl q1 q2, d1, by omega⟩
theorem cx_planrow (hg : cx_g G K S g) : F_g_hasPlanRow o S g a1 = 1 ∧ (0 ≤ a1.toInt ∧ a1.toInt < G 0 6) ∨ F_g_hasPlanRow o S g a1 = 0 ∧ ¬ (0 ≤ a1.toInt ∧ a1.toInt < G 0 6) := by
  have f := hg.1.2.2.1
  have z0 : (0 : Int32).toInt = 0 := by decide +kernel
  by_cases q1 : a1 < (0 : Int32)
  · have := dk_ltc z0 q1
    exact Or.inr ⟨F_g_hasPlanRow_p0 q1, by omega⟩
  have d1 := dk_nltc z0 q1
  by_cases q2 : zI S g 8 ≤ a1
  · have := w_le.mp q2
    exact Or.inr ⟨F_g_hasPlanRow_p1 rfl q1 q2, by omega⟩
  · have d2 : ¬ (zI S g 8).toInt ≤ a1.toInt := fun z => q2 (w_le.mpr z)
    exact Or.inl ⟨F_g_hasPlanRow_p2 rfl q1 q2, d1, by omega⟩
theorem cx_order (hg : cx_g G K S g) : F_g_hasOrder o S g a1 = 1 ∧ (0 ≤ a1.toInt ∧ a1.toInt < G 0 7) ∨ F_g_hasOrder o S g a1 = 0 ∧ ¬ (0 ≤ a1.toInt ∧ a1.toInt < G 0 7) := by
  have f := hg.2.1.2.2.2.2.2
  have z0 : (0 : Int32).toInt = 0 := by decide +kernel
  by_cases q1 : a1 < (0 : Int32)
  · have := dk_ltc z0 q1
    exact Or.inr ⟨F_g_hasOrder_p0 q1, by omega⟩
  have d1 := dk_nltc z0 q1
  by_cases q2 : zI S g 11 ≤ a1
  · have := w_le.mp q2
    exact Or.inr ⟨F_g_hasOrder_p1 rfl q1 q2, by omega⟩
  · have d2 : ¬ (zI S g 11).toInt ≤ a1.toInt := fun z => q2 (w_le.mpr z)
    exact Or.inl ⟨F_g_hasOrder_p2 rfl q1 q2, d1, by omega⟩
theorem mx_miner (hg : mx_gf G K S) : F_m_isMiner o S a1 = 1 ∧ (0 ≤ a1.toInt ∧ a1.toInt < G 0 5) ∨ F_m_isMiner o S a1 = 0 ∧ ¬ (0 ≤ a1.toInt ∧ a1.toInt < G 0 5) := by
  have f := hg.2.1.2.2.1
  have z0 : (0 : Int32).toInt = 0 := by decide +kernel
  by_cases q1 : a1 < (0 : Int32)
  · have := dk_ltc z0 q1
    exact Or.inr ⟨F_m_isMiner_p0 q1, by omega⟩
  have d1 := dk_nltc z0 q1
  by_cases q2 : S.2.1 8 (zI S 0 13).toNatClampNeg ≤ a1
  · have := w_le.mp q2
    exact Or.inr ⟨F_m_isMiner_p1 q1 rfl rfl q2, by omega⟩
  · have d2 : ¬ (S.2.1 8 (zI S 0 13).toNatClampNeg).toInt ≤ a1.toInt := fun z => q2 (w_le.mpr z)
    exact Or.inl ⟨F_m_isMiner_p2 q1 rfl rfl q2, d1, by omega⟩
theorem mx_order (hg : mx_gf G K S) : F_m_isOrder o S a1 = 1 ∧ (0 ≤ a1.toInt ∧ a1.toInt < G 0 7) ∨ F_m_isOrder o S a1 = 0 ∧ ¬ (0 ≤ a1.toInt ∧ a1.toInt < G 0 7) := by
  have f := hg.2.1.2.2.2
  have z0 : (0 : Int32).toInt = 0 := by decide +kernel
  by_cases q1 : a1 < (0 : Int32)
  · have := dk_ltc z0 q1
    exact Or.inr ⟨F_m_isOrder_p0 q1, by omega⟩
  have d1 := dk_nltc z0 q1
  by_cases q2 : S.2.1 12 (zI S 0 13).toNatClampNeg ≤ a1
  · have := w_le.mp q2
    exact Or.inr ⟨F_m_isOrder_p1 q1 rfl rfl q2, by omega⟩
  · have d2 : ¬ (S.2.1 12 (zI S 0 13).toNatClampNeg).toInt ≤ a1.toInt := fun z => q2 (w_le.mpr z)
    exact Or.inl ⟨F_m_isOrder_p2 q1 rfl rfl q2, d1, by omega⟩
/-! sending -/
def s_sd (G A : aR) (k m i j : Int) : Prop := ((0 ≤ i ∧ i < G 0 0) ∧ 0 ≤ j ∧ j < G 0 1) ∧ (0 ≤ k ∧ k < G 0 6) ∧ (0 ≤ m ∧ m < G 0 5) ∧ ¬ (A 3 k.toNat = m ∧ A 4 k.toNat = 8 * j + i)
def s_sA (A : aR) (k m i j : Int) : aR := s_up (s_up A 3 k.toNat m) 4 k.toNat (8 * j + i)
theorem s_sA_ok {k m i j : Int} (ok : s_ok G K A U) (h : s_sd G A k m i j) : s_ok G K (s_sA A k m i j) U := by
  obtain ⟨hG, hK, ⟨⟨w0, w1, w2, w3, w4, w5⟩, hcw⟩, hU⟩ := ok
  obtain ⟨⟨h1, h2⟩, h3, h4, -⟩ := h
  have hgb := hG.1.1
  have hm := hG.2.2.2.1
  have E : ∀ a b, a ≠ 3 → a ≠ 4 → s_sA A k m i j a b = A a b := fun a b i3 i4 => by
    unfold s_sA
    rw [s_up_ne (fun z => i4 z.1), s_up_ne (fun z => i3 z.1)]
  refine ⟨hG, hK, ⟨⟨by rw [E _ _ (by decide) (by decide)]; exact w0, by rw [E _ _ (by decide) (by decide)]; exact w1, fun l hl => by rw [E _ _ (by decide) (by decide)]; exact w2 l hl, fun l hl => ?_, fun l hl => by rw [E _ _ (by decide) (by decide)]; exact w4 l hl, fun l hl => by rw [E _ _ (by decide) (by decide)]; exact w5 l hl⟩, fun d hd => ?_, hcw.2.1, ?_⟩, hU⟩
  · unfold s_sA
    rw [s_up_ne (show ¬ (3 = 4 ∧ _) from fun z => absurd z.1 (by decide))]
    by_cases z : l = k.toNat
    · rw [z, s_up_at, s_up_at]
      exact ⟨by omega, ⟨by omega, by omega⟩, by omega, by omega⟩
    · rw [s_up_ne (fun w => z w.2), s_up_ne (fun w => z w.2), s_up_ne (show ¬ (4 = 3 ∧ _) from fun w => absurd w.1 (by decide))]
      exact w3 l hl
  · show -2 ≤ s_sA A k m i j 1 d.toNat ∧ s_sA A k m i j 1 d.toNat ≤ 9
    rw [E _ _ (by decide) (by decide)]
    exact hcw.1 d hd
  · show s_sA A k m i j 1 (G 0 2).toNat = -1
    rw [E _ _ (by decide) (by decide)]
    exact hcw.2.2
theorem cx_send (ok : s_ok G K A U) (h : RX o g G K A L U x S) : (s_sd G A a1.toInt a2.toInt a3.toInt a4.toInt ∧ ∃ S1, F_d_send o S a1 a2 a3 a4 = (S1, (1 : Int32)) ∧ RX o g G K (s_sA A a1.toInt a2.toInt a3.toInt a4.toInt) L (s_ud U (A, L)) x S1) ∨ (¬ s_sd G A a1.toInt a2.toInt a3.toInt a4.toInt ∧ ∃ S1, F_d_send o S a1 a2 a3 a4 = (S1, (0 : Int32)) ∧ RX o g G K A L U x S1) := by
  have hG := ok.1
  obtain ⟨SN, f1, -, rN, -⟩ := cx_no (o := o) (a1 := 3) (k := 3) h (by decide +kernel)
  have n1 : SN = (F_d_no o S (3 : Int32)).1 := by rw [f1]
  have n2 : (0 : Int32) = (F_d_no o S (3 : Int32)).2 := by rw [f1]
  rcases cx_place (o := o) (a1 := a3) (a2 := a4) h.2.1 hG.1.1 with ⟨p1, p2, p3, p4⟩ | ⟨p1, p2⟩
  rotate_left
  · exact Or.inr ⟨fun z => p1 z.1, SN, F_d_send_p0 h.1.symm rfl p2 n1 n2, rN⟩
  obtain ⟨pl, hpl⟩ : ∃ pl, pl = F_g_placeOf o S g a3 a4 := ⟨_, rfl⟩
  rw [← hpl] at p3
  have p40 := p4.1
  have q1 : ¬ pl = (-1 : Int32) := fun z => by have := dk_eqc (k := -1) (by decide +kernel) z; omega
  rcases cx_planrow (o := o) (a1 := a1) h.2.1 with ⟨q2, y2⟩ | ⟨q2, y2⟩
  rotate_left
  · exact Or.inr ⟨fun z => y2 z.2.1, SN, F_d_send_p1 h.1.symm hpl q1 rfl q2 n1 n2, rN⟩
  have m2 : ¬ F_g_hasPlanRow o S g a1 = (0 : Int32) := by rw [q2]; decide +kernel
  rcases cx_miner (o := o) (a1 := a2) h.2.1 with ⟨q3, y3⟩ | ⟨q3, y3⟩
  rotate_left
  · exact Or.inr ⟨fun z => y3 z.2.2.1, SN, F_d_send_p6 h.1.symm hpl q1 rfl m2 rfl q3 n1 n2, rN⟩
  have m3 : ¬ F_g_hasMiner o S g a2 = (0 : Int32) := by rw [q3]; decide +kernel
  have kn : a1.toNatClampNeg = a1.toInt.toNat := rfl
  obtain ⟨pm, pc⟩ := h.2.2.1.2.2.2.2.1 a1.toInt.toNat (by omega)
  obtain ⟨S2, e2, r2, k2⟩ := cx_act (o := o) hG h
  have go : ¬ (A 3 a1.toInt.toNat = a2.toInt ∧ A 4 a1.toInt.toNat = 8 * a4.toInt + a3.toInt) → F_d_send o S a1 a2 a3 a4 = F_d_send_J1 o S a1 a2 pl → (s_sd G A a1.toInt a2.toInt a3.toInt a4.toInt ∧ ∃ S1, F_d_send o S a1 a2 a3 a4 = (S1, (1 : Int32)) ∧ RX o g G K (s_sA A a1.toInt a2.toInt a3.toInt a4.toInt) L (s_ud U (A, L)) x S1) := fun hn F => by
    obtain ⟨S41, h41⟩ : ∃ T, T = dg_uf S2 6 (upd (S2.2.1 6) a1.toNatClampNeg a2) := ⟨_, rfl⟩
    obtain ⟨S43, h43⟩ : ∃ T, T = dg_uf S41 7 (upd (S41.2.1 7) a1.toNatClampNeg pl) := ⟨_, rfl⟩
    refine ⟨⟨⟨p1, p2⟩, y2, y3, hn⟩, S43, F.trans (F_d_send_p2 e2.symm h41 h43), ?_⟩
    have t : kp (fun _ _ => False) (fun a => a = 6 ∨ a = 7) S2 S43 := by
      rw [h43, h41]
      exact kp.uf (kp.uf kp.rf (Or.inl rfl)) (Or.inr rfl)
    refine r2.act t ?_ (r2.2.2.2.1.keep (t.I id) (t.2 18 (by decide)).1) id id (fun _ _ _ _ => id) ⟨id, id⟩ (fun _ _ _ _ => id) (fun a _ _ => by omega) (fun a _ _ => by omega)
    obtain ⟨y1, y2', y3', y4, y5, y6, y7⟩ := r2.2.2.1
    have E : ∀ a b, a ≠ 3 → a ≠ 4 → s_sA A a1.toInt a2.toInt a3.toInt a4.toInt a b = A a b := fun a b i3 i4 => by
      unfold s_sA
      rw [s_up_ne (fun z => i4 z.1), s_up_ne (fun z => i3 z.1)]
    have ro : ∀ i, i ≠ 6 → i ≠ 7 → S43.2.1 i = S2.2.1 i := fun i i6 i7 => (t.2 i (by omega)).1
    refine ⟨fun z z0 z1 => ?_, by rw [t.I id, E _ _ (by decide) (by decide)]; exact y2', by rw [t.I id, E _ _ (by decide) (by decide)]; exact y3', fun k hk => by rw [ro _ (by decide) (by decide), E _ _ (by decide) (by decide)]; exact y4 k hk, fun k hk => ?_, fun k hk => by rw [ro _ (by decide) (by decide), E _ _ (by decide) (by decide)]; exact y6 k hk, fun k hk => by rw [ro _ (by decide) (by decide), E _ _ (by decide) (by decide)]; exact y7 k hk⟩
    · have h9 := (y1.keep (S1 := S43) (ro _ (by decide) (by decide))) z z0 z1
      unfold s_c at h9 ⊢
      rw [E _ _ (by decide) (by decide)]
      exact h9
    · have r6 : S43.2.1 (3 + 3) = upd (S2.2.1 6) a1.toNatClampNeg a2 := by rw [h43, w_f, if_neg (by decide), h41, w_f, if_pos rfl]
      have r7 : S43.2.1 (3 + 4) = upd (S2.2.1 7) a1.toNatClampNeg pl := by rw [h43, w_f, if_pos rfl, h41, w_f, if_neg (by decide)]
      rw [r6, r7, w_u, w_u, kn]
      unfold s_sA
      rw [s_up_ne (show ¬ (3 = 4 ∧ _) from fun z => absurd z.1 (by decide))]
      by_cases z : k = a1.toInt.toNat
      · rw [if_pos z, if_pos z, z, s_up_at, s_up_at]
        exact ⟨rfl, p3⟩
      · rw [if_neg z, if_neg z, s_up_ne (fun w => z w.2), s_up_ne (fun w => z w.2), s_up_ne (show ¬ (4 = 3 ∧ _) from fun w => absurd w.1 (by decide))]
        exact y5 k hk
  by_cases q5 : S.2.1 6 a1.toNatClampNeg = a2
  · by_cases q6 : S.2.1 7 a1.toNatClampNeg = pl
    · refine Or.inr ⟨fun z => z.2.2.2 ⟨?_, ?_⟩, SN, F_d_send_p5 h.1.symm hpl q1 rfl m2 rfl m3 rfl q5 rfl q6 n1 n2, rN⟩
      · rw [← pm, ← q5]
        rfl
      · rw [← q6] at p3
        have pc : (S.2.1 7 a1.toNatClampNeg).toInt = A 4 a1.toInt.toNat + 8 := pc
        omega
    · refine Or.inl (go (fun z => q6 (Int32.toInt_inj.mp ?_)) (F_d_send_p4 h.1.symm hpl q1 rfl m2 rfl m3 rfl q5 rfl q6))
      have pc : (S.2.1 7 a1.toNatClampNeg).toInt = A 4 a1.toInt.toNat + 8 := pc
      have z2 := z.2
      omega
  · refine Or.inl (go (fun z => q5 (Int32.toInt_inj.mp ?_)) (F_d_send_p3 h.1.symm hpl q1 rfl m2 rfl m3 rfl q5))
    have pm : (S.2.1 6 a1.toNatClampNeg).toInt = A 3 a1.toInt.toNat := pm
    have z1 := z.1
    omega
theorem mx_send (ok : s_ok G K A U) (h : RM G K A L U x S) : (s_sd G A a1.toInt a2.toInt a3.toInt a4.toInt ∧ ∃ S1, F_m_send o S a1 a2 a3 a4 = (S1, (1 : Int32)) ∧ RM G K (s_sA A a1.toInt a2.toInt a3.toInt a4.toInt) L (s_ud U (A, L)) x S1) ∨ (¬ s_sd G A a1.toInt a2.toInt a3.toInt a4.toInt ∧ ∃ S1, F_m_send o S a1 a2 a3 a4 = (S1, (0 : Int32)) ∧ RM G K A L U x S1) := by
  have hG := ok.1
  have hb := hG.1.2.2.2
  obtain ⟨SN, f1, rN, -⟩ := mx_ref (o := o) (a1 := 3) (k := 3) hb h (by decide +kernel)
  have n1 : SN = (F_m_refuses o S (3 : Int32)).1 := by rw [f1]
  have z0 : (0 : Int32).toInt = 0 := by decide +kernel
  have h6 := hG.1.2.2
  have hg := h.1.1.1
  have f9 : (S.2.1 9 (zI S 0 13).toNatClampNeg).toInt = G 0 6 := hg.2.2.2.2
  have e4 : (S.2.1 9 (zI S 0 13).toNatClampNeg - (1 : Int32)).toInt = G 0 6 - 1 := dk_subT f9 (by decide +kernel) (by omega) (by omega)
  rcases mx_is (o := o) (S := S) (a := a1) (b := 0) (c := S.2.1 9 (zI S 0 13).toNatClampNeg - (1 : Int32)) with ⟨q2, y2⟩ | ⟨q2, y2⟩
  rotate_left
  · rw [e4, z0] at y2
    exact Or.inr ⟨fun z => y2 (by have := z.2.1; omega), SN, F_m_send_p0 rfl rfl rfl rfl q2 n1, rN⟩
  rw [e4, z0] at y2
  have m2 : ¬ F_m_is o S a1 (0 : Int32) (S.2.1 9 (zI S 0 13).toNatClampNeg - (1 : Int32)) = (0 : Int32) := by rw [q2]; decide +kernel
  rcases mx_miner (o := o) (a1 := a2) h.1 with ⟨q3, y3⟩ | ⟨q3, y3⟩
  rotate_left
  · exact Or.inr ⟨fun z => y3 z.2.2.1, SN, F_m_send_p1 rfl rfl rfl rfl m2 rfl q3 n1, rN⟩
  have m3 : ¬ F_m_isMiner o S a2 = (0 : Int32) := by rw [q3]; decide +kernel
  rcases mx_cellof (o := o) (a1 := a3) (a2 := a4) hg hG.1.1 with ⟨p1, p2, p3, p4, p5⟩ | ⟨p1, p2⟩
  rotate_left
  · exact Or.inr ⟨fun z => p1 z.1, SN, F_m_send_p6 rfl rfl rfl rfl m2 rfl m3 rfl p2 n1, rN⟩
  have q4 : ¬ F_m_isCell o S a3 a4 = (0 : Int32) := by rw [p3]; decide +kernel
  obtain ⟨w, hw⟩ : ∃ w, w = (8 : Int32) * a4 + a3 := ⟨_, rfl⟩
  rw [← hw] at p4
  have kn : a1.toNatClampNeg = a1.toInt.toNat := rfl
  obtain ⟨pm, pc⟩ := h.2.1.2.2.2.2.1 a1.toInt.toNat (by omega)
  rw [show 16 * 0 + a1.toInt.toNat = a1.toInt.toNat by omega] at pm pc
  obtain ⟨S2, e2, r2, k2⟩ := mx_act (o := o) hG h
  have w35 : mx_w 35 = 16 := rfl
  have w36 : mx_w 36 = 16 := rfl
  have go : ¬ (A 3 a1.toInt.toNat = a2.toInt ∧ A 4 a1.toInt.toNat = 8 * a4.toInt + a3.toInt) → F_m_send o S a1 a2 a3 a4 = F_m_send_J1 S o a1 a2 w → (s_sd G A a1.toInt a2.toInt a3.toInt a4.toInt ∧ ∃ S1, F_m_send o S a1 a2 a3 a4 = (S1, (1 : Int32)) ∧ RM G K (s_sA A a1.toInt a2.toInt a3.toInt a4.toInt) L (s_ud U (A, L)) x S1) := fun hn F => by
    obtain ⟨S63, h63⟩ : ∃ T, T = dg_uf S2 35 (upd (S2.2.1 35) a1.toNatClampNeg a2) := ⟨_, rfl⟩
    obtain ⟨S65, h65⟩ : ∃ T, T = dg_uf S63 36 (upd (S63.2.1 36) a1.toNatClampNeg w) := ⟨_, rfl⟩
    refine ⟨⟨⟨p1, p2⟩, ⟨by omega, by omega⟩, y3, hn⟩, S65, F.trans (F_m_send_p2 e2.symm h63 h65), ?_⟩
    have t : k_v 0 S2 S65 := by
      rw [h65, kn]
      refine k_v.uf ?_ (by decide) (by decide) ⟨by omega, by omega⟩
      rw [h63, kn]
      exact k_v.uf k_v.rf (by decide) (by decide) ⟨by omega, by omega⟩
    refine r2.v hb t (by decide) ?_
    obtain ⟨y1, y2', y3', y4, y5, y6, y7, y8⟩ := r2.2.1
    have E : ∀ a b, a ≠ 3 → a ≠ 4 → s_sA A a1.toInt a2.toInt a3.toInt a4.toInt a b = A a b := fun a b i3 i4 => by
      unfold s_sA
      rw [s_up_ne (fun z => i4 z.1), s_up_ne (fun z => i3 z.1)]
    have ro : ∀ i, i ≠ 35 → i ≠ 36 → S65.2.1 i = S2.2.1 i := fun i i5 i6 => by rw [h65, w_f, if_neg i6, h63, w_f, if_neg i5]
    refine ⟨?_, by rw [ro _ (by decide) (by decide), E _ _ (by decide) (by decide)]; exact y2', by rw [ro _ (by decide) (by decide), E _ _ (by decide) (by decide)]; exact y3', by rw [ro _ (by decide) (by decide)]; exact ⟨y4.1, fun k hk => by rw [E _ _ (by decide) (by decide)]; exact y4.2 k hk⟩, fun k hk => ?_, by rw [ro _ (by decide) (by decide)]; exact ⟨y6.1, fun k hk => by rw [E _ _ (by decide) (by decide)]; exact y6.2 k hk⟩, fun k hk => by rw [ro _ (by decide) (by decide), E _ _ (by decide) (by decide)]; exact y7 k hk, y8.keep (by rw [ro _ (by decide) (by decide)]) (fun j _ _ => by rw [ro _ (by decide) (by decide)])⟩
    · have h9 := y1.keep (S1 := S65) (ro 31 (by decide) (by decide)) (ro 32 (by decide) (by decide))
      exact h9.congr (fun d _ => by unfold s_c; rw [E _ _ (by decide) (by decide)])
    · have r35 : S65.2.1 35 = upd (S2.2.1 35) a1.toNatClampNeg a2 := by rw [h65, w_f, if_neg (by decide), h63, w_f, if_pos rfl]
      have r36 : S65.2.1 36 = upd (S2.2.1 36) a1.toNatClampNeg w := by rw [h65, w_f, if_pos rfl, h63, w_f, if_neg (by decide)]
      have y5k := y5 k hk
      rw [show 16 * 0 + k = k by omega] at y5k ⊢
      rw [r35, r36, w_u, w_u, kn]
      unfold s_sA
      rw [s_up_ne (show ¬ (3 = 4 ∧ _) from fun z => absurd z.1 (by decide))]
      by_cases z : k = a1.toInt.toNat
      · rw [if_pos z, if_pos z, z, s_up_at, s_up_at]
        exact ⟨rfl, p4⟩
      · rw [if_neg z, if_neg z, s_up_ne (fun w => z w.2), s_up_ne (fun w => z w.2), s_up_ne (show ¬ (4 = 3 ∧ _) from fun w => absurd w.1 (by decide))]
        exact y5k
  by_cases q5 : S.2.1 35 a1.toNatClampNeg = a2
  · by_cases q6 : S.2.1 36 a1.toNatClampNeg = w
    · refine Or.inr ⟨fun z => z.2.2.2 ⟨?_, ?_⟩, SN, F_m_send_p5 rfl rfl rfl rfl m2 rfl m3 rfl q4 rfl hw rfl q5 rfl q6 n1, rN⟩
      · rw [← pm, ← q5]
        rfl
      · rw [← q6] at p4
        rw [← p4, ← pc]
        rfl
    · refine Or.inl (go (fun z => q6 (Int32.toInt_inj.mp ?_)) (F_m_send_p4 rfl rfl rfl rfl m2 rfl m3 rfl q4 rfl hw rfl q5 rfl q6))
      have pc : (S.2.1 36 a1.toNatClampNeg).toInt = A 4 a1.toInt.toNat := pc
      have z2 := z.2
      omega
  · refine Or.inl (go (fun z => q5 (Int32.toInt_inj.mp ?_)) (F_m_send_p3 rfl rfl rfl rfl m2 rfl m3 rfl q4 rfl hw rfl q5))
    have pm : (S.2.1 35 a1.toNatClampNeg).toInt = A 3 a1.toInt.toNat := pm
    have z1 := z.1
    omega
/-- SEND on both sides -/
theorem sim_send (ok : s_ok G K A U) (hX : RX oX g G K A L U x SX) (hM : RM G K A L U x SM) : ∃ (A' : aR) (U' : s_U), (F_d_send oX SX a1 a2 a3 a4).2 = (F_m_send oM SM a1 a2 a3 a4).2 ∧ s_ok G K A' U' ∧ RX oX g G K A' L U' x (F_d_send oX SX a1 a2 a3 a4).1 ∧ RM G K A' L U' x (F_m_send oM SM a1 a2 a3 a4).1 := by
  rcases cx_send (o := oX) (a1 := a1) (a2 := a2) (a3 := a3) (a4 := a4) ok hX with ⟨p, S1, e1, r1⟩ | ⟨p, S1, e1, r1⟩ <;> rcases mx_send (o := oM) (a1 := a1) (a2 := a2) (a3 := a3) (a4 := a4) ok hM with ⟨q, S2, e2, r2⟩ | ⟨q, S2, e2, r2⟩
  · rw [e1, e2]
    exact ⟨_, _, rfl, s_sA_ok (s_ud_ok ok) p, r1, r2⟩
  · exact absurd p q
  · exact absurd q p
  · rw [e1, e2]
    exact ⟨A, U, rfl, ok, r1, r2⟩
/-! healing -/
theorem mx_clrbit {a b : Int32} (h : 0 ≤ a.toInt ∧ a.toInt < 64) (hb : 0 ≤ b.toInt ∧ b.toInt < 6) : (0 ≤ (a &&& (((1 : Int32) <<< (b &&& 31)) ^^^ (-1 : Int32))).toInt ∧ (a &&& (((1 : Int32) <<< (b &&& 31)) ^^^ (-1 : Int32))).toInt < 64) ∧ ∀ k, k < 6 → mx_bit (a &&& (((1 : Int32) <<< (b &&& 31)) ^^^ (-1 : Int32))).toInt k = if k = b.toInt.toNat then 0 else mx_bit a.toInt k := by
  have key : ∀ n : Nat, n < 64 → ∀ j : Nat, j < 6 → (0 ≤ (Int32.ofInt (n : Int) &&& (((1 : Int32) <<< (Int32.ofInt (j : Int) &&& 31)) ^^^ (-1 : Int32))).toInt ∧ (Int32.ofInt (n : Int) &&& (((1 : Int32) <<< (Int32.ofInt (j : Int) &&& 31)) ^^^ (-1 : Int32))).toInt < 64) ∧ ∀ k : Nat, k < 6 → mx_bit (Int32.ofInt (n : Int) &&& (((1 : Int32) <<< (Int32.ofInt (j : Int) &&& 31)) ^^^ (-1 : Int32))).toInt k = if k = j then 0 else mx_bit (n : Int) k := by decide +kernel
  have e1 := key a.toInt.toNat (by omega) b.toInt.toNat (by omega)
  rw [show ((a.toInt.toNat : Nat) : Int) = a.toInt by omega, show ((b.toInt.toNat : Nat) : Int) = b.toInt by omega, Int32.ofInt_toInt, Int32.ofInt_toInt] at e1
  exact e1
def s_hl (G A : aR) (m : Int) : Prop := (0 ≤ m ∧ m < G 0 5) ∧ A 2 m.toNat = 1
theorem s_hl_ok (ok : s_ok G K A U) {m : Int} : s_ok G K (s_up A 2 m.toNat 0) U := by
  obtain ⟨hG, hK, ⟨⟨w0, w1, w2, w3, w4, w5⟩, hcw⟩, hU⟩ := ok
  have E : ∀ a b, a ≠ 2 → s_up A 2 m.toNat 0 a b = A a b := fun a b h => s_up_ne (fun z => h z.1)
  refine ⟨hG, hK, ⟨⟨by rw [E _ _ (by decide)]; exact w0, by rw [E _ _ (by decide)]; exact w1, fun l hl => ?_, fun l hl => by rw [E _ _ (by decide), E _ _ (by decide)]; exact w3 l hl, fun l hl => by rw [E _ _ (by decide)]; exact w4 l hl, fun l hl => by rw [E _ _ (by decide)]; exact w5 l hl⟩, fun d hd => ?_, hcw.2.1, ?_⟩, hU⟩
  · by_cases z : l = m.toNat
    · rw [z, s_up_at]
      exact Or.inl rfl
    · rw [s_up_ne (fun y => z y.2)]
      exact w2 l hl
  · rw [s_c_o (by decide)]
    exact hcw.1 d hd
  · rw [s_c_o (by decide)]
    exact hcw.2.2
theorem cx_heal (ok : s_ok G K A U) (h : RX o g G K A L U x S) : (s_hl G A a1.toInt ∧ ∃ S1, F_d_heal o S a1 = (S1, (1 : Int32)) ∧ RX o g G K (s_up A 2 a1.toInt.toNat 0) L (s_ud U (A, L)) x S1) ∨ (¬ s_hl G A a1.toInt ∧ ∃ S1, F_d_heal o S a1 = (S1, (0 : Int32)) ∧ RX o g G K A L U x S1) := by
  have hG := ok.1
  have z0 : (0 : Int32).toInt = 0 := by decide +kernel
  obtain ⟨SN, f1, -, rN, -⟩ := cx_no (o := o) (a1 := 3) (k := 3) h (by decide +kernel)
  have n1 : SN = (F_d_no o S (3 : Int32)).1 := by rw [f1]
  have n2 : (0 : Int32) = (F_d_no o S (3 : Int32)).2 := by rw [f1]
  rcases cx_miner (o := o) (a1 := a1) h.2.1 with ⟨q3, y3⟩ | ⟨q3, y3⟩
  rotate_left
  · exact Or.inr ⟨fun z => y3 z.1, SN, F_d_heal_p0 h.1.symm rfl q3 n1 n2, rN⟩
  have m3 : ¬ F_g_hasMiner o S g a1 = (0 : Int32) := by rw [q3]; decide +kernel
  have h5 := hG.2.2.2.1
  have kn : a1.toNatClampNeg = a1.toInt.toNat := rfl
  have hu : (S.2.1 5 a1.toNatClampNeg).toInt = A 2 a1.toInt.toNat := h.2.2.1.2.2.2.1 a1.toInt.toNat (by omega)
  have w2 := ok.2.2.1.1.2.2.1 a1.toInt.toNat (by omega)
  by_cases q4 : S.2.1 5 a1.toNatClampNeg = (0 : Int32)
  · have d := dk_eqc z0 q4
    exact Or.inr ⟨fun z => by have := z.2; omega, SN, F_d_heal_p2 h.1.symm rfl m3 rfl q4 n1 n2, rN⟩
  · have d := dk_neqc z0 q4
    obtain ⟨S2, e2, r2, k2⟩ := cx_act (o := o) hG h
    refine Or.inl ⟨⟨y3, by omega⟩, _, F_d_heal_p1 h.1.symm rfl m3 rfl q4 e2.symm rfl, r2.row ⟨by decide, by decide⟩ ?_⟩
    obtain ⟨y1, y2', y3', y4, y5, y6, y7⟩ := r2.2.2.1
    have E : ∀ a b, a ≠ 2 → s_up A 2 a1.toInt.toNat 0 a b = A a b := fun a b h => s_up_ne (fun z => h z.1)
    have ro : ∀ i', i' ≠ 5 → (dg_uf S2 5 (upd (S2.2.1 5) a1.toNatClampNeg (0 : Int32))).2.1 i' = S2.2.1 i' := fun i' hi' => by rw [w_f, if_neg hi']
    refine ⟨fun z z0 z1 => ?_, by rw [E _ _ (by decide)]; exact y2', by rw [E _ _ (by decide)]; exact y3', fun k hk => ?_, fun k hk => by rw [ro _ (by decide), ro _ (by decide), E _ _ (by decide), E _ _ (by decide)]; exact y5 k hk, fun k hk => by rw [ro _ (by decide), E _ _ (by decide)]; exact y6 k hk, fun k hk => by rw [ro _ (by decide), E _ _ (by decide)]; exact y7 k hk⟩
    · rw [s_c_o (by decide)]
      exact (y1.keep (ro _ (by decide))) z z0 z1
    · rw [show (dg_uf S2 5 (upd (S2.2.1 5) a1.toNatClampNeg (0 : Int32))).2.1 (3 + 2) = upd (S2.2.1 5) a1.toNatClampNeg (0 : Int32) by rw [w_f, if_pos rfl], w_u, kn]
      by_cases z : k = a1.toInt.toNat
      · rw [if_pos z, z, s_up_at]
        exact z0
      · rw [if_neg z, s_up_ne (fun y => z y.2)]
        exact y4 k hk
theorem mx_heal (ok : s_ok G K A U) (h : RM G K A L U x S) : (s_hl G A a1.toInt ∧ ∃ S1, F_m_heal o S a1 = (S1, (1 : Int32)) ∧ RM G K (s_up A 2 a1.toInt.toNat 0) L (s_ud U (A, L)) x S1) ∨ (¬ s_hl G A a1.toInt ∧ ∃ S1, F_m_heal o S a1 = (S1, (0 : Int32)) ∧ RM G K A L U x S1) := by
  have hG := ok.1
  have hb := hG.1.2.2.2
  have z0 : (0 : Int32).toInt = 0 := by decide +kernel
  have n0 : (0 : Int32).toNatClampNeg = 0 := by decide +kernel
  obtain ⟨SN, f1, rN, -⟩ := mx_ref (o := o) (a1 := 3) (k := 3) hb h (by decide +kernel)
  have n1 : SN = (F_m_refuses o S (3 : Int32)).1 := by rw [f1]
  rcases mx_miner (o := o) (a1 := a1) h.1 with ⟨q3, y3⟩ | ⟨q3, y3⟩
  rotate_left
  · exact Or.inr ⟨fun z => y3 z.1, SN, F_m_heal_p0 rfl q3 n1, rN⟩
  have m3 : ¬ F_m_isMiner o S a1 = (0 : Int32) := by rw [q3]; decide +kernel
  have h5 := hG.2.2.2.1
  obtain ⟨hb1, hb2⟩ := h.2.1.2.2.2.1
  have hu := hb2 a1.toInt.toNat (by omega)
  rcases mx_has2 (o := o) (S := S) (a := S.2.1 33 (0 : Int32).toNatClampNeg) (b := a1) (by rw [n0]; exact hb1) (by omega) with ⟨q4, y4⟩ | ⟨q4, y4⟩
  rotate_left
  · rw [n0, ← hu] at y4
    exact Or.inr ⟨fun z => by have := z.2; omega, SN, F_m_heal_p2 rfl m3 rfl rfl q4 n1, rN⟩
  rw [n0, ← hu] at y4
  have m4 : ¬ F_m_has2 o S (S.2.1 33 (0 : Int32).toNatClampNeg) a1 = (0 : Int32) := by rw [q4]; decide +kernel
  obtain ⟨S2, e2, r2, k2⟩ := mx_act (o := o) hG h
  refine Or.inl ⟨⟨y3, y4⟩, _, F_m_heal_p1 rfl m3 rfl rfl m4 e2.symm rfl rfl rfl rfl rfl, r2.row hb ⟨by decide, by decide⟩ (by rw [n0]; decide) ?_⟩
  obtain ⟨y1, y2', y3', ⟨y4', y4''⟩, y5, y6, y7, y8⟩ := r2.2.1
  have E : ∀ a b, a ≠ 2 → s_up A 2 a1.toInt.toNat 0 a b = A a b := fun a b h => s_up_ne (fun z => h z.1)
  obtain ⟨X, hX⟩ : ∃ X, X = S2.2.1 33 (0 : Int32).toNatClampNeg &&& (((1 : Int32) <<< (a1 &&& 31)) ^^^ (-1 : Int32)) := ⟨_, rfl⟩
  rw [← hX]
  obtain ⟨c1, c2⟩ := mx_clrbit (a := S2.2.1 33 (0 : Int32).toNatClampNeg) (b := a1) (by rw [n0]; exact y4') (by omega)
  rw [← hX] at c1 c2
  have ro : ∀ i', i' ≠ 33 → (dg_uf S2 33 (upd (S2.2.1 33) (0 : Int32).toNatClampNeg X)).2.1 i' = S2.2.1 i' := fun i' hi' => by rw [w_f, if_neg hi']
  have r33 : (dg_uf S2 33 (upd (S2.2.1 33) (0 : Int32).toNatClampNeg X)).2.1 33 0 = X := by rw [w_f, if_pos rfl, w_u, n0, if_pos rfl]
  refine ⟨?_, by rw [ro _ (by decide), E _ _ (by decide)]; exact y2', by rw [ro _ (by decide), E _ _ (by decide)]; exact y3', ⟨by rw [r33]; exact c1, fun k hk => ?_⟩, fun k hk => by rw [ro _ (by decide), ro _ (by decide), E _ _ (by decide), E _ _ (by decide)]; exact y5 k hk, by rw [ro _ (by decide)]; exact ⟨y6.1, fun k hk => by rw [E _ _ (by decide)]; exact y6.2 k hk⟩, fun k hk => by rw [ro _ (by decide), E _ _ (by decide)]; exact y7 k hk, y8.keep (by rw [ro _ (by decide)]) (fun j _ _ => by rw [ro _ (by decide)])⟩
  · have h9 := y1.keep (S1 := dg_uf S2 33 (upd (S2.2.1 33) (0 : Int32).toNatClampNeg X)) (ro 31 (by decide)) (ro 32 (by decide))
    exact h9.congr (fun d _ => s_c_o (by decide))
  · rw [r33, c2 k hk]
    by_cases z : k = a1.toInt.toNat
    · rw [if_pos z, z, s_up_at]
    · rw [if_neg z, s_up_ne (fun y => z y.2), n0]
      exact y4'' k hk
/-- HEAL on both sides -/
theorem sim_heal (ok : s_ok G K A U) (hX : RX oX g G K A L U x SX) (hM : RM G K A L U x SM) : ∃ (A' : aR) (U' : s_U), (F_d_heal oX SX a1).2 = (F_m_heal oM SM a1).2 ∧ s_ok G K A' U' ∧ RX oX g G K A' L U' x (F_d_heal oX SX a1).1 ∧ RM G K A' L U' x (F_m_heal oM SM a1).1 := by
  rcases cx_heal (o := oX) (a1 := a1) ok hX with ⟨p, S1, e1, r1⟩ | ⟨p, S1, e1, r1⟩ <;> rcases mx_heal (o := oM) (a1 := a1) ok hM with ⟨q, S2, e2, r2⟩ | ⟨q, S2, e2, r2⟩
  · rw [e1, e2]
    exact ⟨_, _, rfl, s_hl_ok (s_ud_ok ok), r1, r2⟩
  · exact absurd p q
  · exact absurd q p
  · rw [e1, e2]
    exact ⟨A, U, rfl, ok, r1, r2⟩
end CV
