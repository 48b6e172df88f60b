/-! curtains, the plan, healing, the seed, undoing: both sides -/
section CU
variable {o oX oM g n : Nat} {G A A' : aR} {K : Nat → List Int} {L L' : s_L} {U : s_U} {S S0 S1 SX SM : dg_S} {x x' r c v : Int} {a a1 a2 a3 a4 y : Int32}
theorem s_up1_ok (ok : s_ok G K A U) (hc : s_in G c) (hne : c ≠ G 0 2) (hv : -2 ≤ v ∧ v ≤ 9) : s_ok G K (s_up A 1 c.toNat v) U := by
  obtain ⟨hG, hK, ⟨⟨w0, w1, w2, w3, w4, w5⟩, hcw⟩, hU⟩ := ok
  have E : ∀ a b, a ≠ 1 → s_up A 1 c.toNat v a b = A a b := fun a b h => s_up_ne (fun z => h z.1)
  have c0 := hc.1.1
  refine ⟨hG, hK, ⟨⟨by rw [E _ _ (by decide)]; exact w0, by rw [E _ _ (by decide)]; exact w1, fun k hk => by rw [E _ _ (by decide)]; exact w2 k hk, fun k hk => by rw [E _ _ (by decide), E _ _ (by decide)]; exact w3 k hk, fun k hk => by rw [E _ _ (by decide)]; exact w4 k hk, fun k hk => by rw [E _ _ (by decide)]; exact w5 k hk⟩, fun d hd => ?_, hcw.2.1, ?_⟩, hU⟩
  · rw [s_c_up c0 hd.1.1]
    split
    · exact hv
    · exact hcw.1 d hd
  · show s_c (s_up A 1 c.toNat v) (G 0 2) = -1
    rw [s_c_up c0 hcw.2.1.1.1, if_neg (fun z => hne z.symm)]
    exact hcw.2.2
theorem cx_pit_cell (h : cx_pit G A S 3) (hc : s_in G c) (hv : -2 ≤ v ∧ v ≤ 9) (hy : y.toInt = cx_en v) {i : Nat} (hi : i = (c + 8).toNat) : cx_pit G (s_up A 1 c.toNat v) (dg_uf S 4 (upd (S.2.1 4) i y)) 3 := by
  obtain ⟨y1, y2, y3, y4, y5, y6, y7⟩ := h
  have hc0 := hc.1
  have E : ∀ a b, a ≠ 1 → s_up A 1 c.toNat v a b = A a b := fun a b h => s_up_ne (fun z => h z.1)
  have ro : ∀ i', i' ≠ 4 → (dg_uf S 4 (upd (S.2.1 4) i y)).2.1 i' = S.2.1 i' := fun i' hi' => by rw [w_f, if_neg hi']
  have h9 := y1.up (S1 := dg_uf S 4 (upd (S.2.1 4) i y)) (x := c + 8) (v := v) (y := y) ⟨by omega, by omega⟩ (by rw [show c + 8 - 8 = c by omega]; exact hc) (by rw [w_f, if_pos rfl, hi]) hy hv
  rw [show c + 8 - 8 = c by omega] at h9
  exact ⟨h9, by rw [E _ _ (by decide)]; exact y2, by rw [E _ _ (by decide)]; exact y3, fun k hk => by rw [ro _ (by decide), E _ _ (by decide)]; exact y4 k hk, fun k hk => by rw [ro _ (by decide), ro _ (by decide), E _ _ (by decide), E _ _ (by decide)]; exact y5 k hk, fun k hk => by rw [ro _ (by decide), E _ _ (by decide)]; exact y6 k hk, fun k hk => by rw [ro _ (by decide), E _ _ (by decide)]; exact y7 k hk⟩
/-- a row of the pit is told anew -/
theorem RX.row {i j : Nat} (h : RX o g G K A L U x S) (hi : 4 ≤ i ∧ i ≤ 9) (hp : cx_pit G A' (dg_uf S i (upd (S.2.1 i) j y)) 3) : RX o g G K A' L U x (dg_uf S i (upd (S.2.1 i) j y)) := by
  have t : kp (fun _ _ => False) (fun a => a = i) S (dg_uf S i (upd (S.2.1 i) j y)) := kp.uf kp.rf rfl
  exact h.act t hp (h.2.2.2.1.keep (t.I id) (t.2 18 (by omega)).1) id id (fun _ _ _ _ => id) ⟨id, id⟩ (fun _ _ _ _ => id) (fun a _ _ => by omega) (fun a _ _ => by omega)
/-- a curtain can be hung, or taken down -/
def s_hg (G A : aR) (c on : Int) : Prop := s_in G c ∧ c ≠ G 0 2 ∧ (on = 1 ∧ s_c A c = -1 ∨ on = 0 ∧ s_c A c = -2)
def s_hv (on : Int) : Int := if on = 1 then -2 else -1
theorem cx_hang (ok : s_ok G K A U) (h : RX o g G K A L U x S) : ((0 ≤ a1.toInt ∧ a1.toInt < G 0 0) ∧ (0 ≤ a2.toInt ∧ a2.toInt < G 0 1) ∧ s_hg G A (8 * a2.toInt + a1.toInt) a3.toInt ∧ ∃ S1, F_d_hang o S a1 a2 a3 = (S1, (1 : Int32)) ∧ RX o g G K (s_up A 1 (8 * a2.toInt + a1.toInt).toNat (s_hv a3.toInt)) L (s_ud U (A, L)) x S1) ∨ (¬ ((0 ≤ a1.toInt ∧ a1.toInt < G 0 0) ∧ (0 ≤ a2.toInt ∧ a2.toInt < G 0 1) ∧ s_hg G A (8 * a2.toInt + a1.toInt) a3.toInt) ∧ ∃ S1, F_d_hang o S a1 a2 a3 = (S1, (0 : Int32)) ∧ RX o g G K A L U x S1) := by
  have hG := ok.1
  obtain ⟨SN, f1, -, rN, -⟩ := cx_no (o := o) (a1 := 3) (k := 3) h (by decide +kernel)
  have n1 : SN = (F_d_no o S (3 : Int32)).1 := by rw [f1]
  have n2 : (0 : Int32) = (F_d_no o S (3 : Int32)).2 := by rw [f1]
  have z0 : (0 : Int32).toInt = 0 := by decide +kernel
  have z1 : (1 : Int32).toInt = 1 := by decide +kernel
  have z255 : (255 : Int32).toInt = 255 := by decide +kernel
  have z254 : (254 : Int32).toInt = 254 := by decide +kernel
  rcases cx_place (o := o) (a1 := a1) (a2 := a2) h.2.1 hG.1.1 with ⟨p1, p2, p3, p4⟩ | ⟨p1, p2⟩
  rotate_left
  · exact Or.inr ⟨fun z => p1 ⟨z.1, z.2.1⟩, SN, F_d_hang_p0 h.1.symm rfl p2 n1 n2, rN⟩
  obtain ⟨c, hc⟩ : ∃ c, c = 8 * a2.toInt + a1.toInt := ⟨_, rfl⟩
  rw [← hc] at p3 p4 ⊢
  obtain ⟨pl, hpl⟩ : ∃ pl, pl = F_g_placeOf o S g a1 a2 := ⟨_, rfl⟩
  rw [← hpl] at p3
  have p40 := p4.1
  have q1 : ¬ pl = (-1 : Int32) := fun z => by have := dk_eqc (k := -1) (by decide +kernel) z; omega
  have hsh : (zI S g 2).toInt = G 0 2 + 8 := h.2.1.1.2.1
  have pn : pl.toNatClampNeg = (c + 8).toNat := by rw [dk_clN, p3]
  by_cases q2 : pl = zI S g 2
  · exact Or.inr ⟨fun z => z.2.2.2.1 (by rw [q2] at p3; omega), SN, F_d_hang_p1 h.1.symm hpl q1 rfl q2 n1 n2, rN⟩
  have hne : c ≠ G 0 2 := fun z => q2 (Int32.toInt_inj.mp (by rw [p3, hsh, z]))
  by_cases q3 : a3 < (0 : Int32)
  · have := dk_ltc z0 q3
    exact Or.inr ⟨fun z => by have := z.2.2.2.2; omega, SN, F_d_hang_p2 h.1.symm hpl q1 rfl q2 q3 n1 n2, rN⟩
  have d3 := dk_nltc z0 q3
  by_cases q4 : a3 ≤ (1 : Int32)
  rotate_left
  · have := dk_nlec z1 q4
    exact Or.inr ⟨fun z => by have := z.2.2.2.2; omega, SN, F_d_hang_p8 h.1.symm hpl q1 rfl q2 q3 q4 n1 n2, rN⟩
  have d4 := dk_lec z1 q4
  obtain ⟨e, l, u⟩ := (h.2.2.1.1 (c + 8) (by omega) (by omega)).1 (by rw [show c + 8 - 8 = c by omega]; exact p4)
  rw [show c + 8 - 8 = c by omega] at e l u
  have e4 : (S.2.1 4 pl.toNatClampNeg).toInt = cx_en (s_c A c) := by rw [pn]; exact e
  obtain ⟨S2, e2, r2, k2⟩ := cx_act (o := o) hG h
  by_cases q5 : a3 = (1 : Int32)
  · have d5 := dk_eqc z1 q5
    have F := F_d_hang_p7 (o := o) (S := S) (a1 := a1) (a2 := a2) h.1.symm hpl q1 rfl q2 q3 q4 q5
    by_cases q6 : S.2.1 4 pl.toNatClampNeg = (255 : Int32)
    · have d6 := dk_eqc z255 q6
      rw [e4] at d6
      have sc : s_c A c = -1 := by
        unfold cx_en at d6
        by_cases w : s_c A c = -1
        · exact w
        · rw [if_neg w] at d6
          split at d6 <;> omega
      refine Or.inl ⟨p1, p2, ⟨p4, hne, Or.inl ⟨d5, sc⟩⟩, _, F.trans (F_d_hang_p4 rfl q6 e2.symm q5 rfl), ?_⟩
      unfold s_hv
      rw [if_pos d5]
      exact r2.row ⟨by decide, by decide⟩ (cx_pit_cell r2.2.2.1 p4 ⟨by decide, by decide⟩ z254 pn)
    · have d6 := dk_neqc z255 q6
      rw [e4] at d6
      refine Or.inr ⟨fun z => d6 ?_, SN, F.trans (F_d_hang_p5 rfl q6 n1 n2), rN⟩
      have : s_c A c = -1 := by have := z.2.2.2.2; omega
      rw [this]
      rfl
  · have d5 := dk_neqc z1 q5
    have F := F_d_hang_p6 (o := o) (S := S) (a1 := a1) (a2 := a2) h.1.symm hpl q1 rfl q2 q3 q4 q5
    by_cases q6 : S.2.1 4 pl.toNatClampNeg = (254 : Int32)
    · have d6 := dk_eqc z254 q6
      rw [e4] at d6
      have sc : s_c A c = -2 := by
        unfold cx_en at d6
        by_cases w : s_c A c = -1
        · rw [if_pos w] at d6
          omega
        · rw [if_neg w] at d6
          split at d6 <;> omega
      refine Or.inl ⟨p1, p2, ⟨p4, hne, Or.inr ⟨by omega, sc⟩⟩, _, F.trans (F_d_hang_p3 rfl q6 e2.symm q5 rfl), ?_⟩
      unfold s_hv
      rw [if_neg d5]
      exact r2.row ⟨by decide, by decide⟩ (cx_pit_cell r2.2.2.1 p4 ⟨by decide, by decide⟩ z255 pn)
    · have d6 := dk_neqc z254 q6
      rw [e4] at d6
      refine Or.inr ⟨fun z => d6 ?_, SN, F.trans (F_d_hang_p5 rfl q6 n1 n2), rN⟩
      have : s_c A c = -2 := by have := z.2.2.2.2; omega
      rw [this]
      rfl
/-- a row of layer 0 is told anew -/
theorem RM.row {i j : Nat} (h : RM G K A L U x S) (hb : G 0 6 ≤ 16) (hi : 29 ≤ i ∧ i ≤ 39) (hj : j < mx_w i) (hl : mx_lay G A' L (dg_uf S i (upd (S.2.1 i) j y)) 0) : RM G K A' L U x (dg_uf S i (upd (S.2.1 i) j y)) := h.v hb (k_v.uf (v := 0) k_v.rf hi.1 hi.2 ⟨by omega, by omega⟩) (by decide) hl
theorem mx_cellof (hg : mx_gd G S) (hb : s_gb G) : (0 ≤ a1.toInt ∧ a1.toInt < G 0 0) ∧ (0 ≤ a2.toInt ∧ a2.toInt < G 0 1) ∧ F_m_isCell o S a1 a2 = 1 ∧ ((8 : Int32) * a2 + a1).toInt = 8 * a2.toInt + a1.toInt ∧ s_in G (8 * a2.toInt + a1.toInt) ∨ ¬ ((0 ≤ a1.toInt ∧ a1.toInt < G 0 0) ∧ 0 ≤ a2.toInt ∧ a2.toInt < G 0 1) ∧ F_m_isCell o S a1 a2 = 0 := by
  obtain ⟨⟨b0, b1⟩, b2, b3⟩ := id hb
  rcases mx_isCell (o := o) (a := a1) (b := a2) hg hb with ⟨e, h⟩ | ⟨e, h⟩
  · have e1 : ((8 : Int32) * a2).toInt = 8 * a2.toInt := dk_mulT (by decide +kernel) rfl (by omega) (by omega)
    exact Or.inl ⟨h.1, h.2, e, dk_addT e1 rfl (by omega) (by omega), ⟨by omega, by omega⟩, by omega, by omega⟩
  · exact Or.inr ⟨h, e⟩
theorem mx_hang (ok : s_ok G K A U) (h : RM G K A L U x S) : ((0 ≤ a1.toInt ∧ a1.toInt < G 0 0) ∧ (0 ≤ a2.toInt ∧ a2.toInt < G 0 1) ∧ s_hg G A (8 * a2.toInt + a1.toInt) a3.toInt ∧ ∃ S1, F_m_hang o S a1 a2 a3 = (S1, (1 : Int32)) ∧ RM G K (s_up A 1 (8 * a2.toInt + a1.toInt).toNat (s_hv a3.toInt)) L (s_ud U (A, L)) x S1) ∨ (¬ ((0 ≤ a1.toInt ∧ a1.toInt < G 0 0) ∧ (0 ≤ a2.toInt ∧ a2.toInt < G 0 1) ∧ s_hg G A (8 * a2.toInt + a1.toInt) a3.toInt) ∧ ∃ S1, F_m_hang o S a1 a2 a3 = (S1, (0 : Int32)) ∧ RM G K A L U x S1) := by
  have hG := ok.1
  have hb := hG.1.2.2.2
  have hgb := hG.1.1
  obtain ⟨SN, f1, rN, -⟩ := mx_ref (o := o) (a1 := 3) (k := 3) hb h (by decide +kernel)
  have n1 : SN = (F_m_refuses o S (3 : Int32)).1 := by rw [f1]
  have z0 : (0 : Int32).toInt = 0 := by decide +kernel
  have z1 : (1 : Int32).toInt = 1 := by decide +kernel
  have hg := h.1.1.1
  rcases mx_cellof (o := o) (a1 := a1) (a2 := a2) hg hgb with ⟨p1, p2, p3, p4, p5⟩ | ⟨p1, p2⟩
  rotate_left
  · refine Or.inr ⟨fun z => p1 ⟨z.1, z.2.1⟩, SN, ?_, rN⟩
    rw [F_m_hang_p5 rfl p2]
    exact F_m_hang_p0 rfl n1
  have q0 : ¬ F_m_isCell o S a1 a2 = (0 : Int32) := by rw [p3]; decide +kernel
  obtain ⟨w, hw⟩ : ∃ w, w = (8 : Int32) * a2 + a1 := ⟨_, rfl⟩
  have F := F_m_hang_p6 (a3 := a3) rfl q0 rfl hw
  rw [← hw] at p4
  obtain ⟨c, hc⟩ : ∃ c, c = 8 * a2.toInt + a1.toInt := ⟨_, rfl⟩
  rw [← hc] at p4 p5 ⊢
  have p50 := p5.1
  have wn : w.toNatClampNeg = c.toNat := by rw [dk_clN, p4]
  have q1 : ¬ w = (-1 : Int32) := fun z => by have := dk_eqc (k := -1) (by decide +kernel) z; omega
  have hsh : (S.2.1 4 (zI S 0 13).toNatClampNeg).toInt = G 0 2 := hg.2.2.2.1
  obtain ⟨l31, l32, l, u⟩ := h.2.1.1 c p5
  have adn : mx_ad 0 c = c.toNat := by unfold mx_ad; omega
  rw [adn] at l31 l32
  have ico : ¬ F_m_isCellOf o S w = (0 : Int32) := by
    rcases mx_isCellOf (o := o) (a := w) hg hgb with ⟨e, -⟩ | ⟨-, e⟩
    · rw [e]; decide +kernel
    · exact absurd (by rw [p4]; exact p5) e
  -- can a curtain hang there at all
  rcases mx_op (o := o) (a := 0) (b := w) h.2.1.1 z0 (by decide) (by rw [p4]; exact p5) with ⟨e5, y5⟩ | ⟨e5, y5⟩
  rotate_left
  · rw [p4] at y5
    have ch := F_m_canHang_p1 (a1 := w) rfl ico rfl e5
    exact Or.inr ⟨fun z => y5 ⟨p5, by have := z.2.2.2.2; omega⟩, SN, F.trans (F_m_hang_p1 q1 rfl ch n1), rN⟩
  rw [p4] at y5
  have n5 : ¬ F_m_isOpen o S (0 : Int32) w = (0 : Int32) := by rw [e5]; decide +kernel
  by_cases q6 : w = S.2.1 4 (zI S 0 13).toNatClampNeg
  · have ch := F_m_canHang_p2 (a1 := w) rfl ico rfl n5 rfl rfl q6
    exact Or.inr ⟨fun z => z.2.2.2.1 (by rw [← p4, q6]; exact hsh), SN, F.trans (F_m_hang_p1 q1 rfl ch n1), rN⟩
  have hne : c ≠ G 0 2 := fun z => q6 (Int32.toInt_inj.mp (by rw [p4, hsh, z]))
  have ch := F_m_canHang_p3 (a1 := w) rfl ico rfl n5 rfl rfl q6
  have nch : ¬ F_m_canHang o S w = (0 : Int32) := by rw [ch]; decide +kernel
  rcases mx_is (o := o) (S := S) (a := a3) (b := 0) (c := 1) with ⟨e7, y7⟩ | ⟨e7, y7⟩
  rotate_left
  · rw [z0, z1] at y7
    exact Or.inr ⟨fun z => by have := z.2.2.2.2; omega, SN, F.trans (F_m_hang_p2 q1 rfl nch rfl e7 n1), rN⟩
  rw [z0, z1] at y7
  have n7 : ¬ F_m_is o S a3 (0 : Int32) (1 : Int32) = (0 : Int32) := by rw [e7]; decide +kernel
  unfold mx_cu at l32
  have y52 := y5.2
  by_cases q8 : S.2.1 32 w.toNatClampNeg = a3
  · rw [wn] at q8
    refine Or.inr ⟨fun z => ?_, SN, F.trans (F_m_hang_p4 q1 rfl nch rfl n7 rfl (by rw [wn]; exact q8) n1), rN⟩
    have h9 := z.2.2.2.2
    rw [q8] at l32
    split at l32 <;> omega
  · have d8 : ¬ (S.2.1 32 c.toNat).toInt = a3.toInt := fun z => q8 (by rw [wn]; exact Int32.toInt_inj.mp z)
    rw [l32] at d8
    have hcase : a3.toInt = 1 ∧ s_c A c = -1 ∨ a3.toInt = 0 ∧ s_c A c = -2 := by
      split at d8 <;> omega
    obtain ⟨S2, e2, r2, k2⟩ := mx_act (o := o) hG h
    refine Or.inl ⟨p1, p2, ⟨p5, hne, hcase⟩, _, F.trans (F_m_hang_p3 q1 rfl nch rfl n7 rfl q8 e2.symm rfl), ?_⟩
    refine r2.row hb ⟨by decide, by decide⟩ (by rw [wn, show mx_w 32 = 64 from rfl]; omega) ?_
    obtain ⟨y1, y2, y3, y4, y6, y6', y7', y8⟩ := r2.2.1
    have E : ∀ a b, a ≠ 1 → s_up A 1 c.toNat (s_hv a3.toInt) a b = A a b := fun a b h => s_up_ne (fun z => h z.1)
    have ro : ∀ i', i' ≠ 32 → (dg_uf S2 32 (upd (S2.2.1 32) w.toNatClampNeg a3)).2.1 i' = S2.2.1 i' := fun i' hi' => by rw [w_f, if_neg hi']
    refine ⟨fun d hd => ?_, by rw [ro _ (by decide), E _ _ (by decide)]; exact y2, by rw [ro _ (by decide), E _ _ (by decide)]; exact y3, by rw [ro _ (by decide)]; exact ⟨y4.1, fun k hk => by rw [E _ _ (by decide)]; exact y4.2 k hk⟩, fun k hk => by rw [ro _ (by decide), ro _ (by decide), E _ _ (by decide), E _ _ (by decide)]; exact y6 k hk, by rw [ro _ (by decide)]; exact ⟨y6'.1, fun k hk => by rw [E _ _ (by decide)]; exact y6'.2 k hk⟩, fun k hk => by rw [ro _ (by decide), E _ _ (by decide)]; exact y7' k hk, y8.keep (by rw [ro _ (by decide)]) (fun j _ _ => by rw [ro _ (by decide)])⟩
    obtain ⟨i1, i2, i3, i4⟩ := y1 d hd
    have hd0 := hd.1
    have add : mx_ad 0 d = d.toNat := by unfold mx_ad; omega
    rw [add] at i1 i2 ⊢
    rw [ro 31 (by decide), w_f, if_pos rfl, w_u, wn, s_c_up p50.1 hd0.1]
    by_cases z : d = c
    · subst z
      rw [if_pos rfl, if_pos rfl, i1]
      unfold mx_en mx_cu s_hv
      rcases hcase with ⟨k1, k2'⟩ | ⟨k1, k2'⟩
      · rw [if_pos (show s_c A d < 0 by omega), if_pos k1]
        exact ⟨rfl, k1, by decide, by decide⟩
      · rw [if_pos (show s_c A d < 0 by omega), if_neg (show ¬ a3.toInt = 1 by omega)]
        exact ⟨rfl, k1, by decide, by decide⟩
    · rw [if_neg z, if_neg (fun w => z (by omega))]
      exact ⟨i1, i2, i3, i4⟩
/-- HANG on both sides -/
theorem sim_hang (ok : s_ok G K A U) (hX : RX oX g G K A L U x SX) (hM : RM G K A L U x SM) : ∃ (A' : aR) (U' : s_U), (F_d_hang oX SX a1 a2 a3).2 = (F_m_hang oM SM a1 a2 a3).2 ∧ s_ok G K A' U' ∧ RX oX g G K A' L U' x (F_d_hang oX SX a1 a2 a3).1 ∧ RM G K A' L U' x (F_m_hang oM SM a1 a2 a3).1 := by
  rcases cx_hang (o := oX) (a1 := a1) (a2 := a2) (a3 := a3) ok hX with ⟨p1, p2, p3, S1, e1, r1⟩ | ⟨p, S1, e1, r1⟩
  · rcases mx_hang (o := oM) (a1 := a1) (a2 := a2) (a3 := a3) ok hM with ⟨-, -, -, S2, e2, r2⟩ | ⟨q, -⟩
    · rw [e1, e2]
      refine ⟨_, _, rfl, s_up1_ok (s_ud_ok ok) p3.1 p3.2.1 ?_, r1, r2⟩
      unfold s_hv
      split <;> exact ⟨by decide, by decide⟩
    · exact absurd ⟨p1, p2, p3⟩ q
  · rcases mx_hang (o := oM) (a1 := a1) (a2 := a2) (a3 := a3) ok hM with ⟨q1, q2, q3, -⟩ | ⟨-, S2, e2, r2⟩
    · exact absurd ⟨q1, q2, q3⟩ p
    · rw [e1, e2]
      exact ⟨A, U, rfl, ok, r1, r2⟩
/-- SEED on both sides -/
theorem sim_seed (hb : G 0 6 ≤ 16) (hx : 0 ≤ x ∧ x < 2147483648) (hX : RX oX g G K A L U x SX) (hM : RM G K A L U x SM) : ∃ x', (F_d_seed oX SX a1).2 = (F_m_seed oM SM a1).2 ∧ (0 ≤ x' ∧ x' < 2147483648) ∧ RX oX g G K A L U x' (F_d_seed oX SX a1).1 ∧ RM G K A L U x' (F_m_seed oM SM a1).1 := by
  have z0 : (0 : Int32).toInt = 0 := by decide +kernel
  have hf := dk_full a1
  by_cases q : (0 : Int32) ≤ a1
  · have d := dk_gec z0 q
    rw [F_d_seed_p0 q rfl, F_m_seed_p0 q rfl rfl]
    refine ⟨a1.toInt, rfl, ⟨d, by omega⟩, hX.sx (kp.uF kp.rf ⟨rfl, rfl⟩) (by rw [w_I, if_pos ⟨rfl, rfl⟩]), hM.sx hb (kp.uF kp.rf ⟨rfl, rfl⟩) ?_⟩
    unfold zL
    rw [w_F, if_pos ⟨rfl, rfl⟩]
    exact Int32.toInt_toInt64 a1
  · obtain ⟨S1, f1, -, r1, -⟩ := cx_no (o := oX) (a1 := 5) (k := 5) hX (by decide +kernel)
    obtain ⟨S2, f2, r2, -⟩ := mx_ref (o := oM) (a1 := 5) (k := 5) hb hM (by decide +kernel)
    rw [F_d_seed_p1 q rfl rfl, F_m_seed_p1 q rfl, f1, f2]
    exact ⟨x, rfl, hx, r1, r2⟩
/-- UNDO on both sides -/
theorem sim_undo (ok : s_ok G K A U) (hX : RX oX g G K A L U x SX) (hM : RM G K A L U x SM) : ∃ (A' : aR) (L' : s_L) (U' : s_U), (F_d_undo oX SX).2 = (F_m_undo oM SM).2 ∧ s_ok G K A' U' ∧ RX oX g G K A' L' U' x (F_d_undo oX SX).1 ∧ RM G K A' L' U' x (F_m_undo oM SM).1 := by
  have z0 : (0 : Int32).toInt = 0 := by decide +kernel
  have hb := ok.1.1.2.2.2
  by_cases q : U = []
  · subst q
    have q1 : zI SX 17 2 = (0 : Int32) := dk_eqp z0 hX.2.2.2.2.1.1
    have q2 : zI SM 0 61 = (0 : Int32) := dk_eqp z0 hM.2.2.1.1
    have t := F_h_takeBack_p2 (o := oX) (S := SX) (pt := 3) rfl q1
    obtain ⟨S1, f1, -, r1, -⟩ := cx_no (o := oX) (a1 := 4) (k := 4) hX (by decide +kernel)
    obtain ⟨S2, f2, r2, -⟩ := mx_ref (o := oM) (a1 := 4) (k := 4) hb hM (by decide +kernel)
    have e1 : F_d_undo oX SX = (S1, (0 : Int32)) := F_d_undo_p1 (S_2 := SX) (x_1 := 0) (by rw [t]) (by rw [t]) rfl (by rw [f1]) (by rw [f1])
    have e2 : F_m_undo oM SM = (S2, (0 : Int32)) := F_m_undo_p1 rfl q2 (by rw [f2])
    rw [e1, e2]
    exact ⟨A, L, [], rfl, ok, r1, r2⟩
  · obtain ⟨U0, ⟨A', L'⟩, hU⟩ : ∃ U0 e, U = U0 ++ [e] := ⟨U.dropLast, U.getLast q, (List.dropLast_concat_getLast q).symm⟩
    subst hU
    obtain ⟨h1, h2, h3, h4, h5, h6⟩ := hX
    have sep := rX_sep h2.1.1
    obtain ⟨S1, e1, p1, k1, u1, t1⟩ := cx_back (o := oX) (p := 3) hb pX_3' (by decide) h5
    have kf := cx_forget (o := oX) (S := S1)
    obtain ⟨S3, e3⟩ : ∃ T, T = F_d_forgetTrials oX S1 := ⟨_, rfl⟩
    rw [← e3] at kf
    obtain ⟨m1, m2, m3, m4, m5⟩ := hM
    obtain ⟨S2, e2, l2, u2, t2⟩ := mx_undo1 (o := oM) hb m3
    have eX : F_d_undo oX SX = (S3, (1 : Int32)) := F_d_undo_p0 (S_2 := S1) (x_1 := 1) (by rw [e1]) (by rw [e1]) (by decide +kernel) e3
    rw [eX, e2]
    refine ⟨A', L', U0, rfl, ⟨ok.1, ok.2.1, ok.2.2.2 U0.length (A', L') (by rw [List.getElem?_append_right (Nat.le_refl _), Nat.sub_self]; rfl), fun i e he => ok.2.2.2 i e (by rw [List.getElem?_append_left (get_lt he)]; exact he)⟩, ⟨?_, ?_, ?_, ?_, ?_, ?_⟩, m1.keep (t2.I (by decide)) (t2.I (by decide)) (fun i hi => (t2.2 i (by omega)).1), l2, u2, by rw [t2.I (by decide)]; exact m4, by rw [t2.L (by decide)]; exact m5⟩
    · rw [kf.R (by decide), t1.R (by decide)]; exact h1
    · exact h2.keep (fun i _ _ => by rw [(kf.2 i id).1, (t1.2 i (fun z => by omega)).1]) (fun b => by rw [kf.I (fun z => by omega), t1.I (fun z => by omega)])
    · exact p1.keep (fun i _ _ => (kf.2 i id).1) (fun b _ => kf.I (fun z => by omega))
    · exact k1.keep (kf.I (by decide)) (kf.2 18 id).1
    · exact u1.keep (kf.I (by decide)) (kf.I (by decide)) (fun i _ _ => (kf.2 i id).1) (fun a b _ _ => kf.I (fun z => by omega))
    · rw [kf.I (by decide), t1.I (by decide)]; exact h6
end CU
