/-! cell on both sides -/
section DC
variable {o oX oM g n p : Nat} {G A A' : aR} {K : Nat → List Int} {L L' : s_L} {U : s_U} {S S0 S1 SX SM : dg_S} {x r c : Int} {a a1 a2 a3 : Int32}
/-- what is known of how far cells are -/
theorem mx_bfar {v : Nat} (hb : s_gb G) (hg : mx_gd G S) (hce : mx_ce G A S v) (hv : v ≤ 40) (hps : s_ps G A (G 0 2)) : b_far (G 0 2) (s_op G A) (s_ps G A) (s_fd G A) := by
  -- as in mx_measures: the search gives one
  obtain ⟨f, hf⟩ : ∃ f, b_far (G 0 2) (s_op G A) (s_ps G A) f := mx_bex hb hg hce hv hps
  have e : f = s_fd G A := by
    funext c
    exact s_fd_eq hf c
  rw [← e]
  exact hf
theorem s_fd_op (h : b_far (G 0 2) (s_op G A) (s_ps G A) (s_fd G A)) (hps : s_ps G A (G 0 2)) (hc : ¬ s_op G A c) : s_fd G A c = -1 := by
  rcases h c with ⟨e, -⟩ | ⟨n, -, -, hd⟩
  · exact e
  · exact absurd (b_D_op ⟨hps.1, by have := hps.2; omega⟩ n c hd.1) hc
theorem k_ms.rm (t : k_ms S S1) (hb : G 0 6 ≤ 16) (h : RM G K A L U x S) : RM G K A L U x S1 := h.keep hb t (fun b _ => id) (fun a _ => by omega) (fun a _ _ => by omega)
theorem k_r.rm (t : k_r S S1) (hb : G 0 6 ≤ 16) (h : RM G K A L U x S) : RM G K A L U x S1 := h.keep hb t (fun b _ => id) (fun a _ => by omega) (fun a _ _ => by omega)
theorem mx_canDig' (hb : s_gb G) (hg : mx_gd G S) {v : Nat} (h : mx_ce G A S v) (ha : a1.toInt = v) (hv : v ≤ 40) (hc : s_in G a2.toInt) : F_m_canDig o S a1 a2 = 1 ∧ (s_so G A a2.toInt ∧ 0 < s_ob G A a2.toInt) ∨ F_m_canDig o S a1 a2 = 0 ∧ ¬ (s_so G A a2.toInt ∧ 0 < s_ob G A a2.toInt) := by
  have e : F_m_canDig o S a1 a2 = F_m_canDigG o S a1 a2 := rfl
  rw [e]
  exact mx_canDig hb hg h ha hv hc
theorem s_b_i {P : Prop} {y : Int32} (h : y = 1 ∧ P ∨ y = 0 ∧ ¬ P) : y.toInt = s_b P := by
  rcases h with ⟨e, p⟩ | ⟨e, p⟩
  · rw [e, s_b1 p]
    decide +kernel
  · rw [e, s_b0 p]
    decide +kernel
/-- the reference: what cell tells -/
theorem mx_cell (ok : s_ok G K A U) (h : RM G K A L U x S) : (((0 ≤ a1.toInt ∧ a1.toInt < G 0 0) ∧ 0 ≤ a2.toInt ∧ a2.toInt < G 0 1) ∧ ∃ (S1 : dg_S) (y : Int32), F_m_cell o S a1 a2 a3 = (S1, y) ∧ y.toInt = s_ce G K (G 0 3) A (8 * a2.toInt + a1.toInt) a3.toInt ∧ RM G K A L U x S1) ∨ (¬ ((0 ≤ a1.toInt ∧ a1.toInt < G 0 0) ∧ 0 ≤ a2.toInt ∧ a2.toInt < G 0 1) ∧ F_m_cell o S a1 a2 a3 = (S, (-1 : Int32))) := by
  have z0 : (0 : Int32).toInt = 0 := by decide +kernel
  have z1 : (1 : Int32).toInt = 1 := by decide +kernel
  have z2 : (2 : Int32).toInt = 2 := by decide +kernel
  have z3 : (3 : Int32).toInt = 3 := by decide +kernel
  have z4 : (4 : Int32).toInt = 4 := by decide +kernel
  have z5 : (5 : Int32).toInt = 5 := by decide +kernel
  have m1 : (-1 : Int32).toInt = -1 := by decide +kernel
  have z8 : (100000000 : Int32).toInt = 100000000 := by decide +kernel
  have hb := ok.1.1.2.2.2
  have hgb := ok.1.1.1
  have h3 := ok.1.2.1
  have hg := h.1.1.1
  rcases mx_cellof (o := o) (a1 := a1) (a2 := a2) hg hgb with ⟨p1, p2, p3, p4, p5⟩ | ⟨p1, p2⟩
  rotate_left
  · exact Or.inr ⟨p1, F_m_cell_p13 rfl p2⟩
  refine Or.inl ⟨⟨p1, p2⟩, ?_⟩
  have q0 : ¬ F_m_isCell o S a1 a2 = (0 : Int32) := by rw [p3]; decide +kernel
  obtain ⟨w, hw⟩ : ∃ w, w = (8 : Int32) * a2 + a1 := ⟨_, rfl⟩
  rw [← hw] at p4
  obtain ⟨c, hc⟩ : ∃ c, c = 8 * a2.toInt + a1.toInt := ⟨_, rfl⟩
  rw [← hc] at p4 p5 ⊢
  have p50 := p5.1
  have wn : w.toNatClampNeg = c.toNat := by rw [dk_clN, p4]
  have adn : mx_ad 0 c = c.toNat := by unfold mx_ad; omega
  obtain ⟨S2, e2, f2, k2⟩ := mx_measures (o := o) (a1 := 0) hgb hg h.2.1.1 z0 (by decide) ok.2.2.1.2.2
  have r2 := k2.rm hb h
  have ce2 := r2.2.1.1
  have g2 := r2.1.1.1
  obtain ⟨i31, i32, il, iu⟩ := ce2 c p5
  rw [adn] at i31 i32
  obtain ⟨ff, fl, fu⟩ := f2 c p5
  have p5w : s_in G w.toInt := by rw [p4]; exact p5
  have ho := mx_op (o := o) (a := 0) (b := w) ce2 z0 (by decide) p5w
  rw [p4] at ho
  unfold s_ce
  by_cases c0 : a3 = (0 : Int32)
  · have d0 := dk_eqc z0 c0
    refine ⟨S2, _, F_m_cell_p1 rfl q0 rfl hw e2.symm c0 rfl, ?_, r2⟩
    rw [if_pos d0, wn]
    exact i31
  have d0 := dk_neqc z0 c0
  rw [if_neg d0]
  by_cases c1 : a3 = (1 : Int32)
  · have d1 := dk_eqc z1 c1
    rw [if_pos d1]
    rcases ho with ⟨e, y⟩ | ⟨e, y⟩
    · exact ⟨S2, 1, F_m_cell_p3 rfl q0 rfl hw e2.symm c0 c1 rfl (by rw [e]; decide +kernel), by rw [z1, s_b1 y], r2⟩
    · exact ⟨S2, 0, F_m_cell_p2 rfl q0 rfl hw e2.symm c0 c1 rfl e, by rw [z0, s_b0 y], r2⟩
  have d1 := dk_neqc z1 c1
  rw [if_neg d1]
  by_cases c2 : a3 = (2 : Int32)
  · have d2 := dk_eqc z2 c2
    rw [if_pos d2]
    have hl := mx_lit (o := o) (a := 0) (b := w) ce2 f2 z0 (by decide) r2.2.2.2.1 (by omega) p5w
    rw [p4] at hl
    rcases hl with ⟨e, y⟩ | ⟨e, y⟩
    · exact ⟨S2, 1, F_m_cell_p5 rfl q0 rfl hw e2.symm c0 c1 c2 rfl (by rw [e]; decide +kernel), by rw [z1, s_b1 y], r2⟩
    · exact ⟨S2, 0, F_m_cell_p4 rfl q0 rfl hw e2.symm c0 c1 c2 rfl e, by rw [z0, s_b0 y], r2⟩
  have d2 := dk_neqc z2 c2
  rw [if_neg d2]
  by_cases c3 : a3 = (3 : Int32)
  · have d3 := dk_eqc z3 c3
    refine ⟨S2, _, F_m_cell_p6 rfl q0 rfl hw e2.symm c0 c1 c2 c3 rfl, ?_, r2⟩
    rw [if_pos d3, wn, i32]
    unfold mx_cu
    by_cases u : s_c A c = -2
    · rw [if_pos u, s_b1 u]
    · rw [if_neg u, s_b0 u]
  have d3 := dk_neqc z3 c3
  rw [if_neg d3]
  by_cases c4 : a3 = (4 : Int32)
  · have d4 := dk_eqc z4 c4
    rw [if_pos d4]
    rcases ho with ⟨e, y⟩ | ⟨e, y⟩
    rotate_left
    · exact ⟨S2, -1, F_m_cell_p7 rfl q0 rfl hw e2.symm c0 c1 c2 c3 c4 rfl e, by rw [m1, s_if_n y], r2⟩
    have ne : ¬ F_m_isOpen o S2 (0 : Int32) w = (0 : Int32) := by rw [e]; decide +kernel
    rw [s_if_y y]
    unfold mx_fo at ff
    by_cases u : (100000000 : Int32) ≤ S2.2.1 42 w.toNatClampNeg
    · have d := dk_gec z8 u
      rw [wn, ff] at d
      refine ⟨S2, -1, F_m_cell_p8 rfl q0 rfl hw e2.symm c0 c1 c2 c3 c4 rfl ne rfl u, ?_, r2⟩
      rw [m1]
      split at d <;> omega
    · have d := dk_ngec z8 u
      rw [wn, ff] at d
      refine ⟨S2, _, F_m_cell_p9 rfl q0 rfl hw e2.symm c0 c1 c2 c3 c4 rfl ne rfl u, ?_, r2⟩
      rw [wn, ff]
      split at d
      · omega
      · rename_i v
        rw [if_neg v]
  have d4 := dk_neqc z4 c4
  rw [if_neg d4]
  by_cases c5 : a3 = (5 : Int32)
  rotate_left
  · have d5 := dk_neqc z5 c5
    rw [if_neg d5]
    exact ⟨S2, -1, F_m_cell_p0 rfl q0 e2.symm c0 c1 c2 c3 c4 c5, m1, r2⟩
  have d5 := dk_eqc z5 c5
  rw [if_pos d5]
  have hd := mx_canDig' (o := o) (a1 := 0) (a2 := w) hgb g2 ce2 z0 (by decide) p5w
  rw [p4] at hd
  rcases hd with ⟨e, y⟩ | ⟨e, y⟩
  rotate_left
  · exact ⟨S2, 0, F_m_cell_p10 rfl q0 rfl hw e2.symm c0 c1 c2 c3 c4 c5 rfl e, by rw [z0, s_b0 (fun z => y z.1)], r2⟩
  have ne : ¬ F_m_canDig o S2 (0 : Int32) w = (0 : Int32) := by rw [e]; decide +kernel
  obtain ⟨S4, x4, e4, k4, fa⟩ := mx_falls (o := o) (v := 0) (a1 := 0) (a2 := w) hgb ok.2.1 ok.2.2.1.1 r2.1.1 ce2 f2 z0 (by decide) r2.2.2.2.1 (by omega) p5w (by rw [p4]; exact y.1.2) r2.2.1.2.1
  rw [p4] at fa
  have r4 := k4.rm hb r2
  have e41 : S4 = (F_m_isFalling o S2 (0 : Int32) w).1 := by rw [e4]
  have e42 : x4 = (F_m_isFalling o S2 (0 : Int32) w).2 := by rw [e4]
  rcases fa with ⟨e9, v⟩ | ⟨e9, v⟩
  · exact ⟨S4, 0, F_m_cell_p11 rfl q0 rfl hw e2.symm c0 c1 c2 c3 c4 c5 rfl ne e41 e42 (by rw [e9]; decide +kernel), by rw [z0, s_b0 (fun z => z.2 v)], r4⟩
  · exact ⟨S4, 1, F_m_cell_p12 rfl q0 rfl hw e2.symm c0 c1 c2 c3 c4 c5 rfl ne e41 e42 e9, by rw [z1, s_b1 ⟨y, v⟩], r4⟩
/-- CELL on both sides -/
theorem sim_cell (ok : s_ok G K A U) (hX : RX oX g G K A L U x SX) (hM : RM G K A L U x SM) : (F_d_cell oX SX a1 a2 a3).2 = (F_m_cell oM SM a1 a2 a3).2 ∧ RX oX g G K A L U x (F_d_cell oX SX a1 a2 a3).1 ∧ RM G K A L U x (F_m_cell oM SM a1 a2 a3).1 := by
  have bf := mx_bfar ok.1.1.1 hM.1.1.1 hM.2.1.1 (by decide) ok.2.2.1.2.2
  rcases cx_cell (o := oX) (a1 := a1) (a2 := a2) (a3 := a3) ok (fun c hc => s_fd_op bf ok.2.2.1.2.2 hc) hX with ⟨b1, S1, y1, e1, v1, r1⟩ | ⟨b, e1⟩ <;> rcases mx_cell (o := oM) (a1 := a1) (a2 := a2) (a3 := a3) ok hM with ⟨d1, S2, y2, e2, v2, r2⟩ | ⟨d, e2⟩
  · rw [e1, e2]
    exact ⟨Int32.toInt_inj.mp (v1.trans v2.symm), r1, r2⟩
  · exact absurd b1 d
  · exact absurd d1 b
  · rw [e1, e2]
    exact ⟨rfl, hX, hM⟩
end DC
