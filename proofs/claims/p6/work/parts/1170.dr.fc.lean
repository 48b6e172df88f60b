/-! no seam: IMAGE -/
def s_i9 : List Int := s_sg (fun _ => 0) [0, 0, 0, 0, 0] 10
def s_j9 : List Int := s_i9 ++ [s_cn s_i9 s_i9.length]
section FC
variable {o oX oM g n p k i : Nat} {l : List Int} {S S0 S1 SX SM T : dg_S} {x x' c v : Int} {a a1 a2 a3 a4 y : Int32}
theorem cx_0_image (h : cx_0 o g x S) (hg : rX g) : ∃ (S1 : dg_S) (y : Int32), F_d_image o S = (S1, y) ∧ y.toInt = 16 ∧ cx_wl s_j9 S1 ∧ k_im S S1 := by
  have z0 : (0 : Int32).toInt = 0 := by decide +kernel
  have z10 : (10 : Int32).toInt = 10 := by decide +kernel
  have z233 : (233 : Int32).toInt = 233 := by decide +kernel
  have le0 : (0 : Int32) ≤ (0 : Int32) := by decide +kernel
  have sep := rX_sep hg
  obtain ⟨S2, e2⟩ : ∃ X, X = dg_uF S 182 1 (.int (0 : Int32)) := ⟨_, rfl⟩
  obtain ⟨S4, e4⟩ : ∃ X, X = dg_uF S2 182 3 (.int (233 : Int32)) := ⟨_, rfl⟩
  have k4 : k_im S S4 := by
    rw [e4, e2]
    exact kp.uF (kp.uF kp.rf ⟨rfl, Or.inl rfl⟩) ⟨rfl, Or.inr rfl⟩
  have l4 : cx_wl [] S4 := by
    refine ⟨⟨?_, by decide⟩, ?_, fun i hi => absurd hi (Nat.not_lt_zero i)⟩
    · rw [e4, w_I0 (by decide), e2, w_I, if_pos ⟨rfl, rfl⟩]
      exact z0
    · rw [e4, w_I, if_pos ⟨rfl, rfl⟩]
      exact z233
  have p0 : zI S 3 0 = 0 := h.2.2.1.1
  have p1 : zI S 3 1 = 0 := h.2.2.1.2.1
  have b1 : (zI S 3 0 >>> ((8 : Int32) &&& 31)).toInt = 0 := by rw [p0]; decide +kernel
  have b2 : (zI S 3 0 &&& (255 : Int32)).toInt = 0 := by rw [p0]; decide +kernel
  have c1 : (zI S 3 1 >>> ((16 : Int32) &&& 31)).toInt = 0 := by rw [p1]; decide +kernel
  have c3 : (zI S 3 1 >>> ((8 : Int32) &&& 31) &&& (255 : Int32)).toInt = 0 := by rw [p1]; decide +kernel
  have c4 : (zI S 3 1 &&& (255 : Int32)).toInt = 0 := by rw [p1]; decide +kernel
  obtain ⟨S7, e7, l7, k7⟩ := cx_iput (o := o) l4 (by decide) b1 (by decide)
  obtain ⟨S9, e9, l9, k9⟩ := cx_iput (o := o) l7 (by show 1 < 124; decide) b2 (by decide)
  obtain ⟨S12, e12, l12, k12⟩ := cx_iput (o := o) l9 (by show 2 < 124; decide) c1 (by decide)
  obtain ⟨S15, e15, l15, k15⟩ := cx_iput (o := o) l12 (by show 3 < 124; decide) c3 (by decide)
  obtain ⟨S17, e17, l17, k17⟩ := cx_iput (o := o) l15 (by show 4 < 124; decide) c4 (by decide)
  have l17 : cx_wl [0, 0, 0, 0, 0] S17 := l17
  have t17 : k_im S S17 := (((((k4.tr k7).tr k9).tr k12).tr k15).tr k17)
  have ei : ∀ T, k_im S T → ∀ b, zI T g b = zI S g b := fun T k b => k.I (fun z => by omega)
  rw [F_d_image_p0 h.1.symm rfl rfl, F_i_write_p7 e2 e4 rfl rfl e7.symm rfl e9.symm, F_i_write_p6 rfl rfl e12.symm rfl rfl e15.symm rfl e17.symm, lp_sr (F_i_write_p4 rfl (by rw [h.2.1.2.1]; exact le0))]
  obtain ⟨T1, g1, g2, g3⟩ := cx_putAll (o := o) (f9 := F_i_putAll_hurts_B1 (zI S g 6) 0 3 o) (z := S17) (N := (7 - ((0 : Int32)).toInt).toNat + 1) (q := 3 + 2) (n := 0) (p := 0) (f := fun _ => 0) (fun x T h => F_i_putAll_hurts_p0 h) (fun x T h => F_i_putAll_hurts_p1 h rfl rfl rfl rfl) (by decide) l17 (by rw [h.2.1.2.2.1]; exact z0) (by rw [z0]; decide) (by decide) z0 (by decide) (fun i hi => absurd hi (Nat.not_lt_zero i))
  have g2 : cx_wl [0, 0, 0, 0, 0] T1 := g2
  have kT1 : k_im S T1 := t17.tr g3
  rw [F_i_write_p3 rfl (g1.symm.trans (F_i_putAll_hurts_p2).symm), lp_sr (F_i_write_p1 rfl (by rw [h.2.1.2.2.2.1]; exact le0))]
  obtain ⟨T3, u1, u2, u3⟩ := cx_putAll (o := o) (f9 := F_i_putAll_sold_B1 (zI S g 11) 0 3 o) (z := T1) (N := (6 - ((0 : Int32)).toInt).toNat + 1) (q := 3 + 5) (n := 0) (p := 0) (f := fun _ => 0) (fun x T h => F_i_putAll_sold_p0 h) (fun x T h => F_i_putAll_sold_p1 h rfl rfl rfl rfl) (by decide) g2 (by rw [h.2.1.2.2.2.2]; exact z0) (by rw [z0]; decide) (by decide) z0 (by decide) (fun i hi => absurd hi (Nat.not_lt_zero i))
  have u2 : cx_wl [0, 0, 0, 0, 0] T3 := u2
  have kT3 : k_im S T3 := kT1.tr u3
  obtain ⟨T4, x1, x2, x3⟩ := cx_putAll (o := o) (f9 := F_i_putAll_tubs_B1 10 0 3 o) (z := T3) (N := (11 - ((0 : Int32)).toInt).toNat + 1) (q := 3 + 6) (n := 10) (p := 0) (f := fun _ => 0) (fun x T h => F_i_putAll_tubs_p0 h) (fun x T h => F_i_putAll_tubs_p1 h rfl rfl rfl rfl) (by decide) u2 z10 (by rw [z0]; decide) (by decide) z0 (by decide) (fun i hi => by
    rw [(kT3.2 (3 + 6) (by decide)).1, show (3 + 6 : Nat) = 9 from rfl, h.2.2.1.2.2.2]
    exact ⟨z0, by decide, by decide⟩)
  have x2 : cx_wl s_i9 T4 := x2
  have kT4 : k_im S T4 := kT3.tr x3
  have cb := s_cn_b (l := s_i9) s_i9.length
  obtain ⟨T5, y1, y2, y3⟩ := cx_iput (o := o) (a1 := zI T4 182 3) x2 (by show 15 < 124; decide) x2.2.1 (by omega)
  rw [F_i_write_p0 rfl (u1.symm.trans (F_i_putAll_sold_p2).symm) (x1.symm.trans (F_i_putAll_tubs_p2).symm) rfl y1.symm]
  exact ⟨T5, _, rfl, y2.1.1, y2, kT4.tr y3⟩
theorem k_in.m0 (h : mx_0 x S) (t : k_in S S1) : mx_0 x S1 := by
  obtain ⟨h1, ⟨h2, h3, h8, h9, h12⟩, ⟨h29, h30, h33, h38, h37⟩, h61, hx⟩ := h
  have e13 : zI S1 0 13 = zI S 0 13 := t.I (by decide)
  refine ⟨by rw [t.I (by decide)]; exact h1, ⟨?_, ?_, ?_, ?_, ?_⟩, ⟨?_, ?_, ?_, ?_, fun k => ?_⟩, by rw [t.I (by decide)]; exact h61, by rw [t.L (by decide)]; exact hx⟩
  · rw [e13, (t.2 2 (by decide)).1]; exact h2
  · rw [e13, (t.2 3 (by decide)).1]; exact h3
  · rw [e13, (t.2 8 (by decide)).1]; exact h8
  · rw [e13, (t.2 9 (by decide)).1]; exact h9
  · rw [e13, (t.2 12 (by decide)).1]; exact h12
  · rw [(t.2 29 (by decide)).1]; exact h29
  · rw [(t.2 30 (by decide)).1]; exact h30
  · rw [(t.2 33 (by decide)).1]; exact h33
  · rw [(t.2 38 (by decide)).1]; exact h38
  · rw [(t.2 37 (by decide)).1]; exact h37 k
theorem mx_0_image (h : mx_0 x S) : ∃ (S1 : dg_S) (y : Int32), F_m_image o S = (S1, y) ∧ y.toInt = 16 ∧ mx_wl s_j9 S1 ∧ k_in S S1 := by
  have z0 : (0 : Int32).toInt = 0 := by decide +kernel
  have z64 : (64 : Int32).toInt = 64 := by decide +kernel
  have n0 : (0 : Int32).toNatClampNeg = 0 := by decide +kernel
  have le0 : (0 : Int32) ≤ (0 : Int32) := by decide +kernel
  obtain ⟨S2, e2⟩ : ∃ X, X = dg_uF S 0 76 (.int (0 : Int32)) := ⟨_, rfl⟩
  have k2 : k_in S S2 := by
    rw [e2]
    exact kp.uF kp.rf ⟨rfl, rfl⟩
  have l2 : mx_wl [] S2 := ⟨⟨by rw [e2, w_I, if_pos ⟨rfl, rfl⟩]; exact z0, by decide⟩, fun i hi => absurd hi (Nat.not_lt_zero i)⟩
  have p0 : S2.2.1 29 (0 : Int32).toNatClampNeg = 0 := by rw [n0]; exact (k_in.m0 h k2).2.2.1.1
  obtain ⟨S7, e7, l7, k7⟩ := mx_iput (o := o) (a1 := S2.2.1 29 (0 : Int32).toNatClampNeg >>> ((8 : Int32) &&& 31)) (v := 0) l2 (by decide) (by rw [p0]; decide +kernel)
  obtain ⟨S12, e12, l12, k12⟩ := mx_iput (o := o) (a1 := S2.2.1 29 (0 : Int32).toNatClampNeg) (v := 0) l7 (by show 1 < 124; decide) (by rw [p0]; decide +kernel)
  have t12 : k_in S S12 := (k2.tr k7).tr k12
  obtain ⟨x15, h15⟩ : ∃ u : Int32, u = S12.2.1 30 (0 : Int32).toNatClampNeg := ⟨_, rfl⟩
  have p1 : x15 = 0 := by rw [h15, n0]; exact (k_in.m0 h t12).2.2.1.2.1
  obtain ⟨S17, e17, l17, k17⟩ := mx_iput (o := o) (a1 := x15 >>> ((16 : Int32) &&& 31)) (v := 0) l12 (by show 2 < 124; decide) (by rw [p1]; decide +kernel)
  obtain ⟨S22, e22, l22, k22⟩ := mx_iput (o := o) (a1 := x15 >>> ((8 : Int32) &&& 31)) (v := 0) l17 (by show 3 < 124; decide) (by rw [p1]; decide +kernel)
  obtain ⟨S26, e26, l26, k26⟩ := mx_iput (o := o) (a1 := x15) (v := 0) l22 (by show 4 < 124; decide) (by rw [p1]; decide +kernel)
  have l26 : mx_wl [0, 0, 0, 0, 0] S26 := l26
  have t26 : k_in S S26 := ((t12.tr k17).tr k22).tr k26
  have m26 := k_in.m0 h t26
  have e13 : zI S 0 13 = zI S26 0 13 := (t26.I (by decide)).symm
  have cells : lp (F_m_image_B12 S o) (S, (0 : Int32)) ((65 - ((0 : Int32)).toInt).toNat + 1) ((0 : Int32), zI S26 0 76, S26) = F_m_image_J2 S o (zI S26 0 76) S26 :=
    lp_cnt (f := F_m_image_B12 S o) (z := (S, (0 : Int32))) (W := 64) (P := fun _ s => s = (zI S26 0 76, S26)) (Q := fun q => q = F_m_image_J2 S o (zI S26 0 76) S26) (by decide) (fun c cI s hc hcI hP => by
      rw [hP]
      exact ⟨_, F_m_image_p18 (fun z => by have := dk_gec z64 z; omega) rfl m26.cellOf rfl, rfl⟩) (fun cI s hcI hP => by
      rw [hP]
      exact ⟨_, F_m_image_p17 (dk_gep z64 (by omega)), rfl⟩) ((65 - ((0 : Int32)).toInt).toNat + 1) 0 0 (zI S26 0 76, S26) (by rw [z0]; decide) (by decide) z0 rfl
  obtain ⟨T5, v1', v2', v3'⟩ := mx_imT (o := o) (S9 := S) (f := fun _ => 0) (fun k hk => by
    rw [m26.2.2.1.2.2.2.2]
    exact ⟨z0, by decide, by decide⟩) l26 (by decide) rfl
  have v2' : mx_wl s_j9 T5 := v2'
  refine ⟨T5, zI T5 0 76, ?_, v2'.1.1, v2', t26.tr v3'⟩
  rw [F_m_image_p22 e2 rfl rfl e7.symm e12.symm h15 rfl e17.symm, F_m_image_p21 rfl e22.symm e26.symm rfl, cells, F_m_image_p16, lp_sr (F_m_image_p13 rfl rfl (by rw [e13, m26.2.1.2.2.1]; exact le0)), F_m_image_p12, lp_sr (F_m_image_p10 rfl rfl (by rw [e13, m26.2.1.2.2.2.1]; exact le0)), F_m_image_p9, lp_sr (F_m_image_p6 rfl rfl (by rw [e13, m26.2.1.2.2.2.2]; exact le0))]
  exact v1'
end FC
