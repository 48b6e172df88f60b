/-! IMAGE of the reference, whole; both sides; OCTET -/
section ER
variable {o oX oM g n p k i : Nat} {G A A' : aR} {K : Nat → List Int} {L L' : s_L} {U : s_U} {F : s_F} {l : List Int} {S S0 S1 SX SM T : dg_S} {x x' r c v t : Int} {a a1 a2 a3 a4 y : Int32}
theorem mx_image (ok : s_ok G K A U) (h : RM G K A L U x S) : ∃ (S1 : dg_S) (y : Int32), F_m_image o S = (S1, y) ∧ y.toInt = ((s_im G A).length : Int) ∧ mx_wl (s_im G A) S1 ∧ RM G K A L U x S1 ∧ k_in S S1 := by
  have z0 : (0 : Int32).toInt = 0 := by decide +kernel
  have n0 : (0 : Int32).toNatClampNeg = 0 := by decide +kernel
  have s8 : (((8 : Int32) &&& 31).toBitVec.smod 32).toNat = 8 := by decide +kernel
  have s16 : (((16 : Int32) &&& 31).toBitVec.smod 32).toNat = 16 := by decide +kernel
  have hb := ok.1.1.2.2.2
  have h5 := ok.1.2.2.2.1
  have h6 := ok.1.1.2.2
  have h7 := ok.1.2.2.2.2.1
  obtain ⟨w0, w1, w2, w3, w5, w6⟩ := ok.2.2.1.1
  obtain ⟨S2, e2⟩ : ∃ X, X = dg_uF S 0 76 (.int (0 : Int32)) := ⟨_, rfl⟩
  have k2 : k_in S S2 := by
    rw [e2]
    exact kp.uF kp.rf ⟨rfl, rfl⟩
  have l2 : mx_wl [] S2 := ⟨⟨by rw [e2, w_I, if_pos ⟨rfl, rfl⟩]; exact z0, by decide⟩, fun i hi => absurd hi (Nat.not_lt_zero i)⟩
  have p0 : (S2.2.1 29 (0 : Int32).toNatClampNeg).toInt = A 0 0 := by rw [n0, (k2.2 29 (by decide)).1]; exact h.2.1.2.1
  obtain ⟨v0, hv0⟩ : ∃ v : Nat, A 0 0 = v := ⟨(A 0 0).toNat, by omega⟩
  obtain ⟨v1, hv1⟩ : ∃ v : Nat, A 0 1 = v := ⟨(A 0 1).toNat, by omega⟩
  have b31 : ∀ v : Nat, v ≤ 99999 → v < 2 ^ 31 := fun v hv => Nat.lt_of_le_of_lt hv (by decide)
  have f8 : (2 : Nat) ^ 8 = 256 := by decide
  have f16 : (2 : Nat) ^ 16 = 65536 := by decide
  have b1 : (S2.2.1 29 (0 : Int32).toNatClampNeg >>> ((8 : Int32) &&& 31)).toInt = A 0 0 / 256 := by rw [w_shk (p0.trans hv0) (b31 _ (by omega)) s8, f8, hv0]; omega
  obtain ⟨S7, e7, l7, k7⟩ := mx_iput (o := o) l2 (by decide) (w_255s b1 (by omega))
  obtain ⟨S12, e12, l12, k12⟩ := mx_iput (o := o) (a1 := S2.2.1 29 (0 : Int32).toNatClampNeg) (v := A 0 0 % 256) l7 (by show 1 < 124; decide) (by rw [w_255 (by omega), p0])
  have t12 : k_in S S12 := (k2.tr k7).tr k12
  have p1 : (S12.2.1 30 (0 : Int32).toNatClampNeg).toInt = A 0 1 := by rw [n0, (t12.2 30 (by decide)).1]; exact h.2.1.2.2.1
  obtain ⟨x15, h15⟩ : ∃ u : Int32, u = S12.2.1 30 (0 : Int32).toNatClampNeg := ⟨_, rfl⟩
  rw [← h15] at p1
  have c1 : (x15 >>> ((16 : Int32) &&& 31)).toInt = A 0 1 / 65536 := by rw [w_shk (p1.trans hv1) (b31 _ (by omega)) s16, f16, hv1]; omega
  have c2 : (x15 >>> ((8 : Int32) &&& 31)).toInt = A 0 1 / 256 := by rw [w_shk (p1.trans hv1) (b31 _ (by omega)) s8, f8, hv1]; omega
  obtain ⟨S17, e17, l17, k17⟩ := mx_iput (o := o) l12 (by show 2 < 124; decide) (w_255s c1 (by omega))
  obtain ⟨S22, e22, l22, k22⟩ := mx_iput (o := o) (a1 := x15 >>> ((8 : Int32) &&& 31)) (v := A 0 1 / 256 % 256) l17 (by show 3 < 124; decide) (by rw [w_255 (by omega), c2])
  obtain ⟨S26, e26, l26, k26⟩ := mx_iput (o := o) (a1 := x15) (v := A 0 1 % 256) l22 (by show 4 < 124; decide) (by rw [w_255 (by omega), p1])
  have l26 : mx_wl (s_i0 A) S26 := l26
  have t26 : k_in S S26 := ((t12.tr k17).tr k22).tr k26
  have hl1 := s_i1_l (A := A) ok.1
  have hl2 := s_i2_l (A := A) ok.1
  have len64 := s_iz_l (A := A) (l := s_i0 A) ok.1.1.1 64 (Nat.le_refl 64)
  have el : (s_i0 A).length = 5 := rfl
  obtain ⟨T1, g1, g2, g3⟩ := mx_imC (o := o) (S9 := S) ok (k_in.rm h hb t26) l26 rfl
  have t1 : k_in S T1 := t26.tr g3
  have r1 := k_in.rm h hb t1
  have b33 : 0 ≤ (T1.2.1 33 (0 : Int32).toNatClampNeg).toInt ∧ (T1.2.1 33 (0 : Int32).toNatClampNeg).toInt < 64 := by rw [n0]; exact r1.2.1.2.2.2.1.1
  obtain ⟨T2, x1, x2, x3⟩ := mx_imF (o := o) (f9 := F_m_image_B11 S o) (J := fun u T => F_m_image_J3 S o u T) (z := (S, (0 : Int32))) (N := (7 - ((0 : Int32)).toInt).toNat + 1) (q := 33) (n := (G 0 5).toNat) (f := fun k => A 2 k) (E := fun T => T.2.1 8 (zI S 0 13).toNatClampNeg) (fun x u T h => F_m_image_p13 rfl rfl h) (fun x u T h1 h2 => F_m_image_p14 rfl rfl h1 rfl rfl h2 rfl rfl rfl) (fun x u T h1 h2 => F_m_image_p15 rfl rfl h1 rfl rfl h2 rfl rfl rfl) (by decide) (fun T t => by
    rw [(t.2 8 (by decide)).1, (t1.2 8 (by decide)).1, h.1.2.1.2.2.1]
    omega) (by rw [z0]; omega) (by omega) g2 rfl (by omega) b33 (fun i hi => by rw [n0]; exact r1.2.1.2.2.2.1.2 i (by omega))
  have x2 : mx_wl (s_i1 G A) T2 := x2
  have t2 : k_in S T2 := t1.tr x3
  have r2 := k_in.rm h hb t2
  have e13 : zI S 0 13 = zI T2 0 13 := (t2.I (by decide)).symm
  obtain ⟨T3, y1, y2, y3⟩ := mx_imP (o := o) (S9 := S) ok r2 x2 (by omega) rfl e13
  have t3 : k_in S T3 := t2.tr y3
  have r3 := k_in.rm h hb t3
  have lp3 := s_pl_l (A := A) (l := s_i1 G A) (G 0 6).toNat
  have b34 : 0 ≤ (T3.2.1 34 (0 : Int32).toNatClampNeg).toInt ∧ (T3.2.1 34 (0 : Int32).toNatClampNeg).toInt < 64 := by rw [n0]; exact r3.2.1.2.2.2.2.2.1.1
  obtain ⟨T4, u1, u2, u3⟩ := mx_imF (o := o) (f9 := F_m_image_B9 S o) (J := fun u T => F_m_image_J5 o S u T) (z := (S, (0 : Int32))) (N := (6 - ((0 : Int32)).toInt).toNat + 1) (q := 34) (n := (G 0 7).toNat) (f := fun k => A 5 k) (E := fun T => T.2.1 12 (zI S 0 13).toNatClampNeg) (fun x u T h => F_m_image_p6 rfl rfl h) (fun x u T h1 h2 => F_m_image_p7 rfl rfl h1 rfl rfl h2 rfl rfl rfl) (fun x u T h1 h2 => F_m_image_p8 rfl rfl h1 rfl rfl h2 rfl rfl rfl) (by decide) (fun T t => by
    rw [(t.2 12 (by decide)).1, (t3.2 12 (by decide)).1, h.1.2.1.2.2.2]
    omega) (by rw [z0]; omega) (by omega) y2 rfl (by omega) b34 (fun i hi => by rw [n0]; exact r3.2.1.2.2.2.2.2.1.2 i (by omega))
  have t4 : k_in S T4 := t3.tr u3
  have r4 := k_in.rm h hb t4
  have ls := s_sg_l (f := fun k => A 5 k) (l := s_pl A (s_i1 G A) (G 0 6).toNat) (G 0 7).toNat
  have l2e : (s_i2 G A).length = (s_sg (fun k => A 5 k) (s_pl A (s_i1 G A) (G 0 6).toNat) (G 0 7).toNat).length + 10 := s_sg_l 10
  obtain ⟨T5, v1', v2', v3'⟩ := mx_imT (o := o) (S9 := S) (f := fun k => A 6 k) (fun k hk => by
    have := w6 k hk
    have e6 := r4.2.1.2.2.2.2.2.2.1 k hk
    rw [show 10 * 0 + k = k by omega] at e6
    exact ⟨e6, by show 0 ≤ A 6 k; omega, by show A 6 k ≤ 255; omega⟩) u2 (by omega) rfl
  rw [← l2e] at v2'
  have v2' : mx_wl (s_im G A) T5 := v2'
  have t5 : k_in S T5 := t4.tr v3'
  refine ⟨T5, zI T5 0 76, ?_, v2'.1.1, v2', k_in.rm h hb t5, t5⟩
  rw [F_m_image_p22 e2 rfl rfl e7.symm e12.symm h15 rfl e17.symm, F_m_image_p21 rfl e22.symm e26.symm rfl, g1, F_m_image_p16, x1]
  show F_m_image_J3 S o (zI T2 0 76) T2 = _
  rw [F_m_image_p12, y1, F_m_image_p9, u1]
  exact v1'
/-- IMAGE on both sides -/
theorem sim_image (ok : s_ok G K A U) (hX : RX oX g G K A L U x SX) (hM : RM G K A L U x SM) : (F_d_image oX SX).2 = (F_m_image oM SM).2 ∧ RX oX g G K A L U x (F_d_image oX SX).1 ∧ RM G K A L U x (F_m_image oM SM).1 ∧ k_im SX (F_d_image oX SX).1 ∧ k_in SM (F_m_image oM SM).1 ∧ ∃ l, cx_wl l (F_d_image oX SX).1 ∧ mx_wl l (F_m_image oM SM).1 := by
  obtain ⟨S1, y1, e1, v1, l1, r1, k1⟩ := cx_image (o := oX) ok hX
  obtain ⟨S2, y2, e2, v2, l2, r2, k2⟩ := mx_image (o := oM) ok hM
  rw [e1, e2]
  exact ⟨Int32.toInt_inj.mp (v1.trans v2.symm), r1, r2, k1, k2, _, l1, l2⟩
/-- OCTET on both sides: what was written is alike -/
theorem sim_octet (h1 : (zI SX 182 1).toInt = n) (h2 : (zI SM 0 76).toInt = n) (hn : n ≤ 200) (he : ∀ i, i < n → SX.2.1 183 i = SM.2.1 50 i) : F_d_octet oX SX a1 = F_m_octet oM SM a1 := by
  have z0 : (0 : Int32).toInt = 0 := by decide +kernel
  have e1 : (zI SM 0 76 - (1 : Int32)).toInt = (n : Int) - 1 := dk_subT h2 (by decide +kernel) (by omega) (by omega)
  have hi := mx_is (o := oM) (S := SM) (a := a1) (b := 0) (c := zI SM 0 76 - (1 : Int32))
  rw [e1, z0] at hi
  by_cases q1 : a1 < (0 : Int32)
  · have d1 := dk_ltc z0 q1
    rcases hi with ⟨-, w⟩ | ⟨e, -⟩
    · omega
    · rw [F_d_octet_p0 q1, F_m_octet_p0 rfl rfl rfl e]
  have d1 := dk_nltc z0 q1
  by_cases q2 : zI SX 182 1 ≤ a1
  · have d2 := w_le.mp q2
    rcases hi with ⟨-, w⟩ | ⟨e, -⟩
    · omega
    · rw [F_d_octet_p1 q1 rfl q2, F_m_octet_p0 rfl rfl rfl e]
  · have d2 : ¬ (zI SX 182 1).toInt ≤ a1.toInt := fun z => q2 (w_le.mpr z)
    rcases hi with ⟨e, -⟩ | ⟨-, w⟩
    · rw [F_d_octet_p2 q1 rfl q2 rfl, F_m_octet_p1 rfl rfl rfl (by rw [e]; decide +kernel) rfl]
      exact he _ (by rw [dk_clN]; omega)
    · omega
end ER
