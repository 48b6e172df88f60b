/-! what is read of a state: both sides -/
section CY
variable {oX oM g : Nat} {G A : aR} {K : Nat → List Int} {L : s_L} {U : s_U} {SX SM : dg_S} {x : Int} {a1 a2 a3 : Int32}
theorem sim_hurt (ok : s_ok G K A U) (hX : RX oX g G K A L U x SX) (hM : RM G K A L U x SM) : F_d_hurt oX SX a1 = F_m_hurt oM SM a1 := by
  have z0 : (0 : Int32).toInt = 0 := by decide +kernel
  have z1 : (1 : Int32).toInt = 1 := by decide +kernel
  have n0 : (0 : Int32).toNatClampNeg = 0 := by decide +kernel
  have h5 := ok.1.2.2.2.1
  rcases cx_miner (o := oX) (a1 := a1) hX.2.1 with ⟨q, y⟩ | ⟨q, y⟩ <;> rcases mx_miner (o := oM) (a1 := a1) hM.1 with ⟨p, w⟩ | ⟨p, w⟩
  · rw [F_d_hurt_p1 hX.1.symm rfl (by rw [q]; decide +kernel) rfl]
    have hu : (SX.2.1 5 a1.toNatClampNeg).toInt = A 2 a1.toInt.toNat := hX.2.2.1.2.2.2.1 a1.toInt.toNat (by omega)
    obtain ⟨b1, b2⟩ := hM.2.1.2.2.2.1
    have hv := b2 a1.toInt.toNat (by omega)
    have np : ¬ F_m_isMiner oM SM a1 = (0 : Int32) := by rw [p]; decide +kernel
    rcases mx_has2 (o := oM) (S := SM) (a := SM.2.1 33 (0 : Int32).toNatClampNeg) (b := a1) (by rw [n0]; exact b1) (by omega) with ⟨e, v⟩ | ⟨e, v⟩
    · rw [F_m_hurt_p2 rfl np rfl rfl (by rw [e]; decide +kernel)]
      rw [n0, ← hv] at v
      exact Int32.toInt_inj.mp (by rw [hu, v, z1])
    · rw [F_m_hurt_p1 rfl np rfl rfl e]
      rw [n0, ← hv] at v
      exact Int32.toInt_inj.mp (by rw [hu, v, z0])
  · exact absurd y w
  · exact absurd w y
  · rw [F_d_hurt_p0 hX.1.symm rfl q, F_m_hurt_p0 rfl p]
theorem cx_columnOf {o : Nat} {S : dg_S} (h0 : 0 ≤ a1.toInt) (h1 : a1.toInt < 72) : (F_columnOf o S a1).toInt = a1.toInt % 8 := by
  have key : ∀ n : Nat, n < 72 → (Int32.ofInt (n : Int) &&& (7 : Int32)).toInt = (n : Int) % 8 := by decide +kernel
  have e1 := key a1.toInt.toNat (by omega)
  rw [show ((a1.toInt.toNat : Nat) : Int) = a1.toInt by omega, Int32.ofInt_toInt] at e1
  rw [F_columnOf_p0 rfl]
  exact e1
theorem sim_plan (ok : s_ok G K A U) (hX : RX oX g G K A L U x SX) (hM : RM G K A L U x SM) : F_d_plan oX SX a1 a2 = F_m_plan oM SM a1 a2 := by
  have z0 : (0 : Int32).toInt = 0 := by decide +kernel
  have z1 : (1 : Int32).toInt = 1 := by decide +kernel
  have z2 : (2 : Int32).toInt = 2 := by decide +kernel
  have h6 := ok.1.1.2.2
  have hg := hM.1.1.1
  have f9 : (SM.2.1 9 (zI SM 0 13).toNatClampNeg).toInt = G 0 6 := hg.2.2.2.2
  have e4 : (SM.2.1 9 (zI SM 0 13).toNatClampNeg - (1 : Int32)).toInt = G 0 6 - 1 := dk_subT f9 (by decide +kernel) (by omega) (by omega)
  have hi := mx_is (o := oM) (S := SM) (a := a1) (b := 0) (c := SM.2.1 9 (zI SM 0 13).toNatClampNeg - (1 : Int32))
  rw [e4, z0] at hi
  rcases cx_planrow (o := oX) (a1 := a1) hX.2.1 with ⟨q, y⟩ | ⟨q, y⟩ <;> rcases hi with ⟨p, w⟩ | ⟨p, w⟩
  · have nq : ¬ F_g_hasPlanRow oX SX g a1 = (0 : Int32) := by rw [q]; decide +kernel
    have np : ¬ F_m_is oM SM a1 (0 : Int32) (SM.2.1 9 (zI SM 0 13).toNatClampNeg - (1 : Int32)) = (0 : Int32) := by rw [p]; decide +kernel
    obtain ⟨pm, pc⟩ := hX.2.2.1.2.2.2.2.1 a1.toInt.toNat (by omega)
    have pm : (SX.2.1 6 a1.toNatClampNeg).toInt = A 3 a1.toInt.toNat := pm
    have pc : (SX.2.1 7 a1.toNatClampNeg).toInt = A 4 a1.toInt.toNat + 8 := pc
    obtain ⟨mm, mc⟩ := hM.2.1.2.2.2.2.1 a1.toInt.toNat (by omega)
    rw [show 16 * 0 + a1.toInt.toNat = a1.toInt.toNat by omega] at mm mc
    have mm : (SM.2.1 35 a1.toNatClampNeg).toInt = A 3 a1.toInt.toNat := mm
    have mc : (SM.2.1 36 a1.toNatClampNeg).toInt = A 4 a1.toInt.toNat := mc
    have cb := (ok.2.2.1.1.2.2.2.1 a1.toInt.toNat (by omega)).2.1
    have hj := mx_is (o := oM) (S := SM) (a := a2) (b := 0) (c := 2)
    rw [z0, z2] at hj
    by_cases c0 : a2 = (0 : Int32)
    · have d0 := dk_eqc z0 c0
      have n2 : ¬ F_m_is oM SM a2 (0 : Int32) (2 : Int32) = (0 : Int32) := by
        rcases hj with ⟨e, -⟩ | ⟨-, e⟩
        · rw [e]; decide +kernel
        · exact absurd ⟨by omega, by omega⟩ e
      rw [F_d_plan_p1 hX.1.symm rfl nq c0 rfl, F_m_plan_p2 rfl rfl rfl rfl np rfl n2 c0 rfl]
      exact Int32.toInt_inj.mp (pm.trans mm.symm)
    have d0 := dk_neqc z0 c0
    by_cases c1 : a2 = (1 : Int32)
    · have d1 := dk_eqc z1 c1
      have n2 : ¬ F_m_is oM SM a2 (0 : Int32) (2 : Int32) = (0 : Int32) := by
        rcases hj with ⟨e, -⟩ | ⟨-, e⟩
        · rw [e]; decide +kernel
        · exact absurd ⟨by omega, by omega⟩ e
      rw [F_d_plan_p2 hX.1.symm rfl nq c0 c1 rfl rfl, F_m_plan_p1 rfl rfl rfl rfl np rfl n2 c0 rfl rfl rfl, F_m_partOf_p1 (by rw [c1]; decide +kernel) rfl]
      refine Int32.toInt_inj.mp ?_
      rw [cx_columnOf (by omega) (by omega), pc, dk_remL (b := 8) (by omega) (by decide +kernel) (by decide), mc]
      omega
    have d1 := dk_neqc z1 c1
    by_cases c2 : a2 = (2 : Int32)
    · have d2 := dk_eqc z2 c2
      have n2 : ¬ F_m_is oM SM a2 (0 : Int32) (2 : Int32) = (0 : Int32) := by
        rcases hj with ⟨e, -⟩ | ⟨-, e⟩
        · rw [e]; decide +kernel
        · exact absurd ⟨by omega, by omega⟩ e
      rw [F_d_plan_p3 hX.1.symm rfl nq c0 c1 c2 rfl rfl, F_m_plan_p1 rfl rfl rfl rfl np rfl n2 c0 rfl rfl rfl, F_m_partOf_p0 (by rw [c2]; decide +kernel) rfl]
      refine Int32.toInt_inj.mp ?_
      rw [cx_rowOf (by omega) (by omega), pc, dk_divL (b := 8) (by omega) (by decide +kernel) (by decide), mc]
      omega
    have d2 := dk_neqc z2 c2
    have e2 : F_m_is oM SM a2 (0 : Int32) (2 : Int32) = 0 := by
      rcases hj with ⟨-, e⟩ | ⟨e, -⟩
      · omega
      · exact e
    rw [F_d_plan_p0 hX.1.symm rfl nq c0 c1 c2, F_m_plan_p3 rfl rfl rfl rfl np rfl e2]
  · exact absurd ⟨by omega, by omega⟩ w
  · exact absurd ⟨by omega, by omega⟩ y
  · rw [F_d_plan_p4 hX.1.symm rfl q, F_m_plan_p0 rfl rfl rfl rfl p]
theorem sim_order (ok : s_ok G K A U) (hX : RX oX g G K A L U x SX) (hM : RM G K A L U x SM) : F_d_order oX SX a1 a2 = F_m_order oM SM a1 a2 := by
  have z0 : (0 : Int32).toInt = 0 := by decide +kernel
  have z1 : (1 : Int32).toInt = 1 := by decide +kernel
  have n0 : (0 : Int32).toNatClampNeg = 0 := by decide +kernel
  have h7 := ok.1.2.2.2.2.1
  rcases cx_order (o := oX) (a1 := a1) hX.2.1 with ⟨q, y⟩ | ⟨q, y⟩ <;> rcases mx_order (o := oM) (a1 := a1) hM.1 with ⟨p, w⟩ | ⟨p, w⟩
  · have nq : ¬ F_g_hasOrder oX SX g a1 = (0 : Int32) := by rw [q]; decide +kernel
    have np : ¬ F_m_isOrder oM SM a1 = (0 : Int32) := by rw [p]; decide +kernel
    obtain ⟨o2, o3, o4⟩ := hX.2.1.2.2.2.2 a1.toInt.toNat (by omega)
    obtain ⟨m2, m3, m4⟩ := hM.1.2.2.2.2 a1.toInt.toNat (by omega)
    obtain ⟨b, hb1, hbk, -⟩ := hM.1.1.2
    have bn : (zI SM 0 13).toNatClampNeg = b := by rw [dk_clN]; omega
    rw [bn] at m2 m3 m4
    have e5 : (5 : Int32).toInt = ((5 : Nat) : Int) := by decide +kernel
    have pl : ((5 : Int32) * zI SM 0 13 + a1).toNatClampNeg = 5 * b + a1.toInt.toNat := mx_pl (c := a1.toInt.toNat) hbk (by omega) (by omega) (by omega) e5 (by omega) (by omega)
    by_cases c0 : a2 = (0 : Int32)
    · rw [F_d_order_p1 hX.1.symm rfl nq c0 rfl, F_m_order_p1 rfl np c0 rfl rfl rfl rfl, pl]
      exact Int32.toInt_inj.mp (o2.trans m2.symm)
    by_cases c1 : a2 = (1 : Int32)
    · rw [F_d_order_p2 hX.1.symm rfl nq c0 c1 rfl, F_m_order_p2 rfl np c0 c1 rfl rfl rfl rfl, pl]
      exact Int32.toInt_inj.mp (o3.trans m3.symm)
    by_cases c2 : a2 = (2 : Int32)
    · rw [F_d_order_p3 hX.1.symm rfl nq c0 c1 c2 rfl, F_m_order_p3 rfl np c0 c1 c2 rfl rfl rfl rfl, pl]
      exact Int32.toInt_inj.mp (o4.trans m4.symm)
    by_cases c3 : a2 = (3 : Int32)
    · rw [F_d_order_p4 hX.1.symm rfl nq c0 c1 c2 c3 rfl]
      have hu : (SX.2.1 8 a1.toNatClampNeg).toInt = A 5 a1.toInt.toNat := hX.2.2.1.2.2.2.2.2.1 a1.toInt.toNat (by omega)
      obtain ⟨b1, b2⟩ := hM.2.1.2.2.2.2.2.1
      have hv := b2 a1.toInt.toNat (by omega)
      rcases mx_has2 (o := oM) (S := SM) (a := SM.2.1 34 (0 : Int32).toNatClampNeg) (b := a1) (by rw [n0]; exact b1) (by omega) with ⟨e, v⟩ | ⟨e, v⟩
      · rw [F_m_order_p5 rfl np c0 c1 c2 c3 rfl rfl (by rw [e]; decide +kernel)]
        rw [n0, ← hv] at v
        exact Int32.toInt_inj.mp (by rw [hu, v, z1])
      · rw [F_m_order_p4 rfl np c0 c1 c2 c3 rfl rfl e]
        rw [n0, ← hv] at v
        exact Int32.toInt_inj.mp (by rw [hu, v, z0])
    by_cases c4 : a2 = (4 : Int32)
    · rw [F_d_order_p5 hX.1.symm rfl nq c0 c1 c2 c3 c4 rfl rfl]
      rcases cx_canSell (o := oX) (a1 := a1) ok hX y with ⟨e, v⟩ | ⟨e, v⟩ <;> rcases mx_canSell (o := oM) (a1 := a1) ok hM with ⟨f, u⟩ | ⟨f, u⟩
      · rw [F_flag_p1 (by rw [e]; decide +kernel), F_m_order_p7 rfl np c0 c1 c2 c3 c4 rfl (by rw [f]; decide +kernel)]
      · exact absurd v u
      · exact absurd u v
      · rw [F_flag_p0 e, F_m_order_p6 rfl np c0 c1 c2 c3 c4 rfl f]
    rw [F_d_order_p0 hX.1.symm rfl nq c0 c1 c2 c3 c4, F_m_order_p0 rfl np c0 c1 c2 c3 c4]
  · exact absurd y w
  · exact absurd w y
  · rw [F_d_order_p6 hX.1.symm rfl q, F_m_order_p8 rfl p]
theorem sim_tubs (hX : RX oX g G K A L U x SX) (hM : RM G K A L U x SM) : F_d_tubs oX SX a1 = F_m_tubs oM SM a1 := by
  have z0 : (0 : Int32).toInt = 0 := by decide +kernel
  have z9 : (9 : Int32).toInt = 9 := by decide +kernel
  have hj := mx_is (o := oM) (S := SM) (a := a1) (b := 0) (c := 9)
  rw [z0, z9] at hj
  by_cases q1 : a1 < (0 : Int32)
  · have := dk_ltc z0 q1
    rcases hj with ⟨-, e⟩ | ⟨e, -⟩
    · omega
    · rw [F_d_tubs_p0 q1, F_m_tubs_p0 rfl e]
  have d1 := dk_nltc z0 q1
  by_cases q2 : (9 : Int32) < a1
  · have := dk_gtc z9 q2
    rcases hj with ⟨-, e⟩ | ⟨e, -⟩
    · omega
    · rw [F_d_tubs_p1 q1 q2, F_m_tubs_p0 rfl e]
  have d2 := dk_ngtc z9 q2
  rcases hj with ⟨e, -⟩ | ⟨-, e⟩
  · rw [F_d_tubs_p2 q1 q2 rfl, F_m_tubs_p1 rfl (by rw [e]; decide +kernel) rfl]
    have h1 : (SX.2.1 9 a1.toNatClampNeg).toInt = A 6 a1.toInt.toNat := hX.2.2.1.2.2.2.2.2.2 a1.toInt.toNat (by omega)
    have h2 := hM.2.1.2.2.2.2.2.2.1 a1.toInt.toNat (by omega)
    rw [show 10 * 0 + a1.toInt.toNat = a1.toInt.toNat by omega] at h2
    exact Int32.toInt_inj.mp (h1.trans h2.symm)
  · omega
theorem sim_kept (hX : RX oX g G K A L U x SX) (hM : RM G K A L U x SM) : F_d_kept oX SX a1 a2 = F_m_kept oM SM a1 a2 := by
  have z0 : (0 : Int32).toInt = 0 := by decide +kernel
  have z3 : (3 : Int32).toInt = 3 := by decide +kernel
  have z4 : (4 : Int32).toInt = 4 := by decide +kernel
  have n0 : (0 : Int32).toNatClampNeg = 0 := by decide +kernel
  obtain ⟨c1, c2, c3⟩ := hX.2.2.2.1
  obtain ⟨m1, -, m3⟩ := hM.2.1.2.2.2.2.2.2.2
  have e3 : (SM.2.1 38 (0 : Int32).toNatClampNeg - (1 : Int32)).toInt = (L.length : Int) - 1 := dk_subT (by rw [n0]; exact m1) (by decide +kernel) (by omega) (by omega)
  have hi := mx_is (o := oM) (S := SM) (a := a1) (b := 0) (c := SM.2.1 38 (0 : Int32).toNatClampNeg - (1 : Int32))
  rw [e3, z0] at hi
  have hj := mx_is (o := oM) (S := SM) (a := a2) (b := 0) (c := 3)
  rw [z0, z3] at hj
  by_cases q1 : a1 < (0 : Int32)
  · have := dk_ltc z0 q1
    rcases hi with ⟨-, e⟩ | ⟨e, -⟩
    · omega
    · rw [F_d_kept_p0 q1, F_m_kept_p0 rfl rfl rfl e]
  have d1 := dk_nltc z0 q1
  by_cases q2 : zI SX 17 1 ≤ a1
  · have := w_le.mp q2
    rcases hi with ⟨-, e⟩ | ⟨e, -⟩
    · omega
    · rw [F_d_kept_p1 q1 rfl q2, F_m_kept_p0 rfl rfl rfl e]
  have d2 : ¬ (zI SX 17 1).toInt ≤ a1.toInt := fun z => q2 (w_le.mpr z)
  have ne : ¬ F_m_is oM SM a1 (0 : Int32) (SM.2.1 38 (0 : Int32).toNatClampNeg - (1 : Int32)) = (0 : Int32) := by
    rcases hi with ⟨e, -⟩ | ⟨-, e⟩
    · rw [e]; decide +kernel
    · omega
  by_cases q3 : a2 < (0 : Int32)
  · have := dk_ltc z0 q3
    rcases hj with ⟨-, e⟩ | ⟨e, -⟩
    · omega
    · rw [F_d_kept_p2 q1 rfl q2 q3, F_m_kept_p1 rfl rfl rfl ne rfl e]
  have d3 := dk_nltc z0 q3
  by_cases q4 : a2 < (4 : Int32)
  rotate_left
  · have := dk_nltc z4 q4
    rcases hj with ⟨-, e⟩ | ⟨e, -⟩
    · omega
    · rw [F_d_kept_p4 q1 rfl q2 q3 q4, F_m_kept_p1 rfl rfl rfl ne rfl e]
  have d4 := dk_ltc z4 q4
  rcases hj with ⟨e, -⟩ | ⟨-, e⟩
  rotate_left
  · omega
  rw [F_d_kept_p3 q1 rfl q2 q3 q4 rfl rfl rfl, F_m_kept_p2 rfl rfl rfl ne rfl (by rw [e]; decide +kernel) rfl rfl rfl]
  have e8 : ((4 : Int32) * a1).toInt = 4 * a1.toInt := dk_mulT (by decide +kernel) rfl (by omega) (by omega)
  have n9 : ((4 : Int32) * a1 + a2).toNatClampNeg = 4 * a1.toInt.toNat + a2.toInt.toNat := by
    rw [dk_clN, dk_addT e8 rfl (by omega) (by omega)]
    omega
  rw [n9]
  obtain ⟨x1, x2, x3, x4⟩ := c3 a1.toInt.toNat (by omega)
  obtain ⟨y1, y2, y3, y4⟩ := m3 a1.toInt.toNat (by omega)
  rw [show 160 * 0 + 4 * a1.toInt.toNat = 4 * a1.toInt.toNat by omega] at y1 y2 y3 y4
  have c : a2.toInt.toNat = 0 ∨ a2.toInt.toNat = 1 ∨ a2.toInt.toNat = 2 ∨ a2.toInt.toNat = 3 := by omega
  rcases c with c | c | c | c
  · rw [c]
    exact Int32.toInt_inj.mp (x1.trans y1.symm)
  · rw [c]
    exact Int32.toInt_inj.mp (x2.trans y2.symm)
  · rw [c]
    exact Int32.toInt_inj.mp (x3.trans y3.symm)
  · rw [c]
    exact Int32.toInt_inj.mp (x4.trans y4.symm)
end CY
