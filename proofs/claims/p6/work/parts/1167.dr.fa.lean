/-! no seam: all calls but HAS, IMAGE -/
def cx_0 (o g : Nat) (x : Int) (S : dg_S) : Prop := zR o S 0 6 = g ∧ (zI S g 0 = 0 ∧ zI S g 1 = 0 ∧ zI S g 6 = 0 ∧ zI S g 8 = 0 ∧ zI S g 11 = 0) ∧ (zI S 3 0 = 0 ∧ zI S 3 1 = 0 ∧ (∀ k, S.2.1 4 k = 100 ∨ S.2.1 4 k = 0) ∧ ∀ k, S.2.1 9 k = 0) ∧ (zI S 17 1 = 0 ∧ zI S 17 2 = 0) ∧ (zI S 0 12).toInt = x
def mx_0 (x : Int) (S : dg_S) : Prop := zI S 0 47 = 0 ∧ (S.2.1 2 (zI S 0 13).toNatClampNeg = 0 ∧ S.2.1 3 (zI S 0 13).toNatClampNeg = 0 ∧ S.2.1 8 (zI S 0 13).toNatClampNeg = 0 ∧ S.2.1 9 (zI S 0 13).toNatClampNeg = 0 ∧ S.2.1 12 (zI S 0 13).toNatClampNeg = 0) ∧ (S.2.1 29 0 = 0 ∧ S.2.1 30 0 = 0 ∧ S.2.1 33 0 = 0 ∧ S.2.1 38 0 = 0 ∧ ∀ k, S.2.1 37 k = 0) ∧ zI S 0 61 = 0 ∧ (zL S 0 62).toInt = x
section FA
variable {o oX oM g n p k i : Nat} {B : Nat → Int} {S S0 S1 SX SM T : dg_S} {x x' c v : Int} {a a1 a2 a3 a4 y : Int32}
theorem cx_0.seam (h : cx_0 o g x S) : F_g_hasSeam o S g = 0 := F_g_hasSeam_p0 rfl (by rw [h.2.1.1]; decide +kernel)
theorem cx_0.come (h : cx_0 o g x S) : F_d_shiftsCome o S a1 a2 a3 = 0 := F_d_shiftsCome_p0 h.1.symm rfl h.seam
theorem w_0le (h : ¬ a < (0 : Int32)) : (0 : Int32) ≤ a := w_le.mpr (by have := dk_nltc (k := 0) (by decide +kernel) h; rw [show (0 : Int32).toInt = 0 by decide +kernel]; omega)
theorem cx_0.place (h : cx_0 o g x S) : F_g_placeOf o S g a1 a2 = -1 := by
  by_cases q : a1 < (0 : Int32)
  · exact F_g_placeOf_p0 q
  · exact F_g_placeOf_p1 rfl q (by rw [h.2.1.1]; exact w_0le q)
theorem cx_0.miner (h : cx_0 o g x S) : F_g_hasMiner o S g a1 = 0 := by
  by_cases q : a1 < (0 : Int32)
  · exact F_g_hasMiner_p0 q
  · exact F_g_hasMiner_p1 rfl q (by rw [h.2.1.2.2.1]; exact w_0le q)
theorem cx_0.row (h : cx_0 o g x S) : F_g_hasPlanRow o S g a1 = 0 := by
  by_cases q : a1 < (0 : Int32)
  · exact F_g_hasPlanRow_p0 q
  · exact F_g_hasPlanRow_p1 rfl q (by rw [h.2.1.2.2.2.1]; exact w_0le q)
theorem cx_0.order (h : cx_0 o g x S) : F_g_hasOrder o S g a1 = 0 := by
  by_cases q : a1 < (0 : Int32)
  · exact F_g_hasOrder_p0 q
  · exact F_g_hasOrder_p1 rfl q (by rw [h.2.1.2.2.2.2]; exact w_0le q)
theorem mx_0.cell (h : mx_0 x S) : F_m_isCell o S a1 a2 = 0 := F_m_isCell_p0 rfl h.1
theorem mx_0.ahead (h : mx_0 x S) : F_m_isAhead o S a1 a2 a3 = 0 := F_m_isAhead_p0 rfl h.1
theorem mx_0.miner (h : mx_0 x S) : F_m_isMiner o S a1 = 0 := by
  by_cases q : a1 < (0 : Int32)
  · exact F_m_isMiner_p0 q
  · exact F_m_isMiner_p1 q rfl rfl (by rw [h.2.1.2.2.1]; exact w_0le q)
theorem mx_0.order (h : mx_0 x S) : F_m_isOrder o S a1 = 0 := by
  by_cases q : a1 < (0 : Int32)
  · exact F_m_isOrder_p0 q
  · exact F_m_isOrder_p1 q rfl rfl (by rw [h.2.1.2.2.2.2]; exact w_0le q)
theorem mx_0.row (h : mx_0 x S) : F_m_is o S a1 0 (S.2.1 9 (zI S 0 13).toNatClampNeg - (1 : Int32)) = 0 := by
  rw [h.2.1.2.2.2.1]
  rcases mx_is (o := o) (S := S) (a := a1) (b := 0) (c := (0 : Int32) - (1 : Int32)) with ⟨-, w1, w2⟩ | ⟨e, -⟩
  · exfalso
    have e1 : ((0 : Int32) - (1 : Int32)).toInt = -1 := by decide +kernel
    rw [e1] at w2
    rw [show (0 : Int32).toInt = 0 by decide +kernel] at w1
    omega
  · exact e
theorem sim0_letter (hX : cx_0 oX g x SX) (hM : mx_0 x SM) : F_d_letter oX SX a1 a2 a3 = -1 ∧ F_m_letter oM SM a1 a2 a3 = -1 := by
  by_cases q0 : a1 = (0 : Int32)
  · refine ⟨?_, F_m_letter_p8 q0 rfl hM.miner⟩
    by_cases q : a2 < (0 : Int32)
    · exact F_d_letter_p4 q0 q
    · exact F_d_letter_p5 q0 q hX.1.symm rfl (by rw [hX.2.1.2.2.1]; exact w_0le q)
  · by_cases q1 : a1 = (1 : Int32)
    · refine ⟨?_, F_m_letter_p1 q0 q1 rfl hM.order⟩
      by_cases q : a2 < (0 : Int32)
      · exact F_d_letter_p1 q0 q1 q
      · exact F_d_letter_p2 q0 q1 q hX.1.symm rfl (by rw [hX.2.1.2.2.2.2]; exact w_0le q)
    · exact ⟨F_d_letter_p0 q0 q1, F_m_letter_p0 q0 q1⟩
theorem sim0_cell (hX : cx_0 oX g x SX) (hM : mx_0 x SM) : F_d_cell oX SX a1 a2 a3 = (SX, -1) ∧ F_m_cell oM SM a1 a2 a3 = (SM, -1) := ⟨F_d_cell_p8 hX.1.symm rfl hX.place, F_m_cell_p13 rfl hM.cell⟩
theorem sim0_hurt (hX : cx_0 oX g x SX) (hM : mx_0 x SM) : F_d_hurt oX SX a1 = -1 ∧ F_m_hurt oM SM a1 = -1 := ⟨F_d_hurt_p0 hX.1.symm rfl hX.miner, F_m_hurt_p0 rfl hM.miner⟩
theorem sim0_plan (hX : cx_0 oX g x SX) (hM : mx_0 x SM) : F_d_plan oX SX a1 a2 = -1 ∧ F_m_plan oM SM a1 a2 = -1 := ⟨F_d_plan_p4 hX.1.symm rfl hX.row, F_m_plan_p0 rfl rfl rfl rfl hM.row⟩
theorem sim0_order (hX : cx_0 oX g x SX) (hM : mx_0 x SM) : F_d_order oX SX a1 a2 = -1 ∧ F_m_order oM SM a1 a2 = -1 := ⟨F_d_order_p6 hX.1.symm rfl hX.order, F_m_order_p8 rfl hM.order⟩
theorem sim0_tubs (hX : cx_0 oX g x SX) (hM : mx_0 x SM) : F_d_tubs oX SX a1 = F_m_tubs oM SM a1 := by
  have z0 : (0 : Int32).toInt = 0 := by decide +kernel
  have z9 : (9 : Int32).toInt = 9 := by decide +kernel
  have hj := mx_is (o := oM) (S := SM) (a := a1) (b := 0) (c := 9)
  rw [z0, z9] at hj
  by_cases q1 : a1 < (0 : Int32)
  · have := dk_ltc z0 q1
    rcases hj with ⟨-, e⟩ | ⟨e, -⟩
    · omega
    · rw [F_d_tubs_p0 q1, F_m_tubs_p0 rfl e]
  have d1 := dk_nltc z0 q1
  by_cases q2 : (9 : Int32) < a1
  · have := dk_gtc z9 q2
    rcases hj with ⟨-, e⟩ | ⟨e, -⟩
    · omega
    · rw [F_d_tubs_p1 q1 q2, F_m_tubs_p0 rfl e]
  · have d2 : ¬ (9 : Int32).toInt < a1.toInt := fun z => q2 (w_lt.mpr z)
    rw [z9] at d2
    rcases hj with ⟨e, -⟩ | ⟨-, e⟩
    · rw [F_d_tubs_p2 q1 q2 rfl, F_m_tubs_p1 rfl (by rw [e]; decide +kernel) rfl, hX.2.2.1.2.2.2, hM.2.2.1.2.2.2.2]
    · omega
theorem sim0_later (hX : cx_0 oX g x SX) (hM : mx_0 x SM) : F_d_later oX SX a1 a2 a3 = (SX, -1) ∧ F_m_later oM SM a1 a2 a3 = (SM, -1) := ⟨F_d_later_p0 hX.1.symm rfl hX.place, F_m_later_p0 rfl hM.cell⟩
theorem sim0_opens (hX : cx_0 oX g x SX) (hM : mx_0 x SM) : F_d_opens oX SX a1 a2 = (SX, -1) ∧ F_m_opens oM SM a1 a2 = (SM, -1) := ⟨F_d_opens_p4 hX.1.symm rfl hX.place, F_m_opens_p4 rfl hM.cell⟩
theorem sim0_worth (hX : cx_0 oX g x SX) (hM : mx_0 x SM) : F_d_worth oX SX a1 = (SX, -1) ∧ F_m_worth oM SM a1 = (SM, -1) := ⟨F_d_worth_p1 rfl hX.come, F_m_worth_p1 rfl hM.ahead⟩
theorem sim0_shade (hX : cx_0 oX g x SX) (hM : mx_0 x SM) : F_d_shade oX SX a1 a2 = (SX, -1) ∧ F_m_shade oM SM a1 a2 = (SM, -1) := ⟨F_d_shade_p5 rfl hX.come, F_m_shade_p0 rfl hM.ahead⟩
theorem sim0_change (hX : cx_0 oX g x SX) (hM : mx_0 x SM) : F_d_change oX SX a1 a2 = (SX, -1) ∧ F_m_change oM SM a1 a2 = (SM, -1) := ⟨F_d_change_p5 rfl hX.come, F_m_change_p0 rfl hM.ahead⟩
theorem sim0_odds (hX : cx_0 oX g x SX) (hM : mx_0 x SM) : F_d_odds oX SX a1 a2 = (SX, -1) ∧ F_m_odds oM SM a1 a2 = (SM, -1) := ⟨F_d_odds_p3 rfl hX.come, F_m_odds_p0 rfl hM.ahead⟩
theorem sim0_reaches (hX : cx_0 oX g x SX) (hM : mx_0 x SM) : F_d_reaches oX SX = (SX, -1) ∧ F_m_reaches oM SM = (SM, -1) := ⟨F_d_reaches_p0 hX.1.symm rfl hX.seam, F_m_reaches_p0 rfl hM.1⟩
theorem sim0_tells (hX : cx_0 oX g x SX) (hM : mx_0 x SM) : F_d_tells oX SX a1 = (SX, -1) ∧ F_m_tells oM SM a1 = (SM, -1) := ⟨F_d_tells_p7 rfl hX.come, F_m_tells_p0 rfl hM.1⟩
theorem sim0_sale (hX : cx_0 oX g x SX) (hM : mx_0 x SM) : F_d_sale oX SX a1 = F_m_sale oM SM a1 := by
  have z0 : (0 : Int32).toInt = 0 := by decide +kernel
  have z1 : (1 : Int32).toInt = 1 := by decide +kernel
  have s1 : ((1 : Int32) <<< ((0 : Int32) &&& 31)) ≤ (1 : Int32) := by decide +kernel
  have hj := mx_is (o := oM) (S := SM) (a := a1) (b := 0) (c := 1)
  rw [z0, z1] at hj
  have pf : F_d_paidFor oX SX 0 = 0 := by
    rw [F_d_paidFor_p4]
    exact lp_sr (F_d_paidFor_p0 hX.1.symm rfl (by rw [hX.2.1.2.2.2.2]; decide +kernel))
  by_cases q0 : a1 = (0 : Int32)
  · have d0 := dk_eqc z0 q0
    rw [F_d_sale_p7 q0, F_d_sale_p6, lp_sr (F_d_sale_p1 hX.1.symm rfl rfl (by rw [hX.2.1.2.2.2.2]; exact s1) q0)]
    rcases hj with ⟨e, -⟩ | ⟨-, e⟩
    · rw [F_m_sale_p15 rfl (by rw [e]; decide +kernel), lp_sr (F_m_sale_p1 rfl rfl rfl (by rw [hM.2.1.2.2.2.2]; exact s1) q0)]
    · omega
  · have d0 := dk_neqc z0 q0
    by_cases q1 : a1 = (1 : Int32)
    · have d1 := dk_eqc z1 q1
      rw [F_d_sale_p8 q0 q1, F_d_sale_p6, lp_sr (F_d_sale_p0 hX.1.symm rfl rfl (by rw [hX.2.1.2.2.2.2]; exact s1) q0 rfl), pf]
      rcases hj with ⟨e, -⟩ | ⟨-, e⟩
      · rw [F_m_sale_p15 rfl (by rw [e]; decide +kernel), lp_sr (F_m_sale_p0 rfl rfl rfl (by rw [hM.2.1.2.2.2.2]; exact s1) q0)]
      · omega
    · have d1 := dk_neqc z1 q1
      rcases hj with ⟨-, e⟩ | ⟨e, -⟩
      · omega
      · rw [F_d_sale_p9 q0 q1, F_m_sale_p16 rfl e]
theorem sim0_shifts (hX : cx_0 oX g x SX) (hM : mx_0 x SM) : F_d_shifts oX SX a1 = F_d_none oX SX 2 ∧ F_m_shifts oM SM a1 = F_m_refuses oM SM 2 := ⟨F_d_shifts_p3 rfl hX.come rfl rfl, F_m_shifts_p3 rfl hM.ahead rfl rfl⟩
theorem sim0_chance (hX : cx_0 oX g x SX) (hM : mx_0 x SM) : F_d_chance oX SX a1 = F_d_none oX SX 2 ∧ F_m_chance oM SM a1 = F_m_refuses oM SM 2 := ⟨F_d_chance_p3 rfl hX.come rfl rfl, F_m_chance_p6 rfl hM.ahead rfl rfl⟩
theorem sim0_hang (hX : cx_0 oX g x SX) (hM : mx_0 x SM) : F_d_hang oX SX a1 a2 a3 = F_d_no oX SX 3 ∧ F_m_hang oM SM a1 a2 a3 = ((F_m_refuses oM SM 3).1, 0) := ⟨F_d_hang_p0 hX.1.symm rfl hX.place rfl rfl, (F_m_hang_p5 rfl hM.cell).trans (if_pos rfl)⟩
theorem sim0_send (hX : cx_0 oX g x SX) (hM : mx_0 x SM) : F_d_send oX SX a1 a2 a3 a4 = F_d_no oX SX 3 ∧ F_m_send oM SM a1 a2 a3 a4 = ((F_m_refuses oM SM 3).1, 0) := ⟨F_d_send_p0 hX.1.symm rfl hX.place rfl rfl, F_m_send_p0 rfl rfl rfl rfl hM.row rfl⟩
theorem sim0_heal (hX : cx_0 oX g x SX) (hM : mx_0 x SM) : F_d_heal oX SX a1 = F_d_no oX SX 3 ∧ F_m_heal oM SM a1 = ((F_m_refuses oM SM 3).1, 0) := ⟨F_d_heal_p0 hX.1.symm rfl hX.miner rfl rfl, F_m_heal_p0 rfl hM.miner rfl⟩
theorem sim0_sell (hX : cx_0 oX g x SX) (hM : mx_0 x SM) : F_d_sell oX SX a1 = F_d_none oX SX 3 ∧ F_m_sell oM SM a1 = F_m_refuses oM SM 3 := ⟨F_d_sell_p0 hX.1.symm rfl hX.order rfl rfl, F_m_sell_p7 rfl (F_m_canSell_p0 rfl hM.order) rfl rfl⟩
theorem sim0_undo (hX : cx_0 oX g x SX) (hM : mx_0 x SM) : F_d_undo oX SX = F_d_no oX SX 4 ∧ F_m_undo oM SM = ((F_m_refuses oM SM 4).1, 0) := by
  have e : F_h_takeBack oX SX 3 = (SX, 0) := F_h_takeBack_p2 rfl hX.2.2.2.1.2
  exact ⟨F_d_undo_p1 (S_2 := SX) (by rw [e]) (by rw [e]) rfl rfl rfl, F_m_undo_p1 rfl hM.2.2.2.1 rfl⟩
theorem sim0_kept (hX : cx_0 oX g x SX) (hM : mx_0 x SM) : F_d_kept oX SX a1 a2 = -1 ∧ F_m_kept oM SM a1 a2 = -1 := by
  have n0 : (0 : Int32).toNatClampNeg = 0 := by decide +kernel
  refine ⟨?_, F_m_kept_p0 rfl rfl rfl ?_⟩
  · by_cases q : a1 < (0 : Int32)
    · exact F_d_kept_p0 q
    · exact F_d_kept_p1 q rfl (by rw [hX.2.2.2.1.1]; exact w_0le q)
  · rw [n0, hM.2.2.1.2.2.2.1]
    rcases mx_is (o := oM) (S := SM) (a := a1) (b := 0) (c := (0 : Int32) - (1 : Int32)) with ⟨-, w1, w2⟩ | ⟨e, -⟩
    · exfalso
      have e1 : ((0 : Int32) - (1 : Int32)).toInt = -1 := by decide +kernel
      rw [e1] at w2
      rw [show (0 : Int32).toInt = 0 by decide +kernel] at w1
      omega
    · exact e
/-- feel: nothing can be felt -/
theorem cx_0.felt (h : cx_0 o g x S) : F_e_canBeFelt o S g a1 = 0 := by
  by_cases q : (30 : Int32) < S.2.1 2 a1.toNatClampNeg
  · exact F_e_canBeFelt_p0 rfl q
  · exact F_e_canBeFelt_p1 rfl q rfl rfl rfl rfl rfl h.place
theorem cx_0.take (h : cx_0 o g x S) : F_e_take o S g = (S, 0) := by
  by_cases q1 : zI S 1 1 - zI S 1 1 / (4 : Int32) * (4 : Int32) = (0 : Int32)
  · by_cases q2 : zI S 1 1 / (4 : Int32) < (1 : Int32)
    · exact F_e_take_p1 rfl rfl rfl q1 q2
    · by_cases q3 : zI S 1 1 / (4 : Int32) ≤ (16 : Int32)
      · rw [F_e_take_p6 rfl rfl rfl q1 q2 q3]
        have d2 := dk_nltc (k := 1) (by decide +kernel) q2
        exact lp_sr (F_e_take_p5 (fun z => by have := dk_lec (k := 0) (by decide +kernel) z; omega) rfl rfl h.felt)
      · exact F_e_take_p7 rfl rfl rfl q1 q2 q3
  · exact F_e_take_p0 rfl rfl q1
theorem cx_0_feel (h : cx_0 o g x S) : F_d_feel o S = F_d_none o (dg_uF S 1 1 (.int 0)) 5 := F_d_feel_p0 (S_3 := S) (x_2 := 0) h.1.symm (by rw [h.take]) (by rw [h.take]) rfl rfl rfl rfl
theorem mx_0_feel (h : mx_0 x S) (hn : (zI S 0 1).toInt = n) (hn9 : n ≤ 1600) : F_m_feel o S = F_m_refuses o (dg_uF S 0 1 (.int 0)) 5 := by
  have z0 : (0 : Int32).toInt = 0 := by decide +kernel
  have z4 : (4 : Int32).toInt = 4 := by decide +kernel
  have z64 : (64 : Int32).toInt = 64 := by decide +kernel
  obtain ⟨S3, h3⟩ : ∃ X, X = dg_uF S 0 1 (.int (0 : Int32)) := ⟨_, rfl⟩
  rw [← h3]
  by_cases q1 : zI S 0 1 ≤ (0 : Int32)
  · exact (F_m_feel_p2 rfl h3 q1).trans ((lp_sr F_m_feel_p1).trans (F_m_feel_p0 rfl rfl))
  have d1 := dk_nlec z0 q1
  have rr : (zI S 0 1 - zI S 0 1 / (4 : Int32) * (4 : Int32)).toInt = (n : Int) % 4 := by rw [dk_remL (by omega) z4 (by decide), hn]
  by_cases q2 : zI S 0 1 - zI S 0 1 / (4 : Int32) * (4 : Int32) = (0 : Int32)
  rotate_left
  · exact (F_m_feel_p5 rfl h3 q1 rfl q2).trans ((lp_sr F_m_feel_p4).trans (F_m_feel_p3 rfl rfl))
  have d2 := dk_eqc z0 q2
  rw [rr] at d2
  by_cases q3 : (64 : Int32) < zI S 0 1
  · exact (F_m_feel_p8 rfl h3 q1 rfl q2 q3).trans ((lp_sr F_m_feel_p7).trans (F_m_feel_p6 rfl rfl))
  have h47 : zI S3 0 47 = 0 := by rw [h3, w_I0 (by decide)]; exact h.1
  have q0 : ¬ zI S 0 1 ≤ (0 : Int32) := q1
  have n1 : ¬ (1 : Int32) = (0 : Int32) := by decide +kernel
  have step : ∃ c : Int32, c.toInt = 4 ∧ F_m_feel_B9 (zI S 0 1) o S3 S ((0 : Int32), (1 : Int32)) = .inl (c, (0 : Int32)) := by
    have z4' : ((0 : Int32) + 4).toInt = 4 := by decide +kernel
    by_cases p1 : (30 : Int32) < S3.2.1 1 (0 : Int32).toNatClampNeg
    · exact ⟨_, z4', F_m_feel_p16 q0 n1 rfl p1 rfl⟩
    · exact ⟨_, z4', F_m_feel_p17 q0 n1 rfl p1 rfl rfl rfl rfl rfl (F_m_isCell_p0 rfl h47) rfl⟩
  obtain ⟨c, hc, e⟩ := step
  have e2 : F_m_feel_B9 (zI S 0 1) o S3 S (c, (0 : Int32)) = .inr (F_m_feel_J7 0 o S3 (zI S 0 1) S) := by
    by_cases p : zI S 0 1 ≤ c
    · exact F_m_feel_p14 p
    · exact F_m_feel_p15 p rfl
  rw [F_m_feel_p21 rfl h3 q1 rfl q2 q3, show ((1604 - ((0 : Int32)).toInt).toNat + 1) = (1603 + 1) + 1 by decide +kernel, lp_sl e, lp_sr e2]
  exact F_m_feel_p13 rfl rfl rfl
theorem cx_0_on (h : cx_0 o g x S) : F_d_on o S = F_d_no o (dg_uF S 1 1 (.int 0)) 5 := by
  have := F_d_on_p0 (o := o) (S := S) h.1.symm rfl h.seam rfl rfl rfl
  exact this
theorem mx_0_on (h : mx_0 x S) : F_m_on o S = ((F_m_refuses o (dg_uF S 0 1 (.int 0)) 5).1, 0) := by
  have h47 : zI (dg_uF S 0 1 (.int 0)) 0 47 = 0 := by rw [w_I0 (by decide)]; exact h.1
  have e := F_m_comesOn_p0 (o := o) (S := dg_uF S 0 1 (.int 0)) (a1 := zI S 0 1) rfl h47
  exact F_m_on_p2 (S_5 := dg_uF S 0 1 (.int 0)) (x_4 := 0) rfl rfl (by rw [e]) (by rw [e]) rfl rfl
end FA
