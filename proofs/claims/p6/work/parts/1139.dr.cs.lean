/-! draws and quakes, both sides -/
theorem l_mask {y : Int64} (h : 0 ≤ y.toInt) : (y &&& (2147483647 : Int64)).toInt = y.toInt % 2147483648 := by
  have e : (y &&& (2147483647 : Int64)).toBitVec = y.toBitVec &&& (2147483647 : Int64).toBitVec := rfl
  have n : (y.toBitVec &&& (2147483647 : Int64).toBitVec).toNat = y.toBitVec.toNat % 2147483648 := by
    rw [BitVec.toNat_and]
    exact Nat.and_two_pow_sub_one_eq_mod y.toBitVec.toNat 31
  have c1 := BitVec.toInt_eq_toNat_cond y.toBitVec
  have c2 := BitVec.toInt_eq_toNat_cond (y.toBitVec &&& (2147483647 : Int64).toBitVec)
  rw [n] at c2
  rw [Int64.toInt_toBitVec] at c1
  rw [← e, Int64.toInt_toBitVec] at c2
  have b := y.toBitVec.isLt
  rw [c2]
  rw [if_pos (by omega)]
  by_cases q : 2 * y.toBitVec.toNat < 2 ^ 64
  · rw [if_pos q] at c1
    omega
  · rw [if_neg q] at c1
    omega
theorem l_rem {x y : Int64} (hx : 0 ≤ x.toInt) (hy : 0 < y.toInt) : (x - x / y * y).toInt = x.toInt % y.toInt := by
  have b : x.toInt < 9223372036854775808 := by
    have := Int64.toInt_lt x
    omega
  have e1 : (x / y).toInt = x.toInt / y.toInt := by
    rw [Int64.toInt_div_of_ne_left x y (fun z => by rw [z] at hx; exact absurd hx (by decide +kernel))]
    exact Int.tdiv_eq_ediv_of_nonneg hx
  have h1 := Int.ediv_mul_le x.toInt (show y.toInt ≠ 0 by omega)
  have h2 : 0 ≤ x.toInt / y.toInt * y.toInt := Int.mul_nonneg (Int.ediv_nonneg hx (by omega)) (by omega)
  have e2 : (x / y * y).toInt = x.toInt / y.toInt * y.toInt := by
    rw [Int64.toInt_mul, e1]
    generalize x.toInt / y.toInt * y.toInt = z at h1 h2 ⊢
    exact Int.bmod_eq_of_le (by omega) (by omega)
  have e3 : (x - x / y * y).toInt = x.toInt - x.toInt / y.toInt * y.toInt := by
    rw [Int64.toInt_sub, e2]
    generalize x.toInt / y.toInt * y.toInt = z at h1 h2 ⊢
    exact Int.bmod_eq_of_le (by omega) (by omega)
  rw [e3, Int.emod_def, Int.mul_comm]
theorem l_div0 {x y : Int64} (hx : 0 ≤ x.toInt) : (x / y).toInt = x.toInt / y.toInt := by
  rw [Int64.toInt_div_of_ne_left x y (fun z => by rw [z] at hx; exact absurd hx (by decide +kernel))]
  exact Int.tdiv_eq_ediv_of_nonneg hx
/-- a draw: the seed behind it -/
def s_dr (x : Int) : Int := (1103515245 * x + 12345) % 2147483648
theorem s_dr_b (x : Int) : 0 ≤ s_dr x ∧ s_dr x < 2147483648 := by
  unfold s_dr
  omega
section DR
variable {o g n : Nat} {G A A' : aR} {K : Nat → List Int} {L L' : s_L} {U : s_U} {S S0 S1 : dg_S} {x x' r : Int} {a a1 a2 : Int32}
theorem cx_draw (h : (zI S 0 12).toInt = x) (hx : 0 ≤ x ∧ x < 2147483648) (ha : 0 < a1.toInt) : ∃ (S1 : dg_S) (y : Int32), F_d_draw o S a1 = (S1, y) ∧ y.toInt = s_dr x / 64 % a1.toInt ∧ (zI S1 0 12).toInt = s_dr x ∧ kp (fun a b => a = 0 ∧ b = 12) (fun _ => False) S S1 := by
  have hd := s_dr_b x
  have e2 : (Int32.toInt64 (zI S 0 12)).toInt = x := by rw [Int32.toInt_toInt64]; exact h
  have e3 : ((1103515245 : Int64) * Int32.toInt64 (zI S 0 12)).toInt = 1103515245 * x := l_mul (by decide +kernel) e2 (by omega) (by omega)
  have e4 : ((1103515245 : Int64) * Int32.toInt64 (zI S 0 12) + (12345 : Int64)).toInt = 1103515245 * x + 12345 := l_add e3 (by decide +kernel) (by omega) (by omega)
  have e5 : (((1103515245 : Int64) * Int32.toInt64 (zI S 0 12) + (12345 : Int64)) &&& (2147483647 : Int64)).toInt = s_dr x := by
    rw [l_mask (by omega), e4]
    rfl
  obtain ⟨x6, h6⟩ : ∃ y, y = Int64.toInt32 (((1103515245 : Int64) * Int32.toInt64 (zI S 0 12) + (12345 : Int64)) &&& (2147483647 : Int64)) := ⟨_, rfl⟩
  have e6 : x6.toInt = s_dr x := by rw [h6, cx_l2i (by omega) (by omega)]; exact e5
  obtain ⟨S7, h7⟩ : ∃ T, T = dg_uF S 0 12 (.int x6) := ⟨_, rfl⟩
  have q : ¬ a1 ≤ (0 : Int32) := fun z => by have := dk_lec (k := 0) (by decide +kernel) z; omega
  have e9 : (x6 / (64 : Int32)).toInt = s_dr x / 64 := by rw [dk_divL (b := 64) (by omega) (by decide +kernel) (by decide), e6]
  refine ⟨S7, _, F_d_draw_p1 rfl rfl rfl rfl rfl h6 h7 q rfl rfl, ?_, ?_, ?_⟩
  · rw [i_rem (by omega) ha, e9]
  · rw [h7, w_I, if_pos ⟨rfl, rfl⟩]
    exact e6
  · rw [h7]
    exact kp.uF kp.rf ⟨rfl, rfl⟩
theorem mx_draw (h : (zL S 0 62).toInt = x) (hx : 0 ≤ x ∧ x < 2147483648) (ha : 0 < a1.toInt) : ∃ (S1 : dg_S) (y : Int32), F_m_draw o S a1 = (S1, y) ∧ y.toInt = s_dr x / 64 % a1.toInt ∧ (zL S1 0 62).toInt = s_dr x ∧ kp (fun a b => a = 0 ∧ b = 62) (fun _ => False) S S1 := by
  have hd := s_dr_b x
  have hf := dk_full a1
  have e3 : ((1103515245 : Int64) * zL S 0 62).toInt = 1103515245 * x := l_mul (by decide +kernel) h (by omega) (by omega)
  have e4 : ((1103515245 : Int64) * zL S 0 62 + (12345 : Int64)).toInt = 1103515245 * x + 12345 := l_add e3 (by decide +kernel) (by omega) (by omega)
  have ec : (2147483648 : Int64).toInt = 2147483648 := by decide +kernel
  obtain ⟨x4, h4⟩ : ∃ y, y = ((1103515245 : Int64) * zL S 0 62 + (12345 : Int64)) - ((1103515245 : Int64) * zL S 0 62 + (12345 : Int64)) / (2147483648 : Int64) * (2147483648 : Int64) := ⟨_, rfl⟩
  have e5 : x4.toInt = s_dr x := by
    rw [h4, l_rem (by omega) (by omega), e4, ec]
    rfl
  obtain ⟨S5, h5⟩ : ∃ T, T = dg_uF S 0 62 (.long x4) := ⟨_, rfl⟩
  have e6 : (x4 / (64 : Int64)).toInt = s_dr x / 64 := by
    rw [l_div0 (by omega), e5]
    rfl
  have e7 : (Int32.toInt64 a1).toInt = a1.toInt := Int32.toInt_toInt64 a1
  have e8 : (x4 / (64 : Int64) - x4 / (64 : Int64) / Int32.toInt64 a1 * Int32.toInt64 a1).toInt = s_dr x / 64 % a1.toInt := by
    rw [l_rem (by omega) (by omega), e6, e7]
  have b0 := Int.emod_nonneg (s_dr x / 64) (show a1.toInt ≠ 0 by omega)
  have b1 := Int.emod_lt_of_pos (s_dr x / 64) ha
  refine ⟨S5, _, F_m_draw_p0 rfl rfl rfl h4 h5 rfl rfl rfl rfl, ?_, ?_, ?_⟩
  · rw [cx_l2i (by omega) (by omega)]
    exact e8
  · unfold zL
    rw [h5, w_F, if_pos ⟨rfl, rfl⟩]
    exact e5
  · rw [h5]
    exact kp.uF kp.rf ⟨rfl, rfl⟩
theorem RX.sx (h : RX o g G K A L U x S) (t : kp (fun a b => a = 0 ∧ b = 12) (fun _ => False) S S1) (hx : (zI S1 0 12).toInt = x') : RX o g G K A L U x' S1 := by
  obtain ⟨h1, h2, h3, h4, h5, h6⟩ := h
  have sep := rX_sep h2.1.1
  exact ⟨by rw [t.R (by decide)]; exact h1, h2.keep (fun i _ _ => (t.2 i id).1) (fun b => t.I (fun z => by omega)), h3.keep (fun i _ _ => (t.2 i id).1) (fun b _ => t.I (fun z => by omega)), h4.keep (t.I (by decide)) (t.2 18 id).1, h5.keep (t.I (by decide)) (t.I (by decide)) (fun i _ _ => (t.2 i id).1) (fun a b _ _ => t.I (fun z => by omega)), hx⟩
theorem RM.sx (h : RM G K A L U x S) (hb : G 0 6 ≤ 16) (t : kp (fun a b => a = 0 ∧ b = 62) (fun _ => False) S S1) (hx : (zL S1 0 62).toInt = x') : RM G K A L U x' S1 := by
  obtain ⟨h1, h2, h3, h4, h5⟩ := h
  exact ⟨h1.keep (t.I (by decide)) (t.I (by decide)) (fun i _ => (t.2 i id).1), h2.keep hb (fun a _ _ j _ _ => by rw [(t.2 a id).1]), h3.keep hb (t.I (by decide)) (t.I (by decide)) (fun a _ _ j _ => by rw [(t.2 a id).1]), by rw [t.I (by decide)]; exact h4, hx⟩
/-- where a cell lies -/
theorem cx_place (hg : cx_g G K S g) (hG : s_gb G) : (0 ≤ a1.toInt ∧ a1.toInt < G 0 0) ∧ (0 ≤ a2.toInt ∧ a2.toInt < G 0 1) ∧ (F_g_placeOf o S g a1 a2).toInt = 8 * a2.toInt + a1.toInt + 8 ∧ s_in G (8 * a2.toInt + a1.toInt) ∨ ¬ ((0 ≤ a1.toInt ∧ a1.toInt < G 0 0) ∧ 0 ≤ a2.toInt ∧ a2.toInt < G 0 1) ∧ F_g_placeOf o S g a1 a2 = (-1 : Int32) := by
  obtain ⟨-, ⟨f0, f1, -⟩, -⟩ := hg
  obtain ⟨⟨b0, b1⟩, b2, b3⟩ := hG
  have z0 : (0 : Int32).toInt = 0 := by decide +kernel
  by_cases q1 : a1 < (0 : Int32)
  · have := dk_ltc z0 q1
    exact Or.inr ⟨by omega, F_g_placeOf_p0 q1⟩
  have d1 := dk_nltc z0 q1
  by_cases q2 : zI S g 0 ≤ a1
  · have := w_le.mp q2
    exact Or.inr ⟨by omega, F_g_placeOf_p1 rfl q1 q2⟩
  have d2 : ¬ (zI S g 0).toInt ≤ a1.toInt := fun z => q2 (w_le.mpr z)
  by_cases q3 : a2 < (0 : Int32)
  · have := dk_ltc z0 q3
    exact Or.inr ⟨by omega, F_g_placeOf_p2 rfl q1 q2 q3⟩
  have d3 := dk_nltc z0 q3
  by_cases q4 : a2 < zI S g 1
  · have d4 := w_lt.mp q4
    have e1 : ((8 : Int32) * a2).toInt = 8 * a2.toInt := dk_mulT (by decide +kernel) rfl (by omega) (by omega)
    have e2 : ((8 : Int32) * a2 + a1).toInt = 8 * a2.toInt + a1.toInt := dk_addT e1 rfl (by omega) (by omega)
    have e3 : ((8 : Int32) * a2 + a1 + (8 : Int32)).toInt = 8 * a2.toInt + a1.toInt + 8 := dk_addT e2 (by decide +kernel) (by omega) (by omega)
    refine Or.inl ⟨⟨d1, by omega⟩, ⟨d3, by omega⟩, ?_, ⟨by omega, by omega⟩, by omega, by omega⟩
    rw [F_g_placeOf_p3 rfl rfl q1 q2 q3 q4 rfl rfl rfl]
    exact e3
  · have d4 : ¬ a2.toInt < (zI S g 1).toInt := fun z => q4 (w_lt.mpr z)
    exact Or.inr ⟨by omega, F_g_placeOf_p4 rfl rfl q1 q2 q3 q4⟩
/-- a quake: where; what is behind it; whether a cell is solid again -/
def s_qc (G : aR) (x : Int) : Int := 8 * (s_dr (s_dr (s_dr x)) / 64 % G 0 1) + s_dr (s_dr x) / 64 % G 0 0
noncomputable def s_cl (G A : aR) (c : Int) : aR × Int := s_if (s_op G A c ∧ c ≠ G 0 2) (s_up A 1 c.toNat 0, 1) (A, 0)
noncomputable def s_qk (G A : aR) (x : Int) : aR × Int × Int := if s_dr x / 64 % 100 < G 0 4 then ((s_cl G A (s_qc G x)).1, s_dr (s_dr (s_dr x)), (s_cl G A (s_qc G x)).2) else (A, s_dr x, 0)
theorem s_cl_ok {c : Int} (hw : s_wf G A) (hc : s_cw G A) : s_wf G (s_cl G A c).1 ∧ s_cw G (s_cl G A c).1 ∧ (s_cl G A c).1 0 0 = A 0 0 ∧ ((s_cl G A c).2 = 0 ∨ (s_cl G A c).2 = 1) := by
  unfold s_cl
  by_cases q : s_op G A c ∧ c ≠ G 0 2
  · rw [s_if_y q]
    show s_wf G (s_up A 1 c.toNat 0) ∧ s_cw G (s_up A 1 c.toNat 0) ∧ s_up A 1 c.toNat 0 0 0 = A 0 0 ∧ ((1 : Int) = 0 ∨ (1 : Int) = 1)
    obtain ⟨w0, w1, w2, w3, w4, w5⟩ := hw
    have U : ∀ a b, a ≠ 1 → s_up A 1 c.toNat 0 a b = A a b := fun a b h => s_up_ne (fun z => h z.1)
    have c0 := q.1.1.1.1
    have sh := hc.2.1.1.1
    refine ⟨⟨by rw [U _ _ (by decide)]; exact w0, by rw [U _ _ (by decide)]; exact w1, fun k hk => by rw [U _ _ (by decide)]; exact w2 k hk, fun k hk => by rw [U _ _ (by decide), U _ _ (by decide)]; exact w3 k hk, fun k hk => by rw [U _ _ (by decide)]; exact w4 k hk, fun k hk => by rw [U _ _ (by decide)]; exact w5 k hk⟩, ⟨fun d hd => ?_, hc.2.1, ?_⟩, U _ _ (by decide), Or.inr rfl⟩
    · show -2 ≤ s_c (s_up A 1 c.toNat 0) d ∧ s_c (s_up A 1 c.toNat 0) d ≤ 9
      rw [s_c_up c0 hd.1.1]
      split
      · omega
      · exact hc.1 d hd
    · show s_c (s_up A 1 c.toNat 0) (G 0 2) = -1
      rw [s_c_up c0 sh, if_neg (fun z => q.2 z.symm)]
      exact hc.2.2
  · rw [s_if_n q]
    exact ⟨hw, hc, rfl, Or.inl rfl⟩
/-- the class: a cell is solid again -/
theorem cx_close {p : Nat} {c : Int} (hp : pX p) (hS : zR o S 214 7 = p) (hgr : zR o S 214 6 = g) (hg : cx_gt G K S g) (hpit : cx_pit G A S p) (hc : s_in G c) (ha : a1.toInt = c + 8) (hl : cx_LI G A r S) : ∃ (S1 : dg_S) (y : Int32), F_w_closeCell o S a1 = (S1, y) ∧ y.toInt = (s_cl G A c).2 ∧ cx_pit G (s_cl G A c).1 S1 p ∧ cx_LI G (s_cl G A c).1 r S1 ∧ kp (fun a b => a = 214 ∧ b = 9) (fun a => a = p + 1) S S1 := by
  have z0 : (0 : Int32).toInt = 0 := by decide +kernel
  have z1 : (1 : Int32).toInt = 1 := by decide +kernel
  have hc0 := hc.1
  have sep := pX_sep hp
  have q1 : ¬ a1 = (-1 : Int32) := fun z => by have := dk_eqc (k := -1) (by decide +kernel) z; omega
  have hsh := hg.2.1
  unfold s_cl
  have stay : ¬ (s_op G A c ∧ c ≠ G 0 2) → F_w_closeCell o S a1 = (S, (0 : Int32)) → ∃ (S1 : dg_S) (y : Int32), F_w_closeCell o S a1 = (S1, y) ∧ y.toInt = (s_if (s_op G A c ∧ c ≠ G 0 2) (s_up A 1 c.toNat 0, (1 : Int)) (A, 0)).2 ∧ cx_pit G (s_if (s_op G A c ∧ c ≠ G 0 2) (s_up A 1 c.toNat 0, (1 : Int)) (A, 0)).1 S1 p ∧ cx_LI G (s_if (s_op G A c ∧ c ≠ G 0 2) (s_up A 1 c.toNat 0, (1 : Int)) (A, 0)).1 r S1 ∧ kp (fun a b => a = 214 ∧ b = 9) (fun a => a = p + 1) S S1 := fun hn e => by
    rw [s_if_n hn]
    exact ⟨S, 0, e, z0, hpit, hl, kp.rf⟩
  by_cases q2 : a1 = zI S g 2
  · have : a1.toInt = G 0 2 + 8 := by rw [q2]; exact hsh
    exact stay (fun z => z.2 (by omega)) (F_w_closeCell_p1 q1 hgr.symm rfl q2)
  have eo := cx_isOpen (o := o) (a := a1) hpit.1 (by omega) (by omega)
  rw [ha, show c + 8 - 8 = c by omega] at eo
  by_cases q3 : F_p_isOpen o S p a1 = (0 : Int32)
  · rw [q3, z0] at eo
    refine stay (fun z => ?_) (F_w_closeCell_p3 q1 hgr.symm rfl q2 hS.symm rfl q3)
    rw [s_b1 z.1] at eo
    exact absurd eo (by decide)
  have ho : s_op G A c := by
    apply Classical.byContradiction
    intro z
    rw [s_b0 z] at eo
    exact q3 (dk_eqp z0 eo)
  have hne : c ≠ G 0 2 := fun z => q2 (Int32.toInt_inj.mp (by rw [ha, hsh, z]))
  obtain ⟨S12, h12⟩ : ∃ T, T = dg_uf S (p + 1) (upd (S.2.1 (p + 1)) a1.toNatClampNeg (0 : Int32)) := ⟨_, rfl⟩
  obtain ⟨S15, h15⟩ : ∃ T, T = dg_uF S12 214 9 (.int (1 : Int32)) := ⟨_, rfl⟩
  rw [s_if_y ⟨ho, hne⟩]
  show ∃ (S1 : dg_S) (y : Int32), F_w_closeCell o S a1 = (S1, y) ∧ y.toInt = 1 ∧ cx_pit G (s_up A 1 c.toNat 0) S1 p ∧ cx_LI G (s_up A 1 c.toNat 0) r S1 ∧ kp (fun a b => a = 214 ∧ b = 9) (fun a => a = p + 1) S S1
  refine ⟨S15, 1, F_w_closeCell_p2 q1 hgr.symm rfl q2 hS.symm rfl q3 h12 h15, z1, ?_, Or.inl ?_, ?_⟩
  · obtain ⟨y1, y2, y3, y4, y5, y6, y7⟩ := hpit
    have ro : ∀ i, i ≠ p + 1 → S15.2.1 i = S.2.1 i := fun i hi => by rw [h15, w_Ff, h12, w_f, if_neg hi]
    have fo : ∀ b, zI S15 p b = zI S p b := fun b => by rw [h15, w_I0 (fun z => by omega), h12, w_If]
    have U : ∀ a b, a ≠ 1 → s_up A 1 c.toNat 0 a b = A a b := fun a b h => s_up_ne (fun z => h z.1)
    have h9 := y1.up (S1 := S15) (x := c + 8) (v := 0) (y := 0) ⟨by omega, by omega⟩ (by rw [show c + 8 - 8 = c by omega]; exact hc) (by rw [h15, w_Ff, h12, w_f, if_pos rfl, show a1.toNatClampNeg = (c + 8).toNat by rw [dk_clN, ha]]) z0 ⟨by decide, by decide⟩
    rw [show c + 8 - 8 = c by omega] at h9
    refine ⟨h9, by rw [fo, U _ _ (by decide)]; exact y2, by rw [fo, U _ _ (by decide)]; exact y3, fun k hk => by rw [ro _ (by omega), U _ _ (by decide)]; exact y4 k hk, fun k hk => by rw [ro _ (by omega), ro _ (by omega), U _ _ (by decide), U _ _ (by decide)]; exact y5 k hk, fun k hk => by rw [ro _ (by omega), U _ _ (by decide)]; exact y6 k hk, fun k hk => by rw [ro _ (by omega), U _ _ (by decide)]; exact y7 k hk⟩
  · rw [h15, w_I, if_pos ⟨rfl, rfl⟩, z1]
    decide
  · rw [h15, h12]
    exact kp.uF (kp.uf kp.rf rfl) ⟨rfl, rfl⟩
/-- the reference: a cell is solid again -/
theorem mx_close {v : Nat} {c : Int} (hG6 : G 0 6 ≤ 16) (hg : mx_gd G S) (hl : mx_lay G A L S v) (ha1 : a1.toInt = v) (hv : v ≤ 21) (hc : s_in G c) (ha : a2.toInt = c) : ∃ (S1 : dg_S) (y : Int32), F_m_isSolidBy o S a1 a2 = (S1, y) ∧ y.toInt = (s_cl G A c).2 ∧ mx_lay G (s_cl G A c).1 L S1 v ∧ k_v v S S1 := by
  have z0 : (0 : Int32).toInt = 0 := by decide +kernel
  have z1 : (1 : Int32).toInt = 1 := by decide +kernel
  have hc0 := hc.1
  have hsh : (S.2.1 4 (zI S 0 13).toNatClampNeg).toInt = G 0 2 := hg.2.2.2.1
  unfold s_cl
  rcases mx_op (o := o) (a := a1) (b := a2) hl.1 ha1 (by omega) (by rw [ha]; exact hc) with ⟨e, q⟩ | ⟨e, q⟩
  rotate_left
  · rw [ha] at q
    rw [s_if_n (fun z => q z.1)]
    exact ⟨S, 0, F_m_isSolidBy_p0 rfl e, z0, hl, k_v.rf⟩
  rw [ha] at q
  have ne : ¬ F_m_isOpen o S a1 a2 = (0 : Int32) := by rw [e]; decide +kernel
  by_cases q2 : a2 = S.2.1 4 (zI S 0 13).toNatClampNeg
  · rw [s_if_n (fun z => z.2 (by rw [← ha, q2]; exact hsh))]
    exact ⟨S, 0, F_m_isSolidBy_p2 rfl ne rfl rfl q2, z0, hl, k_v.rf⟩
  have hne : c ≠ G 0 2 := fun z => q2 (Int32.toInt_inj.mp (by rw [ha, hsh, z]))
  rw [s_if_y ⟨q, hne⟩]
  show ∃ (S1 : dg_S) (y : Int32), F_m_isSolidBy o S a1 a2 = (S1, y) ∧ y.toInt = 1 ∧ mx_lay G (s_up A 1 c.toNat 0) L S1 v ∧ k_v v S S1
  have ad : ((64 : Int32) * a1 + a2).toNatClampNeg = mx_ad v c := by
    rw [mx_adr ha1 (by omega) (by rw [ha]; exact hc.1), ha]
  have adn : mx_ad v c = 64 * v + c.toNat := by unfold mx_ad; omega
  obtain ⟨S12, h12⟩ : ∃ T, T = dg_uf S 31 (upd (S.2.1 31) ((64 : Int32) * a1 + a2).toNatClampNeg (0 : Int32)) := ⟨_, rfl⟩
  obtain ⟨S17, h17⟩ : ∃ T, T = dg_uf S12 32 (upd (S12.2.1 32) ((64 : Int32) * a1 + a2).toNatClampNeg (0 : Int32)) := ⟨_, rfl⟩
  have w31 : mx_w 31 = 64 := rfl
  have w32 : mx_w 32 = 64 := rfl
  refine ⟨S17, 1, F_m_isSolidBy_p1 rfl ne rfl rfl q2 rfl rfl h12 rfl rfl h17, z1, ?_, ?_⟩
  · obtain ⟨y1, y2, y3, y4, y5, y6, y7, y8⟩ := hl
    have ro : ∀ i, i ≠ 31 → i ≠ 32 → S17.2.1 i = S.2.1 i := fun i i1 i2 => by rw [h17, w_f, if_neg i2, h12, w_f, if_neg i1]
    have U : ∀ a b, a ≠ 1 → s_up A 1 c.toNat 0 a b = A a b := fun a b h => s_up_ne (fun z => h z.1)
    refine ⟨fun d hd => ?_, by rw [ro 29 (by decide) (by decide), U _ _ (by decide)]; exact y2, by rw [ro 30 (by decide) (by decide), U _ _ (by decide)]; exact y3, by rw [ro 33 (by decide) (by decide)]; exact ⟨y4.1, fun k hk => by rw [U _ _ (by decide)]; exact y4.2 k hk⟩, fun k hk => by rw [ro 35 (by decide) (by decide), ro 36 (by decide) (by decide), U _ _ (by decide), U _ _ (by decide)]; exact y5 k hk, by rw [ro 34 (by decide) (by decide)]; exact ⟨y6.1, fun k hk => by rw [U _ _ (by decide)]; exact y6.2 k hk⟩, fun k hk => by rw [ro 37 (by decide) (by decide), U _ _ (by decide)]; exact y7 k hk, y8.keep (by rw [ro 38 (by decide) (by decide)]) (fun j _ _ => by rw [ro 39 (by decide) (by decide)])⟩
    obtain ⟨i1, i2, i3, i4⟩ := y1 d hd
    have hd0 := hd.1
    have r31 : S17.2.1 31 = upd (S.2.1 31) (mx_ad v c) (0 : Int32) := by rw [h17, w_f, if_neg (by decide), h12, w_f, if_pos rfl, ad]
    have r32 : S17.2.1 32 = upd (S.2.1 32) (mx_ad v c) (0 : Int32) := by rw [h17, w_f, if_pos rfl, ad, h12, w_f, if_neg (by decide)]
    rw [s_c_up hc0.1 hd0.1, r31, r32, w_u, w_u]
    by_cases z : d = c
    · subst z
      rw [if_pos rfl, if_pos rfl, if_pos rfl, z0]
      exact ⟨rfl, rfl, by decide, by decide⟩
    · rw [if_neg z, if_neg (fun w => z (by unfold mx_ad at w; omega)), if_neg (fun w => z (by unfold mx_ad at w; omega))]
      exact ⟨i1, i2, i3, i4⟩
  · rw [h17, ad]
    refine k_v.uf ?_ (by decide) (by decide) (mw 32 64 _ _ rfl (by omega))
    rw [h12, ad]
    exact k_v.uf k_v.rf (by decide) (by decide) (mw 31 64 _ _ rfl (by omega))
end DR
