/-! to CHANGE: the reference; both sides -/
section ED
variable {o oX oM g n p : Nat} {G A A' : aR} {K : Nat → List Int} {L L' : s_L} {U : s_U} {S S0 S1 SX SM : dg_S} {x x' r c v : Int} {a a1 a2 a3 a4 y : Int32} {q : s_T} {i j : Nat}
/-- layer 1 with two rows changed -/
theorem mx_changes (ok : s_ok G K A U) (h : RM G K A L U x S) (hi : a1.toInt = i) (hj : a2.toInt = j) (hij : (i : Int) < G 0 6 ∧ (j : Int) < G 0 6) : ∃ S1, F_m_changes o S a1 a2 = S1 ∧ RM G K A L U x S1 ∧ mx_lay G (s_wp A i j) L S1 1 ∧ k_v 1 S S1 := by
  have hb := ok.1.1.2.2.2
  have ni : a1.toNatClampNeg = i := by rw [dk_clN]; omega
  have nj : a2.toNatClampNeg = j := by rw [dk_clN]; omega
  obtain ⟨S3, e3, r3, l3, k3⟩ := mx_try1 (o := o) ok h
  have z16 : (16 : Int32).toInt = 16 := by decide +kernel
  have ei : ((16 : Int32) + a1).toInt = 16 + (i : Int) := dk_addT z16 hi (by omega) (by omega)
  have ej : ((16 : Int32) + a2).toInt = 16 + (j : Int) := dk_addT z16 hj (by omega) (by omega)
  have mi : ((16 : Int32) + a1).toNatClampNeg = 16 + i := by rw [dk_clN, ei]; omega
  have mj : ((16 : Int32) + a2).toNatClampNeg = 16 + j := by rw [dk_clN, ej]; omega
  obtain ⟨S16, h16⟩ : ∃ T, T = dg_uf S3 35 (upd (S3.2.1 35) ((16 : Int32) + a1).toNatClampNeg (S3.2.1 35 a2.toNatClampNeg)) := ⟨_, rfl⟩
  obtain ⟨S21, h21⟩ : ∃ T, T = dg_uf S16 36 (upd (S16.2.1 36) ((16 : Int32) + a1).toNatClampNeg (S16.2.1 36 a2.toNatClampNeg)) := ⟨_, rfl⟩
  obtain ⟨S26, h26⟩ : ∃ T, T = dg_uf S21 35 (upd (S21.2.1 35) ((16 : Int32) + a2).toNatClampNeg (S21.2.1 35 a1.toNatClampNeg)) := ⟨_, rfl⟩
  obtain ⟨S31, h31⟩ : ∃ T, T = dg_uf S26 36 (upd (S26.2.1 36) ((16 : Int32) + a2).toNatClampNeg (S26.2.1 36 a1.toNatClampNeg)) := ⟨_, rfl⟩
  have k31 : k_v 1 S3 S31 := by
    rw [h31, mj]
    refine k_v.uf ?_ (by decide) (by decide) (mw 36 16 _ _ rfl (by omega))
    rw [h26, mj]
    refine k_v.uf ?_ (by decide) (by decide) (mw 35 16 _ _ rfl (by omega))
    rw [h21, mi]
    refine k_v.uf ?_ (by decide) (by decide) (mw 36 16 _ _ rfl (by omega))
    rw [h16, mi]
    exact k_v.uf k_v.rf (by decide) (by decide) (mw 35 16 _ _ rfl (by omega))
  have r31 : RM G K A L U x S31 := r3.v hb k31 (by decide) (k31.lay r3.2.1 (by decide) hb)
  have r35 : ∀ k, k < 16 → S31.2.1 35 (16 + k) = if k = j then S3.2.1 35 i else if k = i then S3.2.1 35 j else S3.2.1 35 (16 + k) := fun k hk => by
    have w1 : S21.2.1 35 i = S3.2.1 35 i := by
      rw [h21, w_f, if_neg (by decide), h16, w_f, if_pos rfl, w_u, mi, if_neg (by omega)]
    rw [h31, w_f, if_neg (by decide), h26, w_f, if_pos rfl, w_u, mj, ni, w1]
    by_cases z : k = j
    · rw [if_pos (by omega), if_pos z]
    · rw [if_neg (by omega), if_neg z, h21, w_f, if_neg (by decide), h16, w_f, if_pos rfl, w_u, mi, nj]
      by_cases z2 : k = i
      · rw [if_pos (by omega), if_pos z2]
      · rw [if_neg (by omega), if_neg z2]
  have r36 : ∀ k, k < 16 → S31.2.1 36 (16 + k) = if k = j then S3.2.1 36 i else if k = i then S3.2.1 36 j else S3.2.1 36 (16 + k) := fun k hk => by
    have w0 : ∀ l, S16.2.1 36 l = S3.2.1 36 l := fun l => by rw [h16, w_f, if_neg (by decide)]
    have w1 : S26.2.1 36 i = S3.2.1 36 i := by
      rw [h26, w_f, if_neg (by decide), h21, w_f, if_pos rfl, w_u, mi, if_neg (by omega), w0]
    rw [h31, w_f, if_pos rfl, w_u, mj, ni, w1]
    by_cases z : k = j
    · rw [if_pos (by omega), if_pos z]
    · rw [if_neg (by omega), if_neg z, h26, w_f, if_neg (by decide), h21, w_f, if_pos rfl, w_u, mi, nj]
      by_cases z2 : k = i
      · rw [if_pos (by omega), if_pos z2, w0]
      · rw [if_neg (by omega), if_neg z2, w0]
  have ro : ∀ k, k ≠ 35 → k ≠ 36 → S31.2.1 k = S3.2.1 k := fun k k5 k6 => by rw [h31, w_f, if_neg k6, h26, w_f, if_neg k5, h21, w_f, if_neg k6, h16, w_f, if_neg k5]
  have y0 := r3.2.1.2.2.2.2.1
  obtain ⟨y1, y2, y3, y4, y5, y6, y7, y8⟩ := l3
  have E : ∀ a b, a ≠ 3 → a ≠ 4 → s_wp A i j a b = A a b := fun a b h3 h4 => s_wp_o h3 h4
  refine ⟨S31, (F_m_changes_p1 e3.symm rfl rfl h16 rfl rfl h21 rfl rfl h26).trans (F_m_changes_p0 rfl rfl h31), r31, ⟨fun d hd => ?_, by rw [ro 29 (by decide) (by decide), E _ _ (by decide) (by decide)]; exact y2, by rw [ro 30 (by decide) (by decide), E _ _ (by decide) (by decide)]; exact y3, by rw [ro 33 (by decide) (by decide)]; exact ⟨y4.1, fun k hk => by rw [E _ _ (by decide) (by decide)]; exact y4.2 k hk⟩, fun k hk => ?_, by rw [ro 34 (by decide) (by decide)]; exact ⟨y6.1, fun k hk => by rw [E _ _ (by decide) (by decide)]; exact y6.2 k hk⟩, fun k hk => by rw [ro 37 (by decide) (by decide), E _ _ (by decide) (by decide)]; exact y7 k hk, y8.keep (by rw [ro 38 (by decide) (by decide)]) (fun j _ _ => by rw [ro 39 (by decide) (by decide)])⟩, k3.tr k31⟩
  · have h9 := y1 d hd
    unfold s_c at h9 ⊢
    rw [ro 31 (by decide) (by decide), ro 32 (by decide) (by decide), E _ _ (by decide) (by decide)]
    exact h9
  · rw [show 16 * 1 + k = 16 + k by omega, r35 k (by omega), r36 k (by omega), s_wp_3, s_wp_4]
    unfold s_wr
    have yi := y0 i hij.1
    have yj := y0 j hij.2
    have yk := y5 k hk
    rw [show 16 * 0 + i = i by omega] at yi
    rw [show 16 * 0 + j = j by omega] at yj
    rw [show 16 * 1 + k = 16 + k by omega] at yk
    by_cases z2 : k = i
    · by_cases z : k = j
      · have e : i = j := by omega
        simp only [if_pos z2, if_pos z]
        rw [e]
        exact yj
      · simp only [if_pos z2, if_neg z]
        exact yj
    · by_cases z : k = j
      · simp only [if_neg z2, if_pos z]
        exact yi
      · simp only [if_neg z2, if_neg z]
        exact yk
/-- grades with two rows changed, n shifts -/
theorem mx_chg (ok : s_ok G K A U) (h : RM G K A L U x S) (hn : a3.toInt = n) (h40 : n ≤ 40) (h9 : A 0 0 + n ≤ 999) (hi : a1.toInt = i) (hj : a2.toInt = j) (hij : (i : Int) < G 0 6 ∧ (j : Int) < G 0 6) : ∃ S1 S2, F_m_changes o S a1 a2 = S1 ∧ F_m_runsOn o S1 a3 = S2 ∧ RM G K A L U x S2 ∧ (F_m_tubGrades o S2 (1 : Int32)).toInt = s_fg G K A n i j ∧ k_v 1 S S2 := by
  have hA := s_wp_ok (i := i) (j := j) ok (Or.inr hij)
  obtain ⟨S1, e1, r1, l1, k1⟩ := mx_changes (o := o) ok h hi hj hij
  obtain ⟨S2, L2, e2, r2, l2, k2⟩ := mx_runs1 (o := o) (a1 := a3) (n := n) ok r1 hA.2.2.1.1 hA.2.2.1.2 l1 hn h40 (by rw [s_wp_o (by decide) (by decide)]; exact h9)
  have okn := s_n_okU hA n
  exact ⟨S1, S2, e1, e2, r2, mx_tubGrades l2 okn.2.2.1.1 (by decide +kernel) (by decide), k1.tr k2⟩
def mx_chA (q : s_T) (u w y : Int32) : Prop := w.toInt = q.1 ∧ u.toInt = q.2.1 ∧ y.toInt = q.2.2
theorem mx_chin (ok : s_ok G K A U) (hn : a1.toInt = n) (h40 : n ≤ 40) (h9 : A 0 0 + n ≤ 999) {x5 iI : Int32} {S9 : dg_S} (h5 : (S9.2.1 9 x5.toNatClampNeg).toInt = G 0 6) (hk9 : k_v 1 S9 S) (hi : iI.toInt = i) (hlt : (i : Int) < G 0 6) {z : (Int32 × Int32 × Int32 × Int32 × dg_S) ⊕ (dg_S × Int32)} {u w y : Int32} {fu : Nat} (hf : 17 - (i + 1) + 1 ≤ fu) (h : RM G K A L U x S) (hq : mx_chA q u w y) : ∃ (T : dg_S) (u1 w1 y1 : Int32), lp (F_m_change_B4 x5 iI o a1) z fu (iI + 1, u, w, y, S) = F_m_change_J3 iI u1 w1 y1 T ∧ RM G K A L U x T ∧ mx_chA (s_ci (s_fg G K A n) i q ((G 0 6).toNat - (i + 1))) u1 w1 y1 ∧ k_v 1 S9 T := by
  have g6 := ok.1.1.2.2
  have e1 : (iI + 1).toInt = ((i + 1 : Nat) : Int) := by
    rw [dk_addT hi (b := 1) (by decide +kernel) (by omega) (by omega)]
    omega
  have main := lp_cnt (f := F_m_change_B4 x5 iI o a1) (z := z) (W := (G 0 6).toNat) (P := fun k s => RM G K A L U x s.2.2.2 ∧ mx_chA (s_ci (s_fg G K A n) i q (k - (i + 1))) s.1 s.2.1 s.2.2.1 ∧ i + 1 ≤ k ∧ k_v 1 S9 s.2.2.2) (Q := fun r => ∃ (T : dg_S) (u1 w1 y1 : Int32), r = F_m_change_J3 iI u1 w1 y1 T ∧ RM G K A L U x T ∧ mx_chA (s_ci (s_fg G K A n) i q ((G 0 6).toNat - (i + 1))) u1 w1 y1 ∧ k_v 1 S9 T) (by omega) (fun k kI s hk hkI hP => by
    obtain ⟨u, w, y, T⟩ := s
    obtain ⟨t1, t2, t4, t5⟩ := hP
    have t1 : RM G K A L U x T := t1
    have t5 : k_v 1 S9 T := t5
    have t2 : mx_chA (s_ci (s_fg G K A n) i q (k - (i + 1))) u w y := t2
    have h6 : (T.2.1 9 x5.toNatClampNeg).toInt = G 0 6 := by rw [t5.row (by decide)]; exact h5
    have q0 : ¬ T.2.1 9 x5.toNatClampNeg ≤ kI := fun z => by have := w_le.mp z; omega
    obtain ⟨T1, T2, f1, f2, f3, f4, f5⟩ := mx_chg (o := o) (a1 := iI) (a2 := kI) (a3 := a1) (i := i) (j := k) ok t1 hn h40 h9 hi hkI ⟨hlt, by omega⟩
    have ek : k + 1 - (i + 1) = (k - (i + 1)) + 1 := by omega
    have ek2 : i + 1 + (k - (i + 1)) = k := by omega
    obtain ⟨v6, v7, v8⟩ := t2
    by_cases q8 : y < F_m_tubGrades o T2 (1 : Int32)
    · have d8 := w_lt.mp q8
      rw [f4] at d8
      refine ⟨(kI, iI, _, T2), (F_m_change_p9 rfl q0 f1.symm f2.symm rfl q8 rfl).trans (F_m_change_p8 rfl), f3, ?_, by omega, t5.tr f5⟩
      rw [ek, s_ci_y (by rw [ek2]; omega), ek2]
      exact ⟨hi, hkI, f4⟩
    · have d8 : ¬ y.toInt < (F_m_tubGrades o T2 (1 : Int32)).toInt := fun z => q8 (w_lt.mpr z)
      rw [f4] at d8
      refine ⟨(u, w, y, T2), (F_m_change_p10 rfl q0 f1.symm f2.symm rfl q8).trans (F_m_change_p8 rfl), f3, ?_, by omega, t5.tr f5⟩
      rw [ek, s_ci_n (by rw [ek2]; omega)]
      exact ⟨v6, v7, v8⟩) (fun kI s hkI hP => by
    obtain ⟨u, w, y, T⟩ := s
    have t1 : RM G K A L U x T := hP.1
    have t5 : k_v 1 S9 T := hP.2.2.2
    have h6 : (T.2.1 9 x5.toNatClampNeg).toInt = G 0 6 := by rw [t5.row (by decide)]; exact h5
    exact ⟨_, F_m_change_p7 rfl (w_le.mpr (by omega)), T, u, w, y, rfl, hP.1, hP.2.1, t5⟩) fu (i + 1) (iI + 1) (u, w, y, S) (by omega) (by omega) e1 ⟨h, by rw [Nat.sub_self]; exact hq, Nat.le_refl _, hk9⟩
  exact main
theorem mx_change (ok : s_ok G K A U) (h : RM G K A L U x S) : ∃ (S1 : dg_S) (y : Int32), F_m_change o S a1 a2 = (S1, y) ∧ y.toInt = s_if (1 ≤ a1.toInt ∧ a1.toInt ≤ 20 ∧ A 0 0 + a1.toInt ≤ 999) (s_cv (s_cR G K A a1.toInt.toNat (G 0 6).toNat) a2.toInt) (-1) ∧ RM G K A L U x S1 := by
  have z0 : (0 : Int32).toInt = 0 := by decide +kernel
  have z1 : (1 : Int32).toInt = 1 := by decide +kernel
  have z2 : (2 : Int32).toInt = 2 := by decide +kernel
  have z20 : (20 : Int32).toInt = 20 := by decide +kernel
  have m1 : (-1 : Int32).toInt = -1 := by decide +kernel
  have hb := ok.1.1.2.2.2
  have g6 := ok.1.1.2.2
  have hcm := mx_come (o := o) (a1 := a1) (a2 := 1) (a3 := 20) h.1.1.1 h.2.1 ok.2.2.1.1 (by decide +kernel) (by decide +kernel)
  rw [z1, z20] at hcm
  rcases hcm with ⟨e, w⟩ | ⟨e, w⟩
  rotate_left
  · exact ⟨S, -1, F_m_change_p0 rfl e, by rw [s_if_n w]; exact m1, h⟩
  have ne : ¬ F_m_isAhead o S a1 (1 : Int32) (20 : Int32) = (0 : Int32) := by rw [e]; decide +kernel
  rw [s_if_y w]
  obtain ⟨m, hm⟩ : ∃ m : Nat, m = a1.toInt.toNat := ⟨_, rfl⟩
  rw [← hm]
  have hj := mx_is (o := o) (S := S) (a := a2) (b := 0) (c := 2)
  rw [z0, z2] at hj
  rcases hj with ⟨f, u⟩ | ⟨f, u⟩
  rotate_left
  · refine ⟨S, -1, F_m_change_p13 rfl ne rfl f, ?_, h⟩
    unfold s_cv
    rw [m1]
    split
    · rfl
    · rw [if_neg (by omega), if_neg (by omega), if_neg (by omega)]
  have nf : ¬ F_m_is o S a2 (0 : Int32) (2 : Int32) = (0 : Int32) := by rw [f]; decide +kernel
  obtain ⟨S2, e2, r2, l2, k2⟩ := mx_try1 (o := o) ok h
  obtain ⟨S3, L3, e3, r3, l3, k3⟩ := mx_runs1 (o := o) (a1 := a1) (n := m) ok r2 ok.2.2.1.1 ok.2.2.1.2 l2 (by omega) (by omega) (by omega)
  have okn := s_n_okU ok m
  have eg : (F_m_tubGrades o S3 (1 : Int32)).toInt = s_fg G K A m 0 0 := by
    unfold s_fg
    rw [s_wp_self]
    exact mx_tubGrades l3 okn.2.2.1.1 z1 (by decide)
  have h5 : (S.2.1 9 (zI S 0 13).toNatClampNeg).toInt = G 0 6 := h.1.1.1.2.2.2.2
  have main := lp_cnt (f := F_m_change_B2 S a2 o a1) (z := (S, (0 : Int32))) (W := (G 0 6).toNat) (P := fun k s => RM G K A L U x s.2.2.2 ∧ mx_chA (s_cR G K A m k) s.1 s.2.1 s.2.2.1 ∧ k_v 1 S s.2.2.2) (Q := fun r => ∃ (T : dg_S) (u1 w1 y1 : Int32), r = F_m_change_J1 w1 T a2 u1 y1 ∧ RM G K A L U x T ∧ mx_chA (s_cR G K A m (G 0 6).toNat) u1 w1 y1) (by omega) (fun k kI s hk hkI hP => by
    obtain ⟨u, w, y, T⟩ := s
    obtain ⟨t1, t2, t3⟩ := hP
    have t3 : k_v 1 S T := t3
    have h6 : (T.2.1 9 (zI S 0 13).toNatClampNeg).toInt = G 0 6 := by rw [t3.row (by decide)]; exact h5
    have q0 : ¬ T.2.1 9 (zI S 0 13).toNatClampNeg ≤ kI := fun z => by have := w_le.mp z; omega
    have e1 : (kI + (1 : Int32)).toInt = (k : Int) + 1 := dk_addT hkI (by decide +kernel) (by omega) (by omega)
    obtain ⟨T1, u1, w1, y1, l1, l2, l3, l4⟩ := mx_chin (o := o) (a1 := a1) (n := m) (i := k) (x5 := zI S 0 13) (iI := kI) (S9 := S) (z := Sum.inr (S, (0 : Int32))) (u := u) (w := w) (y := y) (fu := (17 - (kI + (1 : Int32)).toInt).toNat + 1) ok (by omega) (by omega) (by omega) h5 t3 hkI (by omega) (by omega) t1 t2
    exact ⟨(u1, w1, y1, T1), ((F_m_change_p11 rfl rfl q0 rfl).trans l1).trans (F_m_change_p6 rfl), l2, l3, l4⟩) (fun kI s hkI hP => by
    obtain ⟨u, w, y, T⟩ := s
    have t3 : k_v 1 S T := hP.2.2
    have h6 : (T.2.1 9 (zI S 0 13).toNatClampNeg).toInt = G 0 6 := by rw [t3.row (by decide)]; exact h5
    exact ⟨_, F_m_change_p5 rfl rfl (w_le.mpr (by omega)), T, u, w, y, rfl, hP.1, hP.2.1⟩) ((17 - ((0 : Int32)).toInt).toNat + 1) 0 0 ((-1 : Int32), (-1 : Int32), F_m_tubGrades o S3 (1 : Int32), S3) (by rw [z0]; omega) (by omega) z0 ⟨r3, ⟨m1, m1, eg⟩, k2.tr k3⟩
  rw [F_m_change_p12 rfl ne rfl nf e2.symm e3.symm rfl]
  obtain ⟨T, u1, w1, y1, eq, rT, v6, v7, v8⟩ := main
  rw [eq]
  unfold s_cv
  by_cases q : w1 = (-1 : Int32)
  · have d := dk_eqc m1 q
    rw [v6] at d
    refine ⟨T, _, F_m_change_p4 q, ?_, rT⟩
    rw [if_pos d]
    exact m1
  have d := dk_neqc m1 q
  rw [v6] at d
  rw [if_neg d]
  by_cases c0 : a2 = (0 : Int32)
  · have d0 := dk_eqc z0 c0
    refine ⟨T, _, F_m_change_p3 q c0, ?_, rT⟩
    rw [if_pos d0]
    exact v6
  have d0 := dk_neqc z0 c0
  rw [if_neg d0]
  by_cases c1 : a2 = (1 : Int32)
  · have d1 := dk_eqc z1 c1
    refine ⟨T, _, F_m_change_p2 q c0 c1, ?_, rT⟩
    rw [if_pos d1]
    exact v7
  have d1 := dk_neqc z1 c1
  rw [if_neg d1, if_pos (by omega)]
  exact ⟨T, _, F_m_change_p1 q c0 c1, v8, rT⟩
/-- CHANGE on both sides -/
theorem sim_change (ok : s_ok G K A U) (hX : RX oX g G K A L U x SX) (hs : cx_cc G K A SX) (hM : RM G K A L U x SM) : (F_d_change oX SX a1 a2).2 = (F_m_change oM SM a1 a2).2 ∧ RX oX g G K A L U x (F_d_change oX SX a1 a2).1 ∧ cx_cc G K A (F_d_change oX SX a1 a2).1 ∧ k_s5 SX (F_d_change oX SX a1 a2).1 ∧ RM G K A L U x (F_m_change oM SM a1 a2).1 := by
  obtain ⟨S1, y1, e1, v1, r1, c1, k1⟩ := cx_change (o := oX) (a1 := a1) (a2 := a2) ok hX hs
  obtain ⟨S2, y2, e2, v2, r2⟩ := mx_change (o := oM) (a1 := a1) (a2 := a2) ok hM
  rw [e1, e2]
  exact ⟨Int32.toInt_inj.mp (v1.trans v2.symm), r1, c1, k1, r2⟩
end ED
