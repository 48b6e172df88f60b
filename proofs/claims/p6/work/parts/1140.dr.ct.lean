/-! chance, both sides -/
/-- shift by shift by the seed: the pit, what is kept, the seed, how many cells are solid again -/
noncomputable def s_ch (G : aR) (K : Nat → List Int) (r : Int) : Nat → aR × s_L × Int × Int → aR × s_L × Int × Int
  | 0, q => q
  | n + 1, q => (s_tk G K r (s_qk G (s_ch G K r n q).1 (s_ch G K r n q).2.2.1).1, s_dL G K r (s_qk G (s_ch G K r n q).1 (s_ch G K r n q).2.2.1).1 (s_ch G K r n q).2.1, (s_qk G (s_ch G K r n q).1 (s_ch G K r n q).2.2.1).2.1, (s_ch G K r n q).2.2.2 + (s_qk G (s_ch G K r n q).1 (s_ch G K r n q).2.2.1).2.2)
section CH
variable {o g n : Nat} {G A A' : aR} {K : Nat → List Int} {L L' : s_L} {U : s_U} {S S0 S1 : dg_S} {x x' r : Int} {a a1 a2 : Int32}
theorem s_qk_ok (hw : s_wf G A) (hc : s_cw G A) : (s_wf G (s_qk G A x).1 ∧ s_cw G (s_qk G A x).1) ∧ (s_qk G A x).1 0 0 = A 0 0 ∧ (0 ≤ (s_qk G A x).2.1 ∧ (s_qk G A x).2.1 < 2147483648) ∧ ((s_qk G A x).2.2 = 0 ∨ (s_qk G A x).2.2 = 1) := by
  unfold s_qk
  by_cases q : s_dr x / 64 % 100 < G 0 4
  · rw [if_pos q]
    obtain ⟨h1, h2, h3, h4⟩ := s_cl_ok (c := s_qc G x) hw hc
    exact ⟨⟨h1, h2⟩, h3, s_dr_b _, h4⟩
  · rw [if_neg q]
    exact ⟨⟨hw, hc⟩, rfl, s_dr_b _, Or.inl rfl⟩
theorem s_ch_ok (hG : s_gw G) (hw : s_wf G A) (hcw : s_cw G A) (hx : 0 ≤ x ∧ x < 2147483648) : ∀ n : Nat, (s_wf G (s_ch G K r n (A, L, x, 0)).1 ∧ s_cw G (s_ch G K r n (A, L, x, 0)).1) ∧ (0 ≤ (s_ch G K r n (A, L, x, 0)).2.2.1 ∧ (s_ch G K r n (A, L, x, 0)).2.2.1 < 2147483648) ∧ (0 ≤ (s_ch G K r n (A, L, x, 0)).2.2.2 ∧ (s_ch G K r n (A, L, x, 0)).2.2.2 ≤ n)
  | 0 => ⟨⟨hw, hcw⟩, hx, Int.le_refl _, by show (0 : Int) ≤ ((0 : Nat) : Int); omega⟩
  | n + 1 => by
    obtain ⟨⟨h1, h2⟩, h3, h4, h5⟩ := s_ch_ok hG hw hcw hx n
    obtain ⟨⟨k1, k2⟩, k3, k4, k5⟩ := s_qk_ok (x := (s_ch G K r n (A, L, x, 0)).2.2.1) h1 h2
    refine ⟨⟨s_tk_wf hG k1 k2, s_tk_cw hG k1 k2⟩, k4, ?_, ?_⟩
    · show (0 : Int) ≤ (s_ch G K r n (A, L, x, 0)).2.2.2 + _
      omega
    · show (s_ch G K r n (A, L, x, 0)).2.2.2 + _ ≤ ((n + 1 : Nat) : Int)
      omega
theorem s_ch_00 (hG : s_gw G) (hw : s_wf G A) (hcw : s_cw G A) (hx : 0 ≤ x ∧ x < 2147483648) (h : A 0 0 + (n : Int) ≤ 999) : (s_ch G K r n (A, L, x, 0)).1 0 0 = A 0 0 + n := by
  induction n with
  | zero =>
    show A 0 0 = A 0 0 + ((0 : Nat) : Int)
    omega
  | succ n ih =>
    have e := ih (by omega)
    obtain ⟨⟨h1, h2⟩, -⟩ := s_ch_ok (K := K) (r := r) (L := L) hG hw hcw hx n
    have k3 := (s_qk_ok (x := (s_ch G K r n (A, L, x, 0)).2.2.1) h1 h2).2.1
    show s_tk G K r (s_qk G (s_ch G K r n (A, L, x, 0)).1 (s_ch G K r n (A, L, x, 0)).2.2.1).1 0 0 = A 0 0 + ((n + 1 : Nat) : Int)
    unfold s_tk
    rw [s_up_at, k3, e]
    omega
theorem s_dg_00 : (s_dg G K r A).1 0 0 = A 0 0 := by
  unfold s_dg
  by_cases q : s_no G A
  · rw [s_if_y q]
  · rw [s_if_n q]
    by_cases q2 : s_fa G K r A (A 4 (s_k G A))
    · rw [s_if_y q2]
      dsimp only
      rw [s_up_ne (fun z => absurd z.1 (by decide)), s_up_ne (fun z => absurd z.1 (by decide))]
    · rw [s_if_n q2]
      dsimp only
      rw [s_up_ne (fun z => absurd z.1 (by decide)), s_up_ne (fun z => absurd z.1 (by decide))]
/-- the class's quake within an act -/
theorem cx_quake (hG : s_gx G) (hx : 0 ≤ x ∧ x < 2147483648) (h6 : zR o S 0 6 = g) (hg : cx_g G K S g) (h12 : (zI S 0 12).toInt = x) (h : cx_in o g G K r A L S) : ∃ (S1 : dg_S) (y : Int32), F_d_quakeCloses o S = (S1, y) ∧ y.toInt = (s_qk G A x).2.2 ∧ (zI S1 0 12).toInt = (s_qk G A x).2.1 ∧ cx_in o g G K r (s_qk G A x).1 L S1 ∧ kp (fun a b => (a = 0 ∧ b = 12) ∨ (a = 214 ∧ b = 9)) (fun a => a = 4) S S1 := by
  have z0 : (0 : Int32).toInt = 0 := by decide +kernel
  have z100 : (100 : Int32).toInt = 100 := by decide +kernel
  have sep := rX_sep hg.1.1
  have hg0 := hg
  obtain ⟨-, ⟨f0, f1, f3, f4, -⟩, -⟩ := hg
  obtain ⟨i7, i6, i8, igt, ip, ik, il⟩ := h
  have hgb := hG.1.1
  have hq := hG.2.2.1
  unfold s_qk
  obtain ⟨S2, x1, e1, v1, n1, k1⟩ := cx_draw (o := o) (a1 := 100) h12 hx (by rw [z100]; decide)
  rw [z100] at v1
  have e11 : S2 = (F_d_draw o S (100 : Int32)).1 := by rw [e1]
  have e12 : x1 = (F_d_draw o S (100 : Int32)).2 := by rw [e1]
  have W : ∀ {Sa Sb : dg_S}, kp (fun a b => a = 0 ∧ b = 12) (fun _ => False) Sa Sb → kp (fun a b => (a = 0 ∧ b = 12) ∨ (a = 214 ∧ b = 9)) (fun a => a = 4) Sa Sb := fun t => t.w (fun a b z => Or.inl z) (fun a z => absurd z id)
  have IN : ∀ {Sb : dg_S}, kp (fun a b => a = 0 ∧ b = 12) (fun _ => False) S Sb → cx_in o g G K r A L Sb := fun {Sb} t => ⟨by rw [t.R (by decide)]; exact i7, by rw [t.R (by decide)]; exact i6, by rw [t.I (by decide)]; exact i8, igt.keep (fun i _ _ => (t.2 i id).1) (fun b => t.I (fun z => by omega)), ip.keep (fun i _ _ => (t.2 i id).1) (fun b _ => t.I (fun z => by omega)), ik.keep (t.I (by decide)) (t.2 18 id).1, by
    rcases il with z | z
    · exact Or.inl (by rw [t.I (by decide)]; exact z)
    · exact Or.inr (z.sm rfl rfl rfl (t.2 217 id).1 (t.2 218 id).1 (t.2 219 id).1 (t.I (by decide)))⟩
  by_cases q : x1 < zI S g 4
  rotate_left
  · have d : ¬ x1.toInt < (zI S g 4).toInt := fun z => q (w_lt.mpr z)
    rw [v1, f4] at d
    rw [if_neg d]
    exact ⟨S2, 0, F_d_quakeCloses_p2 e11 e12 h6.symm rfl q, z0, n1, IN k1, W k1⟩
  have d := w_lt.mp q
  rw [v1, f4] at d
  rw [if_pos d]
  obtain ⟨S10, x9, e9, v9, n9, k9⟩ := cx_draw (o := o) (S := S2) (a1 := zI S g 0) n1 (s_dr_b _) (by omega)
  have e91 : S10 = (F_d_draw o S2 (zI S g 0)).1 := by rw [e9]
  have e92 : x9 = (F_d_draw o S2 (zI S g 0)).2 := by rw [e9]
  obtain ⟨S13, x12, e3, v12, n12, k12⟩ := cx_draw (o := o) (S := S10) (a1 := zI S g 1) n9 (s_dr_b _) (by omega)
  have e31 : S13 = (F_d_draw o S10 (zI S g 1)).1 := by rw [e3]
  have e32 : x12 = (F_d_draw o S10 (zI S g 1)).2 := by rw [e3]
  rw [f0] at v9
  rw [f1] at v12
  have t13 := (k1.tr k9).tr k12
  obtain ⟨j7, j6, j8, jgt, jp, jk, jl⟩ := IN t13
  have g13 : cx_g G K S13 g := hg0.keep (fun i _ _ => (t13.2 i id).1) (fun b => t13.I (fun z => by omega))
  have b1 := Int.emod_nonneg (s_dr (s_dr x) / 64) (show G 0 0 ≠ 0 by omega)
  have b2 := Int.emod_lt_of_pos (s_dr (s_dr x) / 64) (show 0 < G 0 0 by omega)
  have b3 := Int.emod_nonneg (s_dr (s_dr (s_dr x)) / 64) (show G 0 1 ≠ 0 by omega)
  have b4 := Int.emod_lt_of_pos (s_dr (s_dr (s_dr x)) / 64) (show 0 < G 0 1 by omega)
  rcases cx_place (o := o) (a1 := x9) (a2 := x12) g13 hgb with ⟨p1, p2, p3, p4⟩ | ⟨p1, -⟩
  rotate_left
  · exfalso
    exact p1 ⟨⟨by omega, by omega⟩, by omega, by omega⟩
  have ec : 8 * x12.toInt + x9.toInt = s_qc G x := by
    rw [v9, v12]
    rfl
  rw [ec] at p3 p4
  obtain ⟨S17, x16, e16, v16, p17, l17, k17⟩ := cx_close (o := o) (a1 := F_g_placeOf o S13 g x9 x12) pX_3' j7 j6 jgt jp p4 p3 jl
  have e161 : S17 = (F_w_closeCell o S13 (F_g_placeOf o S13 g x9 x12)).1 := by rw [e16]
  have e162 : x16 = (F_w_closeCell o S13 (F_g_placeOf o S13 g x9 x12)).2 := by rw [e16]
  refine ⟨S17, x16, ?_, v16, by rw [k17.I (by decide)]; exact n12, ⟨by rw [k17.R (by decide)]; exact j7, by rw [k17.R (by decide)]; exact j6, by rw [k17.I (by decide)]; exact j8, jgt.keep (fun i _ _ => (k17.2 i (fun z => by omega)).1) (fun b => k17.I (fun z => by omega)), p17, jk.keep (k17.I (by decide)) (k17.2 18 (by decide)).1, l17⟩, (W t13).tr (k17.w (fun a b z => Or.inr z) (fun a z => z))⟩
  rw [F_d_quakeCloses_p1 e11 e12 h6.symm rfl q rfl e91 e92 rfl e31 e32 rfl e161 e162]
  exact F_d_quakeCloses_p0
/-- CHANCE of the class, where it comes -/
theorem cx_chance (ok : s_ok G K A U) (hx : 0 ≤ x ∧ x < 2147483648) (h : RX o g G K A L U x S) (hn : a1.toInt = n) (h1 : 1 ≤ n) (h40 : n ≤ 40) (h9 : A 0 0 + n ≤ 999) : ∃ (S1 : dg_S) (y : Int32), F_d_chance o S a1 = (S1, y) ∧ y.toInt = (s_ch G K (G 0 3) n (A, L, x, 0)).2.2.2 ∧ RX o g G K (s_ch G K (G 0 3) n (A, L, x, 0)).1 (s_ch G K (G 0 3) n (A, L, x, 0)).2.1 (s_ud U (A, L)) (s_ch G K (G 0 3) n (A, L, x, 0)).2.2.1 S1 := by
  obtain ⟨hG, hK, ⟨hw, hcw⟩, -⟩ := ok
  have z0 : (0 : Int32).toInt = 0 := by decide +kernel
  obtain ⟨S4, e4, r4, k4⟩ := cx_act (o := o) hG h
  have sep := rX_sep h.2.1.1.1
  obtain ⟨S7, e7, f7, f6, f8, f9, k7⟩ := cx_enter (o := o) (S := S4) (g := g) (p := 3) (a := zI S g 3)
  have r3 : (zI S g 3).toInt = G 0 3 := h.2.1.2.1.2.2.1
  have r7 : RX o g G K A L (s_ud U (A, L)) x S7 := r4.keep k7 (by decide) (by decide) (fun a b _ _ => by omega) (fun b => by omega) (fun b => by omega) (fun a b _ _ => by omega) (fun a _ _ => id) (fun a _ _ => id) id (fun a _ _ => id)
  have i7 : cx_in o g G K (G 0 3) A L S7 := ⟨f7, f6, by rw [f8]; exact r3, r7.2.1.1, r7.2.2.1, r7.2.2.2.1, Or.inl f9⟩
  have come : ¬ F_d_shiftsCome o S (1 : Int32) a1 (40 : Int32) = (0 : Int32) := by
    rcases cx_come (o := o) (a1 := 1) (a2 := a1) (a3 := 40) h.2.1 h.1 hG.1 hw h.2.2.1 (by decide +kernel) (by decide +kernel) with ⟨e, -⟩ | ⟨-, e⟩
    · rw [e]; decide +kernel
    · exfalso
      apply e
      rw [hn, show (1 : Int32).toInt = 1 by decide +kernel, show (40 : Int32).toInt = 40 by decide +kernel]
      omega
  have main := lp_cnt (f := F_d_chance_B1 a1 o) (z := (S, (0 : Int32))) (W := n) (P := fun c s => s.1.toInt = (s_ch G K (G 0 3) c (A, L, x, 0)).2.2.2 ∧ RX o g G K (s_ch G K (G 0 3) c (A, L, x, 0)).1 (s_ch G K (G 0 3) c (A, L, x, 0)).2.1 (s_ud U (A, L)) (s_ch G K (G 0 3) c (A, L, x, 0)).2.2.1 s.2 ∧ cx_in o g G K (G 0 3) (s_ch G K (G 0 3) c (A, L, x, 0)).1 (s_ch G K (G 0 3) c (A, L, x, 0)).2.1 s.2) (Q := fun q => q.2.toInt = (s_ch G K (G 0 3) n (A, L, x, 0)).2.2.2 ∧ RX o g G K (s_ch G K (G 0 3) n (A, L, x, 0)).1 (s_ch G K (G 0 3) n (A, L, x, 0)).2.1 (s_ud U (A, L)) (s_ch G K (G 0 3) n (A, L, x, 0)).2.2.1 q.1) (by omega) (fun c cI s hc hcI hP => by
    obtain ⟨m, T⟩ := s
    obtain ⟨p1, p2, p3⟩ := hP
    obtain ⟨okc, xc, nb1, nb2⟩ := s_ch_ok (K := K) (r := G 0 3) (L := L) hG.1 hw hcw hx c
    obtain ⟨⟨qw, qc⟩, -, -, q01⟩ := s_qk_ok (x := (s_ch G K (G 0 3) c (A, L, x, 0)).2.2.1) okc.1 okc.2
    have q0 : ¬ a1 ≤ cI := fun z => by have := w_le.mp z; omega
    obtain ⟨T1, y1, e1, w1, n1, i1, k1⟩ := cx_quake (o := o) hG xc p2.1 p2.2.1 p2.2.2.2.2.2 p3
    obtain ⟨T2, y2, e2, w2, i2, k2⟩ := cx_pk (o := o) hG.1 hK qw qc ⟨by have := hG.2.1; omega, by have := hG.2.1; omega⟩ i1
    have fl : (F_flag o T1 y1).toInt = y1.toInt := by
      by_cases u : y1 = (0 : Int32)
      · rw [F_flag_p0 u, u]
      · rw [F_flag_p1 u]
        have := dk_neqc (k := 0) z0 u
        have z1 : (1 : Int32).toInt = 1 := by decide +kernel
        omega
    refine ⟨(m + F_flag o T1 y1, T2), F_d_chance_p1 q0 (by rw [e1]) (show y1 = _ by rw [e1]) rfl rfl (by rw [e2]) rfl, ?_, ?_, i2⟩
    · have p1 : m.toInt = (s_ch G K (G 0 3) c (A, L, x, 0)).2.2.2 := p1
      show (m + F_flag o T1 y1).toInt = (s_ch G K (G 0 3) c (A, L, x, 0)).2.2.2 + _
      exact dk_addT p1 (fl.trans w1) (by omega) (by omega)
    · -- all the rest stays
      have r1 : RX o g G K (s_qk G (s_ch G K (G 0 3) c (A, L, x, 0)).1 (s_ch G K (G 0 3) c (A, L, x, 0)).2.2.1).1 (s_ch G K (G 0 3) c (A, L, x, 0)).2.1 (s_ud U (A, L)) (s_qk G (s_ch G K (G 0 3) c (A, L, x, 0)).1 (s_ch G K (G 0 3) c (A, L, x, 0)).2.2.1).2.1 T1 := by
        obtain ⟨h1, h2, h3, h4, h5, h6⟩ := p2
        exact ⟨by rw [k1.R (by decide)]; exact h1, h2.keep (fun i _ _ => (k1.2 i (fun z => by omega)).1) (fun b => k1.I (fun z => by omega)), i1.2.2.2.2.1, h4.keep (k1.I (by decide)) (k1.2 18 (by decide)).1, h5.keep (k1.I (by decide)) (k1.I (by decide)) (fun i _ _ => (k1.2 i (fun z => by omega)).1) (fun a b _ _ => k1.I (fun z => by omega)), n1⟩
      exact r1.act k2 i2.2.2.2.2.1 i2.2.2.2.2.2.1 (by decide) (by decide) (fun a b _ _ => by omega) (by decide) (fun a b _ _ => by omega) (fun a _ _ => by omega) (fun a _ _ => by omega)) (fun cI s hcI hP => by
    obtain ⟨m, T⟩ := s
    exact ⟨(T, m), F_d_chance_p0 (w_le.mpr (by omega)), hP.1, hP.2.1⟩) ((2147483648 - ((0 : Int32)).toInt).toNat + 1) 0 0 (0, S7) (by rw [z0]; omega) (by omega) z0 ⟨z0, r7, i7⟩
  rw [F_d_chance_p2 rfl come e4.symm h.1.symm rfl e7.symm]
  exact ⟨_, _, rfl, main.1, main.2⟩
/-- the reference's quake -/
theorem mx_quake (ok : s_ok G K A U) (hx : 0 ≤ x ∧ x < 2147483648) (h : RM G K A L U x S) (h9 : A 0 0 < 999) (e13 : zI S0 0 13 = zI S 0 13) {m cI w : Int32} (hm : m.toInt = r) (hr : 0 ≤ r ∧ r ≤ 100) (q0 : ¬ a1 ≤ cI) : ∃ (S1 : dg_S) (m1 w1 : Int32), F_m_chance_B1 a1 o S0 (cI, m, w, S) = .inl (cI + 1, m1, w1, S1) ∧ m1.toInt = r + (s_qk G A x).2.2 ∧ RM G K (s_tk G K (G 0 3) (s_qk G A x).1) (s_dL G K (G 0 3) (s_qk G A x).1 L) U (s_qk G A x).2.1 S1 ∧ zI S0 0 13 = zI S1 0 13 := by
  have z0 : (0 : Int32).toInt = 0 := by decide +kernel
  have z100 : (100 : Int32).toInt = 100 := by decide +kernel
  have hb := ok.1.1.2.2.2
  have hgb := ok.1.1.1
  obtain ⟨⟨qw, qc⟩, q00, -, -⟩ := s_qk_ok (x := x) ok.2.2.1.1 ok.2.2.1.2
  have okq : s_ok G K (s_qk G A x).1 U := ⟨ok.1, ok.2.1, ⟨qw, qc⟩, ok.2.2.2⟩
  have q9 : (s_qk G A x).1 0 0 < 999 := by rw [q00]; exact h9
  unfold s_qk at okq q9 ⊢
  obtain ⟨S2, x1, e1, v1, n1, k1⟩ := mx_draw (o := o) (a1 := 100) h.2.2.2.2 hx (by rw [z100]; decide)
  rw [z100] at v1
  have e11 : S2 = (F_m_draw o S (100 : Int32)).1 := by rw [e1]
  have e12 : x1 = (F_m_draw o S (100 : Int32)).2 := by rw [e1]
  have r2 := h.sx hb k1 n1
  have i13 : zI S2 0 13 = zI S 0 13 := k1.I (by decide)
  have f6 : (S2.2.1 6 (zI S0 0 13).toNatClampNeg).toInt = G 0 4 := by rw [e13, ← i13]; exact r2.1.2.1.2.1
  by_cases q : S2.2.1 6 (zI S0 0 13).toNatClampNeg ≤ x1
  · have d := w_le.mp q
    rw [v1, f6] at d
    rw [if_neg (show ¬ s_dr x / 64 % 100 < G 0 4 by omega)] at okq q9 ⊢
    obtain ⟨S3, y, e3, y3, r3, b13⟩ := mx_tick0 (o := o) okq r2 q9
    refine ⟨S3, m, _, F_m_chance_p1 q0 e11 e12 rfl rfl q (by rw [e3]) rfl rfl, by rw [hm]; show r = r + 0; omega, r3, ?_⟩
    rw [b13, i13, e13]
  have d : ¬ (S2.2.1 6 (zI S0 0 13).toNatClampNeg).toInt ≤ x1.toInt := fun z => q (w_le.mpr z)
  rw [v1, f6] at d
  rw [if_pos (show s_dr x / 64 % 100 < G 0 4 by omega)] at okq q9 ⊢
  have f2 : (S2.2.1 2 (zI S0 0 13).toNatClampNeg).toInt = G 0 0 := by rw [e13, ← i13]; exact r2.1.1.1.2.1
  obtain ⟨S9, x9, e9, v9, n9, k9⟩ := mx_draw (o := o) (S := S2) (a1 := S2.2.1 2 (zI S0 0 13).toNatClampNeg) n1 (s_dr_b _) (by omega)
  have e91 : S9 = (F_m_draw o S2 (S2.2.1 2 (zI S0 0 13).toNatClampNeg)).1 := by rw [e9]
  have e92 : x9 = (F_m_draw o S2 (S2.2.1 2 (zI S0 0 13).toNatClampNeg)).2 := by rw [e9]
  have r9 := r2.sx hb k9 n9
  have j13 : zI S9 0 13 = zI S2 0 13 := k9.I (by decide)
  have f3 : (S9.2.1 3 (zI S0 0 13).toNatClampNeg).toInt = G 0 1 := by rw [e13, ← i13, ← j13]; exact r9.1.1.1.2.2.1
  obtain ⟨S12, x12, e10, v12, n12, k12⟩ := mx_draw (o := o) (S := S9) (a1 := S9.2.1 3 (zI S0 0 13).toNatClampNeg) n9 (s_dr_b _) (by omega)
  have e101 : S12 = (F_m_draw o S9 (S9.2.1 3 (zI S0 0 13).toNatClampNeg)).1 := by rw [e10]
  have e102 : x12 = (F_m_draw o S9 (S9.2.1 3 (zI S0 0 13).toNatClampNeg)).2 := by rw [e10]
  have r12 := r9.sx hb k12 n12
  have l13 : zI S12 0 13 = zI S9 0 13 := k12.I (by decide)
  rw [f2] at v9
  rw [f3] at v12
  have b1 := Int.emod_nonneg (s_dr (s_dr x) / 64) (show G 0 0 ≠ 0 by omega)
  have b2 := Int.emod_lt_of_pos (s_dr (s_dr x) / 64) (show 0 < G 0 0 by omega)
  have b3 := Int.emod_nonneg (s_dr (s_dr (s_dr x)) / 64) (show G 0 1 ≠ 0 by omega)
  have b4 := Int.emod_lt_of_pos (s_dr (s_dr (s_dr x)) / 64) (show 0 < G 0 1 by omega)
  have e15 : ((8 : Int32) * x12 + x9).toInt = s_qc G x := by
    rw [dk_addT (dk_mulT (a := 8) (by decide +kernel) v12 (by omega) (by omega)) v9 (by omega) (by omega)]
    rfl
  have hc : s_in G (s_qc G x) := by
    unfold s_qc
    generalize s_dr (s_dr (s_dr x)) / 64 % G 0 1 = u at b3 b4 ⊢
    generalize s_dr (s_dr x) / 64 % G 0 0 = t at b1 b2 ⊢
    refine ⟨⟨by omega, by omega⟩, by omega, by omega⟩
  obtain ⟨S16, y16, e16, v16, l16, k16⟩ := mx_close (o := o) (a1 := 0) (a2 := (8 : Int32) * x12 + x9) hb r12.1.1.1 r12.2.1 z0 (by decide) hc e15
  have e161 : S16 = (F_m_isSolidBy o S12 (0 : Int32) ((8 : Int32) * x12 + x9)).1 := by rw [e16]
  have e162 : y16 = (F_m_isSolidBy o S12 (0 : Int32) ((8 : Int32) * x12 + x9)).2 := by rw [e16]
  have r16 := r12.v hb k16 (by decide) l16
  have m13 : zI S16 0 13 = zI S12 0 13 := k16.I
  have cl := s_cl_ok (c := s_qc G x) ok.2.2.1.1 ok.2.2.1.2
  obtain ⟨S3, y, e3, y3, r3, b13⟩ := mx_tick0 (o := o) okq r16 q9
  have hd := F_m_chance_p4 (S := S0) (x_266 := m) (rw_267_0 := w) q0 e11 e12 rfl rfl q rfl e91 e92 rfl e101 e102 rfl rfl e161 e162
  by_cases u : y16 = (0 : Int32)
  · have du := dk_eqc z0 u
    refine ⟨S3, m, _, hd.trans (F_m_chance_p2 u (by rw [e3]) rfl rfl), ?_, r3, ?_⟩
    · show m.toInt = r + (s_cl G A (s_qc G x)).2
      omega
    · rw [b13, m13, l13, j13, i13, e13]
  · have du := dk_neqc z0 u
    refine ⟨S3, m + (1 : Int32), _, hd.trans (F_m_chance_p3 u rfl (by rw [e3]) rfl rfl), ?_, r3, ?_⟩
    · show (m + (1 : Int32)).toInt = r + (s_cl G A (s_qc G x)).2
      rw [dk_addT hm (b := 1) (by decide +kernel) (by omega) (by omega)]
      omega
    · rw [b13, m13, l13, j13, i13, e13]
/-- CHANCE of the reference, where it comes -/
theorem mx_chance (ok : s_ok G K A U) (hx : 0 ≤ x ∧ x < 2147483648) (h : RM G K A L U x S) (hn : a1.toInt = n) (h1 : 1 ≤ n) (h40 : n ≤ 40) (h9 : A 0 0 + n ≤ 999) : ∃ (S1 : dg_S) (y : Int32), F_m_chance o S a1 = (S1, y) ∧ y.toInt = (s_ch G K (G 0 3) n (A, L, x, 0)).2.2.2 ∧ RM G K (s_ch G K (G 0 3) n (A, L, x, 0)).1 (s_ch G K (G 0 3) n (A, L, x, 0)).2.1 (s_ud U (A, L)) (s_ch G K (G 0 3) n (A, L, x, 0)).2.2.1 S1 := by
  have z0 : (0 : Int32).toInt = 0 := by decide +kernel
  obtain ⟨S2, e2, r2, k2⟩ := mx_act (o := o) ok.1 h
  have okU := s_ud_ok (L := L) ok
  have come : ¬ F_m_isAhead o S a1 (1 : Int32) (40 : Int32) = (0 : Int32) := by
    rcases mx_come (o := o) (a1 := a1) (a2 := 1) (a3 := 40) h.1.1.1 h.2.1 ok.2.2.1.1 (by decide +kernel) (by decide +kernel) with ⟨e, -⟩ | ⟨-, e⟩
    · rw [e]; decide +kernel
    · exfalso
      apply e
      rw [hn, show (1 : Int32).toInt = 1 by decide +kernel, show (40 : Int32).toInt = 40 by decide +kernel]
      omega
  have main := lp_cnt (f := F_m_chance_B1 a1 o S) (z := (S, (0 : Int32))) (W := n) (P := fun c s => s.1.toInt = (s_ch G K (G 0 3) c (A, L, x, 0)).2.2.2 ∧ RM G K (s_ch G K (G 0 3) c (A, L, x, 0)).1 (s_ch G K (G 0 3) c (A, L, x, 0)).2.1 (s_ud U (A, L)) (s_ch G K (G 0 3) c (A, L, x, 0)).2.2.1 s.2.2 ∧ zI S 0 13 = zI s.2.2 0 13) (Q := fun q => q.2.toInt = (s_ch G K (G 0 3) n (A, L, x, 0)).2.2.2 ∧ RM G K (s_ch G K (G 0 3) n (A, L, x, 0)).1 (s_ch G K (G 0 3) n (A, L, x, 0)).2.1 (s_ud U (A, L)) (s_ch G K (G 0 3) n (A, L, x, 0)).2.2.1 q.1) (by omega) (fun c cI s hc hcI hP => by
    obtain ⟨m, w, T⟩ := s
    obtain ⟨p1, p2, p3⟩ := hP
    obtain ⟨okc, xc, nb1, nb2⟩ := s_ch_ok (K := K) (r := G 0 3) (L := L) ok.1.1 ok.2.2.1.1 ok.2.2.1.2 hx c
    have e00 := s_ch_00 (n := c) (K := K) (r := G 0 3) (L := L) ok.1.1 ok.2.2.1.1 ok.2.2.1.2 hx (by omega)
    have q0 : ¬ a1 ≤ cI := fun z => by have := w_le.mp z; omega
    obtain ⟨S1, m1, w1, f1, f2, f3, f4⟩ := mx_quake (o := o) (a1 := a1) (cI := cI) (w := w) (S0 := S) ⟨ok.1, ok.2.1, okc, okU.2.2.2⟩ xc p2 (by rw [e00]; omega) p3 p1 ⟨nb1, by omega⟩ q0
    exact ⟨(m1, w1, S1), f1, f2, f3, f4⟩) (fun cI s hcI hP => by
    obtain ⟨m, w, T⟩ := s
    exact ⟨(T, m), F_m_chance_p0 (w_le.mpr (by omega)), hP.1, hP.2.1⟩) ((41 - ((0 : Int32)).toInt).toNat + 1) 0 0 (0, S2.2.1 29 (0 : Int32).toNatClampNeg, S2) (by rw [z0]; omega) (by omega) z0 ⟨z0, r2, (k2.1.I (by decide)).symm⟩
  rw [F_m_chance_p5 rfl come e2.symm rfl]
  exact ⟨_, _, rfl, main.1, main.2⟩
/-- CHANCE on both sides -/
theorem sim_chance {oX oM : Nat} {SX SM : dg_S} (ok : s_ok G K A U) (hx : 0 ≤ x ∧ x < 2147483648) (hX : RX oX g G K A L U x SX) (hM : RM G K A L U x SM) : ∃ (A' : aR) (L' : s_L) (U' : s_U) (x' : Int), (F_d_chance oX SX a1).2 = (F_m_chance oM SM a1).2 ∧ s_ok G K A' U' ∧ (0 ≤ x' ∧ x' < 2147483648) ∧ RX oX g G K A' L' U' x' (F_d_chance oX SX a1).1 ∧ RM G K A' L' U' x' (F_m_chance oM SM a1).1 := by
  have z1 : (1 : Int32).toInt = 1 := by decide +kernel
  have z40 : (40 : Int32).toInt = 40 := by decide +kernel
  have cX := cx_come (o := oX) (a1 := 1) (a2 := a1) (a3 := 40) hX.2.1 hX.1 ok.1.1 ok.2.2.1.1 hX.2.2.1 (by decide +kernel) (by decide +kernel)
  have cM := mx_come (o := oM) (a1 := a1) (a2 := 1) (a3 := 40) hM.1.1.1 hM.2.1 ok.2.2.1.1 (by decide +kernel) (by decide +kernel)
  rw [z1, z40] at cX cM
  by_cases q : 1 ≤ a1.toInt ∧ a1.toInt ≤ 40 ∧ A 0 0 + a1.toInt ≤ 999
  · obtain ⟨n, hn⟩ : ∃ n : Nat, a1.toInt = n := ⟨a1.toInt.toNat, by omega⟩
    obtain ⟨S1, y, e1, y1, r1⟩ := cx_chance (o := oX) ok hx hX hn (by omega) (by omega) (by omega)
    obtain ⟨S2, w, e2, w2, r2⟩ := mx_chance (o := oM) ok hx hM hn (by omega) (by omega) (by omega)
    obtain ⟨okc, xc, -⟩ := s_ch_ok (K := K) (r := G 0 3) (L := L) ok.1.1 ok.2.2.1.1 ok.2.2.1.2 hx n
    rw [e1, e2]
    exact ⟨_, _, _, _, Int32.toInt_inj.mp (y1.trans w2.symm), ⟨ok.1, ok.2.1, okc, (s_ud_ok ok).2.2.2⟩, xc, r1, r2⟩
  · have e1 : F_d_shiftsCome oX SX (1 : Int32) a1 (40 : Int32) = 0 := by
      rcases cX with ⟨-, e⟩ | ⟨e, -⟩
      · exact absurd e q
      · exact e
    have e2 : F_m_isAhead oM SM a1 (1 : Int32) (40 : Int32) = 0 := by
      rcases cM with ⟨-, e⟩ | ⟨e, -⟩
      · exact absurd e q
      · exact e
    obtain ⟨S1, -, f1, r1, -⟩ := cx_no (o := oX) (a1 := 2) (k := 2) hX (by decide +kernel)
    obtain ⟨S2, f2, r2, -⟩ := mx_ref (o := oM) (a1 := 2) (k := 2) ok.1.1.2.2.2 hM (by decide +kernel)
    rw [F_d_chance_p3 rfl e1 rfl rfl, F_m_chance_p6 rfl e2 rfl rfl, f1, f2]
    exact ⟨A, L, U, x, rfl, ok, hx, r1, r2⟩
end CH
