section
/-! chance, both sides -/
/-- shift by shift by the seed: the pit, what is kept, the seed, how many cells are solid again -/
noncomputable def s_ch (G : aR) (K : Nat → List Int) (r : Int) : Nat → aR × s_L × Int × Int → aR × s_L × Int × Int
  | 0, q => q
  | n + 1, q => (s_tk G K r (s_qk G (s_ch G K r n q).1 (s_ch G K r n q).2.2.1).1, s_dL G K r (s_qk G (s_ch G K r n q).1 (s_ch G K r n q).2.2.1).1 (s_ch G K r n q).2.1, (s_qk G (s_ch G K r n q).1 (s_ch G K r n q).2.2.1).2.1, (s_ch G K r n q).2.2.2 + (s_qk G (s_ch G K r n q).1 (s_ch G K r n q).2.2.1).2.2)
section CH
variable {o g n : Nat} {G A A' : aR} {K : Nat → List Int} {L L' : s_L} {U : s_U} {S S0 S1 : dg_S} {x x' r : Int} {a a1 a2 : Int32}
theorem s_qk_ok (hw : s_wf G A) (hc : s_cw G A) : (s_wf G (s_qk G A x).1 ∧ s_cw G (s_qk G A x).1) ∧ (s_qk G A x).1 0 0 = A 0 0 ∧ (0 ≤ (s_qk G A x).2.1 ∧ (s_qk G A x).2.1 < 2147483648) ∧ ((s_qk G A x).2.2 = 0 ∨ (s_qk G A x).2.2 = 1) := by
  unfold s_qk
  by_cases q : s_dr x / 64 % 100 < G 0 4
  · rw [if_pos q]
    obtain ⟨h1, h2, h3, h4⟩ := s_cl_ok (c := s_qc G x) hw hc
    exact ⟨⟨h1, h2⟩, h3, s_dr_b _, h4⟩
  · rw [if_neg q]
    exact ⟨⟨hw, hc⟩, rfl, s_dr_b _, Or.inl rfl⟩
theorem s_ch_ok (hG : s_gw G) (hw : s_wf G A) (hcw : s_cw G A) (hx : 0 ≤ x ∧ x < 2147483648) : ∀ n : Nat, (s_wf G (s_ch G K r n (A, L, x, 0)).1 ∧ s_cw G (s_ch G K r n (A, L, x, 0)).1) ∧ (0 ≤ (s_ch G K r n (A, L, x, 0)).2.2.1 ∧ (s_ch G K r n (A, L, x, 0)).2.2.1 < 2147483648) ∧ (0 ≤ (s_ch G K r n (A, L, x, 0)).2.2.2 ∧ (s_ch G K r n (A, L, x, 0)).2.2.2 ≤ n)
  | 0 => ⟨⟨hw, hcw⟩, hx, Int.le_refl _, by show (0 : Int) ≤ ((0 : Nat) : Int); omega⟩
  | n + 1 => by
    obtain ⟨⟨h1, h2⟩, h3, h4, h5⟩ := s_ch_ok hG hw hcw hx n
    obtain ⟨⟨k1, k2⟩, k3, k4, k5⟩ := s_qk_ok (x := (s_ch G K r n (A, L, x, 0)).2.2.1) h1 h2
    refine ⟨⟨s_tk_wf hG k1 k2, s_tk_cw hG k1 k2⟩, k4, ?_, ?_⟩
    · show (0 : Int) ≤ (s_ch G K r n (A, L, x, 0)).2.2.2 + _
      omega
    · show (s_ch G K r n (A, L, x, 0)).2.2.2 + _ ≤ ((n + 1 : Nat) : Int)
      omega
theorem s_ch_00 (hG : s_gw G) (hw : s_wf G A) (hcw : s_cw G A) (hx : 0 ≤ x ∧ x < 2147483648) (h : A 0 0 + (n : Int) ≤ 999) : (s_ch G K r n (A, L, x, 0)).1 0 0 = A 0 0 + n := by
  induction n with
  | zero =>
    show A 0 0 = A 0 0 + ((0 : Nat) : Int)
    omega
  | succ n ih =>
    have e := ih (by omega)
    obtain ⟨⟨h1, h2⟩, -⟩ := s_ch_ok (K := K) (r := r) (L := L) hG hw hcw hx n
    have k3 := (s_qk_ok (x := (s_ch G K r n (A, L, x, 0)).2.2.1) h1 h2).2.1
    show s_tk G K r (s_qk G (s_ch G K r n (A, L, x, 0)).1 (s_ch G K r n (A, L, x, 0)).2.2.1).1 0 0 = A 0 0 + ((n + 1 : Nat) : Int)
    unfold s_tk
    rw [s_up_at, k3, e]
    omega
theorem s_dg_00 : (s_dg G K r A).1 0 0 = A 0 0 := by
  unfold s_dg
  by_cases q : s_no G A
  · rw [s_if_y q]
  · rw [s_if_n q]
    by_cases q2 : s_fa G K r A (A 4 (s_k G A))
    · rw [s_if_y q2]
      dsimp only
      rw [s_up_ne (fun z => absurd z.1 (by decide)), s_up_ne (fun z => absurd z.1 (by decide))]
    · rw [s_if_n q2]
      dsimp only
      rw [s_up_ne (fun z => absurd z.1 (by decide)), s_up_ne (fun z => absurd z.1 (by decide))]
/-- the class's quake within an act -/
theorem cx_quake (hG : s_gx G) (hx : 0 ≤ x ∧ x < 2147483648) (h6 : zR o S 0 6 = g) (hg : cx_g G K S g) (h12 : (zI S 0 12).toInt = x) (h : cx_in o g G K r A L S) : ∃ (S1 : dg_S) (y : Int32), F_d_quakeCloses o S = (S1, y) ∧ y.toInt = (s_qk G A x).2.2 ∧ (zI S1 0 12).toInt = (s_qk G A x).2.1 ∧ cx_in o g G K r (s_qk G A x).1 L S1 ∧ kp (fun a b => (a = 0 ∧ b = 12) ∨ (a = 214 ∧ b = 9)) (fun a => a = 4) S S1 := by
  have z0 : (0 : Int32).toInt = 0 := by decide +kernel
  have z100 : (100 : Int32).toInt = 100 := by decide +kernel
  have sep := rX_sep hg.1.1
  have hg0 := hg
  obtain ⟨-, ⟨f0, f1, f3, f4, -⟩, -⟩ := hg
  obtain ⟨i7, i6, i8, igt, ip, ik, il⟩ := h
  have hgb := hG.1.1
  have hq := hG.2.2.1
  unfold s_qk
  obtain ⟨S2, x1, e1, v1, n1, k1⟩ := cx_draw (o := o) (a1 := 100) h12 hx (by rw [z100]; decide)
  rw [z100] at v1
  have e11 : S2 = (F_d_draw o S (100 : Int32)).1 := by rw [e1]
  have e12 : x1 = (F_d_draw o S (100 : Int32)).2 := by rw [e1]
  have W : ∀ {Sa Sb : dg_S}, kp (fun a b => a = 0 ∧ b = 12) (fun _ => False) Sa Sb → kp (fun a b => (a = 0 ∧ b = 12) ∨ (a = 214 ∧ b = 9)) (fun a => a = 4) Sa Sb := fun t => t.w (fun a b z => Or.inl z) (fun a z => absurd z id)
  have IN : ∀ {Sb : dg_S}, kp (fun a b => a = 0 ∧ b = 12) (fun _ => False) S Sb → cx_in o g G K r A L Sb := fun {Sb} t => ⟨by rw [t.R (by decide)]; exact i7, by rw [t.R (by decide)]; exact i6, by rw [t.I (by decide)]; exact i8, igt.keep (fun i _ _ => (t.2 i id).1) (fun b => t.I (fun z => by omega)), ip.keep (fun i _ _ => (t.2 i id).1) (fun b _ => t.I (fun z => by omega)), ik.keep (t.I (by decide)) (t.2 18 id).1, by
    rcases il with z | z
    · exact Or.inl (by rw [t.I (by decide)]; exact z)
    · exact Or.inr (z.sm rfl rfl rfl (t.2 217 id).1 (t.2 218 id).1 (t.2 219 id).1 (t.I (by decide)))⟩
  by_cases q : x1 < zI S g 4
  rotate_left
  · have d : ¬ x1.toInt < (zI S g 4).toInt := fun z => q (w_lt.mpr z)
    rw [v1, f4] at d
    rw [if_neg d]
    exact ⟨S2, 0, F_d_quakeCloses_p2 e11 e12 h6.symm rfl q, z0, n1, IN k1, W k1⟩
  have d := w_lt.mp q
  rw [v1, f4] at d
  rw [if_pos d]
  obtain ⟨S10, x9, e9, v9, n9, k9⟩ := cx_draw (o := o) (S := S2) (a1 := zI S g 0) n1 (s_dr_b _) (by omega)
  have e91 : S10 = (F_d_draw o S2 (zI S g 0)).1 := by rw [e9]
  have e92 : x9 = (F_d_draw o S2 (zI S g 0)).2 := by rw [e9]
  obtain ⟨S13, x12, e3, v12, n12, k12⟩ := cx_draw (o := o) (S := S10) (a1 := zI S g 1) n9 (s_dr_b _) (by omega)
  have e31 : S13 = (F_d_draw o S10 (zI S g 1)).1 := by rw [e3]
  have e32 : x12 = (F_d_draw o S10 (zI S g 1)).2 := by rw [e3]
  rw [f0] at v9
  rw [f1] at v12
  have t13 := (k1.tr k9).tr k12
  obtain ⟨j7, j6, j8, jgt, jp, jk, jl⟩ := IN t13
  have g13 : cx_g G K S13 g := hg0.keep (fun i _ _ => (t13.2 i id).1) (fun b => t13.I (fun z => by omega))
  have b1 := Int.emod_nonneg (s_dr (s_dr x) / 64) (show G 0 0 ≠ 0 by omega)
  have b2 := Int.emod_lt_of_pos (s_dr (s_dr x) / 64) (show 0 < G 0 0 by omega)
  have b3 := Int.emod_nonneg (s_dr (s_dr (s_dr x)) / 64) (show G 0 1 ≠ 0 by omega)
  have b4 := Int.emod_lt_of_pos (s_dr (s_dr (s_dr x)) / 64) (show 0 < G 0 1 by omega)
  rcases cx_place (o := o) (a1 := x9) (a2 := x12) g13 hgb with ⟨p1, p2, p3, p4⟩ | ⟨p1, -⟩
  rotate_left
  · exfalso
    exact p1 ⟨⟨by omega, by omega⟩, by omega, by omega⟩
  have ec : 8 * x12.toInt + x9.toInt = s_qc G x := by
    rw [v9, v12]
    rfl
  rw [ec] at p3 p4
  obtain ⟨S17, x16, e16, v16, p17, l17, k17⟩ := cx_close (o := o) (a1 := F_g_placeOf o S13 g x9 x12) pX_3' j7 j6 jgt jp p4 p3 jl
  have e161 : S17 = (F_w_closeCell o S13 (F_g_placeOf o S13 g x9 x12)).1 := by rw [e16]
  have e162 : x16 = (F_w_closeCell o S13 (F_g_placeOf o S13 g x9 x12)).2 := by rw [e16]
  refine ⟨S17, x16, ?_, v16, by rw [k17.I (by decide)]; exact n12, ⟨by rw [k17.R (by decide)]; exact j7, by rw [k17.R (by decide)]; exact j6, by rw [k17.I (by decide)]; exact j8, jgt.keep (fun i _ _ => (k17.2 i (fun z => by omega)).1) (fun b => k17.I (fun z => by omega)), p17, jk.keep (k17.I (by decide)) (k17.2 18 (by decide)).1, l17⟩, (W t13).tr (k17.w (fun a b z => Or.inr z) (fun a z => z))⟩
  rw [F_d_quakeCloses_p1 e11 e12 h6.symm rfl q rfl e91 e92 rfl e31 e32 rfl e161 e162]
  exact F_d_quakeCloses_p0
/-- CHANCE of the class, where it comes -/
theorem cx_chance (ok : s_ok G K A U) (hx : 0 ≤ x ∧ x < 2147483648) (h : RX o g G K A L U x S) (hn : a1.toInt = n) (h1 : 1 ≤ n) (h40 : n ≤ 40) (h9 : A 0 0 + n ≤ 999) : ∃ (S1 : dg_S) (y : Int32), F_d_chance o S a1 = (S1, y) ∧ y.toInt = (s_ch G K (G 0 3) n (A, L, x, 0)).2.2.2 ∧ RX o g G K (s_ch G K (G 0 3) n (A, L, x, 0)).1 (s_ch G K (G 0 3) n (A, L, x, 0)).2.1 (s_ud U (A, L)) (s_ch G K (G 0 3) n (A, L, x, 0)).2.2.1 S1 := by
  obtain ⟨hG, hK, ⟨hw, hcw⟩, -⟩ := ok
  have z0 : (0 : Int32).toInt = 0 := by decide +kernel
  obtain ⟨S4, e4, r4, k4⟩ := cx_act (o := o) hG h
  have sep := rX_sep h.2.1.1.1
  obtain ⟨S7, e7, f7, f6, f8, f9, k7⟩ := cx_enter (o := o) (S := S4) (g := g) (p := 3) (a := zI S g 3)
  have r3 : (zI S g 3).toInt = G 0 3 := h.2.1.2.1.2.2.1
  have r7 : RX o g G K A L (s_ud U (A, L)) x S7 := r4.keep k7 (by decide) (by decide) (fun a b _ _ => by omega) (fun b => by omega) (fun b => by omega) (fun a b _ _ => by omega) (fun a _ _ => id) (fun a _ _ => id) id (fun a _ _ => id)
  have i7 : cx_in o g G K (G 0 3) A L S7 := ⟨f7, f6, by rw [f8]; exact r3, r7.2.1.1, r7.2.2.1, r7.2.2.2.1, Or.inl f9⟩
  have come : ¬ F_d_shiftsCome o S (1 : Int32) a1 (40 : Int32) = (0 : Int32) := by
    rcases cx_come (o := o) (a1 := 1) (a2 := a1) (a3 := 40) h.2.1 h.1 hG.1 hw h.2.2.1 (by decide +kernel) (by decide +kernel) with ⟨e, -⟩ | ⟨-, e⟩
    · rw [e]; decide +kernel
    · exfalso
      apply e
      rw [hn, show (1 : Int32).toInt = 1 by decide +kernel, show (40 : Int32).toInt = 40 by decide +kernel]
      omega
  have main := lp_cnt (f := F_d_chance_B1 a1 o) (z := (S, (0 : Int32))) (W := n) (P := fun c s => s.1.toInt = (s_ch G K (G 0 3) c (A, L, x, 0)).2.2.2 ∧ RX o g G K (s_ch G K (G 0 3) c (A, L, x, 0)).1 (s_ch G K (G 0 3) c (A, L, x, 0)).2.1 (s_ud U (A, L)) (s_ch G K (G 0 3) c (A, L, x, 0)).2.2.1 s.2 ∧ cx_in o g G K (G 0 3) (s_ch G K (G 0 3) c (A, L, x, 0)).1 (s_ch G K (G 0 3) c (A, L, x, 0)).2.1 s.2) (Q := fun q => q.2.toInt = (s_ch G K (G 0 3) n (A, L, x, 0)).2.2.2 ∧ RX o g G K (s_ch G K (G 0 3) n (A, L, x, 0)).1 (s_ch G K (G 0 3) n (A, L, x, 0)).2.1 (s_ud U (A, L)) (s_ch G K (G 0 3) n (A, L, x, 0)).2.2.1 q.1) (by omega) (fun c cI s hc hcI hP => by
    obtain ⟨m, T⟩ := s
    obtain ⟨p1, p2, p3⟩ := hP
    obtain ⟨okc, xc, nb1, nb2⟩ := s_ch_ok (K := K) (r := G 0 3) (L := L) hG.1 hw hcw hx c
    obtain ⟨⟨qw, qc⟩, -, -, q01⟩ := s_qk_ok (x := (s_ch G K (G 0 3) c (A, L, x, 0)).2.2.1) okc.1 okc.2
    have q0 : ¬ a1 ≤ cI := fun z => by have := w_le.mp z; omega
    obtain ⟨T1, y1, e1, w1, n1, i1, k1⟩ := cx_quake (o := o) hG xc p2.1 p2.2.1 p2.2.2.2.2.2 p3
    obtain ⟨T2, y2, e2, w2, i2, k2⟩ := cx_pk (o := o) hG.1 hK qw qc ⟨by have := hG.2.1; omega, by have := hG.2.1; omega⟩ i1
    have fl : (F_flag o T1 y1).toInt = y1.toInt := by
      by_cases u : y1 = (0 : Int32)
      · rw [F_flag_p0 u, u]
      · rw [F_flag_p1 u]
        have := dk_neqc (k := 0) z0 u
        have z1 : (1 : Int32).toInt = 1 := by decide +kernel
        omega
    refine ⟨(m + F_flag o T1 y1, T2), F_d_chance_p1 q0 (by rw [e1]) (show y1 = _ by rw [e1]) rfl rfl (by rw [e2]) rfl, ?_, ?_, i2⟩
    · have p1 : m.toInt = (s_ch G K (G 0 3) c (A, L, x, 0)).2.2.2 := p1
      show (m + F_flag o T1 y1).toInt = (s_ch G K (G 0 3) c (A, L, x, 0)).2.2.2 + _
      exact dk_addT p1 (fl.trans w1) (by omega) (by omega)
    · -- all the rest stays
      have r1 : RX o g G K (s_qk G (s_ch G K (G 0 3) c (A, L, x, 0)).1 (s_ch G K (G 0 3) c (A, L, x, 0)).2.2.1).1 (s_ch G K (G 0 3) c (A, L, x, 0)).2.1 (s_ud U (A, L)) (s_qk G (s_ch G K (G 0 3) c (A, L, x, 0)).1 (s_ch G K (G 0 3) c (A, L, x, 0)).2.2.1).2.1 T1 := by
        obtain ⟨h1, h2, h3, h4, h5, h6⟩ := p2
        exact ⟨by rw [k1.R (by decide)]; exact h1, h2.keep (fun i _ _ => (k1.2 i (fun z => by omega)).1) (fun b => k1.I (fun z => by omega)), i1.2.2.2.2.1, h4.keep (k1.I (by decide)) (k1.2 18 (by decide)).1, h5.keep (k1.I (by decide)) (k1.I (by decide)) (fun i _ _ => (k1.2 i (fun z => by omega)).1) (fun a b _ _ => k1.I (fun z => by omega)), n1⟩
      exact r1.act k2 i2.2.2.2.2.1 i2.2.2.2.2.2.1 (by decide) (by decide) (fun a b _ _ => by omega) (by decide) (fun a b _ _ => by omega) (fun a _ _ => by omega) (fun a _ _ => by omega)) (fun cI s hcI hP => by
    obtain ⟨m, T⟩ := s
    exact ⟨(T, m), F_d_chance_p0 (w_le.mpr (by omega)), hP.1, hP.2.1⟩) ((2147483648 - ((0 : Int32)).toInt).toNat + 1) 0 0 (0, S7) (by rw [z0]; omega) (by omega) z0 ⟨z0, r7, i7⟩
  rw [F_d_chance_p2 rfl come e4.symm h.1.symm rfl e7.symm]
  exact ⟨_, _, rfl, main.1, main.2⟩
/-- the reference's quake -/
theorem mx_quake (ok : s_ok G K A U) (hx : 0 ≤ x ∧ x < 2147483648) (h : RM G K A L U x S) (h9 : A 0 0 < 999) (e13 : zI S0 0 13 = zI S 0 13) {m cI w : Int32} (hm : m.toInt = r) (hr : 0 ≤ r ∧ r ≤ 100) (q0 : ¬ a1 ≤ cI) : ∃ (S1 : dg_S) (m1 w1 : Int32), F_m_chance_B1 a1 o S0 (cI, m, w, S) = .inl (cI + 1, m1, w1, S1) ∧ m1.toInt = r + (s_qk G A x).2.2 ∧ RM G K (s_tk G K (G 0 3) (s_qk G A x).1) (s_dL G K (G 0 3) (s_qk G A x).1 L) U (s_qk G A x).2.1 S1 ∧ zI S0 0 13 = zI S1 0 13 := by
  have z0 : (0 : Int32).toInt = 0 := by decide +kernel
  have z100 : (100 : Int32).toInt = 100 := by decide +kernel
  have hb := ok.1.1.2.2.2
  have hgb := ok.1.1.1
  obtain ⟨⟨qw, qc⟩, q00, -, -⟩ := s_qk_ok (x := x) ok.2.2.1.1 ok.2.2.1.2
  have okq : s_ok G K (s_qk G A x).1 U := ⟨ok.1, ok.2.1, ⟨qw, qc⟩, ok.2.2.2⟩
  have q9 : (s_qk G A x).1 0 0 < 999 := by rw [q00]; exact h9
  unfold s_qk at okq q9 ⊢
  obtain ⟨S2, x1, e1, v1, n1, k1⟩ := mx_draw (o := o) (a1 := 100) h.2.2.2.2 hx (by rw [z100]; decide)
  rw [z100] at v1
  have e11 : S2 = (F_m_draw o S (100 : Int32)).1 := by rw [e1]
  have e12 : x1 = (F_m_draw o S (100 : Int32)).2 := by rw [e1]
  have r2 := h.sx hb k1 n1
  have i13 : zI S2 0 13 = zI S 0 13 := k1.I (by decide)
  have f6 : (S2.2.1 6 (zI S0 0 13).toNatClampNeg).toInt = G 0 4 := by rw [e13, ← i13]; exact r2.1.2.1.2.1
  by_cases q : S2.2.1 6 (zI S0 0 13).toNatClampNeg ≤ x1
  · have d := w_le.mp q
    rw [v1, f6] at d
    rw [if_neg (show ¬ s_dr x / 64 % 100 < G 0 4 by omega)] at okq q9 ⊢
    obtain ⟨S3, y, e3, y3, r3, b13⟩ := mx_tick0 (o := o) okq r2 q9
    refine ⟨S3, m, _, F_m_chance_p1 q0 e11 e12 rfl rfl q (by rw [e3]) rfl rfl, by rw [hm]; show r = r + 0; omega, r3, ?_⟩
    rw [b13, i13, e13]
  have d : ¬ (S2.2.1 6 (zI S0 0 13).toNatClampNeg).toInt ≤ x1.toInt := fun z => q (w_le.mpr z)
  rw [v1, f6] at d
  rw [if_pos (show s_dr x / 64 % 100 < G 0 4 by omega)] at okq q9 ⊢
  have f2 : (S2.2.1 2 (zI S0 0 13).toNatClampNeg).toInt = G 0 0 := by rw [e13, ← i13]; exact r2.1.1.1.2.1
  obtain ⟨S9, x9, e9, v9, n9, k9⟩ := mx_draw (o := o) (S := S2) (a1 := S2.2.1 2 (zI S0 0 13).toNatClampNeg) n1 (s_dr_b _) (by omega)
  have e91 : S9 = (F_m_draw o S2 (S2.2.1 2 (zI S0 0 13).toNatClampNeg)).1 := by rw [e9]
  have e92 : x9 = (F_m_draw o S2 (S2.2.1 2 (zI S0 0 13).toNatClampNeg)).2 := by rw [e9]
  have r9 := r2.sx hb k9 n9
  have j13 : zI S9 0 13 = zI S2 0 13 := k9.I (by decide)
  have f3 : (S9.2.1 3 (zI S0 0 13).toNatClampNeg).toInt = G 0 1 := by rw [e13, ← i13, ← j13]; exact r9.1.1.1.2.2.1
  obtain ⟨S12, x12, e10, v12, n12, k12⟩ := mx_draw (o := o) (S := S9) (a1 := S9.2.1 3 (zI S0 0 13).toNatClampNeg) n9 (s_dr_b _) (by omega)
  have e101 : S12 = (F_m_draw o S9 (S9.2.1 3 (zI S0 0 13).toNatClampNeg)).1 := by rw [e10]
  have e102 : x12 = (F_m_draw o S9 (S9.2.1 3 (zI S0 0 13).toNatClampNeg)).2 := by rw [e10]
  have r12 := r9.sx hb k12 n12
  have l13 : zI S12 0 13 = zI S9 0 13 := k12.I (by decide)
  rw [f2] at v9
  rw [f3] at v12
  have b1 := Int.emod_nonneg (s_dr (s_dr x) / 64) (show G 0 0 ≠ 0 by omega)
  have b2 := Int.emod_lt_of_pos (s_dr (s_dr x) / 64) (show 0 < G 0 0 by omega)
  have b3 := Int.emod_nonneg (s_dr (s_dr (s_dr x)) / 64) (show G 0 1 ≠ 0 by omega)
  have b4 := Int.emod_lt_of_pos (s_dr (s_dr (s_dr x)) / 64) (show 0 < G 0 1 by omega)
  have e15 : ((8 : Int32) * x12 + x9).toInt = s_qc G x := by
    rw [dk_addT (dk_mulT (a := 8) (by decide +kernel) v12 (by omega) (by omega)) v9 (by omega) (by omega)]
    rfl
  have hc : s_in G (s_qc G x) := by
    unfold s_qc
    generalize s_dr (s_dr (s_dr x)) / 64 % G 0 1 = u at b3 b4 ⊢
    generalize s_dr (s_dr x) / 64 % G 0 0 = t at b1 b2 ⊢
    refine ⟨⟨by omega, by omega⟩, by omega, by omega⟩
  obtain ⟨S16, y16, e16, v16, l16, k16⟩ := mx_close (o := o) (a1 := 0) (a2 := (8 : Int32) * x12 + x9) hb r12.1.1.1 r12.2.1 z0 (by decide) hc e15
  have e161 : S16 = (F_m_isSolidBy o S12 (0 : Int32) ((8 : Int32) * x12 + x9)).1 := by rw [e16]
  have e162 : y16 = (F_m_isSolidBy o S12 (0 : Int32) ((8 : Int32) * x12 + x9)).2 := by rw [e16]
  have r16 := r12.v hb k16 (by decide) l16
  have m13 : zI S16 0 13 = zI S12 0 13 := k16.I
  have cl := s_cl_ok (c := s_qc G x) ok.2.2.1.1 ok.2.2.1.2
  obtain ⟨S3, y, e3, y3, r3, b13⟩ := mx_tick0 (o := o) okq r16 q9
  have hd := F_m_chance_p4 (S := S0) (x_266 := m) (rw_267_0 := w) q0 e11 e12 rfl rfl q rfl e91 e92 rfl e101 e102 rfl rfl e161 e162
  by_cases u : y16 = (0 : Int32)
  · have du := dk_eqc z0 u
    refine ⟨S3, m, _, hd.trans (F_m_chance_p2 u (by rw [e3]) rfl rfl), ?_, r3, ?_⟩
    · show m.toInt = r + (s_cl G A (s_qc G x)).2
      omega
    · rw [b13, m13, l13, j13, i13, e13]
  · have du := dk_neqc z0 u
    refine ⟨S3, m + (1 : Int32), _, hd.trans (F_m_chance_p3 u rfl (by rw [e3]) rfl rfl), ?_, r3, ?_⟩
    · show (m + (1 : Int32)).toInt = r + (s_cl G A (s_qc G x)).2
      rw [dk_addT hm (b := 1) (by decide +kernel) (by omega) (by omega)]
      omega
    · rw [b13, m13, l13, j13, i13, e13]
/-- CHANCE of the reference, where it comes -/
theorem mx_chance (ok : s_ok G K A U) (hx : 0 ≤ x ∧ x < 2147483648) (h : RM G K A L U x S) (hn : a1.toInt = n) (h1 : 1 ≤ n) (h40 : n ≤ 40) (h9 : A 0 0 + n ≤ 999) : ∃ (S1 : dg_S) (y : Int32), F_m_chance o S a1 = (S1, y) ∧ y.toInt = (s_ch G K (G 0 3) n (A, L, x, 0)).2.2.2 ∧ RM G K (s_ch G K (G 0 3) n (A, L, x, 0)).1 (s_ch G K (G 0 3) n (A, L, x, 0)).2.1 (s_ud U (A, L)) (s_ch G K (G 0 3) n (A, L, x, 0)).2.2.1 S1 := by
  have z0 : (0 : Int32).toInt = 0 := by decide +kernel
  obtain ⟨S2, e2, r2, k2⟩ := mx_act (o := o) ok.1 h
  have okU := s_ud_ok (L := L) ok
  have come : ¬ F_m_isAhead o S a1 (1 : Int32) (40 : Int32) = (0 : Int32) := by
    rcases mx_come (o := o) (a1 := a1) (a2 := 1) (a3 := 40) h.1.1.1 h.2.1 ok.2.2.1.1 (by decide +kernel) (by decide +kernel) with ⟨e, -⟩ | ⟨-, e⟩
    · rw [e]; decide +kernel
    · exfalso
      apply e
      rw [hn, show (1 : Int32).toInt = 1 by decide +kernel, show (40 : Int32).toInt = 40 by decide +kernel]
      omega
  have main := lp_cnt (f := F_m_chance_B1 a1 o S) (z := (S, (0 : Int32))) (W := n) (P := fun c s => s.1.toInt = (s_ch G K (G 0 3) c (A, L, x, 0)).2.2.2 ∧ RM G K (s_ch G K (G 0 3) c (A, L, x, 0)).1 (s_ch G K (G 0 3) c (A, L, x, 0)).2.1 (s_ud U (A, L)) (s_ch G K (G 0 3) c (A, L, x, 0)).2.2.1 s.2.2 ∧ zI S 0 13 = zI s.2.2 0 13) (Q := fun q => q.2.toInt = (s_ch G K (G 0 3) n (A, L, x, 0)).2.2.2 ∧ RM G K (s_ch G K (G 0 3) n (A, L, x, 0)).1 (s_ch G K (G 0 3) n (A, L, x, 0)).2.1 (s_ud U (A, L)) (s_ch G K (G 0 3) n (A, L, x, 0)).2.2.1 q.1) (by omega) (fun c cI s hc hcI hP => by
    obtain ⟨m, w, T⟩ := s
    obtain ⟨p1, p2, p3⟩ := hP
    obtain ⟨okc, xc, nb1, nb2⟩ := s_ch_ok (K := K) (r := G 0 3) (L := L) ok.1.1 ok.2.2.1.1 ok.2.2.1.2 hx c
    have e00 := s_ch_00 (n := c) (K := K) (r := G 0 3) (L := L) ok.1.1 ok.2.2.1.1 ok.2.2.1.2 hx (by omega)
    have q0 : ¬ a1 ≤ cI := fun z => by have := w_le.mp z; omega
    obtain ⟨S1, m1, w1, f1, f2, f3, f4⟩ := mx_quake (o := o) (a1 := a1) (cI := cI) (w := w) (S0 := S) ⟨ok.1, ok.2.1, okc, okU.2.2.2⟩ xc p2 (by rw [e00]; omega) p3 p1 ⟨nb1, by omega⟩ q0
    exact ⟨(m1, w1, S1), f1, f2, f3, f4⟩) (fun cI s hcI hP => by
    obtain ⟨m, w, T⟩ := s
    exact ⟨(T, m), F_m_chance_p0 (w_le.mpr (by omega)), hP.1, hP.2.1⟩) ((41 - ((0 : Int32)).toInt).toNat + 1) 0 0 (0, S2.2.1 29 (0 : Int32).toNatClampNeg, S2) (by rw [z0]; omega) (by omega) z0 ⟨z0, r2, (k2.1.I (by decide)).symm⟩
  rw [F_m_chance_p5 rfl come e2.symm rfl]
  exact ⟨_, _, rfl, main.1, main.2⟩
/-- CHANCE on both sides -/
theorem sim_chance {oX oM : Nat} {SX SM : dg_S} (ok : s_ok G K A U) (hx : 0 ≤ x ∧ x < 2147483648) (hX : RX oX g G K A L U x SX) (hM : RM G K A L U x SM) : ∃ (A' : aR) (L' : s_L) (U' : s_U) (x' : Int), (F_d_chance oX SX a1).2 = (F_m_chance oM SM a1).2 ∧ s_ok G K A' U' ∧ (0 ≤ x' ∧ x' < 2147483648) ∧ RX oX g G K A' L' U' x' (F_d_chance oX SX a1).1 ∧ RM G K A' L' U' x' (F_m_chance oM SM a1).1 := by
  have z1 : (1 : Int32).toInt = 1 := by decide +kernel
  have z40 : (40 : Int32).toInt = 40 := by decide +kernel
  have cX := cx_come (o := oX) (a1 := 1) (a2 := a1) (a3 := 40) hX.2.1 hX.1 ok.1.1 ok.2.2.1.1 hX.2.2.1 (by decide +kernel) (by decide +kernel)
  have cM := mx_come (o := oM) (a1 := a1) (a2 := 1) (a3 := 40) hM.1.1.1 hM.2.1 ok.2.2.1.1 (by decide +kernel) (by decide +kernel)
  rw [z1, z40] at cX cM
  by_cases q : 1 ≤ a1.toInt ∧ a1.toInt ≤ 40 ∧ A 0 0 + a1.toInt ≤ 999
  · obtain ⟨n, hn⟩ : ∃ n : Nat, a1.toInt = n := ⟨a1.toInt.toNat, by omega⟩
    obtain ⟨S1, y, e1, y1, r1⟩ := cx_chance (o := oX) ok hx hX hn (by omega) (by omega) (by omega)
    obtain ⟨S2, w, e2, w2, r2⟩ := mx_chance (o := oM) ok hx hM hn (by omega) (by omega) (by omega)
    obtain ⟨okc, xc, -⟩ := s_ch_ok (K := K) (r := G 0 3) (L := L) ok.1.1 ok.2.2.1.1 ok.2.2.1.2 hx n
    rw [e1, e2]
    exact ⟨_, _, _, _, Int32.toInt_inj.mp (y1.trans w2.symm), ⟨ok.1, ok.2.1, okc, (s_ud_ok ok).2.2.2⟩, xc, r1, r2⟩
  · have e1 : F_d_shiftsCome oX SX (1 : Int32) a1 (40 : Int32) = 0 := by
      rcases cX with ⟨-, e⟩ | ⟨e, -⟩
      · exact absurd e q
      · exact e
    have e2 : F_m_isAhead oM SM a1 (1 : Int32) (40 : Int32) = 0 := by
      rcases cM with ⟨-, e⟩ | ⟨e, -⟩
      · exact absurd e q
      · exact e
    obtain ⟨S1, -, f1, r1, -⟩ := cx_no (o := oX) (a1 := 2) (k := 2) hX (by decide +kernel)
    obtain ⟨S2, f2, r2, -⟩ := mx_ref (o := oM) (a1 := 2) (k := 2) ok.1.1.2.2.2 hM (by decide +kernel)
    rw [F_d_chance_p3 rfl e1 rfl rfl, F_m_chance_p6 rfl e2 rfl rfl, f1, f2]
    exact ⟨A, L, U, x, rfl, ok, hx, r1, r2⟩
end CH
end
section
/-! curtains, the plan, healing, the seed, undoing: both sides -/
section CU
variable {o oX oM g n : Nat} {G A A' : aR} {K : Nat → List Int} {L L' : s_L} {U : s_U} {S S0 S1 SX SM : dg_S} {x x' r c v : Int} {a a1 a2 a3 a4 y : Int32}
theorem s_up1_ok (ok : s_ok G K A U) (hc : s_in G c) (hne : c ≠ G 0 2) (hv : -2 ≤ v ∧ v ≤ 9) : s_ok G K (s_up A 1 c.toNat v) U := by
  obtain ⟨hG, hK, ⟨⟨w0, w1, w2, w3, w4, w5⟩, hcw⟩, hU⟩ := ok
  have E : ∀ a b, a ≠ 1 → s_up A 1 c.toNat v a b = A a b := fun a b h => s_up_ne (fun z => h z.1)
  have c0 := hc.1.1
  refine ⟨hG, hK, ⟨⟨by rw [E _ _ (by decide)]; exact w0, by rw [E _ _ (by decide)]; exact w1, fun k hk => by rw [E _ _ (by decide)]; exact w2 k hk, fun k hk => by rw [E _ _ (by decide), E _ _ (by decide)]; exact w3 k hk, fun k hk => by rw [E _ _ (by decide)]; exact w4 k hk, fun k hk => by rw [E _ _ (by decide)]; exact w5 k hk⟩, fun d hd => ?_, hcw.2.1, ?_⟩, hU⟩
  · rw [s_c_up c0 hd.1.1]
    split
    · exact hv
    · exact hcw.1 d hd
  · show s_c (s_up A 1 c.toNat v) (G 0 2) = -1
    rw [s_c_up c0 hcw.2.1.1.1, if_neg (fun z => hne z.symm)]
    exact hcw.2.2
theorem cx_pit_cell (h : cx_pit G A S 3) (hc : s_in G c) (hv : -2 ≤ v ∧ v ≤ 9) (hy : y.toInt = cx_en v) {i : Nat} (hi : i = (c + 8).toNat) : cx_pit G (s_up A 1 c.toNat v) (dg_uf S 4 (upd (S.2.1 4) i y)) 3 := by
  obtain ⟨y1, y2, y3, y4, y5, y6, y7⟩ := h
  have hc0 := hc.1
  have E : ∀ a b, a ≠ 1 → s_up A 1 c.toNat v a b = A a b := fun a b h => s_up_ne (fun z => h z.1)
  have ro : ∀ i', i' ≠ 4 → (dg_uf S 4 (upd (S.2.1 4) i y)).2.1 i' = S.2.1 i' := fun i' hi' => by rw [w_f, if_neg hi']
  have h9 := y1.up (S1 := dg_uf S 4 (upd (S.2.1 4) i y)) (x := c + 8) (v := v) (y := y) ⟨by omega, by omega⟩ (by rw [show c + 8 - 8 = c by omega]; exact hc) (by rw [w_f, if_pos rfl, hi]) hy hv
  rw [show c + 8 - 8 = c by omega] at h9
  exact ⟨h9, by rw [E _ _ (by decide)]; exact y2, by rw [E _ _ (by decide)]; exact y3, fun k hk => by rw [ro _ (by decide), E _ _ (by decide)]; exact y4 k hk, fun k hk => by rw [ro _ (by decide), ro _ (by decide), E _ _ (by decide), E _ _ (by decide)]; exact y5 k hk, fun k hk => by rw [ro _ (by decide), E _ _ (by decide)]; exact y6 k hk, fun k hk => by rw [ro _ (by decide), E _ _ (by decide)]; exact y7 k hk⟩
/-- a row of the pit is told anew -/
theorem RX.row {i j : Nat} (h : RX o g G K A L U x S) (hi : 4 ≤ i ∧ i ≤ 9) (hp : cx_pit G A' (dg_uf S i (upd (S.2.1 i) j y)) 3) : RX o g G K A' L U x (dg_uf S i (upd (S.2.1 i) j y)) := by
  have t : kp (fun _ _ => False) (fun a => a = i) S (dg_uf S i (upd (S.2.1 i) j y)) := kp.uf kp.rf rfl
  exact h.act t hp (h.2.2.2.1.keep (t.I id) (t.2 18 (by omega)).1) id id (fun _ _ _ _ => id) ⟨id, id⟩ (fun _ _ _ _ => id) (fun a _ _ => by omega) (fun a _ _ => by omega)
/-- a curtain can be hung, or taken down -/
def s_hg (G A : aR) (c on : Int) : Prop := s_in G c ∧ c ≠ G 0 2 ∧ (on = 1 ∧ s_c A c = -1 ∨ on = 0 ∧ s_c A c = -2)
def s_hv (on : Int) : Int := if on = 1 then -2 else -1
theorem cx_hang (ok : s_ok G K A U) (h : RX o g G K A L U x S) : ((0 ≤ a1.toInt ∧ a1.toInt < G 0 0) ∧ (0 ≤ a2.toInt ∧ a2.toInt < G 0 1) ∧ s_hg G A (8 * a2.toInt + a1.toInt) a3.toInt ∧ ∃ S1, F_d_hang o S a1 a2 a3 = (S1, (1 : Int32)) ∧ RX o g G K (s_up A 1 (8 * a2.toInt + a1.toInt).toNat (s_hv a3.toInt)) L (s_ud U (A, L)) x S1) ∨ (¬ ((0 ≤ a1.toInt ∧ a1.toInt < G 0 0) ∧ (0 ≤ a2.toInt ∧ a2.toInt < G 0 1) ∧ s_hg G A (8 * a2.toInt + a1.toInt) a3.toInt) ∧ ∃ S1, F_d_hang o S a1 a2 a3 = (S1, (0 : Int32)) ∧ RX o g G K A L U x S1) := by
  have hG := ok.1
  obtain ⟨SN, f1, -, rN, -⟩ := cx_no (o := o) (a1 := 3) (k := 3) h (by decide +kernel)
  have n1 : SN = (F_d_no o S (3 : Int32)).1 := by rw [f1]
  have n2 : (0 : Int32) = (F_d_no o S (3 : Int32)).2 := by rw [f1]
  have z0 : (0 : Int32).toInt = 0 := by decide +kernel
  have z1 : (1 : Int32).toInt = 1 := by decide +kernel
  have z255 : (255 : Int32).toInt = 255 := by decide +kernel
  have z254 : (254 : Int32).toInt = 254 := by decide +kernel
  rcases cx_place (o := o) (a1 := a1) (a2 := a2) h.2.1 hG.1.1 with ⟨p1, p2, p3, p4⟩ | ⟨p1, p2⟩
  rotate_left
  · exact Or.inr ⟨fun z => p1 ⟨z.1, z.2.1⟩, SN, F_d_hang_p0 h.1.symm rfl p2 n1 n2, rN⟩
  obtain ⟨c, hc⟩ : ∃ c, c = 8 * a2.toInt + a1.toInt := ⟨_, rfl⟩
  rw [← hc] at p3 p4 ⊢
  obtain ⟨pl, hpl⟩ : ∃ pl, pl = F_g_placeOf o S g a1 a2 := ⟨_, rfl⟩
  rw [← hpl] at p3
  have p40 := p4.1
  have q1 : ¬ pl = (-1 : Int32) := fun z => by have := dk_eqc (k := -1) (by decide +kernel) z; omega
  have hsh : (zI S g 2).toInt = G 0 2 + 8 := h.2.1.1.2.1
  have pn : pl.toNatClampNeg = (c + 8).toNat := by rw [dk_clN, p3]
  by_cases q2 : pl = zI S g 2
  · exact Or.inr ⟨fun z => z.2.2.2.1 (by rw [q2] at p3; omega), SN, F_d_hang_p1 h.1.symm hpl q1 rfl q2 n1 n2, rN⟩
  have hne : c ≠ G 0 2 := fun z => q2 (Int32.toInt_inj.mp (by rw [p3, hsh, z]))
  by_cases q3 : a3 < (0 : Int32)
  · have := dk_ltc z0 q3
    exact Or.inr ⟨fun z => by have := z.2.2.2.2; omega, SN, F_d_hang_p2 h.1.symm hpl q1 rfl q2 q3 n1 n2, rN⟩
  have d3 := dk_nltc z0 q3
  by_cases q4 : a3 ≤ (1 : Int32)
  rotate_left
  · have := dk_nlec z1 q4
    exact Or.inr ⟨fun z => by have := z.2.2.2.2; omega, SN, F_d_hang_p8 h.1.symm hpl q1 rfl q2 q3 q4 n1 n2, rN⟩
  have d4 := dk_lec z1 q4
  obtain ⟨e, l, u⟩ := (h.2.2.1.1 (c + 8) (by omega) (by omega)).1 (by rw [show c + 8 - 8 = c by omega]; exact p4)
  rw [show c + 8 - 8 = c by omega] at e l u
  have e4 : (S.2.1 4 pl.toNatClampNeg).toInt = cx_en (s_c A c) := by rw [pn]; exact e
  obtain ⟨S2, e2, r2, k2⟩ := cx_act (o := o) hG h
  by_cases q5 : a3 = (1 : Int32)
  · have d5 := dk_eqc z1 q5
    have F := F_d_hang_p7 (o := o) (S := S) (a1 := a1) (a2 := a2) h.1.symm hpl q1 rfl q2 q3 q4 q5
    by_cases q6 : S.2.1 4 pl.toNatClampNeg = (255 : Int32)
    · have d6 := dk_eqc z255 q6
      rw [e4] at d6
      have sc : s_c A c = -1 := by
        unfold cx_en at d6
        by_cases w : s_c A c = -1
        · exact w
        · rw [if_neg w] at d6
          split at d6 <;> omega
      refine Or.inl ⟨p1, p2, ⟨p4, hne, Or.inl ⟨d5, sc⟩⟩, _, F.trans (F_d_hang_p4 rfl q6 e2.symm q5 rfl), ?_⟩
      unfold s_hv
      rw [if_pos d5]
      exact r2.row ⟨by decide, by decide⟩ (cx_pit_cell r2.2.2.1 p4 ⟨by decide, by decide⟩ z254 pn)
    · have d6 := dk_neqc z255 q6
      rw [e4] at d6
      refine Or.inr ⟨fun z => d6 ?_, SN, F.trans (F_d_hang_p5 rfl q6 n1 n2), rN⟩
      have : s_c A c = -1 := by have := z.2.2.2.2; omega
      rw [this]
      rfl
  · have d5 := dk_neqc z1 q5
    have F := F_d_hang_p6 (o := o) (S := S) (a1 := a1) (a2 := a2) h.1.symm hpl q1 rfl q2 q3 q4 q5
    by_cases q6 : S.2.1 4 pl.toNatClampNeg = (254 : Int32)
    · have d6 := dk_eqc z254 q6
      rw [e4] at d6
      have sc : s_c A c = -2 := by
        unfold cx_en at d6
        by_cases w : s_c A c = -1
        · rw [if_pos w] at d6
          omega
        · rw [if_neg w] at d6
          split at d6 <;> omega
      refine Or.inl ⟨p1, p2, ⟨p4, hne, Or.inr ⟨by omega, sc⟩⟩, _, F.trans (F_d_hang_p3 rfl q6 e2.symm q5 rfl), ?_⟩
      unfold s_hv
      rw [if_neg d5]
      exact r2.row ⟨by decide, by decide⟩ (cx_pit_cell r2.2.2.1 p4 ⟨by decide, by decide⟩ z255 pn)
    · have d6 := dk_neqc z254 q6
      rw [e4] at d6
      refine Or.inr ⟨fun z => d6 ?_, SN, F.trans (F_d_hang_p5 rfl q6 n1 n2), rN⟩
      have : s_c A c = -2 := by have := z.2.2.2.2; omega
      rw [this]
      rfl
/-- a row of layer 0 is told anew -/
theorem RM.row {i j : Nat} (h : RM G K A L U x S) (hb : G 0 6 ≤ 16) (hi : 29 ≤ i ∧ i ≤ 39) (hj : j < mx_w i) (hl : mx_lay G A' L (dg_uf S i (upd (S.2.1 i) j y)) 0) : RM G K A' L U x (dg_uf S i (upd (S.2.1 i) j y)) := h.v hb (k_v.uf (v := 0) k_v.rf hi.1 hi.2 ⟨by omega, by omega⟩) (by decide) hl
theorem mx_cellof (hg : mx_gd G S) (hb : s_gb G) : (0 ≤ a1.toInt ∧ a1.toInt < G 0 0) ∧ (0 ≤ a2.toInt ∧ a2.toInt < G 0 1) ∧ F_m_isCell o S a1 a2 = 1 ∧ ((8 : Int32) * a2 + a1).toInt = 8 * a2.toInt + a1.toInt ∧ s_in G (8 * a2.toInt + a1.toInt) ∨ ¬ ((0 ≤ a1.toInt ∧ a1.toInt < G 0 0) ∧ 0 ≤ a2.toInt ∧ a2.toInt < G 0 1) ∧ F_m_isCell o S a1 a2 = 0 := by
  obtain ⟨⟨b0, b1⟩, b2, b3⟩ := id hb
  rcases mx_isCell (o := o) (a := a1) (b := a2) hg hb with ⟨e, h⟩ | ⟨e, h⟩
  · have e1 : ((8 : Int32) * a2).toInt = 8 * a2.toInt := dk_mulT (by decide +kernel) rfl (by omega) (by omega)
    exact Or.inl ⟨h.1, h.2, e, dk_addT e1 rfl (by omega) (by omega), ⟨by omega, by omega⟩, by omega, by omega⟩
  · exact Or.inr ⟨h, e⟩
theorem mx_hang (ok : s_ok G K A U) (h : RM G K A L U x S) : ((0 ≤ a1.toInt ∧ a1.toInt < G 0 0) ∧ (0 ≤ a2.toInt ∧ a2.toInt < G 0 1) ∧ s_hg G A (8 * a2.toInt + a1.toInt) a3.toInt ∧ ∃ S1, F_m_hang o S a1 a2 a3 = (S1, (1 : Int32)) ∧ RM G K (s_up A 1 (8 * a2.toInt + a1.toInt).toNat (s_hv a3.toInt)) L (s_ud U (A, L)) x S1) ∨ (¬ ((0 ≤ a1.toInt ∧ a1.toInt < G 0 0) ∧ (0 ≤ a2.toInt ∧ a2.toInt < G 0 1) ∧ s_hg G A (8 * a2.toInt + a1.toInt) a3.toInt) ∧ ∃ S1, F_m_hang o S a1 a2 a3 = (S1, (0 : Int32)) ∧ RM G K A L U x S1) := by
  have hG := ok.1
  have hb := hG.1.2.2.2
  have hgb := hG.1.1
  obtain ⟨SN, f1, rN, -⟩ := mx_ref (o := o) (a1 := 3) (k := 3) hb h (by decide +kernel)
  have n1 : SN = (F_m_refuses o S (3 : Int32)).1 := by rw [f1]
  have z0 : (0 : Int32).toInt = 0 := by decide +kernel
  have z1 : (1 : Int32).toInt = 1 := by decide +kernel
  have hg := h.1.1.1
  rcases mx_cellof (o := o) (a1 := a1) (a2 := a2) hg hgb with ⟨p1, p2, p3, p4, p5⟩ | ⟨p1, p2⟩
  rotate_left
  · refine Or.inr ⟨fun z => p1 ⟨z.1, z.2.1⟩, SN, ?_, rN⟩
    rw [F_m_hang_p5 rfl p2]
    exact F_m_hang_p0 rfl n1
  have q0 : ¬ F_m_isCell o S a1 a2 = (0 : Int32) := by rw [p3]; decide +kernel
  obtain ⟨w, hw⟩ : ∃ w, w = (8 : Int32) * a2 + a1 := ⟨_, rfl⟩
  have F := F_m_hang_p6 (a3 := a3) rfl q0 rfl hw
  rw [← hw] at p4
  obtain ⟨c, hc⟩ : ∃ c, c = 8 * a2.toInt + a1.toInt := ⟨_, rfl⟩
  rw [← hc] at p4 p5 ⊢
  have p50 := p5.1
  have wn : w.toNatClampNeg = c.toNat := by rw [dk_clN, p4]
  have q1 : ¬ w = (-1 : Int32) := fun z => by have := dk_eqc (k := -1) (by decide +kernel) z; omega
  have hsh : (S.2.1 4 (zI S 0 13).toNatClampNeg).toInt = G 0 2 := hg.2.2.2.1
  obtain ⟨l31, l32, l, u⟩ := h.2.1.1 c p5
  have adn : mx_ad 0 c = c.toNat := by unfold mx_ad; omega
  rw [adn] at l31 l32
  have ico : ¬ F_m_isCellOf o S w = (0 : Int32) := by
    rcases mx_isCellOf (o := o) (a := w) hg hgb with ⟨e, -⟩ | ⟨-, e⟩
    · rw [e]; decide +kernel
    · exact absurd (by rw [p4]; exact p5) e
  -- can a curtain hang there at all
  rcases mx_op (o := o) (a := 0) (b := w) h.2.1.1 z0 (by decide) (by rw [p4]; exact p5) with ⟨e5, y5⟩ | ⟨e5, y5⟩
  rotate_left
  · rw [p4] at y5
    have ch := F_m_canHang_p1 (a1 := w) rfl ico rfl e5
    exact Or.inr ⟨fun z => y5 ⟨p5, by have := z.2.2.2.2; omega⟩, SN, F.trans (F_m_hang_p1 q1 rfl ch n1), rN⟩
  rw [p4] at y5
  have n5 : ¬ F_m_isOpen o S (0 : Int32) w = (0 : Int32) := by rw [e5]; decide +kernel
  by_cases q6 : w = S.2.1 4 (zI S 0 13).toNatClampNeg
  · have ch := F_m_canHang_p2 (a1 := w) rfl ico rfl n5 rfl rfl q6
    exact Or.inr ⟨fun z => z.2.2.2.1 (by rw [← p4, q6]; exact hsh), SN, F.trans (F_m_hang_p1 q1 rfl ch n1), rN⟩
  have hne : c ≠ G 0 2 := fun z => q6 (Int32.toInt_inj.mp (by rw [p4, hsh, z]))
  have ch := F_m_canHang_p3 (a1 := w) rfl ico rfl n5 rfl rfl q6
  have nch : ¬ F_m_canHang o S w = (0 : Int32) := by rw [ch]; decide +kernel
  rcases mx_is (o := o) (S := S) (a := a3) (b := 0) (c := 1) with ⟨e7, y7⟩ | ⟨e7, y7⟩
  rotate_left
  · rw [z0, z1] at y7
    exact Or.inr ⟨fun z => by have := z.2.2.2.2; omega, SN, F.trans (F_m_hang_p2 q1 rfl nch rfl e7 n1), rN⟩
  rw [z0, z1] at y7
  have n7 : ¬ F_m_is o S a3 (0 : Int32) (1 : Int32) = (0 : Int32) := by rw [e7]; decide +kernel
  unfold mx_cu at l32
  have y52 := y5.2
  by_cases q8 : S.2.1 32 w.toNatClampNeg = a3
  · rw [wn] at q8
    refine Or.inr ⟨fun z => ?_, SN, F.trans (F_m_hang_p4 q1 rfl nch rfl n7 rfl (by rw [wn]; exact q8) n1), rN⟩
    have h9 := z.2.2.2.2
    rw [q8] at l32
    split at l32 <;> omega
  · have d8 : ¬ (S.2.1 32 c.toNat).toInt = a3.toInt := fun z => q8 (by rw [wn]; exact Int32.toInt_inj.mp z)
    rw [l32] at d8
    have hcase : a3.toInt = 1 ∧ s_c A c = -1 ∨ a3.toInt = 0 ∧ s_c A c = -2 := by
      split at d8 <;> omega
    obtain ⟨S2, e2, r2, k2⟩ := mx_act (o := o) hG h
    refine Or.inl ⟨p1, p2, ⟨p5, hne, hcase⟩, _, F.trans (F_m_hang_p3 q1 rfl nch rfl n7 rfl q8 e2.symm rfl), ?_⟩
    refine r2.row hb ⟨by decide, by decide⟩ (by rw [wn, show mx_w 32 = 64 from rfl]; omega) ?_
    obtain ⟨y1, y2, y3, y4, y6, y6', y7', y8⟩ := r2.2.1
    have E : ∀ a b, a ≠ 1 → s_up A 1 c.toNat (s_hv a3.toInt) a b = A a b := fun a b h => s_up_ne (fun z => h z.1)
    have ro : ∀ i', i' ≠ 32 → (dg_uf S2 32 (upd (S2.2.1 32) w.toNatClampNeg a3)).2.1 i' = S2.2.1 i' := fun i' hi' => by rw [w_f, if_neg hi']
    refine ⟨fun d hd => ?_, by rw [ro _ (by decide), E _ _ (by decide)]; exact y2, by rw [ro _ (by decide), E _ _ (by decide)]; exact y3, by rw [ro _ (by decide)]; exact ⟨y4.1, fun k hk => by rw [E _ _ (by decide)]; exact y4.2 k hk⟩, fun k hk => by rw [ro _ (by decide), ro _ (by decide), E _ _ (by decide), E _ _ (by decide)]; exact y6 k hk, by rw [ro _ (by decide)]; exact ⟨y6'.1, fun k hk => by rw [E _ _ (by decide)]; exact y6'.2 k hk⟩, fun k hk => by rw [ro _ (by decide), E _ _ (by decide)]; exact y7' k hk, y8.keep (by rw [ro _ (by decide)]) (fun j _ _ => by rw [ro _ (by decide)])⟩
    obtain ⟨i1, i2, i3, i4⟩ := y1 d hd
    have hd0 := hd.1
    have add : mx_ad 0 d = d.toNat := by unfold mx_ad; omega
    rw [add] at i1 i2 ⊢
    rw [ro 31 (by decide), w_f, if_pos rfl, w_u, wn, s_c_up p50.1 hd0.1]
    by_cases z : d = c
    · subst z
      rw [if_pos rfl, if_pos rfl, i1]
      unfold mx_en mx_cu s_hv
      rcases hcase with ⟨k1, k2'⟩ | ⟨k1, k2'⟩
      · rw [if_pos (show s_c A d < 0 by omega), if_pos k1]
        exact ⟨rfl, k1, by decide, by decide⟩
      · rw [if_pos (show s_c A d < 0 by omega), if_neg (show ¬ a3.toInt = 1 by omega)]
        exact ⟨rfl, k1, by decide, by decide⟩
    · rw [if_neg z, if_neg (fun w => z (by omega))]
      exact ⟨i1, i2, i3, i4⟩
/-- HANG on both sides -/
theorem sim_hang (ok : s_ok G K A U) (hX : RX oX g G K A L U x SX) (hM : RM G K A L U x SM) : ∃ (A' : aR) (U' : s_U), (F_d_hang oX SX a1 a2 a3).2 = (F_m_hang oM SM a1 a2 a3).2 ∧ s_ok G K A' U' ∧ RX oX g G K A' L U' x (F_d_hang oX SX a1 a2 a3).1 ∧ RM G K A' L U' x (F_m_hang oM SM a1 a2 a3).1 := by
  rcases cx_hang (o := oX) (a1 := a1) (a2 := a2) (a3 := a3) ok hX with ⟨p1, p2, p3, S1, e1, r1⟩ | ⟨p, S1, e1, r1⟩
  · rcases mx_hang (o := oM) (a1 := a1) (a2 := a2) (a3 := a3) ok hM with ⟨-, -, -, S2, e2, r2⟩ | ⟨q, -⟩
    · rw [e1, e2]
      refine ⟨_, _, rfl, s_up1_ok (s_ud_ok ok) p3.1 p3.2.1 ?_, r1, r2⟩
      unfold s_hv
      split <;> exact ⟨by decide, by decide⟩
    · exact absurd ⟨p1, p2, p3⟩ q
  · rcases mx_hang (o := oM) (a1 := a1) (a2 := a2) (a3 := a3) ok hM with ⟨q1, q2, q3, -⟩ | ⟨-, S2, e2, r2⟩
    · exact absurd ⟨q1, q2, q3⟩ p
    · rw [e1, e2]
      exact ⟨A, U, rfl, ok, r1, r2⟩
/-- SEED on both sides -/
theorem sim_seed (hb : G 0 6 ≤ 16) (hx : 0 ≤ x ∧ x < 2147483648) (hX : RX oX g G K A L U x SX) (hM : RM G K A L U x SM) : ∃ x', (F_d_seed oX SX a1).2 = (F_m_seed oM SM a1).2 ∧ (0 ≤ x' ∧ x' < 2147483648) ∧ RX oX g G K A L U x' (F_d_seed oX SX a1).1 ∧ RM G K A L U x' (F_m_seed oM SM a1).1 := by
  have z0 : (0 : Int32).toInt = 0 := by decide +kernel
  have hf := dk_full a1
  by_cases q : (0 : Int32) ≤ a1
  · have d := dk_gec z0 q
    rw [F_d_seed_p0 q rfl, F_m_seed_p0 q rfl rfl]
    refine ⟨a1.toInt, rfl, ⟨d, by omega⟩, hX.sx (kp.uF kp.rf ⟨rfl, rfl⟩) (by rw [w_I, if_pos ⟨rfl, rfl⟩]), hM.sx hb (kp.uF kp.rf ⟨rfl, rfl⟩) ?_⟩
    unfold zL
    rw [w_F, if_pos ⟨rfl, rfl⟩]
    exact Int32.toInt_toInt64 a1
  · obtain ⟨S1, f1, -, r1, -⟩ := cx_no (o := oX) (a1 := 5) (k := 5) hX (by decide +kernel)
    obtain ⟨S2, f2, r2, -⟩ := mx_ref (o := oM) (a1 := 5) (k := 5) hb hM (by decide +kernel)
    rw [F_d_seed_p1 q rfl rfl, F_m_seed_p1 q rfl, f1, f2]
    exact ⟨x, rfl, hx, r1, r2⟩
/-- UNDO on both sides -/
theorem sim_undo (ok : s_ok G K A U) (hX : RX oX g G K A L U x SX) (hM : RM G K A L U x SM) : ∃ (A' : aR) (L' : s_L) (U' : s_U), (F_d_undo oX SX).2 = (F_m_undo oM SM).2 ∧ s_ok G K A' U' ∧ RX oX g G K A' L' U' x (F_d_undo oX SX).1 ∧ RM G K A' L' U' x (F_m_undo oM SM).1 := by
  have z0 : (0 : Int32).toInt = 0 := by decide +kernel
  have hb := ok.1.1.2.2.2
  by_cases q : U = []
  · subst q
    have q1 : zI SX 17 2 = (0 : Int32) := dk_eqp z0 hX.2.2.2.2.1.1
    have q2 : zI SM 0 61 = (0 : Int32) := dk_eqp z0 hM.2.2.1.1
    have t := F_h_takeBack_p2 (o := oX) (S := SX) (pt := 3) rfl q1
    obtain ⟨S1, f1, -, r1, -⟩ := cx_no (o := oX) (a1 := 4) (k := 4) hX (by decide +kernel)
    obtain ⟨S2, f2, r2, -⟩ := mx_ref (o := oM) (a1 := 4) (k := 4) hb hM (by decide +kernel)
    have e1 : F_d_undo oX SX = (S1, (0 : Int32)) := F_d_undo_p1 (S_2 := SX) (x_1 := 0) (by rw [t]) (by rw [t]) rfl (by rw [f1]) (by rw [f1])
    have e2 : F_m_undo oM SM = (S2, (0 : Int32)) := F_m_undo_p1 rfl q2 (by rw [f2])
    rw [e1, e2]
    exact ⟨A, L, [], rfl, ok, r1, r2⟩
  · obtain ⟨U0, ⟨A', L'⟩, hU⟩ : ∃ U0 e, U = U0 ++ [e] := ⟨U.dropLast, U.getLast q, (List.dropLast_concat_getLast q).symm⟩
    subst hU
    obtain ⟨h1, h2, h3, h4, h5, h6⟩ := hX
    have sep := rX_sep h2.1.1
    obtain ⟨S1, e1, p1, k1, u1, t1⟩ := cx_back (o := oX) (p := 3) hb pX_3' (by decide) h5
    have kf := cx_forget (o := oX) (S := S1)
    obtain ⟨S3, e3⟩ : ∃ T, T = F_d_forgetTrials oX S1 := ⟨_, rfl⟩
    rw [← e3] at kf
    obtain ⟨m1, m2, m3, m4, m5⟩ := hM
    obtain ⟨S2, e2, l2, u2, t2⟩ := mx_undo1 (o := oM) hb m3
    have eX : F_d_undo oX SX = (S3, (1 : Int32)) := F_d_undo_p0 (S_2 := S1) (x_1 := 1) (by rw [e1]) (by rw [e1]) (by decide +kernel) e3
    rw [eX, e2]
    refine ⟨A', L', U0, rfl, ⟨ok.1, ok.2.1, ok.2.2.2 U0.length (A', L') (by rw [List.getElem?_append_right (Nat.le_refl _), Nat.sub_self]; rfl), fun i e he => ok.2.2.2 i e (by rw [List.getElem?_append_left (get_lt he)]; exact he)⟩, ⟨?_, ?_, ?_, ?_, ?_, ?_⟩, m1.keep (t2.I (by decide)) (t2.I (by decide)) (fun i hi => (t2.2 i (by omega)).1), l2, u2, by rw [t2.I (by decide)]; exact m4, by rw [t2.L (by decide)]; exact m5⟩
    · rw [kf.R (by decide), t1.R (by decide)]; exact h1
    · exact h2.keep (fun i _ _ => by rw [(kf.2 i id).1, (t1.2 i (fun z => by omega)).1]) (fun b => by rw [kf.I (fun z => by omega), t1.I (fun z => by omega)])
    · exact p1.keep (fun i _ _ => (kf.2 i id).1) (fun b _ => kf.I (fun z => by omega))
    · exact k1.keep (kf.I (by decide)) (kf.2 18 id).1
    · exact u1.keep (kf.I (by decide)) (kf.I (by decide)) (fun i _ _ => (kf.2 i id).1) (fun a b _ _ => kf.I (fun z => by omega))
    · rw [kf.I (by decide), t1.I (by decide)]; exact h6
end CU
end
section
/-! sending, healing: both sides -/
section CV
variable {o oX oM g n : Nat} {G A A' : aR} {K : Nat → List Int} {L L' : s_L} {U : s_U} {S S0 S1 SX SM : dg_S} {x x' r c v : Int} {a a1 a2 a3 a4 y : Int32}
theorem cx_miner (hg : cx_g G K S g) : F_g_hasMiner o S g a1 = 1 ∧ (0 ≤ a1.toInt ∧ a1.toInt < G 0 5) ∨ F_g_hasMiner o S g a1 = 0 ∧ ¬ (0 ≤ a1.toInt ∧ a1.toInt < G 0 5) := by
  have f := hg.2.1.2.2.2.2.1
  have z0 : (0 : Int32).toInt = 0 := by decide +kernel
  by_cases q1 : a1 < (0 : Int32)
  · have := dk_ltc z0 q1
    exact Or.inr ⟨F_g_hasMiner_p0 q1, by omega⟩
  have d1 := dk_nltc z0 q1
  by_cases q2 : zI S g 6 ≤ a1
  · have := w_le.mp q2
    exact Or.inr ⟨F_g_hasMiner_p1 rfl q1 q2, by omega⟩
  · have d2 : ¬ (zI S g 6).toInt ≤ a1.toInt := fun z => q2 (w_le.mpr z)
    exact Or.inl ⟨F_g_hasMiner_p2 rfl q1 q2, d1, by omega⟩
theorem cx_planrow (hg : cx_g G K S g) : F_g_hasPlanRow o S g a1 = 1 ∧ (0 ≤ a1.toInt ∧ a1.toInt < G 0 6) ∨ F_g_hasPlanRow o S g a1 = 0 ∧ ¬ (0 ≤ a1.toInt ∧ a1.toInt < G 0 6) := by
  have f := hg.1.2.2.1
  have z0 : (0 : Int32).toInt = 0 := by decide +kernel
  by_cases q1 : a1 < (0 : Int32)
  · have := dk_ltc z0 q1
    exact Or.inr ⟨F_g_hasPlanRow_p0 q1, by omega⟩
  have d1 := dk_nltc z0 q1
  by_cases q2 : zI S g 8 ≤ a1
  · have := w_le.mp q2
    exact Or.inr ⟨F_g_hasPlanRow_p1 rfl q1 q2, by omega⟩
  · have d2 : ¬ (zI S g 8).toInt ≤ a1.toInt := fun z => q2 (w_le.mpr z)
    exact Or.inl ⟨F_g_hasPlanRow_p2 rfl q1 q2, d1, by omega⟩
theorem cx_order (hg : cx_g G K S g) : F_g_hasOrder o S g a1 = 1 ∧ (0 ≤ a1.toInt ∧ a1.toInt < G 0 7) ∨ F_g_hasOrder o S g a1 = 0 ∧ ¬ (0 ≤ a1.toInt ∧ a1.toInt < G 0 7) := by
  have f := hg.2.1.2.2.2.2.2
  have z0 : (0 : Int32).toInt = 0 := by decide +kernel
  by_cases q1 : a1 < (0 : Int32)
  · have := dk_ltc z0 q1
    exact Or.inr ⟨F_g_hasOrder_p0 q1, by omega⟩
  have d1 := dk_nltc z0 q1
  by_cases q2 : zI S g 11 ≤ a1
  · have := w_le.mp q2
    exact Or.inr ⟨F_g_hasOrder_p1 rfl q1 q2, by omega⟩
  · have d2 : ¬ (zI S g 11).toInt ≤ a1.toInt := fun z => q2 (w_le.mpr z)
    exact Or.inl ⟨F_g_hasOrder_p2 rfl q1 q2, d1, by omega⟩
theorem mx_miner (hg : mx_gf G K S) : F_m_isMiner o S a1 = 1 ∧ (0 ≤ a1.toInt ∧ a1.toInt < G 0 5) ∨ F_m_isMiner o S a1 = 0 ∧ ¬ (0 ≤ a1.toInt ∧ a1.toInt < G 0 5) := by
  have f := hg.2.1.2.2.1
  have z0 : (0 : Int32).toInt = 0 := by decide +kernel
  by_cases q1 : a1 < (0 : Int32)
  · have := dk_ltc z0 q1
    exact Or.inr ⟨F_m_isMiner_p0 q1, by omega⟩
  have d1 := dk_nltc z0 q1
  by_cases q2 : S.2.1 8 (zI S 0 13).toNatClampNeg ≤ a1
  · have := w_le.mp q2
    exact Or.inr ⟨F_m_isMiner_p1 q1 rfl rfl q2, by omega⟩
  · have d2 : ¬ (S.2.1 8 (zI S 0 13).toNatClampNeg).toInt ≤ a1.toInt := fun z => q2 (w_le.mpr z)
    exact Or.inl ⟨F_m_isMiner_p2 q1 rfl rfl q2, d1, by omega⟩
theorem mx_order (hg : mx_gf G K S) : F_m_isOrder o S a1 = 1 ∧ (0 ≤ a1.toInt ∧ a1.toInt < G 0 7) ∨ F_m_isOrder o S a1 = 0 ∧ ¬ (0 ≤ a1.toInt ∧ a1.toInt < G 0 7) := by
  have f := hg.2.1.2.2.2
  have z0 : (0 : Int32).toInt = 0 := by decide +kernel
  by_cases q1 : a1 < (0 : Int32)
  · have := dk_ltc z0 q1
    exact Or.inr ⟨F_m_isOrder_p0 q1, by omega⟩
  have d1 := dk_nltc z0 q1
  by_cases q2 : S.2.1 12 (zI S 0 13).toNatClampNeg ≤ a1
  · have := w_le.mp q2
    exact Or.inr ⟨F_m_isOrder_p1 q1 rfl rfl q2, by omega⟩
  · have d2 : ¬ (S.2.1 12 (zI S 0 13).toNatClampNeg).toInt ≤ a1.toInt := fun z => q2 (w_le.mpr z)
    exact Or.inl ⟨F_m_isOrder_p2 q1 rfl rfl q2, d1, by omega⟩
/-! sending -/
def s_sd (G A : aR) (k m i j : Int) : Prop := ((0 ≤ i ∧ i < G 0 0) ∧ 0 ≤ j ∧ j < G 0 1) ∧ (0 ≤ k ∧ k < G 0 6) ∧ (0 ≤ m ∧ m < G 0 5) ∧ ¬ (A 3 k.toNat = m ∧ A 4 k.toNat = 8 * j + i)
def s_sA (A : aR) (k m i j : Int) : aR := s_up (s_up A 3 k.toNat m) 4 k.toNat (8 * j + i)
theorem s_sA_ok {k m i j : Int} (ok : s_ok G K A U) (h : s_sd G A k m i j) : s_ok G K (s_sA A k m i j) U := by
  obtain ⟨hG, hK, ⟨⟨w0, w1, w2, w3, w4, w5⟩, hcw⟩, hU⟩ := ok
  obtain ⟨⟨h1, h2⟩, h3, h4, -⟩ := h
  have hgb := hG.1.1
  have hm := hG.2.2.2.1
  have E : ∀ a b, a ≠ 3 → a ≠ 4 → s_sA A k m i j a b = A a b := fun a b i3 i4 => by
    unfold s_sA
    rw [s_up_ne (fun z => i4 z.1), s_up_ne (fun z => i3 z.1)]
  refine ⟨hG, hK, ⟨⟨by rw [E _ _ (by decide) (by decide)]; exact w0, by rw [E _ _ (by decide) (by decide)]; exact w1, fun l hl => by rw [E _ _ (by decide) (by decide)]; exact w2 l hl, fun l hl => ?_, fun l hl => by rw [E _ _ (by decide) (by decide)]; exact w4 l hl, fun l hl => by rw [E _ _ (by decide) (by decide)]; exact w5 l hl⟩, fun d hd => ?_, hcw.2.1, ?_⟩, hU⟩
  · unfold s_sA
    rw [s_up_ne (show ¬ (3 = 4 ∧ _) from fun z => absurd z.1 (by decide))]
    by_cases z : l = k.toNat
    · rw [z, s_up_at, s_up_at]
      exact ⟨by omega, ⟨by omega, by omega⟩, by omega, by omega⟩
    · rw [s_up_ne (fun w => z w.2), s_up_ne (fun w => z w.2), s_up_ne (show ¬ (4 = 3 ∧ _) from fun w => absurd w.1 (by decide))]
      exact w3 l hl
  · show -2 ≤ s_sA A k m i j 1 d.toNat ∧ s_sA A k m i j 1 d.toNat ≤ 9
    rw [E _ _ (by decide) (by decide)]
    exact hcw.1 d hd
  · show s_sA A k m i j 1 (G 0 2).toNat = -1
    rw [E _ _ (by decide) (by decide)]
    exact hcw.2.2
theorem cx_send (ok : s_ok G K A U) (h : RX o g G K A L U x S) : (s_sd G A a1.toInt a2.toInt a3.toInt a4.toInt ∧ ∃ S1, F_d_send o S a1 a2 a3 a4 = (S1, (1 : Int32)) ∧ RX o g G K (s_sA A a1.toInt a2.toInt a3.toInt a4.toInt) L (s_ud U (A, L)) x S1) ∨ (¬ s_sd G A a1.toInt a2.toInt a3.toInt a4.toInt ∧ ∃ S1, F_d_send o S a1 a2 a3 a4 = (S1, (0 : Int32)) ∧ RX o g G K A L U x S1) := by
  have hG := ok.1
  obtain ⟨SN, f1, -, rN, -⟩ := cx_no (o := o) (a1 := 3) (k := 3) h (by decide +kernel)
  have n1 : SN = (F_d_no o S (3 : Int32)).1 := by rw [f1]
  have n2 : (0 : Int32) = (F_d_no o S (3 : Int32)).2 := by rw [f1]
  rcases cx_place (o := o) (a1 := a3) (a2 := a4) h.2.1 hG.1.1 with ⟨p1, p2, p3, p4⟩ | ⟨p1, p2⟩
  rotate_left
  · exact Or.inr ⟨fun z => p1 z.1, SN, F_d_send_p0 h.1.symm rfl p2 n1 n2, rN⟩
  obtain ⟨pl, hpl⟩ : ∃ pl, pl = F_g_placeOf o S g a3 a4 := ⟨_, rfl⟩
  rw [← hpl] at p3
  have p40 := p4.1
  have q1 : ¬ pl = (-1 : Int32) := fun z => by have := dk_eqc (k := -1) (by decide +kernel) z; omega
  rcases cx_planrow (o := o) (a1 := a1) h.2.1 with ⟨q2, y2⟩ | ⟨q2, y2⟩
  rotate_left
  · exact Or.inr ⟨fun z => y2 z.2.1, SN, F_d_send_p1 h.1.symm hpl q1 rfl q2 n1 n2, rN⟩
  have m2 : ¬ F_g_hasPlanRow o S g a1 = (0 : Int32) := by rw [q2]; decide +kernel
  rcases cx_miner (o := o) (a1 := a2) h.2.1 with ⟨q3, y3⟩ | ⟨q3, y3⟩
  rotate_left
  · exact Or.inr ⟨fun z => y3 z.2.2.1, SN, F_d_send_p6 h.1.symm hpl q1 rfl m2 rfl q3 n1 n2, rN⟩
  have m3 : ¬ F_g_hasMiner o S g a2 = (0 : Int32) := by rw [q3]; decide +kernel
  have kn : a1.toNatClampNeg = a1.toInt.toNat := rfl
  obtain ⟨pm, pc⟩ := h.2.2.1.2.2.2.2.1 a1.toInt.toNat (by omega)
  obtain ⟨S2, e2, r2, k2⟩ := cx_act (o := o) hG h
  have go : ¬ (A 3 a1.toInt.toNat = a2.toInt ∧ A 4 a1.toInt.toNat = 8 * a4.toInt + a3.toInt) → F_d_send o S a1 a2 a3 a4 = F_d_send_J1 o S a1 a2 pl → (s_sd G A a1.toInt a2.toInt a3.toInt a4.toInt ∧ ∃ S1, F_d_send o S a1 a2 a3 a4 = (S1, (1 : Int32)) ∧ RX o g G K (s_sA A a1.toInt a2.toInt a3.toInt a4.toInt) L (s_ud U (A, L)) x S1) := fun hn F => by
    obtain ⟨S41, h41⟩ : ∃ T, T = dg_uf S2 6 (upd (S2.2.1 6) a1.toNatClampNeg a2) := ⟨_, rfl⟩
    obtain ⟨S43, h43⟩ : ∃ T, T = dg_uf S41 7 (upd (S41.2.1 7) a1.toNatClampNeg pl) := ⟨_, rfl⟩
    refine ⟨⟨⟨p1, p2⟩, y2, y3, hn⟩, S43, F.trans (F_d_send_p2 e2.symm h41 h43), ?_⟩
    have t : kp (fun _ _ => False) (fun a => a = 6 ∨ a = 7) S2 S43 := by
      rw [h43, h41]
      exact kp.uf (kp.uf kp.rf (Or.inl rfl)) (Or.inr rfl)
    refine r2.act t ?_ (r2.2.2.2.1.keep (t.I id) (t.2 18 (by decide)).1) id id (fun _ _ _ _ => id) ⟨id, id⟩ (fun _ _ _ _ => id) (fun a _ _ => by omega) (fun a _ _ => by omega)
    obtain ⟨y1, y2', y3', y4, y5, y6, y7⟩ := r2.2.2.1
    have E : ∀ a b, a ≠ 3 → a ≠ 4 → s_sA A a1.toInt a2.toInt a3.toInt a4.toInt a b = A a b := fun a b i3 i4 => by
      unfold s_sA
      rw [s_up_ne (fun z => i4 z.1), s_up_ne (fun z => i3 z.1)]
    have ro : ∀ i, i ≠ 6 → i ≠ 7 → S43.2.1 i = S2.2.1 i := fun i i6 i7 => (t.2 i (by omega)).1
    refine ⟨fun z z0 z1 => ?_, by rw [t.I id, E _ _ (by decide) (by decide)]; exact y2', by rw [t.I id, E _ _ (by decide) (by decide)]; exact y3', fun k hk => by rw [ro _ (by decide) (by decide), E _ _ (by decide) (by decide)]; exact y4 k hk, fun k hk => ?_, fun k hk => by rw [ro _ (by decide) (by decide), E _ _ (by decide) (by decide)]; exact y6 k hk, fun k hk => by rw [ro _ (by decide) (by decide), E _ _ (by decide) (by decide)]; exact y7 k hk⟩
    · have h9 := (y1.keep (S1 := S43) (ro _ (by decide) (by decide))) z z0 z1
      unfold s_c at h9 ⊢
      rw [E _ _ (by decide) (by decide)]
      exact h9
    · have r6 : S43.2.1 (3 + 3) = upd (S2.2.1 6) a1.toNatClampNeg a2 := by rw [h43, w_f, if_neg (by decide), h41, w_f, if_pos rfl]
      have r7 : S43.2.1 (3 + 4) = upd (S2.2.1 7) a1.toNatClampNeg pl := by rw [h43, w_f, if_pos rfl, h41, w_f, if_neg (by decide)]
      rw [r6, r7, w_u, w_u, kn]
      unfold s_sA
      rw [s_up_ne (show ¬ (3 = 4 ∧ _) from fun z => absurd z.1 (by decide))]
      by_cases z : k = a1.toInt.toNat
      · rw [if_pos z, if_pos z, z, s_up_at, s_up_at]
        exact ⟨rfl, p3⟩
      · rw [if_neg z, if_neg z, s_up_ne (fun w => z w.2), s_up_ne (fun w => z w.2), s_up_ne (show ¬ (4 = 3 ∧ _) from fun w => absurd w.1 (by decide))]
        exact y5 k hk
  by_cases q5 : S.2.1 6 a1.toNatClampNeg = a2
  · by_cases q6 : S.2.1 7 a1.toNatClampNeg = pl
    · refine Or.inr ⟨fun z => z.2.2.2 ⟨?_, ?_⟩, SN, F_d_send_p5 h.1.symm hpl q1 rfl m2 rfl m3 rfl q5 rfl q6 n1 n2, rN⟩
      · rw [← pm, ← q5]
        rfl
      · rw [← q6] at p3
        have pc : (S.2.1 7 a1.toNatClampNeg).toInt = A 4 a1.toInt.toNat + 8 := pc
        omega
    · refine Or.inl (go (fun z => q6 (Int32.toInt_inj.mp ?_)) (F_d_send_p4 h.1.symm hpl q1 rfl m2 rfl m3 rfl q5 rfl q6))
      have pc : (S.2.1 7 a1.toNatClampNeg).toInt = A 4 a1.toInt.toNat + 8 := pc
      have z2 := z.2
      omega
  · refine Or.inl (go (fun z => q5 (Int32.toInt_inj.mp ?_)) (F_d_send_p3 h.1.symm hpl q1 rfl m2 rfl m3 rfl q5))
    have pm : (S.2.1 6 a1.toNatClampNeg).toInt = A 3 a1.toInt.toNat := pm
    have z1 := z.1
    omega
theorem mx_send (ok : s_ok G K A U) (h : RM G K A L U x S) : (s_sd G A a1.toInt a2.toInt a3.toInt a4.toInt ∧ ∃ S1, F_m_send o S a1 a2 a3 a4 = (S1, (1 : Int32)) ∧ RM G K (s_sA A a1.toInt a2.toInt a3.toInt a4.toInt) L (s_ud U (A, L)) x S1) ∨ (¬ s_sd G A a1.toInt a2.toInt a3.toInt a4.toInt ∧ ∃ S1, F_m_send o S a1 a2 a3 a4 = (S1, (0 : Int32)) ∧ RM G K A L U x S1) := by
  have hG := ok.1
  have hb := hG.1.2.2.2
  obtain ⟨SN, f1, rN, -⟩ := mx_ref (o := o) (a1 := 3) (k := 3) hb h (by decide +kernel)
  have n1 : SN = (F_m_refuses o S (3 : Int32)).1 := by rw [f1]
  have z0 : (0 : Int32).toInt = 0 := by decide +kernel
  have h6 := hG.1.2.2
  have hg := h.1.1.1
  have f9 : (S.2.1 9 (zI S 0 13).toNatClampNeg).toInt = G 0 6 := hg.2.2.2.2
  have e4 : (S.2.1 9 (zI S 0 13).toNatClampNeg - (1 : Int32)).toInt = G 0 6 - 1 := dk_subT f9 (by decide +kernel) (by omega) (by omega)
  rcases mx_is (o := o) (S := S) (a := a1) (b := 0) (c := S.2.1 9 (zI S 0 13).toNatClampNeg - (1 : Int32)) with ⟨q2, y2⟩ | ⟨q2, y2⟩
  rotate_left
  · rw [e4, z0] at y2
    exact Or.inr ⟨fun z => y2 (by have := z.2.1; omega), SN, F_m_send_p0 rfl rfl rfl rfl q2 n1, rN⟩
  rw [e4, z0] at y2
  have m2 : ¬ F_m_is o S a1 (0 : Int32) (S.2.1 9 (zI S 0 13).toNatClampNeg - (1 : Int32)) = (0 : Int32) := by rw [q2]; decide +kernel
  rcases mx_miner (o := o) (a1 := a2) h.1 with ⟨q3, y3⟩ | ⟨q3, y3⟩
  rotate_left
  · exact Or.inr ⟨fun z => y3 z.2.2.1, SN, F_m_send_p1 rfl rfl rfl rfl m2 rfl q3 n1, rN⟩
  have m3 : ¬ F_m_isMiner o S a2 = (0 : Int32) := by rw [q3]; decide +kernel
  rcases mx_cellof (o := o) (a1 := a3) (a2 := a4) hg hG.1.1 with ⟨p1, p2, p3, p4, p5⟩ | ⟨p1, p2⟩
  rotate_left
  · exact Or.inr ⟨fun z => p1 z.1, SN, F_m_send_p6 rfl rfl rfl rfl m2 rfl m3 rfl p2 n1, rN⟩
  have q4 : ¬ F_m_isCell o S a3 a4 = (0 : Int32) := by rw [p3]; decide +kernel
  obtain ⟨w, hw⟩ : ∃ w, w = (8 : Int32) * a4 + a3 := ⟨_, rfl⟩
  rw [← hw] at p4
  have kn : a1.toNatClampNeg = a1.toInt.toNat := rfl
  obtain ⟨pm, pc⟩ := h.2.1.2.2.2.2.1 a1.toInt.toNat (by omega)
  rw [show 16 * 0 + a1.toInt.toNat = a1.toInt.toNat by omega] at pm pc
  obtain ⟨S2, e2, r2, k2⟩ := mx_act (o := o) hG h
  have w35 : mx_w 35 = 16 := rfl
  have w36 : mx_w 36 = 16 := rfl
  have go : ¬ (A 3 a1.toInt.toNat = a2.toInt ∧ A 4 a1.toInt.toNat = 8 * a4.toInt + a3.toInt) → F_m_send o S a1 a2 a3 a4 = F_m_send_J1 S o a1 a2 w → (s_sd G A a1.toInt a2.toInt a3.toInt a4.toInt ∧ ∃ S1, F_m_send o S a1 a2 a3 a4 = (S1, (1 : Int32)) ∧ RM G K (s_sA A a1.toInt a2.toInt a3.toInt a4.toInt) L (s_ud U (A, L)) x S1) := fun hn F => by
    obtain ⟨S63, h63⟩ : ∃ T, T = dg_uf S2 35 (upd (S2.2.1 35) a1.toNatClampNeg a2) := ⟨_, rfl⟩
    obtain ⟨S65, h65⟩ : ∃ T, T = dg_uf S63 36 (upd (S63.2.1 36) a1.toNatClampNeg w) := ⟨_, rfl⟩
    refine ⟨⟨⟨p1, p2⟩, ⟨by omega, by omega⟩, y3, hn⟩, S65, F.trans (F_m_send_p2 e2.symm h63 h65), ?_⟩
    have t : k_v 0 S2 S65 := by
      rw [h65, kn]
      refine k_v.uf ?_ (by decide) (by decide) ⟨by omega, by omega⟩
      rw [h63, kn]
      exact k_v.uf k_v.rf (by decide) (by decide) ⟨by omega, by omega⟩
    refine r2.v hb t (by decide) ?_
    obtain ⟨y1, y2', y3', y4, y5, y6, y7, y8⟩ := r2.2.1
    have E : ∀ a b, a ≠ 3 → a ≠ 4 → s_sA A a1.toInt a2.toInt a3.toInt a4.toInt a b = A a b := fun a b i3 i4 => by
      unfold s_sA
      rw [s_up_ne (fun z => i4 z.1), s_up_ne (fun z => i3 z.1)]
    have ro : ∀ i, i ≠ 35 → i ≠ 36 → S65.2.1 i = S2.2.1 i := fun i i5 i6 => by rw [h65, w_f, if_neg i6, h63, w_f, if_neg i5]
    refine ⟨?_, by rw [ro _ (by decide) (by decide), E _ _ (by decide) (by decide)]; exact y2', by rw [ro _ (by decide) (by decide), E _ _ (by decide) (by decide)]; exact y3', by rw [ro _ (by decide) (by decide)]; exact ⟨y4.1, fun k hk => by rw [E _ _ (by decide) (by decide)]; exact y4.2 k hk⟩, fun k hk => ?_, by rw [ro _ (by decide) (by decide)]; exact ⟨y6.1, fun k hk => by rw [E _ _ (by decide) (by decide)]; exact y6.2 k hk⟩, fun k hk => by rw [ro _ (by decide) (by decide), E _ _ (by decide) (by decide)]; exact y7 k hk, y8.keep (by rw [ro _ (by decide) (by decide)]) (fun j _ _ => by rw [ro _ (by decide) (by decide)])⟩
    · have h9 := y1.keep (S1 := S65) (ro 31 (by decide) (by decide)) (ro 32 (by decide) (by decide))
      exact h9.congr (fun d _ => by unfold s_c; rw [E _ _ (by decide) (by decide)])
    · have r35 : S65.2.1 35 = upd (S2.2.1 35) a1.toNatClampNeg a2 := by rw [h65, w_f, if_neg (by decide), h63, w_f, if_pos rfl]
      have r36 : S65.2.1 36 = upd (S2.2.1 36) a1.toNatClampNeg w := by rw [h65, w_f, if_pos rfl, h63, w_f, if_neg (by decide)]
      have y5k := y5 k hk
      rw [show 16 * 0 + k = k by omega] at y5k ⊢
      rw [r35, r36, w_u, w_u, kn]
      unfold s_sA
      rw [s_up_ne (show ¬ (3 = 4 ∧ _) from fun z => absurd z.1 (by decide))]
      by_cases z : k = a1.toInt.toNat
      · rw [if_pos z, if_pos z, z, s_up_at, s_up_at]
        exact ⟨rfl, p4⟩
      · rw [if_neg z, if_neg z, s_up_ne (fun w => z w.2), s_up_ne (fun w => z w.2), s_up_ne (show ¬ (4 = 3 ∧ _) from fun w => absurd w.1 (by decide))]
        exact y5k
  by_cases q5 : S.2.1 35 a1.toNatClampNeg = a2
  · by_cases q6 : S.2.1 36 a1.toNatClampNeg = w
    · refine Or.inr ⟨fun z => z.2.2.2 ⟨?_, ?_⟩, SN, F_m_send_p5 rfl rfl rfl rfl m2 rfl m3 rfl q4 rfl hw rfl q5 rfl q6 n1, rN⟩
      · rw [← pm, ← q5]
        rfl
      · rw [← q6] at p4
        rw [← p4, ← pc]
        rfl
    · refine Or.inl (go (fun z => q6 (Int32.toInt_inj.mp ?_)) (F_m_send_p4 rfl rfl rfl rfl m2 rfl m3 rfl q4 rfl hw rfl q5 rfl q6))
      have pc : (S.2.1 36 a1.toNatClampNeg).toInt = A 4 a1.toInt.toNat := pc
      have z2 := z.2
      omega
  · refine Or.inl (go (fun z => q5 (Int32.toInt_inj.mp ?_)) (F_m_send_p3 rfl rfl rfl rfl m2 rfl m3 rfl q4 rfl hw rfl q5))
    have pm : (S.2.1 35 a1.toNatClampNeg).toInt = A 3 a1.toInt.toNat := pm
    have z1 := z.1
    omega
/-- SEND on both sides -/
theorem sim_send (ok : s_ok G K A U) (hX : RX oX g G K A L U x SX) (hM : RM G K A L U x SM) : ∃ (A' : aR) (U' : s_U), (F_d_send oX SX a1 a2 a3 a4).2 = (F_m_send oM SM a1 a2 a3 a4).2 ∧ s_ok G K A' U' ∧ RX oX g G K A' L U' x (F_d_send oX SX a1 a2 a3 a4).1 ∧ RM G K A' L U' x (F_m_send oM SM a1 a2 a3 a4).1 := by
  rcases cx_send (o := oX) (a1 := a1) (a2 := a2) (a3 := a3) (a4 := a4) ok hX with ⟨p, S1, e1, r1⟩ | ⟨p, S1, e1, r1⟩ <;> rcases mx_send (o := oM) (a1 := a1) (a2 := a2) (a3 := a3) (a4 := a4) ok hM with ⟨q, S2, e2, r2⟩ | ⟨q, S2, e2, r2⟩
  · rw [e1, e2]
    exact ⟨_, _, rfl, s_sA_ok (s_ud_ok ok) p, r1, r2⟩
  · exact absurd p q
  · exact absurd q p
  · rw [e1, e2]
    exact ⟨A, U, rfl, ok, r1, r2⟩
/-! healing -/
theorem mx_clrbit {a b : Int32} (h : 0 ≤ a.toInt ∧ a.toInt < 64) (hb : 0 ≤ b.toInt ∧ b.toInt < 6) : (0 ≤ (a &&& (((1 : Int32) <<< (b &&& 31)) ^^^ (-1 : Int32))).toInt ∧ (a &&& (((1 : Int32) <<< (b &&& 31)) ^^^ (-1 : Int32))).toInt < 64) ∧ ∀ k, k < 6 → mx_bit (a &&& (((1 : Int32) <<< (b &&& 31)) ^^^ (-1 : Int32))).toInt k = if k = b.toInt.toNat then 0 else mx_bit a.toInt k := by
  have key : ∀ n : Nat, n < 64 → ∀ j : Nat, j < 6 → (0 ≤ (Int32.ofInt (n : Int) &&& (((1 : Int32) <<< (Int32.ofInt (j : Int) &&& 31)) ^^^ (-1 : Int32))).toInt ∧ (Int32.ofInt (n : Int) &&& (((1 : Int32) <<< (Int32.ofInt (j : Int) &&& 31)) ^^^ (-1 : Int32))).toInt < 64) ∧ ∀ k : Nat, k < 6 → mx_bit (Int32.ofInt (n : Int) &&& (((1 : Int32) <<< (Int32.ofInt (j : Int) &&& 31)) ^^^ (-1 : Int32))).toInt k = if k = j then 0 else mx_bit (n : Int) k := by decide +kernel
  have e1 := key a.toInt.toNat (by omega) b.toInt.toNat (by omega)
  rw [show ((a.toInt.toNat : Nat) : Int) = a.toInt by omega, show ((b.toInt.toNat : Nat) : Int) = b.toInt by omega, Int32.ofInt_toInt, Int32.ofInt_toInt] at e1
  exact e1
def s_hl (G A : aR) (m : Int) : Prop := (0 ≤ m ∧ m < G 0 5) ∧ A 2 m.toNat = 1
theorem s_hl_ok (ok : s_ok G K A U) {m : Int} : s_ok G K (s_up A 2 m.toNat 0) U := by
  obtain ⟨hG, hK, ⟨⟨w0, w1, w2, w3, w4, w5⟩, hcw⟩, hU⟩ := ok
  have E : ∀ a b, a ≠ 2 → s_up A 2 m.toNat 0 a b = A a b := fun a b h => s_up_ne (fun z => h z.1)
  refine ⟨hG, hK, ⟨⟨by rw [E _ _ (by decide)]; exact w0, by rw [E _ _ (by decide)]; exact w1, fun l hl => ?_, fun l hl => by rw [E _ _ (by decide), E _ _ (by decide)]; exact w3 l hl, fun l hl => by rw [E _ _ (by decide)]; exact w4 l hl, fun l hl => by rw [E _ _ (by decide)]; exact w5 l hl⟩, fun d hd => ?_, hcw.2.1, ?_⟩, hU⟩
  · by_cases z : l = m.toNat
    · rw [z, s_up_at]
      exact Or.inl rfl
    · rw [s_up_ne (fun y => z y.2)]
      exact w2 l hl
  · rw [s_c_o (by decide)]
    exact hcw.1 d hd
  · rw [s_c_o (by decide)]
    exact hcw.2.2
theorem cx_heal (ok : s_ok G K A U) (h : RX o g G K A L U x S) : (s_hl G A a1.toInt ∧ ∃ S1, F_d_heal o S a1 = (S1, (1 : Int32)) ∧ RX o g G K (s_up A 2 a1.toInt.toNat 0) L (s_ud U (A, L)) x S1) ∨ (¬ s_hl G A a1.toInt ∧ ∃ S1, F_d_heal o S a1 = (S1, (0 : Int32)) ∧ RX o g G K A L U x S1) := by
  have hG := ok.1
  have z0 : (0 : Int32).toInt = 0 := by decide +kernel
  obtain ⟨SN, f1, -, rN, -⟩ := cx_no (o := o) (a1 := 3) (k := 3) h (by decide +kernel)
  have n1 : SN = (F_d_no o S (3 : Int32)).1 := by rw [f1]
  have n2 : (0 : Int32) = (F_d_no o S (3 : Int32)).2 := by rw [f1]
  rcases cx_miner (o := o) (a1 := a1) h.2.1 with ⟨q3, y3⟩ | ⟨q3, y3⟩
  rotate_left
  · exact Or.inr ⟨fun z => y3 z.1, SN, F_d_heal_p0 h.1.symm rfl q3 n1 n2, rN⟩
  have m3 : ¬ F_g_hasMiner o S g a1 = (0 : Int32) := by rw [q3]; decide +kernel
  have h5 := hG.2.2.2.1
  have kn : a1.toNatClampNeg = a1.toInt.toNat := rfl
  have hu : (S.2.1 5 a1.toNatClampNeg).toInt = A 2 a1.toInt.toNat := h.2.2.1.2.2.2.1 a1.toInt.toNat (by omega)
  have w2 := ok.2.2.1.1.2.2.1 a1.toInt.toNat (by omega)
  by_cases q4 : S.2.1 5 a1.toNatClampNeg = (0 : Int32)
  · have d := dk_eqc z0 q4
    exact Or.inr ⟨fun z => by have := z.2; omega, SN, F_d_heal_p2 h.1.symm rfl m3 rfl q4 n1 n2, rN⟩
  · have d := dk_neqc z0 q4
    obtain ⟨S2, e2, r2, k2⟩ := cx_act (o := o) hG h
    refine Or.inl ⟨⟨y3, by omega⟩, _, F_d_heal_p1 h.1.symm rfl m3 rfl q4 e2.symm rfl, r2.row ⟨by decide, by decide⟩ ?_⟩
    obtain ⟨y1, y2', y3', y4, y5, y6, y7⟩ := r2.2.2.1
    have E : ∀ a b, a ≠ 2 → s_up A 2 a1.toInt.toNat 0 a b = A a b := fun a b h => s_up_ne (fun z => h z.1)
    have ro : ∀ i', i' ≠ 5 → (dg_uf S2 5 (upd (S2.2.1 5) a1.toNatClampNeg (0 : Int32))).2.1 i' = S2.2.1 i' := fun i' hi' => by rw [w_f, if_neg hi']
    refine ⟨fun z z0 z1 => ?_, by rw [E _ _ (by decide)]; exact y2', by rw [E _ _ (by decide)]; exact y3', fun k hk => ?_, fun k hk => by rw [ro _ (by decide), ro _ (by decide), E _ _ (by decide), E _ _ (by decide)]; exact y5 k hk, fun k hk => by rw [ro _ (by decide), E _ _ (by decide)]; exact y6 k hk, fun k hk => by rw [ro _ (by decide), E _ _ (by decide)]; exact y7 k hk⟩
    · rw [s_c_o (by decide)]
      exact (y1.keep (ro _ (by decide))) z z0 z1
    · rw [show (dg_uf S2 5 (upd (S2.2.1 5) a1.toNatClampNeg (0 : Int32))).2.1 (3 + 2) = upd (S2.2.1 5) a1.toNatClampNeg (0 : Int32) by rw [w_f, if_pos rfl], w_u, kn]
      by_cases z : k = a1.toInt.toNat
      · rw [if_pos z, z, s_up_at]
        exact z0
      · rw [if_neg z, s_up_ne (fun y => z y.2)]
        exact y4 k hk
theorem mx_heal (ok : s_ok G K A U) (h : RM G K A L U x S) : (s_hl G A a1.toInt ∧ ∃ S1, F_m_heal o S a1 = (S1, (1 : Int32)) ∧ RM G K (s_up A 2 a1.toInt.toNat 0) L (s_ud U (A, L)) x S1) ∨ (¬ s_hl G A a1.toInt ∧ ∃ S1, F_m_heal o S a1 = (S1, (0 : Int32)) ∧ RM G K A L U x S1) := by
  have hG := ok.1
  have hb := hG.1.2.2.2
  have z0 : (0 : Int32).toInt = 0 := by decide +kernel
  have n0 : (0 : Int32).toNatClampNeg = 0 := by decide +kernel
  obtain ⟨SN, f1, rN, -⟩ := mx_ref (o := o) (a1 := 3) (k := 3) hb h (by decide +kernel)
  have n1 : SN = (F_m_refuses o S (3 : Int32)).1 := by rw [f1]
  rcases mx_miner (o := o) (a1 := a1) h.1 with ⟨q3, y3⟩ | ⟨q3, y3⟩
  rotate_left
  · exact Or.inr ⟨fun z => y3 z.1, SN, F_m_heal_p0 rfl q3 n1, rN⟩
  have m3 : ¬ F_m_isMiner o S a1 = (0 : Int32) := by rw [q3]; decide +kernel
  have h5 := hG.2.2.2.1
  obtain ⟨hb1, hb2⟩ := h.2.1.2.2.2.1
  have hu := hb2 a1.toInt.toNat (by omega)
  rcases mx_has2 (o := o) (S := S) (a := S.2.1 33 (0 : Int32).toNatClampNeg) (b := a1) (by rw [n0]; exact hb1) (by omega) with ⟨q4, y4⟩ | ⟨q4, y4⟩
  rotate_left
  · rw [n0, ← hu] at y4
    exact Or.inr ⟨fun z => by have := z.2; omega, SN, F_m_heal_p2 rfl m3 rfl rfl q4 n1, rN⟩
  rw [n0, ← hu] at y4
  have m4 : ¬ F_m_has2 o S (S.2.1 33 (0 : Int32).toNatClampNeg) a1 = (0 : Int32) := by rw [q4]; decide +kernel
  obtain ⟨S2, e2, r2, k2⟩ := mx_act (o := o) hG h
  refine Or.inl ⟨⟨y3, y4⟩, _, F_m_heal_p1 rfl m3 rfl rfl m4 e2.symm rfl rfl rfl rfl rfl, r2.row hb ⟨by decide, by decide⟩ (by rw [n0]; decide) ?_⟩
  obtain ⟨y1, y2', y3', ⟨y4', y4''⟩, y5, y6, y7, y8⟩ := r2.2.1
  have E : ∀ a b, a ≠ 2 → s_up A 2 a1.toInt.toNat 0 a b = A a b := fun a b h => s_up_ne (fun z => h z.1)
  obtain ⟨X, hX⟩ : ∃ X, X = S2.2.1 33 (0 : Int32).toNatClampNeg &&& (((1 : Int32) <<< (a1 &&& 31)) ^^^ (-1 : Int32)) := ⟨_, rfl⟩
  rw [← hX]
  obtain ⟨c1, c2⟩ := mx_clrbit (a := S2.2.1 33 (0 : Int32).toNatClampNeg) (b := a1) (by rw [n0]; exact y4') (by omega)
  rw [← hX] at c1 c2
  have ro : ∀ i', i' ≠ 33 → (dg_uf S2 33 (upd (S2.2.1 33) (0 : Int32).toNatClampNeg X)).2.1 i' = S2.2.1 i' := fun i' hi' => by rw [w_f, if_neg hi']
  have r33 : (dg_uf S2 33 (upd (S2.2.1 33) (0 : Int32).toNatClampNeg X)).2.1 33 0 = X := by rw [w_f, if_pos rfl, w_u, n0, if_pos rfl]
  refine ⟨?_, by rw [ro _ (by decide), E _ _ (by decide)]; exact y2', by rw [ro _ (by decide), E _ _ (by decide)]; exact y3', ⟨by rw [r33]; exact c1, fun k hk => ?_⟩, fun k hk => by rw [ro _ (by decide), ro _ (by decide), E _ _ (by decide), E _ _ (by decide)]; exact y5 k hk, by rw [ro _ (by decide)]; exact ⟨y6.1, fun k hk => by rw [E _ _ (by decide)]; exact y6.2 k hk⟩, fun k hk => by rw [ro _ (by decide), E _ _ (by decide)]; exact y7 k hk, y8.keep (by rw [ro _ (by decide)]) (fun j _ _ => by rw [ro _ (by decide)])⟩
  · have h9 := y1.keep (S1 := dg_uf S2 33 (upd (S2.2.1 33) (0 : Int32).toNatClampNeg X)) (ro 31 (by decide)) (ro 32 (by decide))
    exact h9.congr (fun d _ => s_c_o (by decide))
  · rw [r33, c2 k hk]
    by_cases z : k = a1.toInt.toNat
    · rw [if_pos z, z, s_up_at]
    · rw [if_neg z, s_up_ne (fun y => z y.2), n0]
      exact y4'' k hk
/-- HEAL on both sides -/
theorem sim_heal (ok : s_ok G K A U) (hX : RX oX g G K A L U x SX) (hM : RM G K A L U x SM) : ∃ (A' : aR) (U' : s_U), (F_d_heal oX SX a1).2 = (F_m_heal oM SM a1).2 ∧ s_ok G K A' U' ∧ RX oX g G K A' L U' x (F_d_heal oX SX a1).1 ∧ RM G K A' L U' x (F_m_heal oM SM a1).1 := by
  rcases cx_heal (o := oX) (a1 := a1) ok hX with ⟨p, S1, e1, r1⟩ | ⟨p, S1, e1, r1⟩ <;> rcases mx_heal (o := oM) (a1 := a1) ok hM with ⟨q, S2, e2, r2⟩ | ⟨q, S2, e2, r2⟩
  · rw [e1, e2]
    exact ⟨_, _, rfl, s_hl_ok (s_ud_ok ok), r1, r2⟩
  · exact absurd p q
  · exact absurd q p
  · rw [e1, e2]
    exact ⟨A, U, rfl, ok, r1, r2⟩
end CV
end
section
/-! selling: both sides -/
/-- so many tubs from a grade on -/
def s_sz (A : aR) (g : Nat) : Nat → Int
  | 0 => 0
  | c + 1 => s_sz A g c + A 6 (g + c)
/-- tubs are given, the lowest grade first: how many are left to give, and the pit -/
def s_gv (g : Nat) (l : Int) (A : aR) : Nat → Int × aR
  | 0 => (l, A)
  | c + 1 => ((s_gv g l A c).1 - min ((s_gv g l A c).2 6 (g + c)) (s_gv g l A c).1, s_up (s_gv g l A c).2 6 (g + c) ((s_gv g l A c).2 6 (g + c) - min ((s_gv g l A c).2 6 (g + c)) (s_gv g l A c).1))
section CW
variable {o oX oM g n : Nat} {G A A' : aR} {K : Nat → List Int} {L L' : s_L} {U : s_U} {S S0 S1 SX SM : dg_S} {x x' r c v l : Int} {a a1 a2 a3 a4 y : Int32}
theorem s_sm_b (h : ∀ k, k < 10 → 0 ≤ A 6 k ∧ A 6 k ≤ 99) : ∀ c : Nat, n + c ≤ 10 → 0 ≤ s_sz A n c ∧ s_sz A n c ≤ 99 * c
  | 0, _ => ⟨Int.le_refl _, by show (0 : Int) ≤ 99 * ((0 : Nat) : Int); omega⟩
  | c + 1, hc => by
    have h1 := s_sm_b h c (by omega)
    have h2 := h (n + c) (by omega)
    show 0 ≤ s_sz A n c + A 6 (n + c) ∧ s_sz A n c + A 6 (n + c) ≤ 99 * ((c + 1 : Nat) : Int)
    omega
theorem cx_tubsFrom {p : Nat} (hp : cx_pit G A S p) (hw : s_wf G A) (ha : a1.toInt = n) (hn : n ≤ 10) : (F_p_tubsFrom o S p a1).toInt = s_sz A n (10 - n) := by
  have z0 : (0 : Int32).toInt = 0 := by decide +kernel
  have z9 : (9 : Int32).toInt = 9 := by decide +kernel
  have w5 := hw.2.2.2.2.2
  obtain ⟨-, -, -, -, -, -, y7⟩ := hp
  rw [F_p_tubsFrom_p2]
  refine lp_cnt (f := F_p_tubsFrom_B1 S p) (z := (0 : Int32)) (W := 10) (P := fun c s => n ≤ c ∧ s.toInt = s_sz A n (c - n)) (Q := fun q => q.toInt = s_sz A n (10 - n)) (by omega) (fun c cI s hc hcI hP => ?_) (fun cI s hcI hP => ?_) ((11 - (a1 : Int32).toInt).toNat + 1) n a1 0 (by omega) hn ha ⟨Nat.le_refl _, by rw [Nat.sub_self, z0]; rfl⟩
  · obtain ⟨p1, p2⟩ := hP
    have cn : cI.toNatClampNeg = c := by rw [dk_clN]; omega
    have b := s_sm_b (n := n) w5 (c - n) (by omega)
    have hv := y7 c hc
    have w5c := w5 c hc
    refine ⟨_, F_p_tubsFrom_p1 (fun q => by have := dk_gtc z9 q; omega) rfl rfl rfl, by omega, ?_⟩
    rw [cn, dk_addT p2 hv (by omega) (by omega), show c + 1 - n = (c - n) + 1 by omega]
    show _ = s_sz A n (c - n) + A 6 (n + (c - n))
    rw [show n + (c - n) = c by omega]
  · exact ⟨s, F_p_tubsFrom_p0 (dk_gtp z9 (by omega)), hP.2⟩
theorem mx_tubsFrom {v : Nat} (hl : mx_lay G A L S v) (hw : s_wf G A) (ha1 : a1.toInt = v) (hv : v ≤ 40) (ha : a2.toInt = n) (hn : n ≤ 10) : (F_m_tubsFrom o S a1 a2).toInt = s_sz A n (10 - n) := by
  have z0 : (0 : Int32).toInt = 0 := by decide +kernel
  have z10 : (10 : Int32).toInt = 10 := by decide +kernel
  have e10 : (10 : Int32).toInt = ((10 : Nat) : Int) := by decide +kernel
  have w5 := hw.2.2.2.2.2
  obtain ⟨-, -, -, -, -, -, y7, -⟩ := hl
  rw [F_m_tubsFrom_p2]
  refine lp_cnt (f := F_m_tubsFrom_B1 a1 S) (z := (0 : Int32)) (W := 10) (P := fun c s => n ≤ c ∧ s.toInt = s_sz A n (c - n)) (Q := fun q => q.toInt = s_sz A n (10 - n)) (by omega) (fun c cI s hc hcI hP => ?_) (fun cI s hcI hP => ?_) ((10000 - (a2 : Int32).toInt).toNat + 1) n a2 0 (by omega) hn ha ⟨Nat.le_refl _, by rw [Nat.sub_self, z0]; rfl⟩
  · obtain ⟨p1, p2⟩ := hP
    have b := s_sm_b (n := n) w5 (c - n) (by omega)
    have hv' := y7 c hc
    have w5c := w5 c hc
    have pl := mx_pl ha1 hv hcI (by omega) e10 (by omega) (by omega)
    refine ⟨_, F_m_tubsFrom_p1 (fun q => by have := dk_gec z10 q; omega) rfl rfl rfl rfl rfl, by omega, ?_⟩
    rw [pl, dk_addT p2 hv' (by omega) (by omega), show c + 1 - n = (c - n) + 1 by omega]
    show _ = s_sz A n (c - n) + A 6 (n + (c - n))
    rw [show n + (c - n) = c by omega]
  · exact ⟨s, F_m_tubsFrom_p0 (dk_gep z10 (by omega)), hP.2⟩
/-- what giving tubs leaves -/
theorem s_gv_b (h : ∀ k, k < 10 → 0 ≤ A 6 k ∧ A 6 k ≤ 99) (hl : 0 ≤ l ∧ l ≤ 99) : ∀ c : Nat, n + c ≤ 10 → (0 ≤ (s_gv n l A c).1 ∧ (s_gv n l A c).1 ≤ l) ∧ (∀ k, k < 10 → 0 ≤ (s_gv n l A c).2 6 k ∧ (s_gv n l A c).2 6 k ≤ 99) ∧ ∀ i k, i ≠ 6 → (s_gv n l A c).2 i k = A i k
  | 0, _ => ⟨⟨hl.1, Int.le_refl _⟩, h, fun _ _ _ => rfl⟩
  | c + 1, hc => by
    obtain ⟨h1, h2, h3⟩ := s_gv_b h hl c (by omega)
    have h4 := h2 (n + c) (by omega)
    refine ⟨?_, fun k hk => ?_, fun i k hi => ?_⟩
    · show 0 ≤ (s_gv n l A c).1 - min ((s_gv n l A c).2 6 (n + c)) (s_gv n l A c).1 ∧ (s_gv n l A c).1 - min ((s_gv n l A c).2 6 (n + c)) (s_gv n l A c).1 ≤ l
      omega
    · show 0 ≤ s_up (s_gv n l A c).2 6 (n + c) _ 6 k ∧ s_up (s_gv n l A c).2 6 (n + c) _ 6 k ≤ 99
      by_cases z : k = n + c
      · rw [z, s_up_at]
        omega
      · rw [s_up_ne (fun y => z y.2)]
        exact h2 k hk
    · show s_up (s_gv n l A c).2 6 (n + c) _ i k = A i k
      rw [s_up_ne (fun y => hi y.1)]
      exact h3 i k hi
/-- an order is sold -/
noncomputable def s_sl (G A : aR) (k : Nat) : aR := s_up (s_up (s_gv (G 2 k).toNat (G 3 k) A (10 - (G 2 k).toNat)).2 5 k 1) 0 1 (min 99999 (A 0 1 + G 4 k))
def s_cs (G A : aR) (k : Int) : Prop := (0 ≤ k ∧ k < G 0 7) ∧ A 5 k.toNat = 0 ∧ G 3 k.toNat ≤ s_sz A (G 2 k.toNat).toNat (10 - (G 2 k.toNat).toNat)
theorem s_sl_ok (ok : s_ok G K A U) {k : Int} (hk : 0 ≤ k ∧ k < G 0 7) : s_ok G K (s_sl G A k.toNat) U := by
  obtain ⟨hG, hK, ⟨⟨w0, w1, w2, w3, w4, w5⟩, hcw⟩, hU⟩ := ok
  obtain ⟨g2, g3, g4⟩ := hG.2.2.2.2.2.2.2 k.toNat (by omega)
  obtain ⟨b1, b2, b3⟩ := s_gv_b (n := (G 2 k.toNat).toNat) (l := G 3 k.toNat) w5 ⟨by omega, by omega⟩ (10 - (G 2 k.toNat).toNat) (by omega)
  have E : ∀ a b, a ≠ 0 → a ≠ 5 → a ≠ 6 → s_sl G A k.toNat a b = A a b := fun a b i0 i5 i6 => by
    unfold s_sl
    rw [s_up_ne (fun z => i0 z.1), s_up_ne (fun z => i5 z.1), b3 a b i6]
  have e00 : s_sl G A k.toNat 0 0 = A 0 0 := by
    unfold s_sl
    rw [s_up_ne (fun z => absurd z.2 (by decide)), s_up_ne (fun z => absurd z.1 (by decide)), b3 0 0 (by decide)]
  have e01 : s_sl G A k.toNat 0 1 = min 99999 (A 0 1 + G 4 k.toNat) := by
    unfold s_sl
    rw [s_up_at]
  have e5 : ∀ j, s_sl G A k.toNat 5 j = if j = k.toNat then 1 else A 5 j := fun j => by
    unfold s_sl
    rw [s_up_ne (fun z => absurd z.1 (by decide))]
    by_cases z : j = k.toNat
    · rw [if_pos z, z, s_up_at]
    · rw [if_neg z, s_up_ne (fun y => z y.2), b3 5 j (by decide)]
  have e6 : ∀ j, s_sl G A k.toNat 6 j = (s_gv (G 2 k.toNat).toNat (G 3 k.toNat) A (10 - (G 2 k.toNat).toNat)).2 6 j := fun j => by
    unfold s_sl
    rw [s_up_ne (fun z => absurd z.1 (by decide)), s_up_ne (fun z => absurd z.1 (by decide))]
  refine ⟨hG, hK, ⟨⟨by rw [e00]; exact w0, by rw [e01]; omega, fun j hj => by rw [E _ _ (by decide) (by decide) (by decide)]; exact w2 j hj, fun j hj => by rw [E _ _ (by decide) (by decide) (by decide), E _ _ (by decide) (by decide) (by decide)]; exact w3 j hj, fun j hj => ?_, fun j hj => by rw [e6]; exact b2 j hj⟩, fun d hd => ?_, hcw.2.1, ?_⟩, hU⟩
  · rw [e5]
    split
    · exact Or.inr rfl
    · exact w4 j hj
  · show -2 ≤ s_sl G A k.toNat 1 d.toNat ∧ s_sl G A k.toNat 1 d.toNat ≤ 9
    rw [E _ _ (by decide) (by decide) (by decide)]
    exact hcw.1 d hd
  · show s_sl G A k.toNat 1 (G 0 2).toNat = -1
    rw [E _ _ (by decide) (by decide) (by decide)]
    exact hcw.2.2
theorem cx_canSell (ok : s_ok G K A U) (h : RX o g G K A L U x S) (hk : 0 ≤ a1.toInt ∧ a1.toInt < G 0 7) : F_d_canBeSold o S a1 = 1 ∧ s_cs G A a1.toInt ∨ F_d_canBeSold o S a1 = 0 ∧ ¬ s_cs G A a1.toInt := by
  have hG := ok.1
  have z0 : (0 : Int32).toInt = 0 := by decide +kernel
  have h7 := hG.2.2.2.2.1
  have kn : a1.toNatClampNeg = a1.toInt.toNat := rfl
  obtain ⟨g2, g3, g4⟩ := hG.2.2.2.2.2.2.2 a1.toInt.toNat (by omega)
  obtain ⟨o2, o3, o4⟩ := h.2.1.2.2.2.2 a1.toInt.toNat (by omega)
  have s5 : (S.2.1 8 a1.toNatClampNeg).toInt = A 5 a1.toInt.toNat := h.2.2.1.2.2.2.2.2.1 a1.toInt.toNat (by omega)
  have w4 := ok.2.2.1.1.2.2.2.2.1 a1.toInt.toNat (by omega)
  by_cases q1 : S.2.1 8 a1.toNatClampNeg = (0 : Int32)
  rotate_left
  · have d := dk_neqc z0 q1
    exact Or.inr ⟨F_d_canBeSold_p0 rfl q1, fun z => by have := z.2.1; omega⟩
  have d1 := dk_eqc z0 q1
  have et := cx_tubsFrom (o := o) (a1 := S.2.1 (g + 6) a1.toNatClampNeg) (n := (G 2 a1.toInt.toNat).toNat) h.2.2.1 ok.2.2.1.1 (by rw [kn, o2]; omega) (by omega)
  by_cases q2 : F_p_tubsFrom o S 3 (S.2.1 (g + 6) a1.toNatClampNeg) < S.2.1 (g + 7) a1.toNatClampNeg
  · have d2 := w_lt.mp q2
    rw [et, kn, o3] at d2
    exact Or.inr ⟨F_d_canBeSold_p1 rfl q1 h.1.symm rfl rfl rfl q2, fun z => by have := z.2.2; omega⟩
  · have d2 : ¬ (F_p_tubsFrom o S 3 (S.2.1 (g + 6) a1.toNatClampNeg)).toInt < (S.2.1 (g + 7) a1.toNatClampNeg).toInt := fun z => q2 (w_lt.mpr z)
    rw [et, kn, o3] at d2
    exact Or.inl ⟨F_d_canBeSold_p2 rfl q1 h.1.symm rfl rfl rfl q2, hk, by omega, by omega⟩
theorem mx_canSell (ok : s_ok G K A U) (h : RM G K A L U x S) : F_m_canSell o S a1 = 1 ∧ s_cs G A a1.toInt ∨ F_m_canSell o S a1 = 0 ∧ ¬ s_cs G A a1.toInt := by
  have hG := ok.1
  have z0 : (0 : Int32).toInt = 0 := by decide +kernel
  have n0 : (0 : Int32).toNatClampNeg = 0 := by decide +kernel
  have h7 := hG.2.2.2.2.1
  rcases mx_order (o := o) (a1 := a1) h.1 with ⟨e, hk⟩ | ⟨e, hk⟩
  rotate_left
  · exact Or.inr ⟨F_m_canSell_p0 rfl e, fun z => hk z.1⟩
  have ne : ¬ F_m_isOrder o S a1 = (0 : Int32) := by rw [e]; decide +kernel
  obtain ⟨g2, g3, g4⟩ := hG.2.2.2.2.2.2.2 a1.toInt.toNat (by omega)
  obtain ⟨o2, o3, o4⟩ := h.1.2.2.2.2 a1.toInt.toNat (by omega)
  obtain ⟨hb1, hb2⟩ := h.2.1.2.2.2.2.2.1
  have hu := hb2 a1.toInt.toNat (by omega)
  rcases mx_has2 (o := o) (S := S) (a := S.2.1 34 (0 : Int32).toNatClampNeg) (b := a1) (by rw [n0]; exact hb1) (by omega) with ⟨q4, y4⟩ | ⟨q4, y4⟩
  · rw [n0, ← hu] at y4
    exact Or.inr ⟨F_m_canSell_p1 rfl ne rfl rfl (by rw [q4]; decide +kernel), fun z => by have := z.2.1; omega⟩
  rw [n0, ← hu] at y4
  obtain ⟨b, hb1', hbk, -⟩ := h.1.1.2
  have bn : (zI S 0 13).toNatClampNeg = b := by rw [dk_clN]; omega
  rw [bn] at o2 o3
  have e5 : (5 : Int32).toInt = ((5 : Nat) : Int) := by decide +kernel
  have pl : ((5 : Int32) * zI S 0 13 + a1).toNatClampNeg = 5 * b + a1.toInt.toNat := mx_pl (c := a1.toInt.toNat) hbk (by omega) (by omega) (by omega) e5 (by omega) (by omega)
  have et := mx_tubsFrom (o := o) (a1 := 0) (a2 := S.2.1 13 ((5 : Int32) * zI S 0 13 + a1).toNatClampNeg) (n := (G 2 a1.toInt.toNat).toNat) h.2.1 ok.2.2.1.1 z0 (by decide) (by rw [pl, o2]; omega) (by omega)
  by_cases q2 : F_m_tubsFrom o S (0 : Int32) (S.2.1 13 ((5 : Int32) * zI S 0 13 + a1).toNatClampNeg) < S.2.1 14 ((5 : Int32) * zI S 0 13 + a1).toNatClampNeg
  · have d2 := w_lt.mp q2
    rw [et, pl, o3] at d2
    exact Or.inr ⟨F_m_canSell_p2 rfl ne rfl rfl q4 rfl rfl rfl rfl rfl rfl rfl rfl q2, fun z => by have := z.2.2; omega⟩
  · have d2 : ¬ (F_m_tubsFrom o S (0 : Int32) (S.2.1 13 ((5 : Int32) * zI S 0 13 + a1).toNatClampNeg)).toInt < (S.2.1 14 ((5 : Int32) * zI S 0 13 + a1).toNatClampNeg).toInt := fun z => q2 (w_lt.mpr z)
    rw [et, pl, o3] at d2
    exact Or.inl ⟨F_m_canSell_p3 rfl ne rfl rfl q4 rfl rfl rfl rfl rfl rfl rfl rfl q2, hk, by omega, by omega⟩
theorem cx_give {l0 : Int} {A0 : aR} (hw : ∀ k, k < 10 → 0 ≤ A0 6 k ∧ A0 6 k ≤ 99) (hp : ∀ k, k < 10 → (S.2.1 9 k).toInt = A0 6 k) (ha : a1.toInt = n) (hn : n ≤ 10) (hl : a2.toInt = l0) (hl9 : 0 ≤ l0 ∧ l0 ≤ 99) : ∃ S1, F_p_giveTubs o S 3 a1 a2 = S1 ∧ (∀ k, k < 10 → (S1.2.1 9 k).toInt = (s_gv n l0 A0 (10 - n)).2 6 k) ∧ kp (fun _ _ => False) (fun a => a = 9) S S1 := by
  have z9 : (9 : Int32).toInt = 9 := by decide +kernel
  refine ⟨_, rfl, ?_⟩
  rw [F_p_giveTubs_p2]
  refine lp_cnt (f := F_p_giveTubs_B1 3) (z := S) (W := 10) (P := fun c s => n ≤ c ∧ s.1.toInt = (s_gv n l0 A0 (c - n)).1 ∧ (∀ k, k < 10 → (s.2.2.1 9 k).toInt = (s_gv n l0 A0 (c - n)).2 6 k) ∧ kp (fun _ _ => False) (fun a => a = 9) S s.2) (Q := fun q => (∀ k, k < 10 → (q.2.1 9 k).toInt = (s_gv n l0 A0 (10 - n)).2 6 k) ∧ kp (fun _ _ => False) (fun a => a = 9) S q) (by omega) (fun c cI s hc hcI hP => ?_) (fun cI s hcI hP => ?_) ((11 - (a1 : Int32).toInt).toNat + 1) n a1 (a2, S) (by omega) hn ha ⟨Nat.le_refl _, by rw [Nat.sub_self]; exact hl, fun k hk => by rw [Nat.sub_self]; exact hp k hk, kp.rf⟩
  · obtain ⟨m, T⟩ := s
    obtain ⟨p1, p2, p3, p4⟩ := hP
    have p2 : m.toInt = (s_gv n l0 A0 (c - n)).1 := p2
    have p3 : ∀ k, k < 10 → (T.2.1 9 k).toInt = (s_gv n l0 A0 (c - n)).2 6 k := p3
    have cn : cI.toNatClampNeg = c := by rw [dk_clN]; omega
    obtain ⟨b1, b2, -⟩ := s_gv_b (n := n) (l := l0) hw hl9 (c - n) (by omega)
    have v := p3 c hc
    have vb := b2 c hc
    obtain ⟨x31, h31⟩ : ∃ y, y = T.2.1 9 cI.toNatClampNeg := ⟨_, rfl⟩
    have e31 : x31.toInt = (s_gv n l0 A0 (c - n)).2 6 c := by rw [h31, cn]; exact v
    obtain ⟨x32, h32⟩ : ∃ y, y = if x31 < m then x31 else m := ⟨_, rfl⟩
    have e32 : x32.toInt = min ((s_gv n l0 A0 (c - n)).2 6 c) (s_gv n l0 A0 (c - n)).1 := by
      rw [h32]
      by_cases w : x31 < m
      · have := w_lt.mp w
        rw [if_pos w]
        omega
      · have : ¬ x31.toInt < m.toInt := fun z => w (w_lt.mpr z)
        rw [if_neg w]
        omega
    have e35 : (x31 - x32).toInt = (s_gv n l0 A0 (c - n)).2 6 c - min ((s_gv n l0 A0 (c - n)).2 6 c) (s_gv n l0 A0 (c - n)).1 := dk_subT e31 e32 (by omega) (by omega)
    have e38 : (m - x32).toInt = (s_gv n l0 A0 (c - n)).1 - min ((s_gv n l0 A0 (c - n)).2 6 c) (s_gv n l0 A0 (c - n)).1 := dk_subT p2 e32 (by omega) (by omega)
    have es : s_gv n l0 A0 (c + 1 - n) = ((s_gv n l0 A0 (c - n)).1 - min ((s_gv n l0 A0 (c - n)).2 6 c) (s_gv n l0 A0 (c - n)).1, s_up (s_gv n l0 A0 (c - n)).2 6 c ((s_gv n l0 A0 (c - n)).2 6 c - min ((s_gv n l0 A0 (c - n)).2 6 c) (s_gv n l0 A0 (c - n)).1)) := by
      rw [show c + 1 - n = (c - n) + 1 by omega]
      show ((s_gv n l0 A0 (c - n)).1 - min ((s_gv n l0 A0 (c - n)).2 6 (n + (c - n))) (s_gv n l0 A0 (c - n)).1, s_up (s_gv n l0 A0 (c - n)).2 6 (n + (c - n)) ((s_gv n l0 A0 (c - n)).2 6 (n + (c - n)) - min ((s_gv n l0 A0 (c - n)).2 6 (n + (c - n))) (s_gv n l0 A0 (c - n)).1)) = _
      rw [show n + (c - n) = c by omega]
    obtain ⟨T1, hT1⟩ : ∃ X, X = dg_uf T 9 (upd (T.2.1 9) cI.toNatClampNeg (x31 - x32)) := ⟨_, rfl⟩
    refine ⟨(m - x32, T1), F_p_giveTubs_p1 (fun q => by have := dk_gtc z9 q; omega) h31 h32 rfl hT1 rfl rfl, by omega, ?_, fun k hk => ?_, by rw [hT1]; exact kp.uf p4 rfl⟩
    · rw [es]
      exact e38
    · rw [es]
      show (T1.2.1 9 k).toInt = s_up (s_gv n l0 A0 (c - n)).2 6 c _ 6 k
      rw [hT1, w_f, if_pos rfl, w_u, cn]
      by_cases z : k = c
      · rw [if_pos z, z, s_up_at]
        exact e35
      · rw [if_neg z, s_up_ne (fun y => z y.2)]
        exact p3 k hk
  · obtain ⟨m, T⟩ := s
    exact ⟨T, F_p_giveTubs_p0 (dk_gtp z9 (by omega)), hP.2.2.1, hP.2.2.2⟩
theorem cx_sell (ok : s_ok G K A U) (h : RX o g G K A L U x S) : (s_cs G A a1.toInt ∧ ∃ (S1 : dg_S) (y : Int32), F_d_sell o S a1 = (S1, y) ∧ y.toInt = min 99999 (A 0 1 + G 4 a1.toInt.toNat) ∧ RX o g G K (s_sl G A a1.toInt.toNat) L (s_ud U (A, L)) x S1) ∨ (¬ s_cs G A a1.toInt ∧ ∃ S1, S1 = (F_d_none o S (3 : Int32)).1 ∧ F_d_sell o S a1 = (S1, (-1 : Int32)) ∧ RX o g G K A L U x S1) := by
  have hG := ok.1
  have z0 : (0 : Int32).toInt = 0 := by decide +kernel
  have z1 : (1 : Int32).toInt = 1 := by decide +kernel
  have z9 : (99999 : Int32).toInt = 99999 := by decide +kernel
  obtain ⟨SN, -, f1, rN, -⟩ := cx_no (o := o) (a1 := 3) (k := 3) h (by decide +kernel)
  have n1 : SN = (F_d_none o S (3 : Int32)).1 := by rw [f1]
  have n2 : (-1 : Int32) = (F_d_none o S (3 : Int32)).2 := by rw [f1]
  rcases cx_order (o := o) (a1 := a1) h.2.1 with ⟨q3, y3⟩ | ⟨q3, y3⟩
  rotate_left
  · exact Or.inr ⟨fun z => y3 z.1, SN, n1, F_d_sell_p0 h.1.symm rfl q3 n1 n2, rN⟩
  have m3 : ¬ F_g_hasOrder o S g a1 = (0 : Int32) := by rw [q3]; decide +kernel
  rcases cx_canSell (o := o) (a1 := a1) ok h y3 with ⟨q4, y4⟩ | ⟨q4, y4⟩
  rotate_left
  · exact Or.inr ⟨y4, SN, n1, F_d_sell_p3 h.1.symm rfl m3 rfl q4 n1 n2, rN⟩
  have m4 : ¬ F_d_canBeSold o S a1 = (0 : Int32) := by rw [q4]; decide +kernel
  have h7 := hG.2.2.2.2.1
  have kn : a1.toNatClampNeg = a1.toInt.toNat := rfl
  obtain ⟨g2, g3, g4⟩ := hG.2.2.2.2.2.2.2 a1.toInt.toNat (by omega)
  obtain ⟨S13, e13, r13, k13⟩ := cx_act (o := o) hG h
  have hgx := r13.2.1
  have sep := rX_sep hgx.1.1
  obtain ⟨o2, o3, o4⟩ := hgx.2.2.2.2 a1.toInt.toNat (by omega)
  obtain ⟨y1, y2, y3', y4', y5, y6, y7⟩ := r13.2.2.1
  obtain ⟨w0, w1, w2, w3, w4, w5⟩ := ok.2.2.1.1
  obtain ⟨S18, e18, t18, k18⟩ := cx_give (o := o) (S := S13) (a1 := S13.2.1 (g + 6) a1.toNatClampNeg) (a2 := S13.2.1 (g + 7) a1.toNatClampNeg) (n := (G 2 a1.toInt.toNat).toNat) (l0 := G 3 a1.toInt.toNat) (A0 := A) w5 y7 (by rw [kn, o2]; omega) (by omega) (by rw [kn]; exact o3) ⟨by omega, by omega⟩
  obtain ⟨S20, h20⟩ : ∃ T, T = dg_uf S18 8 (upd (S18.2.1 8) a1.toNatClampNeg (1 : Int32)) := ⟨_, rfl⟩
  have t20 : kp (fun _ _ => False) (fun a => a = 9 ∨ a = 8) S13 S20 := by
    rw [h20]
    exact kp.uf (k18.w (fun _ _ z => z) (fun a z => Or.inl z)) (Or.inr rfl)
  have i22 : (zI S20 3 1).toInt = A 0 1 := by rw [t20.I id]; exact y3'
  have i24 : (S20.2.1 (g + 8) a1.toNatClampNeg).toInt = G 4 a1.toInt.toNat := by rw [(t20.2 (g + 8) (by omega)).1, kn]; exact o4
  have e25 : (zI S20 3 1 + S20.2.1 (g + 8) a1.toNatClampNeg).toInt = A 0 1 + G 4 a1.toInt.toNat := dk_addT i22 i24 (by omega) (by omega)
  obtain ⟨x26, h26⟩ : ∃ X, X = if zI S20 3 1 + S20.2.1 (g + 8) a1.toNatClampNeg < (99999 : Int32) then zI S20 3 1 + S20.2.1 (g + 8) a1.toNatClampNeg else (99999 : Int32) := ⟨_, rfl⟩
  have e26 : x26.toInt = min 99999 (A 0 1 + G 4 a1.toInt.toNat) := by
    rw [h26]
    by_cases w : zI S20 3 1 + S20.2.1 (g + 8) a1.toNatClampNeg < (99999 : Int32)
    · have := dk_ltc z9 w
      rw [if_pos w, e25]
      omega
    · have := dk_nltc z9 w
      rw [if_neg w, z9]
      omega
  obtain ⟨S27, h27⟩ : ∃ T, T = dg_uF S20 3 1 (.int x26) := ⟨_, rfl⟩
  have t27 : kp (fun a b => a = 3 ∧ b = 1) (fun a => a = 9 ∨ a = 8) S13 S27 := by
    rw [h27]
    exact kp.uF (t20.w (fun _ _ z => absurd z id) (fun a z => z)) ⟨rfl, rfl⟩
  refine Or.inl ⟨y4, S27, x26, ?_, e26, r13.act t27 ?_ (r13.2.2.2.1.keep (t27.I (by decide)) (t27.2 18 (by decide)).1) (by decide) (by decide) (fun a b _ _ => by omega) (by decide) (fun a b _ _ => by omega) (fun a _ _ => by omega) (fun a _ _ => by omega)⟩
  · rw [F_d_sell_p2 h.1.symm rfl m3 rfl m4 e13.symm rfl rfl e18.symm h20 rfl rfl rfl h26 h27]
    exact F_d_sell_p1
  · obtain ⟨b1, b2, b3⟩ := s_gv_b (n := (G 2 a1.toInt.toNat).toNat) (l := G 3 a1.toInt.toNat) w5 ⟨by omega, by omega⟩ (10 - (G 2 a1.toInt.toNat).toNat) (by omega)
    have E : ∀ a b, a ≠ 0 → a ≠ 5 → a ≠ 6 → s_sl G A a1.toInt.toNat a b = A a b := fun a b i0 i5 i6 => by
      unfold s_sl
      rw [s_up_ne (fun z => i0 z.1), s_up_ne (fun z => i5 z.1), b3 a b i6]
    have ro : ∀ i, i ≠ 8 → i ≠ 9 → S27.2.1 i = S13.2.1 i := fun i i8 i9 => (t27.2 i (by omega)).1
    refine ⟨fun z z0 z1 => ?_, ?_, ?_, fun k hk => by rw [ro _ (by decide) (by decide), E _ _ (by decide) (by decide) (by decide)]; exact y4' k hk, fun k hk => by rw [ro _ (by decide) (by decide), ro _ (by decide) (by decide), E _ _ (by decide) (by decide) (by decide), E _ _ (by decide) (by decide) (by decide)]; exact y5 k hk, fun k hk => ?_, fun k hk => ?_⟩
    · have h9 := (y1.keep (S1 := S27) (ro _ (by decide) (by decide))) z z0 z1
      unfold s_c at h9 ⊢
      rw [E _ _ (by decide) (by decide) (by decide)]
      exact h9
    · rw [t27.I (by decide)]
      unfold s_sl
      rw [s_up_ne (fun z => absurd z.2 (by decide)), s_up_ne (fun z => absurd z.1 (by decide)), b3 0 0 (by decide)]
      exact y2
    · rw [h27, w_I, if_pos ⟨rfl, rfl⟩]
      unfold s_sl
      rw [s_up_at]
      exact e26
    · have r8 : S27.2.1 (3 + 5) = upd (S13.2.1 8) a1.toNatClampNeg (1 : Int32) := by rw [h27, w_Ff, h20, w_f, if_pos rfl, (k18.2 8 (by decide)).1]
      rw [r8, w_u, kn]
      unfold s_sl
      rw [s_up_ne (fun z => absurd z.1 (by decide))]
      by_cases z : k = a1.toInt.toNat
      · rw [if_pos z, z, s_up_at]
        exact z1
      · rw [if_neg z, s_up_ne (fun y => z y.2), b3 5 k (by decide)]
        exact y6 k hk
    · have r9 : S27.2.1 (3 + 6) = S18.2.1 9 := by rw [h27, w_Ff, h20, w_f, if_neg (by decide)]
      rw [r9, t18 k hk]
      unfold s_sl
      rw [s_up_ne (fun z => absurd z.1 (by decide)), s_up_ne (fun z => absurd z.1 (by decide))]
/-- the reference gives tubs -/
theorem mx_give {l0 : Int} {A0 : aR} {b : Int32} (hw : ∀ k, k < 10 → 0 ≤ A0 6 k ∧ A0 6 k ≤ 99) (hp : ∀ k, k < 10 → (S.2.1 37 k).toInt = A0 6 k) (ha : a1.toInt = n) (hn : n ≤ 10) (hl : a2.toInt = l0) (hl9 : 0 ≤ l0 ∧ l0 ≤ 99) {z : dg_S × Int32} : ∃ S1, lp (F_m_sell_B2 a b) z ((10000 - (a1 : Int32).toInt).toNat + 1) (a1, a2, S) = F_m_sell_J1 S1 a b ∧ (∀ k, k < 10 → (S1.2.1 37 k).toInt = (s_gv n l0 A0 (10 - n)).2 6 k) ∧ k_v 0 S S1 ∧ ∀ i, i ≠ 37 → S1.2.1 i = S.2.1 i := by
  have z10 : (10 : Int32).toInt = 10 := by decide +kernel
  have w37 : mx_w 37 = 10 := rfl
  refine lp_cnt (f := F_m_sell_B2 a b) (z := z) (W := 10) (P := fun c s => n ≤ c ∧ s.1.toInt = (s_gv n l0 A0 (c - n)).1 ∧ (∀ k, k < 10 → (s.2.2.1 37 k).toInt = (s_gv n l0 A0 (c - n)).2 6 k) ∧ k_v 0 S s.2 ∧ ∀ i, i ≠ 37 → s.2.2.1 i = S.2.1 i) (Q := fun q => ∃ S1, q = F_m_sell_J1 S1 a b ∧ (∀ k, k < 10 → (S1.2.1 37 k).toInt = (s_gv n l0 A0 (10 - n)).2 6 k) ∧ k_v 0 S S1 ∧ ∀ i, i ≠ 37 → S1.2.1 i = S.2.1 i) (by omega) (fun c cI s hc hcI hP => ?_) (fun cI s hcI hP => ?_) ((10000 - (a1 : Int32).toInt).toNat + 1) n a1 (a2, S) (by omega) hn ha ⟨Nat.le_refl _, by rw [Nat.sub_self]; exact hl, fun k hk => by rw [Nat.sub_self]; exact hp k hk, k_v.rf, fun _ _ => rfl⟩
  · obtain ⟨m, T⟩ := s
    obtain ⟨p1, p2, p3, p4, p5⟩ := hP
    have p2 : m.toInt = (s_gv n l0 A0 (c - n)).1 := p2
    have p3 : ∀ k, k < 10 → (T.2.1 37 k).toInt = (s_gv n l0 A0 (c - n)).2 6 k := p3
    have p5 : ∀ i, i ≠ 37 → T.2.1 i = S.2.1 i := p5
    have cn : cI.toNatClampNeg = c := by rw [dk_clN]; omega
    obtain ⟨b1, b2, -⟩ := s_gv_b (n := n) (l := l0) hw hl9 (c - n) (by omega)
    have v := p3 c hc
    have vb := b2 c hc
    have q10 : ¬ (10 : Int32) ≤ cI := fun q => by have := dk_gec z10 q; omega
    have e31 : (T.2.1 37 cI.toNatClampNeg).toInt = (s_gv n l0 A0 (c - n)).2 6 c := by rw [cn]; exact v
    have es : s_gv n l0 A0 (c + 1 - n) = ((s_gv n l0 A0 (c - n)).1 - min ((s_gv n l0 A0 (c - n)).2 6 c) (s_gv n l0 A0 (c - n)).1, s_up (s_gv n l0 A0 (c - n)).2 6 c ((s_gv n l0 A0 (c - n)).2 6 c - min ((s_gv n l0 A0 (c - n)).2 6 c) (s_gv n l0 A0 (c - n)).1)) := by
      rw [show c + 1 - n = (c - n) + 1 by omega]
      show ((s_gv n l0 A0 (c - n)).1 - min ((s_gv n l0 A0 (c - n)).2 6 (n + (c - n))) (s_gv n l0 A0 (c - n)).1, s_up (s_gv n l0 A0 (c - n)).2 6 (n + (c - n)) ((s_gv n l0 A0 (c - n)).2 6 (n + (c - n)) - min ((s_gv n l0 A0 (c - n)).2 6 (n + (c - n))) (s_gv n l0 A0 (c - n)).1)) = _
      rw [show n + (c - n) = c by omega]
    have go : ∀ x32 : Int32, x32.toInt = min ((s_gv n l0 A0 (c - n)).2 6 c) (s_gv n l0 A0 (c - n)).1 → F_m_sell_B2 a b (cI, m, T) = F_m_sell_J3 (T.2.1 37 cI.toNatClampNeg) x32 T cI m → ∃ s1 : Int32 × dg_S, F_m_sell_B2 a b (cI, m, T) = .inl (cI + 1, s1) ∧ n ≤ c + 1 ∧ s1.1.toInt = (s_gv n l0 A0 (c + 1 - n)).1 ∧ (∀ k, k < 10 → (s1.2.2.1 37 k).toInt = (s_gv n l0 A0 (c + 1 - n)).2 6 k) ∧ k_v 0 S s1.2 ∧ ∀ i, i ≠ 37 → s1.2.2.1 i = S.2.1 i := fun x32 e32 F => by
      have e35 : (T.2.1 37 cI.toNatClampNeg - x32).toInt = (s_gv n l0 A0 (c - n)).2 6 c - min ((s_gv n l0 A0 (c - n)).2 6 c) (s_gv n l0 A0 (c - n)).1 := dk_subT e31 e32 (by omega) (by omega)
      have e38 : (m - x32).toInt = (s_gv n l0 A0 (c - n)).1 - min ((s_gv n l0 A0 (c - n)).2 6 c) (s_gv n l0 A0 (c - n)).1 := dk_subT p2 e32 (by omega) (by omega)
      obtain ⟨T1, hT1⟩ : ∃ X, X = dg_uf T 37 (upd (T.2.1 37) cI.toNatClampNeg (T.2.1 37 cI.toNatClampNeg - x32)) := ⟨_, rfl⟩
      refine ⟨(m - x32, T1), F.trans (F_m_sell_p3 rfl hT1 rfl rfl), by omega, ?_, fun k hk => ?_, ?_, fun i hi => ?_⟩
      · rw [es]
        exact e38
      · rw [es]
        show (T1.2.1 37 k).toInt = s_up (s_gv n l0 A0 (c - n)).2 6 c _ 6 k
        rw [hT1, w_f, if_pos rfl, w_u, cn]
        by_cases z : k = c
        · rw [if_pos z, z, s_up_at]
          rw [cn] at e35
          exact e35
        · rw [if_neg z, s_up_ne (fun y => z y.2)]
          exact p3 k hk
      · show k_v 0 S T1
        rw [hT1, cn]
        exact k_v.uf p4 (by decide) (by decide) ⟨by omega, by omega⟩
      · show T1.2.1 i = S.2.1 i
        rw [hT1, w_f, if_neg hi]
        exact p5 i hi
    by_cases q : m ≤ T.2.1 37 cI.toNatClampNeg
    · have d := w_le.mp q
      exact go m (by omega) (F_m_sell_p4 q10 rfl q)
    · have d : ¬ m.toInt ≤ (T.2.1 37 cI.toNatClampNeg).toInt := fun z => q (w_le.mpr z)
      exact go (T.2.1 37 cI.toNatClampNeg) (by omega) (F_m_sell_p5 q10 rfl q)
  · obtain ⟨m, T⟩ := s
    exact ⟨_, F_m_sell_p2 (dk_gep z10 (by omega)), T, rfl, hP.2.2.1, hP.2.2.2.1, hP.2.2.2.2⟩
theorem mx_sell (ok : s_ok G K A U) (h : RM G K A L U x S) : (s_cs G A a1.toInt ∧ ∃ (S1 : dg_S) (y : Int32), F_m_sell o S a1 = (S1, y) ∧ y.toInt = min 99999 (A 0 1 + G 4 a1.toInt.toNat) ∧ RM G K (s_sl G A a1.toInt.toNat) L (s_ud U (A, L)) x S1) ∨ (¬ s_cs G A a1.toInt ∧ ∃ S1, S1 = (F_m_refuses o S (3 : Int32)).1 ∧ F_m_sell o S a1 = (S1, (-1 : Int32)) ∧ RM G K A L U x S1) := by
  have hG := ok.1
  have hb := hG.1.2.2.2
  have z0 : (0 : Int32).toInt = 0 := by decide +kernel
  have n0 : (0 : Int32).toNatClampNeg = 0 := by decide +kernel
  have z9 : (99999 : Int32).toInt = 99999 := by decide +kernel
  obtain ⟨SN, f1, rN, -⟩ := mx_ref (o := o) (a1 := 3) (k := 3) hb h (by decide +kernel)
  have n1 : SN = (F_m_refuses o S (3 : Int32)).1 := by rw [f1]
  have n2 : (-1 : Int32) = (F_m_refuses o S (3 : Int32)).2 := by rw [f1]
  rcases mx_canSell (o := o) (a1 := a1) ok h with ⟨q4, y4⟩ | ⟨q4, y4⟩
  rotate_left
  · exact Or.inr ⟨y4, SN, n1, F_m_sell_p7 rfl q4 n1 n2, rN⟩
  have m4 : ¬ F_m_canSell o S a1 = (0 : Int32) := by rw [q4]; decide +kernel
  have hk := y4.1
  have h7 := hG.2.2.2.2.1
  obtain ⟨g2, g3, g4⟩ := hG.2.2.2.2.2.2.2 a1.toInt.toNat (by omega)
  obtain ⟨S7, e7, r7, k7⟩ := mx_act (o := o) hG h
  have b13 : zI S7 0 13 = zI S 0 13 := k7.1.I (by decide)
  obtain ⟨o2, o3, o4⟩ := r7.1.2.2.2.2 a1.toInt.toNat (by omega)
  obtain ⟨b, hb1', hbk, -⟩ := h.1.1.2
  have bn : (zI S7 0 13).toNatClampNeg = b := by rw [b13, dk_clN]; omega
  rw [bn] at o2 o3 o4
  have e5 : (5 : Int32).toInt = ((5 : Nat) : Int) := by decide +kernel
  have pl : ((5 : Int32) * zI S 0 13 + a1).toNatClampNeg = 5 * b + a1.toInt.toNat := mx_pl (c := a1.toInt.toNat) hbk (by omega) (by omega) (by omega) e5 (by omega) (by omega)
  obtain ⟨y1, y2, y3', ⟨y4', y4''⟩, y5, ⟨y6, y6'⟩, y7, y8⟩ := r7.2.1
  obtain ⟨w0, w1, w2, w3, w4, w5⟩ := ok.2.2.1.1
  obtain ⟨S11, e11, t11, k11, o11⟩ := mx_give (S := S7) (a := a1) (b := zI S 0 13) (z := (S, (0 : Int32))) (a1 := S7.2.1 13 ((5 : Int32) * zI S 0 13 + a1).toNatClampNeg) (a2 := S7.2.1 14 ((5 : Int32) * zI S 0 13 + a1).toNatClampNeg) (n := (G 2 a1.toInt.toNat).toNat) (l0 := G 3 a1.toInt.toNat) (A0 := A) w5 (fun k hk => by have := y7 k hk; rw [show 10 * 0 + k = k by omega] at this; exact this) (by rw [pl, o2]; omega) (by omega) (by rw [pl]; exact o3) ⟨by omega, by omega⟩
  have F := (F_m_sell_p6 rfl m4 e7.symm rfl rfl rfl rfl rfl rfl rfl).trans e11
  obtain ⟨X, hX⟩ : ∃ X, X = S11.2.1 34 (0 : Int32).toNatClampNeg ||| ((1 : Int32) <<< (a1 &&& 31)) := ⟨_, rfl⟩
  obtain ⟨S18, h18⟩ : ∃ T, T = dg_uf S11 34 (upd (S11.2.1 34) (0 : Int32).toNatClampNeg X) := ⟨_, rfl⟩
  obtain ⟨c1, c2⟩ := mx_setbit (a := S11.2.1 34 (0 : Int32).toNatClampNeg) (b := a1) (by rw [n0, o11 34 (by decide)]; exact y6) (by omega)
  rw [← hX] at c1 c2
  have i21 : (S18.2.1 30 (0 : Int32).toNatClampNeg).toInt = A 0 1 := by rw [n0, h18, w_f, if_neg (by decide), o11 30 (by decide)]; exact y3'
  have i25 : (S18.2.1 15 ((5 : Int32) * zI S 0 13 + a1).toNatClampNeg).toInt = G 4 a1.toInt.toNat := by rw [pl, h18, w_f, if_neg (by decide), o11 15 (by decide)]; exact o4
  have e26 : (S18.2.1 30 (0 : Int32).toNatClampNeg + S18.2.1 15 ((5 : Int32) * zI S 0 13 + a1).toNatClampNeg).toInt = A 0 1 + G 4 a1.toInt.toNat := dk_addT i21 i25 (by omega) (by omega)
  obtain ⟨b1, b2, b3⟩ := s_gv_b (n := (G 2 a1.toInt.toNat).toNat) (l := G 3 a1.toInt.toNat) w5 ⟨by omega, by omega⟩ (10 - (G 2 a1.toInt.toNat).toNat) (by omega)
  have w30 : mx_w 30 = 1 := rfl
  have w34 : mx_w 34 = 1 := rfl
  have fin : ∀ (w : Int32) (S2 : dg_S), w.toInt = min 99999 (A 0 1 + G 4 a1.toInt.toNat) → S2 = dg_uf S18 30 (upd (S18.2.1 30) (0 : Int32).toNatClampNeg w) → RM G K (s_sl G A a1.toInt.toNat) L (s_ud U (A, L)) x S2 := fun w S2 hw h2 => by
    have t : k_v 0 S7 S2 := by
      rw [h2, n0]
      refine k_v.uf ?_ (by decide) (by decide) ⟨by omega, by omega⟩
      rw [h18, n0]
      exact k_v.uf k11 (by decide) (by decide) ⟨by omega, by omega⟩
    refine r7.v hb t (by decide) ?_
    have E : ∀ a b, a ≠ 0 → a ≠ 5 → a ≠ 6 → s_sl G A a1.toInt.toNat a b = A a b := fun a b i0 i5 i6 => by
      unfold s_sl
      rw [s_up_ne (fun z => i0 z.1), s_up_ne (fun z => i5 z.1), b3 a b i6]
    have ro : ∀ i, i ≠ 30 → i ≠ 34 → i ≠ 37 → S2.2.1 i = S7.2.1 i := fun i i0 i4 i7 => by rw [h2, w_f, if_neg i0, h18, w_f, if_neg i4, o11 i i7]
    have r34 : S2.2.1 34 0 = X := by rw [h2, w_f, if_neg (by decide), h18, w_f, if_pos rfl, w_u, n0, if_pos rfl]
    have r30 : S2.2.1 30 0 = w := by rw [h2, w_f, if_pos rfl, w_u, n0, if_pos rfl]
    have r37 : S2.2.1 37 = S11.2.1 37 := by rw [h2, w_f, if_neg (by decide), h18, w_f, if_neg (by decide)]
    refine ⟨?_, ?_, ?_, by rw [ro _ (by decide) (by decide) (by decide)]; exact ⟨y4', fun k hk => by rw [E _ _ (by decide) (by decide) (by decide)]; exact y4'' k hk⟩, fun k hk => by rw [ro _ (by decide) (by decide) (by decide), ro _ (by decide) (by decide) (by decide), E _ _ (by decide) (by decide) (by decide), E _ _ (by decide) (by decide) (by decide)]; exact y5 k hk, ⟨by rw [r34]; exact c1, fun k hk => ?_⟩, fun k hk => ?_, y8.keep (by rw [ro _ (by decide) (by decide) (by decide)]) (fun j _ _ => by rw [ro _ (by decide) (by decide) (by decide)])⟩
    · have h9 := y1.keep (S1 := S2) (ro 31 (by decide) (by decide) (by decide)) (ro 32 (by decide) (by decide) (by decide))
      exact h9.congr (fun d _ => by unfold s_c; rw [E _ _ (by decide) (by decide) (by decide)])
    · rw [ro _ (by decide) (by decide) (by decide)]
      unfold s_sl
      rw [s_up_ne (fun z => absurd z.2 (by decide)), s_up_ne (fun z => absurd z.1 (by decide)), b3 0 0 (by decide)]
      exact y2
    · rw [r30]
      unfold s_sl
      rw [s_up_at]
      exact hw
    · rw [r34, c2 k (by omega)]
      unfold s_sl
      rw [s_up_ne (fun z => absurd z.1 (by decide))]
      by_cases z : k = a1.toInt.toNat
      · rw [if_pos z, z, s_up_at]
      · rw [if_neg z, s_up_ne (fun y => z y.2), b3 5 k (by decide), n0, o11 34 (by decide)]
        exact y6' k hk
    · rw [r37, show 10 * 0 + k = k by omega, t11 k hk]
      unfold s_sl
      rw [s_up_ne (fun z => absurd z.1 (by decide)), s_up_ne (fun z => absurd z.1 (by decide))]
  by_cases q9 : S18.2.1 30 (0 : Int32).toNatClampNeg + S18.2.1 15 ((5 : Int32) * zI S 0 13 + a1).toNatClampNeg ≤ (99999 : Int32)
  · have d := dk_lec z9 q9
    exact Or.inl ⟨y4, _, _, F.trans (F_m_sell_p0 rfl rfl hX h18 rfl rfl rfl rfl rfl q9 rfl), by rw [e26]; omega, fin _ _ (by rw [e26]; omega) rfl⟩
  · have d := dk_nlec z9 q9
    exact Or.inl ⟨y4, _, _, F.trans (F_m_sell_p1 rfl rfl hX h18 rfl rfl rfl rfl rfl q9 rfl), by rw [z9]; omega, fin _ _ (by rw [z9]; omega) rfl⟩
/-- SELL on both sides -/
theorem sim_sell (ok : s_ok G K A U) (hX : RX oX g G K A L U x SX) (hM : RM G K A L U x SM) : ∃ (A' : aR) (U' : s_U), (F_d_sell oX SX a1).2 = (F_m_sell oM SM a1).2 ∧ s_ok G K A' U' ∧ RX oX g G K A' L U' x (F_d_sell oX SX a1).1 ∧ RM G K A' L U' x (F_m_sell oM SM a1).1 := by
  rcases cx_sell (o := oX) (a1 := a1) ok hX with ⟨p, S1, y1, e1, v1, r1⟩ | ⟨p, S1, -, e1, r1⟩ <;> rcases mx_sell (o := oM) (a1 := a1) ok hM with ⟨q, S2, y2, e2, v2, r2⟩ | ⟨q, S2, -, e2, r2⟩
  · rw [e1, e2]
    exact ⟨_, _, Int32.toInt_inj.mp (v1.trans v2.symm), s_sl_ok (s_ud_ok ok) p.1, r1, r2⟩
  · exact absurd p q
  · exact absurd q p
  · rw [e1, e2]
    exact ⟨A, U, rfl, ok, r1, r2⟩
end CW
end
section
/-! what is read of a state: both sides -/
section CY
variable {oX oM g : Nat} {G A : aR} {K : Nat → List Int} {L : s_L} {U : s_U} {SX SM : dg_S} {x : Int} {a1 a2 a3 : Int32}
theorem sim_hurt (ok : s_ok G K A U) (hX : RX oX g G K A L U x SX) (hM : RM G K A L U x SM) : F_d_hurt oX SX a1 = F_m_hurt oM SM a1 := by
  have z0 : (0 : Int32).toInt = 0 := by decide +kernel
  have z1 : (1 : Int32).toInt = 1 := by decide +kernel
  have n0 : (0 : Int32).toNatClampNeg = 0 := by decide +kernel
  have h5 := ok.1.2.2.2.1
  rcases cx_miner (o := oX) (a1 := a1) hX.2.1 with ⟨q, y⟩ | ⟨q, y⟩ <;> rcases mx_miner (o := oM) (a1 := a1) hM.1 with ⟨p, w⟩ | ⟨p, w⟩
  · rw [F_d_hurt_p1 hX.1.symm rfl (by rw [q]; decide +kernel) rfl]
    have hu : (SX.2.1 5 a1.toNatClampNeg).toInt = A 2 a1.toInt.toNat := hX.2.2.1.2.2.2.1 a1.toInt.toNat (by omega)
    obtain ⟨b1, b2⟩ := hM.2.1.2.2.2.1
    have hv := b2 a1.toInt.toNat (by omega)
    have np : ¬ F_m_isMiner oM SM a1 = (0 : Int32) := by rw [p]; decide +kernel
    rcases mx_has2 (o := oM) (S := SM) (a := SM.2.1 33 (0 : Int32).toNatClampNeg) (b := a1) (by rw [n0]; exact b1) (by omega) with ⟨e, v⟩ | ⟨e, v⟩
    · rw [F_m_hurt_p2 rfl np rfl rfl (by rw [e]; decide +kernel)]
      rw [n0, ← hv] at v
      exact Int32.toInt_inj.mp (by rw [hu, v, z1])
    · rw [F_m_hurt_p1 rfl np rfl rfl e]
      rw [n0, ← hv] at v
      exact Int32.toInt_inj.mp (by rw [hu, v, z0])
  · exact absurd y w
  · exact absurd w y
  · rw [F_d_hurt_p0 hX.1.symm rfl q, F_m_hurt_p0 rfl p]
theorem cx_columnOf {o : Nat} {S : dg_S} (h0 : 0 ≤ a1.toInt) (h1 : a1.toInt < 72) : (F_columnOf o S a1).toInt = a1.toInt % 8 := by
  have key : ∀ n : Nat, n < 72 → (Int32.ofInt (n : Int) &&& (7 : Int32)).toInt = (n : Int) % 8 := by decide +kernel
  have e1 := key a1.toInt.toNat (by omega)
  rw [show ((a1.toInt.toNat : Nat) : Int) = a1.toInt by omega, Int32.ofInt_toInt] at e1
  rw [F_columnOf_p0 rfl]
  exact e1
theorem sim_plan (ok : s_ok G K A U) (hX : RX oX g G K A L U x SX) (hM : RM G K A L U x SM) : F_d_plan oX SX a1 a2 = F_m_plan oM SM a1 a2 := by
  have z0 : (0 : Int32).toInt = 0 := by decide +kernel
  have z1 : (1 : Int32).toInt = 1 := by decide +kernel
  have z2 : (2 : Int32).toInt = 2 := by decide +kernel
  have h6 := ok.1.1.2.2
  have hg := hM.1.1.1
  have f9 : (SM.2.1 9 (zI SM 0 13).toNatClampNeg).toInt = G 0 6 := hg.2.2.2.2
  have e4 : (SM.2.1 9 (zI SM 0 13).toNatClampNeg - (1 : Int32)).toInt = G 0 6 - 1 := dk_subT f9 (by decide +kernel) (by omega) (by omega)
  have hi := mx_is (o := oM) (S := SM) (a := a1) (b := 0) (c := SM.2.1 9 (zI SM 0 13).toNatClampNeg - (1 : Int32))
  rw [e4, z0] at hi
  rcases cx_planrow (o := oX) (a1 := a1) hX.2.1 with ⟨q, y⟩ | ⟨q, y⟩ <;> rcases hi with ⟨p, w⟩ | ⟨p, w⟩
  · have nq : ¬ F_g_hasPlanRow oX SX g a1 = (0 : Int32) := by rw [q]; decide +kernel
    have np : ¬ F_m_is oM SM a1 (0 : Int32) (SM.2.1 9 (zI SM 0 13).toNatClampNeg - (1 : Int32)) = (0 : Int32) := by rw [p]; decide +kernel
    obtain ⟨pm, pc⟩ := hX.2.2.1.2.2.2.2.1 a1.toInt.toNat (by omega)
    have pm : (SX.2.1 6 a1.toNatClampNeg).toInt = A 3 a1.toInt.toNat := pm
    have pc : (SX.2.1 7 a1.toNatClampNeg).toInt = A 4 a1.toInt.toNat + 8 := pc
    obtain ⟨mm, mc⟩ := hM.2.1.2.2.2.2.1 a1.toInt.toNat (by omega)
    rw [show 16 * 0 + a1.toInt.toNat = a1.toInt.toNat by omega] at mm mc
    have mm : (SM.2.1 35 a1.toNatClampNeg).toInt = A 3 a1.toInt.toNat := mm
    have mc : (SM.2.1 36 a1.toNatClampNeg).toInt = A 4 a1.toInt.toNat := mc
    have cb := (ok.2.2.1.1.2.2.2.1 a1.toInt.toNat (by omega)).2.1
    have hj := mx_is (o := oM) (S := SM) (a := a2) (b := 0) (c := 2)
    rw [z0, z2] at hj
    by_cases c0 : a2 = (0 : Int32)
    · have d0 := dk_eqc z0 c0
      have n2 : ¬ F_m_is oM SM a2 (0 : Int32) (2 : Int32) = (0 : Int32) := by
        rcases hj with ⟨e, -⟩ | ⟨-, e⟩
        · rw [e]; decide +kernel
        · exact absurd ⟨by omega, by omega⟩ e
      rw [F_d_plan_p1 hX.1.symm rfl nq c0 rfl, F_m_plan_p2 rfl rfl rfl rfl np rfl n2 c0 rfl]
      exact Int32.toInt_inj.mp (pm.trans mm.symm)
    have d0 := dk_neqc z0 c0
    by_cases c1 : a2 = (1 : Int32)
    · have d1 := dk_eqc z1 c1
      have n2 : ¬ F_m_is oM SM a2 (0 : Int32) (2 : Int32) = (0 : Int32) := by
        rcases hj with ⟨e, -⟩ | ⟨-, e⟩
        · rw [e]; decide +kernel
        · exact absurd ⟨by omega, by omega⟩ e
      rw [F_d_plan_p2 hX.1.symm rfl nq c0 c1 rfl rfl, F_m_plan_p1 rfl rfl rfl rfl np rfl n2 c0 rfl rfl rfl, F_m_partOf_p1 (by rw [c1]; decide +kernel) rfl]
      refine Int32.toInt_inj.mp ?_
      rw [cx_columnOf (by omega) (by omega), pc, dk_remL (b := 8) (by omega) (by decide +kernel) (by decide), mc]
      omega
    have d1 := dk_neqc z1 c1
    by_cases c2 : a2 = (2 : Int32)
    · have d2 := dk_eqc z2 c2
      have n2 : ¬ F_m_is oM SM a2 (0 : Int32) (2 : Int32) = (0 : Int32) := by
        rcases hj with ⟨e, -⟩ | ⟨-, e⟩
        · rw [e]; decide +kernel
        · exact absurd ⟨by omega, by omega⟩ e
      rw [F_d_plan_p3 hX.1.symm rfl nq c0 c1 c2 rfl rfl, F_m_plan_p1 rfl rfl rfl rfl np rfl n2 c0 rfl rfl rfl, F_m_partOf_p0 (by rw [c2]; decide +kernel) rfl]
      refine Int32.toInt_inj.mp ?_
      rw [cx_rowOf (by omega) (by omega), pc, dk_divL (b := 8) (by omega) (by decide +kernel) (by decide), mc]
      omega
    have d2 := dk_neqc z2 c2
    have e2 : F_m_is oM SM a2 (0 : Int32) (2 : Int32) = 0 := by
      rcases hj with ⟨-, e⟩ | ⟨e, -⟩
      · omega
      · exact e
    rw [F_d_plan_p0 hX.1.symm rfl nq c0 c1 c2, F_m_plan_p3 rfl rfl rfl rfl np rfl e2]
  · exact absurd ⟨by omega, by omega⟩ w
  · exact absurd ⟨by omega, by omega⟩ y
  · rw [F_d_plan_p4 hX.1.symm rfl q, F_m_plan_p0 rfl rfl rfl rfl p]
theorem sim_order (ok : s_ok G K A U) (hX : RX oX g G K A L U x SX) (hM : RM G K A L U x SM) : F_d_order oX SX a1 a2 = F_m_order oM SM a1 a2 := by
  have z0 : (0 : Int32).toInt = 0 := by decide +kernel
  have z1 : (1 : Int32).toInt = 1 := by decide +kernel
  have n0 : (0 : Int32).toNatClampNeg = 0 := by decide +kernel
  have h7 := ok.1.2.2.2.2.1
  rcases cx_order (o := oX) (a1 := a1) hX.2.1 with ⟨q, y⟩ | ⟨q, y⟩ <;> rcases mx_order (o := oM) (a1 := a1) hM.1 with ⟨p, w⟩ | ⟨p, w⟩
  · have nq : ¬ F_g_hasOrder oX SX g a1 = (0 : Int32) := by rw [q]; decide +kernel
    have np : ¬ F_m_isOrder oM SM a1 = (0 : Int32) := by rw [p]; decide +kernel
    obtain ⟨o2, o3, o4⟩ := hX.2.1.2.2.2.2 a1.toInt.toNat (by omega)
    obtain ⟨m2, m3, m4⟩ := hM.1.2.2.2.2 a1.toInt.toNat (by omega)
    obtain ⟨b, hb1, hbk, -⟩ := hM.1.1.2
    have bn : (zI SM 0 13).toNatClampNeg = b := by rw [dk_clN]; omega
    rw [bn] at m2 m3 m4
    have e5 : (5 : Int32).toInt = ((5 : Nat) : Int) := by decide +kernel
    have pl : ((5 : Int32) * zI SM 0 13 + a1).toNatClampNeg = 5 * b + a1.toInt.toNat := mx_pl (c := a1.toInt.toNat) hbk (by omega) (by omega) (by omega) e5 (by omega) (by omega)
    by_cases c0 : a2 = (0 : Int32)
    · rw [F_d_order_p1 hX.1.symm rfl nq c0 rfl, F_m_order_p1 rfl np c0 rfl rfl rfl rfl, pl]
      exact Int32.toInt_inj.mp (o2.trans m2.symm)
    by_cases c1 : a2 = (1 : Int32)
    · rw [F_d_order_p2 hX.1.symm rfl nq c0 c1 rfl, F_m_order_p2 rfl np c0 c1 rfl rfl rfl rfl, pl]
      exact Int32.toInt_inj.mp (o3.trans m3.symm)
    by_cases c2 : a2 = (2 : Int32)
    · rw [F_d_order_p3 hX.1.symm rfl nq c0 c1 c2 rfl, F_m_order_p3 rfl np c0 c1 c2 rfl rfl rfl rfl, pl]
      exact Int32.toInt_inj.mp (o4.trans m4.symm)
    by_cases c3 : a2 = (3 : Int32)
    · rw [F_d_order_p4 hX.1.symm rfl nq c0 c1 c2 c3 rfl]
      have hu : (SX.2.1 8 a1.toNatClampNeg).toInt = A 5 a1.toInt.toNat := hX.2.2.1.2.2.2.2.2.1 a1.toInt.toNat (by omega)
      obtain ⟨b1, b2⟩ := hM.2.1.2.2.2.2.2.1
      have hv := b2 a1.toInt.toNat (by omega)
      rcases mx_has2 (o := oM) (S := SM) (a := SM.2.1 34 (0 : Int32).toNatClampNeg) (b := a1) (by rw [n0]; exact b1) (by omega) with ⟨e, v⟩ | ⟨e, v⟩
      · rw [F_m_order_p5 rfl np c0 c1 c2 c3 rfl rfl (by rw [e]; decide +kernel)]
        rw [n0, ← hv] at v
        exact Int32.toInt_inj.mp (by rw [hu, v, z1])
      · rw [F_m_order_p4 rfl np c0 c1 c2 c3 rfl rfl e]
        rw [n0, ← hv] at v
        exact Int32.toInt_inj.mp (by rw [hu, v, z0])
    by_cases c4 : a2 = (4 : Int32)
    · rw [F_d_order_p5 hX.1.symm rfl nq c0 c1 c2 c3 c4 rfl rfl]
      rcases cx_canSell (o := oX) (a1 := a1) ok hX y with ⟨e, v⟩ | ⟨e, v⟩ <;> rcases mx_canSell (o := oM) (a1 := a1) ok hM with ⟨f, u⟩ | ⟨f, u⟩
      · rw [F_flag_p1 (by rw [e]; decide +kernel), F_m_order_p7 rfl np c0 c1 c2 c3 c4 rfl (by rw [f]; decide +kernel)]
      · exact absurd v u
      · exact absurd u v
      · rw [F_flag_p0 e, F_m_order_p6 rfl np c0 c1 c2 c3 c4 rfl f]
    rw [F_d_order_p0 hX.1.symm rfl nq c0 c1 c2 c3 c4, F_m_order_p0 rfl np c0 c1 c2 c3 c4]
  · exact absurd y w
  · exact absurd w y
  · rw [F_d_order_p6 hX.1.symm rfl q, F_m_order_p8 rfl p]
theorem sim_tubs (hX : RX oX g G K A L U x SX) (hM : RM G K A L U x SM) : F_d_tubs oX SX a1 = F_m_tubs oM SM a1 := by
  have z0 : (0 : Int32).toInt = 0 := by decide +kernel
  have z9 : (9 : Int32).toInt = 9 := by decide +kernel
  have hj := mx_is (o := oM) (S := SM) (a := a1) (b := 0) (c := 9)
  rw [z0, z9] at hj
  by_cases q1 : a1 < (0 : Int32)
  · have := dk_ltc z0 q1
    rcases hj with ⟨-, e⟩ | ⟨e, -⟩
    · omega
    · rw [F_d_tubs_p0 q1, F_m_tubs_p0 rfl e]
  have d1 := dk_nltc z0 q1
  by_cases q2 : (9 : Int32) < a1
  · have := dk_gtc z9 q2
    rcases hj with ⟨-, e⟩ | ⟨e, -⟩
    · omega
    · rw [F_d_tubs_p1 q1 q2, F_m_tubs_p0 rfl e]
  have d2 := dk_ngtc z9 q2
  rcases hj with ⟨e, -⟩ | ⟨-, e⟩
  · rw [F_d_tubs_p2 q1 q2 rfl, F_m_tubs_p1 rfl (by rw [e]; decide +kernel) rfl]
    have h1 : (SX.2.1 9 a1.toNatClampNeg).toInt = A 6 a1.toInt.toNat := hX.2.2.1.2.2.2.2.2.2 a1.toInt.toNat (by omega)
    have h2 := hM.2.1.2.2.2.2.2.2.1 a1.toInt.toNat (by omega)
    rw [show 10 * 0 + a1.toInt.toNat = a1.toInt.toNat by omega] at h2
    exact Int32.toInt_inj.mp (h1.trans h2.symm)
  · omega
theorem sim_kept (hX : RX oX g G K A L U x SX) (hM : RM G K A L U x SM) : F_d_kept oX SX a1 a2 = F_m_kept oM SM a1 a2 := by
  have z0 : (0 : Int32).toInt = 0 := by decide +kernel
  have z3 : (3 : Int32).toInt = 3 := by decide +kernel
  have z4 : (4 : Int32).toInt = 4 := by decide +kernel
  have n0 : (0 : Int32).toNatClampNeg = 0 := by decide +kernel
  obtain ⟨c1, c2, c3⟩ := hX.2.2.2.1
  obtain ⟨m1, -, m3⟩ := hM.2.1.2.2.2.2.2.2.2
  have e3 : (SM.2.1 38 (0 : Int32).toNatClampNeg - (1 : Int32)).toInt = (L.length : Int) - 1 := dk_subT (by rw [n0]; exact m1) (by decide +kernel) (by omega) (by omega)
  have hi := mx_is (o := oM) (S := SM) (a := a1) (b := 0) (c := SM.2.1 38 (0 : Int32).toNatClampNeg - (1 : Int32))
  rw [e3, z0] at hi
  have hj := mx_is (o := oM) (S := SM) (a := a2) (b := 0) (c := 3)
  rw [z0, z3] at hj
  by_cases q1 : a1 < (0 : Int32)
  · have := dk_ltc z0 q1
    rcases hi with ⟨-, e⟩ | ⟨e, -⟩
    · omega
    · rw [F_d_kept_p0 q1, F_m_kept_p0 rfl rfl rfl e]
  have d1 := dk_nltc z0 q1
  by_cases q2 : zI SX 17 1 ≤ a1
  · have := w_le.mp q2
    rcases hi with ⟨-, e⟩ | ⟨e, -⟩
    · omega
    · rw [F_d_kept_p1 q1 rfl q2, F_m_kept_p0 rfl rfl rfl e]
  have d2 : ¬ (zI SX 17 1).toInt ≤ a1.toInt := fun z => q2 (w_le.mpr z)
  have ne : ¬ F_m_is oM SM a1 (0 : Int32) (SM.2.1 38 (0 : Int32).toNatClampNeg - (1 : Int32)) = (0 : Int32) := by
    rcases hi with ⟨e, -⟩ | ⟨-, e⟩
    · rw [e]; decide +kernel
    · omega
  by_cases q3 : a2 < (0 : Int32)
  · have := dk_ltc z0 q3
    rcases hj with ⟨-, e⟩ | ⟨e, -⟩
    · omega
    · rw [F_d_kept_p2 q1 rfl q2 q3, F_m_kept_p1 rfl rfl rfl ne rfl e]
  have d3 := dk_nltc z0 q3
  by_cases q4 : a2 < (4 : Int32)
  rotate_left
  · have := dk_nltc z4 q4
    rcases hj with ⟨-, e⟩ | ⟨e, -⟩
    · omega
    · rw [F_d_kept_p4 q1 rfl q2 q3 q4, F_m_kept_p1 rfl rfl rfl ne rfl e]
  have d4 := dk_ltc z4 q4
  rcases hj with ⟨e, -⟩ | ⟨-, e⟩
  rotate_left
  · omega
  rw [F_d_kept_p3 q1 rfl q2 q3 q4 rfl rfl rfl, F_m_kept_p2 rfl rfl rfl ne rfl (by rw [e]; decide +kernel) rfl rfl rfl]
  have e8 : ((4 : Int32) * a1).toInt = 4 * a1.toInt := dk_mulT (by decide +kernel) rfl (by omega) (by omega)
  have n9 : ((4 : Int32) * a1 + a2).toNatClampNeg = 4 * a1.toInt.toNat + a2.toInt.toNat := by
    rw [dk_clN, dk_addT e8 rfl (by omega) (by omega)]
    omega
  rw [n9]
  obtain ⟨x1, x2, x3, x4⟩ := c3 a1.toInt.toNat (by omega)
  obtain ⟨y1, y2, y3, y4⟩ := m3 a1.toInt.toNat (by omega)
  rw [show 160 * 0 + 4 * a1.toInt.toNat = 4 * a1.toInt.toNat by omega] at y1 y2 y3 y4
  have c : a2.toInt.toNat = 0 ∨ a2.toInt.toNat = 1 ∨ a2.toInt.toNat = 2 ∨ a2.toInt.toNat = 3 := by omega
  rcases c with c | c | c | c
  · rw [c]
    exact Int32.toInt_inj.mp (x1.trans y1.symm)
  · rw [c]
    exact Int32.toInt_inj.mp (x2.trans y2.symm)
  · rw [c]
    exact Int32.toInt_inj.mp (x3.trans y3.symm)
  · rw [c]
    exact Int32.toInt_inj.mp (x4.trans y4.symm)
end CY
end
section
/-! what is read of a cell: both sides -/
section CZ
variable {o oX oM g : Nat} {G A : aR} {K : Nat → List Int} {L : s_L} {U : s_U} {S SX SM : dg_S} {x r c : Int} {a1 a2 a3 : Int32}
theorem e_run_ty {env : Int → Int} (h7 : env (-7) = 1) : ∀ (C : List Int) (q : e_S) (t t' : List Bool), (∀ s ∈ C, -6 ≤ s → s < 0 → -1000000 ≤ env s ∧ env s ≤ 1000000) → e_ty C t = some t' → e_vt q.1 t → q.2 = t.length → t.length ≤ 60 → e_vt (e_run env C q).1 t'
  | [], q, t, t', _, hty, hv, _, _ => by
    have e : t = t' := Option.some.inj hty
    rw [← e]
    exact hv
  | s :: C, q, t, t', hb, hty, hv, hn, h60 => by
    obtain ⟨t1, ht1, hty1⟩ := Option.bind_eq_some_iff.mp (show (e_t1 s t).bind (e_ty C) = some t' from hty)
    rcases e_step (q := q) (hb s (List.mem_cons_self ..)) h7 ht1 hv hn with ⟨v1, n1, l1⟩ | hs
    · exact e_run_ty h7 C (e_st env s q) t1 t' (fun s' hs' => hb s' (List.mem_cons_of_mem _ hs')) hty1 v1 n1 l1
    · omega
/-- a TEST tells 0 or 1 -/
theorem s_ev_01 {env : Int → Int} {C : List Int} (h7 : env (-7) = 1) (hb : ∀ s ∈ C, -6 ≤ s → s < 0 → -1000000 ≤ env s ∧ env s ≤ 1000000) (hty : e_ty C [] = some [true]) : s_ev env C = 0 ∨ s_ev env C = 1 := by
  have h := e_run_ty h7 C (fun _ => 0, 0) [] [true] hb hty trivial rfl (by decide)
  exact h.1.tst
/-- SAFE -/
def s_sf (G : aR) (K : Nat → List Int) (r : Int) (A : aR) (c : Int) : Prop := (s_so G A c ∧ 0 < s_ob G A c) ∧ ¬ s_fa G K r A c
/-- what cell tells -/
noncomputable def s_ce (G : aR) (K : Nat → List Int) (r : Int) (A : aR) (c w : Int) : Int :=
  if w = 0 then (if s_c A c < 0 then -1 else s_c A c) else if w = 1 then s_b (s_op G A c) else if w = 2 then s_b (s_lit G A r c) else if w = 3 then s_b (s_c A c = -2)
  else if w = 4 then s_if (s_op G A c) (s_fd G A c) (-1) else if w = 5 then s_b (s_sf G K r A c) else -1
/-- the works as they are entered for a look -/
theorem cx_look (ok : s_ok G K A U) (h : RX o g G K A L U x S) : ∃ S1, F_w_enter o S g 3 (zI S g 3) = S1 ∧ RX o g G K A L U x S1 ∧ cx_in o g G K (G 0 3) A L S1 := by
  have sep := rX_sep h.2.1.1.1
  obtain ⟨S7, e7, f7, f6, f8, f9, k7⟩ := cx_enter (o := o) (S := S) (g := g) (p := 3) (a := zI S g 3)
  have r3 : (zI S g 3).toInt = G 0 3 := h.2.1.2.1.2.2.1
  have r7 : RX o g G K A L U x S7 := h.keep k7 (by decide) (by decide) (fun a b _ _ => by omega) (fun b => by omega) (fun b => by omega) (fun a b _ _ => by omega) (fun a _ _ => id) (fun a _ _ => id) id (fun a _ _ => id)
  exact ⟨S7, e7, r7, f7, f6, by rw [f8]; exact r3, r7.2.1.1, r7.2.2.1, r7.2.2.2.1, Or.inl f9⟩
/-- light, looked at -/
theorem cx_see (ok : s_ok G K A U) (h : RX o g G K A L U x S) (hi : cx_in o g G K (G 0 3) A L S) : ∃ S1, F_w_spreadLight o S = S1 ∧ cx_light G A (G 0 3) S1 ∧ RX o g G K A L U x S1 ∧ zR o S1 214 7 = 3 ∧ zR o S1 214 6 = g ∧ (zI S1 214 8).toInt = G 0 3 ∧ k_sp S S1 := by
  have sep := rX_sep h.2.1.1.1
  have h3 := ok.1.2.1
  obtain ⟨S1, e1, l1, k1⟩ := cx_spread2 (o := o) pX_3' hi.1 hi.2.1 ok.1.1 hi.2.2.2.1 hi.2.2.1 ⟨by omega, by omega⟩ hi.2.2.2.2.1.1 ok.2.2.1.2.2 hi.2.2.2.2.2.2
  refine ⟨S1, e1, l1, h.keep k1 ?_ ?_ (fun a b _ _ => ?_) (fun b => ?_) (fun b => ?_) (fun a b _ _ => ?_) (fun a _ _ => ?_) (fun a _ _ => ?_) ?_ (fun a _ _ => ?_), by rw [k1.R (fun z => by omega)]; exact hi.1, by rw [k1.R (fun z => by omega)]; exact hi.2.1, by rw [k1.I (fun z => by omega)]; exact hi.2.2.1, k1⟩ <;> omega
theorem b_D_op {sh : Int} {op ps : Int → Prop} (hs : op sh) : ∀ (n : Nat) (c : Int), b_D sh op ps n c → op c
  | 0, c, h => by
    have h : c = sh := h
    rw [h]
    exact hs
  | n + 1, c, h => by
    rcases h with h | ⟨h, -⟩
    · exact b_D_op hs n c h
    · exact h
/-- the class: what cell tells -/
theorem cx_cell (ok : s_ok G K A U) (hF : ∀ c, ¬ s_op G A c → s_fd G A c = -1) (h : RX o g G K A L U x S) : (((0 ≤ a1.toInt ∧ a1.toInt < G 0 0) ∧ 0 ≤ a2.toInt ∧ a2.toInt < G 0 1) ∧ ∃ (S1 : dg_S) (y : Int32), F_d_cell o S a1 a2 a3 = (S1, y) ∧ y.toInt = s_ce G K (G 0 3) A (8 * a2.toInt + a1.toInt) a3.toInt ∧ RX o g G K A L U x S1) ∨ (¬ ((0 ≤ a1.toInt ∧ a1.toInt < G 0 0) ∧ 0 ≤ a2.toInt ∧ a2.toInt < G 0 1) ∧ F_d_cell o S a1 a2 a3 = (S, (-1 : Int32))) := by
  have z0 : (0 : Int32).toInt = 0 := by decide +kernel
  have z1 : (1 : Int32).toInt = 1 := by decide +kernel
  have z2 : (2 : Int32).toInt = 2 := by decide +kernel
  have z3 : (3 : Int32).toInt = 3 := by decide +kernel
  have z4 : (4 : Int32).toInt = 4 := by decide +kernel
  have z5 : (5 : Int32).toInt = 5 := by decide +kernel
  have m1 : (-1 : Int32).toInt = -1 := by decide +kernel
  have z254 : (254 : Int32).toInt = 254 := by decide +kernel
  have sep := rX_sep h.2.1.1.1
  rcases cx_place (o := o) (a1 := a1) (a2 := a2) h.2.1 ok.1.1.1 with ⟨p1, p2, p3, p4⟩ | ⟨p1, p2⟩
  rotate_left
  · exact Or.inr ⟨p1, F_d_cell_p8 h.1.symm rfl p2⟩
  refine Or.inl ⟨⟨p1, p2⟩, ?_⟩
  obtain ⟨c, hc⟩ : ∃ c, c = 8 * a2.toInt + a1.toInt := ⟨_, rfl⟩
  rw [← hc] at p3 p4 ⊢
  obtain ⟨pl, hpl⟩ : ∃ pl, pl = F_g_placeOf o S g a1 a2 := ⟨_, rfl⟩
  rw [← hpl] at p3
  have p40 := p4.1
  have q1 : ¬ pl = (-1 : Int32) := fun z => by have := dk_eqc (k := -1) (by decide +kernel) z; omega
  have pn : pl.toNatClampNeg = (c + 8).toNat := by rw [dk_clN, p3]
  obtain ⟨S8, e8, r8, i8⟩ := cx_look (o := o) ok h
  obtain ⟨l, u⟩ := ok.2.2.1.2.1 c p4
  have e4 : (S8.2.1 4 pl.toNatClampNeg).toInt = cx_en (s_c A c) := by
    have := ((r8.2.2.1.1 (c + 8) (by omega) (by omega)).1 (by rw [show c + 8 - 8 = c by omega]; exact p4)).1
    rw [show c + 8 - 8 = c by omega] at this
    rw [pn]
    exact this
  have fl : ∀ (T : dg_S) (y : Int32) (P : Prop), y.toInt = s_b P → (F_flag o T y).toInt = s_b P := fun T y P hy => by
    have := s_b01 P
    by_cases w : y = (0 : Int32)
    · rw [F_flag_p0 w, z0, ← hy, w, z0]
    · rw [F_flag_p1 w, z1]
      have := dk_neqc z0 w
      omega
  unfold s_ce
  by_cases c0 : a3 = (0 : Int32)
  · have d0 := dk_eqc z0 c0
    refine ⟨S8, _, F_d_cell_p1 h.1.symm hpl q1 rfl e8.symm c0 rfl, ?_, r8⟩
    rw [if_pos d0]
    have es := cx_isSolid0 (o := o) (a := pl) r8.2.2.1.1 (by omega) (by omega)
    rw [p3, show c + 8 - 8 = c by omega] at es
    by_cases w : F_p_isSolid0 o S8 3 pl = (0 : Int32)
    · rw [w, z0] at es
      rw [F_p_gradeAt_p0 rfl w, m1, if_pos]
      apply Classical.byContradiction
      intro v
      rw [s_b1 ⟨p4, by omega⟩] at es
      exact absurd es (by decide)
    · have sc : s_so G A c := by
        apply Classical.byContradiction
        intro v
        rw [s_b0 v] at es
        exact w (dk_eqp z0 es)
      have sc2 := sc.2
      rw [F_p_gradeAt_p1 rfl rfl w, if_neg (by omega)]
      have e4 : (S8.2.1 (3 + 1) pl.toNatClampNeg).toInt = cx_en (s_c A c) := e4
      rw [e4]
      unfold cx_en
      rw [if_neg (by omega), if_neg (by omega)]
  have d0 := dk_neqc z0 c0
  rw [if_neg d0]
  by_cases c1 : a3 = (1 : Int32)
  · have d1 := dk_eqc z1 c1
    refine ⟨S8, _, F_d_cell_p2 h.1.symm hpl q1 rfl e8.symm c0 c1 rfl rfl, ?_, r8⟩
    rw [if_pos d1]
    refine fl _ _ _ ?_
    have eo := cx_isOpen (o := o) (a := pl) r8.2.2.1.1 (by omega) (by omega)
    rw [p3, show c + 8 - 8 = c by omega] at eo
    exact eo
  have d1 := dk_neqc z1 c1
  rw [if_neg d1]
  obtain ⟨SL, eL, lL, rL, l7, l6, l8, kL⟩ := cx_see (o := o) ok r8 i8
  have hfar : (SL.2.1 217 pl.toNatClampNeg).toInt = s_fd G A c := by
    rw [← lL.1 c]
    unfold cx_far
    rw [if_pos (by omega), pn]
  have eF : F_w_farOf o S8 pl = (SL, SL.2.1 217 pl.toNatClampNeg) := F_w_farOf_p0 eL.symm rfl
  by_cases c2 : a3 = (2 : Int32)
  · have d2 := dk_eqc z2 c2
    rw [if_pos d2]
    have e4L : (SL.2.1 4 pl.toNatClampNeg).toInt = cx_en (s_c A c) := by rw [(kL.2 4 (fun z => by omega)).1]; exact e4
    have fin : ∀ y : Int32, F_w_isLit o S8 pl = (SL, y) → y.toInt = s_b (s_lit G A (G 0 3) c) → ∃ (S1 : dg_S) (y : Int32), F_d_cell o S a1 a2 a3 = (S1, y) ∧ y.toInt = s_b (s_lit G A (G 0 3) c) ∧ RX o g G K A L U x S1 := fun y e hy => ⟨SL, F_flag o SL y, F_d_cell_p3 h.1.symm hpl q1 rfl e8.symm c0 c1 c2 (by rw [e]) (show y = _ by rw [e]) rfl, fl _ _ _ hy, rL⟩
    by_cases w1 : SL.2.1 217 pl.toNatClampNeg = (-1 : Int32)
    · have v1 := dk_eqc m1 w1
      rw [hfar] at v1
      exact fin 0 (F_w_isLit_p0 (S_2 := SL) (by rw [eF]) (by rw [eF]) w1) (by rw [z0, s_b0 (fun z => z.2.1 v1)])
    have v1 := dk_neqc m1 w1
    rw [hfar] at v1
    by_cases w2 : zI S8 214 8 < SL.2.1 217 pl.toNatClampNeg
    · have v2 := w_lt.mp w2
      rw [hfar, i8.2.2.1] at v2
      exact fin 0 (F_w_isLit_p1 (S_2 := SL) (by rw [eF]) (by rw [eF]) w1 rfl w2) (by rw [z0, s_b0 (fun z => by have := z.2.2; omega)])
    have v2 : ¬ (zI S8 214 8).toInt < (SL.2.1 217 pl.toNatClampNeg).toInt := fun z => w2 (w_lt.mpr z)
    rw [hfar, i8.2.2.1] at v2
    have ps : cx_en (s_c A c) = 255 ↔ s_c A c = -1 := by
      unfold cx_en
      by_cases w : s_c A c = -1
      · rw [if_pos w]
        exact ⟨fun _ => w, fun _ => rfl⟩
      · rw [if_neg w]
        refine ⟨fun z => ?_, fun z => absurd z w⟩
        split at z <;> omega
    by_cases w3 : SL.2.1 (3 + 1) pl.toNatClampNeg = (255 : Int32)
    · have v3 := dk_eqc (k := 255) (by decide +kernel) w3
      have v3 : (SL.2.1 4 pl.toNatClampNeg).toInt = 255 := v3
      rw [e4L] at v3
      exact fin 1 (F_w_isLit_p3 (S_2 := SL) (by rw [eF]) (by rw [eF]) w1 rfl w2 i8.1.symm rfl w3) (by rw [z1, s_b1 ⟨⟨p4, ps.mp v3⟩, v1, by omega⟩])
    · have v3 := dk_neqc (k := 255) (by decide +kernel) w3
      have v3 : (SL.2.1 4 pl.toNatClampNeg).toInt ≠ 255 := v3
      rw [e4L] at v3
      exact fin 0 (F_w_isLit_p2 (S_2 := SL) (by rw [eF]) (by rw [eF]) w1 rfl w2 i8.1.symm rfl w3) (by rw [z0, s_b0 (fun z => v3 (ps.mpr z.1.2))])
  have d2 := dk_neqc z2 c2
  rw [if_neg d2]
  by_cases c3 : a3 = (3 : Int32)
  · have d3 := dk_eqc z3 c3
    rw [if_pos d3]
    have ps : cx_en (s_c A c) = 254 ↔ s_c A c = -2 := by
      unfold cx_en
      by_cases w : s_c A c = -1
      · rw [if_pos w]
        exact ⟨fun z => by omega, fun z => by omega⟩
      · rw [if_neg w]
        by_cases v : s_c A c = -2
        · rw [if_pos v]
          exact ⟨fun _ => v, fun _ => rfl⟩
        · rw [if_neg v]
          exact ⟨fun z => by omega, fun z => absurd z v⟩
    by_cases w : S8.2.1 4 pl.toNatClampNeg = (254 : Int32)
    · have v := dk_eqc z254 w
      rw [e4] at v
      exact ⟨S8, _, F_d_cell_p5 h.1.symm hpl q1 rfl e8.symm c0 c1 c2 c3 rfl w rfl, fl _ _ _ (by rw [z1, s_b1 (ps.mp v)]), r8⟩
    · have v := dk_neqc z254 w
      rw [e4] at v
      exact ⟨S8, _, F_d_cell_p4 h.1.symm hpl q1 rfl e8.symm c0 c1 c2 c3 rfl w rfl, fl _ _ _ (by rw [z0, s_b0 (fun z => v (ps.mpr z))]), r8⟩
  have d3 := dk_neqc z3 c3
  rw [if_neg d3]
  by_cases c4 : a3 = (4 : Int32)
  · have d4 := dk_eqc z4 c4
    rw [if_pos d4]
    refine ⟨SL, _, F_d_cell_p6 h.1.symm hpl q1 rfl e8.symm c0 c1 c2 c3 c4 (by rw [eF]) (by rw [eF]), ?_, rL⟩
    rw [hfar]
    by_cases w : s_op G A c
    · rw [s_if_y w]
    · rw [s_if_n w]
      exact hF c w
  have d4 := dk_neqc z4 c4
  rw [if_neg d4]
  by_cases c5 : a3 = (5 : Int32)
  rotate_left
  · have d5 := dk_neqc z5 c5
    rw [if_neg d5]
    exact ⟨S8, _, F_d_cell_p0 h.1.symm hpl q1 rfl e8.symm c0 c1 c2 c3 c4 c5, m1, r8⟩
  have d5 := dk_eqc z5 c5
  rw [if_pos d5]
  have fin : ∀ (T : dg_S) (y : Int32), F_w_isSafe o S8 pl = (T, y) → y.toInt = s_b (s_sf G K (G 0 3) A c) → RX o g G K A L U x T → ∃ (S1 : dg_S) (y : Int32), F_d_cell o S a1 a2 a3 = (S1, y) ∧ y.toInt = s_b (s_sf G K (G 0 3) A c) ∧ RX o g G K A L U x S1 := fun T y e hy hr => ⟨T, F_flag o T y, F_d_cell_p7 h.1.symm hpl q1 rfl e8.symm c0 c1 c2 c3 c4 c5 (by rw [e]) (show y = _ by rw [e]) rfl, fl _ _ _ hy, hr⟩
  have hgb := ok.1.1.1
  have ecd := cx_canBeDug (o := o) (a := pl) r8.2.2.1.1 (by omega) (by omega)
  rw [p3, show c + 8 - 8 = c by omega] at ecd
  by_cases w1 : F_p_canBeDug o S8 3 pl = (0 : Int32)
  · rw [w1, z0] at ecd
    refine fin S8 0 (F_w_isSafe_p2 i8.1.symm rfl w1) ?_ r8
    rw [z0, s_b0 (fun z => by
      rw [s_b1 z.1] at ecd
      exact absurd ecd (by decide))]
  have hcd : s_so G A c ∧ 0 < s_ob G A c := by
    apply Classical.byContradiction
    intro z
    rw [s_b0 z] at ecd
    exact w1 (dk_eqp z0 ecd)
  obtain ⟨S6, e6, k6, env6⟩ := cx_tell (o := o) (a := pl) pX_3' l7 rL.2.2.1.1 lL (by omega) (by rw [p3, show c + 8 - 8 = c by omega]; exact hcd.1) rL.2.2.1.2.1
  rw [p3, show c + 8 - 8 = c by omega] at env6
  have l66 : zR o S6 214 6 = g := by rw [k6.R (fun z => by omega)]; exact l6
  have r6 : RX o g G K A L U x S6 := rL.keep k6 (by decide) (by decide) (fun a b _ _ => by omega) (fun b => by omega) (fun b => by omega) (fun a b _ _ => by omega) (fun a _ _ => id) (fun a _ _ => id) id (fun a _ _ => id)
  have w1n : (1 : Int32).toNatClampNeg = 1 := by decide +kernel
  have hcode := r6.2.1.1.2.2.2 1 (by decide)
  by_cases hK1 : K 1 = []
  · rw [hK1] at hcode
    have ev := cx_value0 (o := o) (a1 := 1) (a2 := 0) w1n hcode
    exact fin S6 1 (F_w_isSafe_p1 i8.1.symm rfl w1 eL.symm e6.symm i8.2.1.symm (by rw [ev]) (by rw [ev]) rfl) (by rw [z1, s_b1 ⟨hcd, fun z => z.1 hK1⟩]) r6
  obtain ⟨hty, -, h4⟩ := ok.2.1 1 (by decide) hK1
  have h4 := h4 (by decide)
  have n4 : ∀ s ∈ K 1, s ≠ -4 := fun s hs z => h4 (by rw [← z]; exact hs)
  have evs : ∀ s ∈ K 1, -7 ≤ s → s < 0 → cx_env S6 s = s_env G A (G 0 3) c s := fun s hs h7 h0 => env6 s (n4 s hs) h7 h0
  have bnd : ∀ s ∈ K 1, -6 ≤ s → s < 0 → -1000000 ≤ cx_env S6 s ∧ cx_env S6 s ≤ 1000000 := fun s hs h6 h0 => by
    rw [evs s hs (by omega) h0]
    exact s_env_b ok.2.2.1.1 p4.1 ⟨hcd.1.2, u⟩ (n4 s hs)
  obtain ⟨S10, x9, e10, v10, k10⟩ := cx_value (o := o) (a1 := 1) (a2 := 0) r6.2.1.1.1 w1n hcode hK1 hty bnd
  have v01 := s_ev_01 (show cx_env S6 (-7) = 1 from rfl) bnd hty
  have r10 : RX o g G K A L U x S10 := r6.keep k10 (by decide) (by decide) (fun a b _ _ => by omega) (fun b => by omega) (fun b => by omega) (fun a b _ _ => by omega) (fun a _ _ => by omega) (fun a _ _ => by omega) (by decide) (fun a _ _ => by omega)
  by_cases w9 : x9 = (0 : Int32)
  · have v9 := dk_eqc z0 w9
    refine fin S10 1 (F_w_isSafe_p1 i8.1.symm rfl w1 eL.symm e6.symm i8.2.1.symm (by rw [e10]) (by rw [e10]) w9) ?_ r10
    have nf : ¬ s_fa G K (G 0 3) A c := fun z => by
      have := z.2
      rw [← s_ev_congr evs] at this
      omega
    rw [z1, s_b1 ⟨hcd, nf⟩]
  · have v9 := dk_neqc z0 w9
    refine fin S10 0 (F_w_isSafe_p0 i8.1.symm rfl w1 eL.symm e6.symm i8.2.1.symm (by rw [e10]) (by rw [e10]) w9) ?_ r10
    have yf : s_fa G K (G 0 3) A c := ⟨hK1, by rw [← s_ev_congr evs]; omega⟩
    rw [z0, s_b0 (fun z => z.2 yf)]
end CZ
end
section
/-! the reference looks ahead -/
/-- a loop that counts, and may end before -/
theorem lp_cnt2 {σ ρ : Type} {f : Int32 × σ → (Int32 × σ) ⊕ ρ} {z : ρ} {W : Nat} {P : Nat → σ → Prop} {Q : ρ → Prop} (hW : W < 2000000000) (hs : ∀ (c : Nat) (cI : Int32) (s : σ), c < W → cI.toInt = c → P c s → (∃ s1, f (cI, s) = .inl (cI + 1, s1) ∧ P (c + 1) s1) ∨ ∃ r, f (cI, s) = .inr r ∧ Q r) (he : ∀ (cI : Int32) (s : σ), cI.toInt = W → P W s → ∃ r, f (cI, s) = .inr r ∧ Q r) : ∀ (n c : Nat) (cI : Int32) (s : σ), W + 1 ≤ n + c → c ≤ W → cI.toInt = c → P c s → Q (lp f z n (cI, s)) := by
  intro n
  induction n with
  | zero =>
    intro c cI s h1 h2
    omega
  | succ n ih =>
    intro c cI s h1 h2 h3 h4
    by_cases q : c < W
    · rcases hs c cI s q h3 h4 with ⟨s1, e1, p1⟩ | ⟨r, e1, q1⟩
      · rw [lp_sl e1]
        refine ih (c + 1) (cI + 1) s1 (by omega) (by omega) ?_ p1
        rw [dk_addT h3 (b := 1) (by decide +kernel) (by omega) (by omega)]
        omega
      · rw [lp_sr e1]
        exact q1
    · have ec : c = W := by omega
      subst ec
      obtain ⟨r, e1, q1⟩ := he cI s h3 h4
      rw [lp_sr e1]
      exact q1
/-- the pit behind n shifts -/
noncomputable def s_n (G : aR) (K : Nat → List Int) (r : Int) : Nat → aR → aR
  | 0, A => A
  | n + 1, A => s_tk G K r (s_n G K r n A)
/-- grades of all tubs; worth -/
def s_tg (A : aR) : Nat → Int
  | 0 => 0
  | n + 1 => s_tg A n + n * A 6 n
noncomputable def s_ws (G A : aR) : Nat → Int
  | 0 => 0
  | n + 1 => s_ws G A n + s_if (s_so G A n) (s_c A n) 0
noncomputable def s_wo (G A : aR) : Int := s_tg A 10 + s_ws G A 64
/-- behind how many shifts a cell is open -/
def s_fo (P : Nat → Prop) (W : Nat) (y : Int) : Prop := (y = -1 ∧ ∀ m, m ≤ W → ¬ P m) ∨ ∃ n : Nat, y = n ∧ n ≤ W ∧ P n ∧ ∀ m, m < n → ¬ P m
theorem s_fo.uniq {P : Nat → Prop} {W : Nat} {y z : Int} (h : s_fo P W y) (k : s_fo P W z) : y = z := by
  rcases h with ⟨a, b⟩ | ⟨n, a, b, c, d⟩ <;> rcases k with ⟨a', b'⟩ | ⟨m, a', b', c', d'⟩
  · rw [a, a']
  · exact absurd c' (b m b')
  · exact absurd c (b' n b)
  · have h1 : ¬ n < m := fun z => d' n z c
    have h2 : ¬ m < n := fun z => d m z c'
    omega
section DA
variable {o n : Nat} {G A A' : aR} {K : Nat → List Int} {L L' : s_L} {U : s_U} {S S0 S1 : dg_S} {x r c : Int} {a a1 a2 a3 : Int32}
theorem s_n_ok (hG : s_gw G) (hw : s_wf G A) (hcw : s_cw G A) : ∀ n : Nat, s_wf G (s_n G K r n A) ∧ s_cw G (s_n G K r n A)
  | 0 => ⟨hw, hcw⟩
  | n + 1 => by
    have h := s_n_ok hG hw hcw n
    exact ⟨s_tk_wf hG h.1 h.2, s_tk_cw hG h.1 h.2⟩
theorem s_n_00 (h : A 0 0 + (n : Int) ≤ 999) : s_n G K r n A 0 0 = A 0 0 + n := by
  induction n with
  | zero =>
    show A 0 0 = A 0 0 + ((0 : Nat) : Int)
    omega
  | succ n ih =>
    have e := ih (by omega)
    show s_tk G K r (s_n G K r n A) 0 0 = A 0 0 + ((n + 1 : Nat) : Int)
    unfold s_tk
    rw [s_up_at, e]
    omega
/-- a shift of layer 1 -/
theorem mx_tick1 (ok : s_ok G K A U) (h : RM G K A L U x S) (hw : s_wf G A') (hcw : s_cw G A') (hl : mx_lay G A' L' S 1) : ∃ (S1 : dg_S) (y : Int32), F_m_ticks o S (1 : Int32) = (S1, y) ∧ RM G K A L U x S1 ∧ mx_lay G (s_tu G K (G 0 3) A') (s_dL G K (G 0 3) A' L') S1 1 ∧ k_v 1 S S1 := by
  have hr := ok.1.2.1
  have hb := ok.1.1.2.2.2
  obtain ⟨S1, y, e1, k1, l1, y1⟩ := mx_tick (o := o) (v := 1) (a1 := 1) ok.1.1 ok.2.1 hw hcw h.1.1 hl (by decide +kernel) (by decide) h.2.2.2.1 (by omega)
  exact ⟨S1, y, e1, h.v hb k1 (by decide) (k1.lay h.2.1 (by decide) hb), l1, k1⟩
/-- layer 0 is tried on layer 1 -/
theorem mx_try1 (ok : s_ok G K A U) (h : RM G K A L U x S) : ∃ S1, F_m_copies o S (1 : Int32) (0 : Int32) = S1 ∧ RM G K A L U x S1 ∧ mx_lay G A L S1 1 ∧ k_v 1 S S1 := by
  have hb := ok.1.1.2.2.2
  obtain ⟨S1, e1, k1, l1⟩ := mx_copies (o := o) (S := S) (v := 1) (u := 0) (a1 := 1) (a2 := 0) (by decide +kernel) (by decide +kernel) (by decide) (by decide) (by decide) h.2.1 hb
  exact ⟨S1, e1, h.v hb k1 (by decide) (k1.lay h.2.1 (by decide) hb), l1, k1⟩
/-- n shifts of layer 1 -/
theorem mx_runs1 (ok : s_ok G K A U) (h : RM G K A L U x S) (hw : s_wf G A') (hcw : s_cw G A') (hl : mx_lay G A' L' S 1) (hn : a1.toInt = n) (h40 : n ≤ 40) (h9 : A' 0 0 + n ≤ 999) : ∃ (S1 : dg_S) (L1 : s_L), F_m_runsOn o S a1 = S1 ∧ RM G K A L U x S1 ∧ mx_lay G (s_n G K (G 0 3) n A') L1 S1 1 ∧ k_v 1 S S1 := by
  have z0 : (0 : Int32).toInt = 0 := by decide +kernel
  have main := lp_cnt (f := F_m_runsOn_B1 a1 o) (z := S) (W := n) (P := fun c s => (RM G K A L U x s.2 ∧ k_v 1 S s.2) ∧ ∃ L1, mx_lay G (s_n G K (G 0 3) c A') L1 s.2 1) (Q := fun q => (RM G K A L U x q ∧ k_v 1 S q) ∧ ∃ L1, mx_lay G (s_n G K (G 0 3) n A') L1 q 1) (by omega) (fun c cI s hc hcI hP => by
    obtain ⟨w, T⟩ := s
    obtain ⟨⟨p1, p9⟩, L1, p2⟩ := hP
    have okc := s_n_ok (K := K) (r := G 0 3) ok.1.1 hw hcw c
    have e00 := s_n_00 (n := c) (G := G) (K := K) (r := G 0 3) (A := A') (by omega)
    obtain ⟨T1, y, e1, r1, l1, k9⟩ := mx_tick1 (o := o) ok p1 okc.1 okc.2 p2
    rw [s_tu_tk (by rw [e00]; omega)] at l1
    have q0 : ¬ a1 ≤ cI := fun z => by have := w_le.mp z; omega
    exact ⟨(_, T1), F_m_runsOn_p1 q0 (by rw [e1]) rfl rfl, ⟨r1, p9.tr k9⟩, _, l1⟩) (fun cI s hcI hP => by
    obtain ⟨w, T⟩ := s
    exact ⟨T, F_m_runsOn_p0 (w_le.mpr (by omega)), hP⟩) ((41 - ((0 : Int32)).toInt).toNat + 1) 0 0 (S.2.1 29 (1 : Int32).toNatClampNeg, S) (by rw [z0]; omega) (by omega) z0 ⟨⟨h, k_v.rf⟩, L', hl⟩
  rw [F_m_runsOn_p2 rfl]
  exact ⟨_, main.2.choose, rfl, main.1.1, main.2.choose_spec, main.1.2⟩
theorem mx_try (ok : s_ok G K A U) (h : RM G K A L U x S) : ∃ S1, F_m_copies o S (1 : Int32) (0 : Int32) = S1 ∧ RM G K A L U x S1 ∧ mx_lay G A L S1 1 := by
  obtain ⟨S1, e, r, l, -⟩ := mx_try1 (o := o) ok h
  exact ⟨S1, e, r, l⟩
theorem mx_runs (ok : s_ok G K A U) (h : RM G K A L U x S) (hw : s_wf G A') (hcw : s_cw G A') (hl : mx_lay G A' L' S 1) (hn : a1.toInt = n) (h40 : n ≤ 40) (h9 : A' 0 0 + n ≤ 999) : ∃ (S1 : dg_S) (L1 : s_L), F_m_runsOn o S a1 = S1 ∧ RM G K A L U x S1 ∧ mx_lay G (s_n G K (G 0 3) n A') L1 S1 1 := by
  obtain ⟨S1, L1, e, r, l, -⟩ := mx_runs1 (o := o) ok h hw hcw hl hn h40 h9
  exact ⟨S1, L1, e, r, l⟩
theorem mx_grade {v : Nat} (hl : mx_ce G A S v) (hc : s_in G c) {i : Nat} (hi : i = mx_ad v c) : (S.2.1 31 i).toInt = (if s_c A c < 0 then -1 else s_c A c) := by
  rw [hi]
  exact (hl c hc).1
/-- LATER of the reference -/
theorem mx_later (ok : s_ok G K A U) (h : RM G K A L U x S) : (((0 ≤ a1.toInt ∧ a1.toInt < G 0 0) ∧ 0 ≤ a2.toInt ∧ a2.toInt < G 0 1) ∧ (0 ≤ a3.toInt ∧ a3.toInt ≤ 40 ∧ A 0 0 + a3.toInt ≤ 999) ∧ ∃ (S1 : dg_S) (y : Int32), F_m_later o S a1 a2 a3 = (S1, y) ∧ y.toInt = (if s_c (s_n G K (G 0 3) a3.toInt.toNat A) (8 * a2.toInt + a1.toInt) < 0 then -1 else s_c (s_n G K (G 0 3) a3.toInt.toNat A) (8 * a2.toInt + a1.toInt)) ∧ RM G K A L U x S1) ∨ (¬ (((0 ≤ a1.toInt ∧ a1.toInt < G 0 0) ∧ 0 ≤ a2.toInt ∧ a2.toInt < G 0 1) ∧ 0 ≤ a3.toInt ∧ a3.toInt ≤ 40 ∧ A 0 0 + a3.toInt ≤ 999) ∧ F_m_later o S a1 a2 a3 = (S, (-1 : Int32))) := by
  have z0 : (0 : Int32).toInt = 0 := by decide +kernel
  have z40 : (40 : Int32).toInt = 40 := by decide +kernel
  have hg := h.1.1.1
  rcases mx_cellof (o := o) (a1 := a1) (a2 := a2) hg ok.1.1.1 with ⟨p1, p2, p3, p4, p5⟩ | ⟨p1, p2⟩
  rotate_left
  · exact Or.inr ⟨fun z => p1 z.1, F_m_later_p0 rfl p2⟩
  have q0 : ¬ F_m_isCell o S a1 a2 = (0 : Int32) := by rw [p3]; decide +kernel
  have hcm := mx_come (o := o) (a1 := a3) (a2 := 0) (a3 := 40) hg h.2.1 ok.2.2.1.1 (by decide +kernel) (by decide +kernel)
  rw [z0, z40] at hcm
  rcases hcm with ⟨e, w⟩ | ⟨e, w⟩
  rotate_left
  · exact Or.inr ⟨fun z => w ⟨z.2.1, z.2.2.1, z.2.2.2⟩, F_m_later_p2 rfl q0 rfl e⟩
  have ne : ¬ F_m_isAhead o S a3 (0 : Int32) (40 : Int32) = (0 : Int32) := by rw [e]; decide +kernel
  obtain ⟨S2, e2, r2, l2⟩ := mx_try (o := o) ok h
  obtain ⟨S3, L1, e3, r3, l3⟩ := mx_runs (o := o) (a1 := a3) (n := a3.toInt.toNat) ok r2 ok.2.2.1.1 ok.2.2.1.2 l2 (by omega) (by omega) (by omega)
  refine Or.inl ⟨⟨p1, p2⟩, w, S3, _, F_m_later_p1 rfl q0 rfl ne e2.symm e3.symm rfl rfl rfl rfl, ?_, r3⟩
  refine mx_grade l3.1 p5 ?_
  have p50 := p5.1
  have hgb := ok.1.1.1
  have e8 : ((8 : Int32) * a2).toInt = 8 * a2.toInt := dk_mulT (by decide +kernel) rfl (by omega) (by omega)
  have e64 : ((64 : Int32) + (8 : Int32) * a2).toInt = 64 + 8 * a2.toInt := dk_addT (by decide +kernel) e8 (by omega) (by omega)
  rw [dk_clN, dk_addT e64 rfl (by omega) (by omega)]
  unfold mx_ad
  omega
/-- OPENS of the reference -/
theorem mx_opens (ok : s_ok G K A U) (h : RM G K A L U x S) : (((0 ≤ a1.toInt ∧ a1.toInt < G 0 0) ∧ 0 ≤ a2.toInt ∧ a2.toInt < G 0 1) ∧ ∃ (S1 : dg_S) (y : Int32), F_m_opens o S a1 a2 = (S1, y) ∧ s_fo (fun n => s_op G (s_n G K (G 0 3) n A) (8 * a2.toInt + a1.toInt)) (min 40 (999 - A 0 0)).toNat y.toInt ∧ RM G K A L U x S1) ∨ (¬ ((0 ≤ a1.toInt ∧ a1.toInt < G 0 0) ∧ 0 ≤ a2.toInt ∧ a2.toInt < G 0 1) ∧ F_m_opens o S a1 a2 = (S, (-1 : Int32))) := by
  have z0 : (0 : Int32).toInt = 0 := by decide +kernel
  have z1 : (1 : Int32).toInt = 1 := by decide +kernel
  have z40 : (40 : Int32).toInt = 40 := by decide +kernel
  have m1 : (-1 : Int32).toInt = -1 := by decide +kernel
  have hg := h.1.1.1
  have hw0 := ok.2.2.1.1.1
  rcases mx_cellof (o := o) (a1 := a1) (a2 := a2) hg ok.1.1.1 with ⟨p1, p2, p3, p4, p5⟩ | ⟨p1, p2⟩
  rotate_left
  · exact Or.inr ⟨p1, F_m_opens_p4 rfl p2⟩
  have q0 : ¬ F_m_isCell o S a1 a2 = (0 : Int32) := by rw [p3]; decide +kernel
  obtain ⟨c, hc⟩ : ∃ c, c = 8 * a2.toInt + a1.toInt := ⟨_, rfl⟩
  rw [← hc] at p4 p5 ⊢
  obtain ⟨S2, e2, r2, l2⟩ := mx_try (o := o) ok h
  obtain ⟨W, hW⟩ : ∃ W : Nat, W = (min 40 (999 - A 0 0)).toNat := ⟨_, rfl⟩
  rw [← hW]
  -- do so many come
  have come : ∀ (T : dg_S) (k : Nat) (kI : Int32), RM G K A L U x T → kI.toInt = k → (F_m_isAhead o T kI (0 : Int32) (40 : Int32) = 1 ∧ k ≤ W ∨ F_m_isAhead o T kI (0 : Int32) (40 : Int32) = 0 ∧ ¬ k ≤ W) := fun T k kI hT hk => by
    have := mx_come (o := o) (a1 := kI) (a2 := 0) (a3 := 40) hT.1.1.1 hT.2.1 ok.2.2.1.1 (by decide +kernel) (by decide +kernel)
    rw [z0, z40] at this
    rcases this with ⟨e, w⟩ | ⟨e, w⟩
    · exact Or.inl ⟨e, by omega⟩
    · exact Or.inr ⟨e, by omega⟩
  have main := lp_cnt2 (f := F_m_opens_B1 o a2 a1) (z := (S, (0 : Int32))) (W := W + 1) (P := fun k s => RM G K A L U x s.2 ∧ (∀ m, m < k → ¬ s_op G (s_n G K (G 0 3) m A) c) ∧ (k ≤ W → ∃ L1, mx_lay G (s_n G K (G 0 3) k A) L1 s.2 1)) (Q := fun q => s_fo (fun n => s_op G (s_n G K (G 0 3) n A) c) W q.2.toInt ∧ RM G K A L U x q.1) (by omega) (fun k kI s hk hkI hP => by
    obtain ⟨w, T⟩ := s
    obtain ⟨t1, t2, t3⟩ := hP
    have t1 : RM G K A L U x T := t1
    obtain ⟨L1, t3⟩ := t3 (by omega)
    have t3 : mx_lay G (s_n G K (G 0 3) k A) L1 T 1 := t3
    have okc := s_n_ok (K := K) (r := G 0 3) ok.1.1 ok.2.2.1.1 ok.2.2.1.2 k
    rcases come T k kI t1 hkI with ⟨e, -⟩ | ⟨-, e⟩
    rotate_left
    · omega
    have ne : ¬ F_m_isAhead o T kI (0 : Int32) (40 : Int32) = (0 : Int32) := by rw [e]; decide +kernel
    rcases mx_op (o := o) (a := 1) (b := (8 : Int32) * a2 + a1) t3.1 z1 (by decide) (by rw [p4]; exact p5) with ⟨f, v⟩ | ⟨f, v⟩
    · rw [p4] at v
      exact Or.inr ⟨(T, kI), F_m_opens_p2 rfl ne rfl rfl rfl (by rw [f]; decide +kernel), Or.inr ⟨k, hkI, by omega, v, t2⟩, t1⟩
    · rw [p4] at v
      obtain ⟨T1, y, e1, r1, l1, -⟩ := mx_tick1 (o := o) ok t1 okc.1 okc.2 t3
      refine Or.inl ⟨(_, T1), F_m_opens_p1 rfl ne rfl rfl rfl f (by rw [e1]) rfl rfl, r1, fun m hm => ?_, fun hk1 => ?_⟩
      · by_cases u : m = k
        · rw [u]
          exact v
        · exact t2 m (by omega)
      · have e00 := s_n_00 (n := k) (G := G) (K := K) (r := G 0 3) (A := A) (by omega)
        rw [s_tu_tk (by rw [e00]; omega)] at l1
        exact ⟨_, l1⟩) (fun kI s hkI hP => by
    obtain ⟨w, T⟩ := s
    obtain ⟨t1, t2, -⟩ := hP
    rcases come T (W + 1) kI t1 hkI with ⟨-, e⟩ | ⟨e, -⟩
    · omega
    · exact ⟨(T, (-1 : Int32)), F_m_opens_p0 rfl e, Or.inl ⟨m1, fun m hm => t2 m (by omega)⟩, t1⟩) ((42 - ((0 : Int32)).toInt).toNat + 1) 0 0 (S2.2.1 29 (1 : Int32).toNatClampNeg, S2) (by rw [z0]; omega) (by omega) z0 ⟨r2, fun m hm => absurd hm (Nat.not_lt_zero m), fun _ => ⟨L, l2⟩⟩
  refine Or.inl ⟨⟨p1, p2⟩, ?_⟩
  rw [F_m_opens_p3 rfl q0 e2.symm rfl]
  exact ⟨_, _, rfl, main.1, main.2⟩
/-- grades of tubs, and worth -/
theorem s_tg_b (h : ∀ k, k < 10 → 0 ≤ A 6 k ∧ A 6 k ≤ 99) : ∀ n : Nat, n ≤ 10 → 0 ≤ s_tg A n ∧ s_tg A n ≤ 891 * n
  | 0, _ => ⟨Int.le_refl _, by show (0 : Int) ≤ 891 * ((0 : Nat) : Int); omega⟩
  | n + 1, hn => by
    have h1 := s_tg_b h n (by omega)
    have h2 := h n (by omega)
    have h3 : 0 ≤ (n : Int) * A 6 n := Int.mul_nonneg (by omega) h2.1
    have h4 : (n : Int) * A 6 n ≤ 9 * 99 := Int.mul_le_mul (by omega) h2.2 h2.1 (by omega)
    show 0 ≤ s_tg A n + n * A 6 n ∧ s_tg A n + n * A 6 n ≤ 891 * ((n + 1 : Nat) : Int)
    omega
theorem s_ws_b (h : s_cw G A) : ∀ n : Nat, 0 ≤ s_ws G A n ∧ s_ws G A n ≤ 9 * n
  | 0 => ⟨Int.le_refl _, by show (0 : Int) ≤ 9 * ((0 : Nat) : Int); omega⟩
  | n + 1 => by
    have h1 := s_ws_b h n
    show 0 ≤ s_ws G A n + s_if (s_so G A n) (s_c A n) 0 ∧ s_ws G A n + s_if (s_so G A n) (s_c A n) 0 ≤ 9 * ((n + 1 : Nat) : Int)
    by_cases q : s_so G A n
    · rw [s_if_y q]
      have := q.2
      have := (h.1 n q.1).2
      omega
    · rw [s_if_n q]
      omega
theorem mx_tubGrades {v : Nat} (hl : mx_lay G A L S v) (hw : s_wf G A) (ha1 : a1.toInt = v) (hv : v ≤ 40) : (F_m_tubGrades o S a1).toInt = s_tg A 10 := by
  have z0 : (0 : Int32).toInt = 0 := by decide +kernel
  have z10 : (10 : Int32).toInt = 10 := by decide +kernel
  have e10 : (10 : Int32).toInt = ((10 : Nat) : Int) := by decide +kernel
  have w5 := hw.2.2.2.2.2
  obtain ⟨-, -, -, -, -, -, y7, -⟩ := hl
  rw [F_m_tubGrades_p2]
  refine lp_cnt (f := F_m_tubGrades_B1 a1 S) (z := (0 : Int32)) (W := 10) (P := fun c s => s.toInt = s_tg A c) (Q := fun q => q.toInt = s_tg A 10) (by omega) (fun c cI s hc hcI hP => ?_) (fun cI s hcI hP => ?_) ((11 - ((0 : Int32)).toInt).toNat + 1) 0 0 0 (by rw [z0]; decide) (by decide) z0 z0
  · have hP : s.toInt = s_tg A c := hP
    have b := s_tg_b w5 c (by omega)
    have hv' := y7 c hc
    have w5c := w5 c hc
    have pl := mx_pl ha1 hv hcI (by omega) e10 (by omega) (by omega)
    have h3 : 0 ≤ (c : Int) * A 6 c := Int.mul_nonneg (by omega) w5c.1
    have h4 : (c : Int) * A 6 c ≤ 9 * 99 := Int.mul_le_mul (by omega) w5c.2 w5c.1 (by omega)
    refine ⟨_, F_m_tubGrades_p1 (fun q => by have := dk_gec z10 q; omega) rfl rfl rfl rfl rfl rfl, ?_⟩
    rw [pl]
    exact dk_addT hP (dk_mulT hcI hv' (by omega) (by omega)) (by omega) (by omega)
  · exact ⟨s, F_m_tubGrades_p0 (dk_gep z10 (by omega)), hP⟩
theorem mx_worthOf {v : Nat} (hg : mx_gd G S) (hG : s_gb G) (hl : mx_lay G A L S v) (hw : s_wf G A) (hcw : s_cw G A) (ha1 : a1.toInt = v) (hv : v ≤ 40) : (F_m_worthOf o S a1).toInt = s_wo G A := by
  have z0 : (0 : Int32).toInt = 0 := by decide +kernel
  have z64 : (64 : Int32).toInt = 64 := by decide +kernel
  have tg := s_tg_b hw.2.2.2.2.2 10 (by decide)
  rw [F_m_worthOf_p6 rfl]
  unfold s_wo
  refine lp_cnt (f := F_m_worthOf_B1 o S a1) (z := (0 : Int32)) (W := 64) (P := fun c s => s.toInt = s_tg A 10 + s_ws G A c) (Q := fun q => q.toInt = s_tg A 10 + s_ws G A 64) (by omega) (fun c cI s hc hcI hP => ?_) (fun cI s hcI hP => ?_) ((65 - ((0 : Int32)).toInt).toNat + 1) 0 0 (F_m_tubGrades o S a1) (by rw [z0]; decide) (by decide) z0 (by
    show (F_m_tubGrades o S a1).toInt = s_tg A 10 + 0
    rw [mx_tubGrades hl hw ha1 hv]
    omega)
  · have hP : s.toInt = s_tg A 10 + s_ws G A c := hP
    have b := s_ws_b hcw c
    have q0 : ¬ (64 : Int32) ≤ cI := fun q => by have := dk_gec z64 q; omega
    have stay : ¬ s_so G A c → F_m_worthOf_B1 o S a1 (cI, s) = F_m_worthOf_J3 s cI → ∃ s1, F_m_worthOf_B1 o S a1 (cI, s) = .inl (cI + 1, s1) ∧ s1.toInt = s_tg A 10 + s_ws G A (c + 1) := fun hn e => by
      refine ⟨s + (0 : Int32), ?_, ?_⟩
      · rw [e, F_m_worthOf_p2]
        exact F_m_worthOf_p1 rfl rfl
      · show _ = s_tg A 10 + (s_ws G A c + s_if (s_so G A c) (s_c A c) 0)
        rw [s_if_n hn, dk_addT hP z0 (by omega) (by omega)]
        omega
    rcases mx_isCellOf (o := o) (a := cI) hg hG with ⟨e1, y1⟩ | ⟨e1, y1⟩
    rotate_left
    · rw [hcI] at y1
      exact stay (fun z => y1 z.1) (F_m_worthOf_p3 q0 rfl e1)
    have n1 : ¬ F_m_isCellOf o S cI = (0 : Int32) := by rw [e1]; decide +kernel
    rcases mx_op (o := o) (a := a1) (b := cI) hl.1 ha1 hv y1 with ⟨e2, y2⟩ | ⟨e2, y2⟩
    · rw [hcI] at y2
      exact stay (fun z => by have := z.2; have := y2.2; omega) (F_m_worthOf_p4 q0 rfl n1 rfl (by rw [e2]; decide +kernel))
    · have hso := (s_so_n (A := A) y1).mpr y2
      have ad := mx_adr (a := a1) (b := cI) ha1 hv y1.1
      rw [hcI] at hso ad y1
      have v := mx_grade hl.1 y1 (i := mx_ad v c) rfl
      have h2 := hso.2
      rw [if_neg (by omega)] at v
      have cb := (hcw.1 c y1).2
      refine ⟨s + S.2.1 31 ((64 : Int32) * a1 + cI).toNatClampNeg, ?_, ?_⟩
      · rw [F_m_worthOf_p5 q0 rfl n1 rfl e2 rfl rfl rfl]
        exact F_m_worthOf_p1 rfl rfl
      · show _ = s_tg A 10 + (s_ws G A c + s_if (s_so G A c) (s_c A c) 0)
        rw [s_if_y hso, ad, dk_addT hP v (by omega) (by omega)]
        omega
  · exact ⟨s, F_m_worthOf_p0 (dk_gep z64 (by omega)), hP⟩
/-- WORTH of the reference -/
theorem mx_worth (ok : s_ok G K A U) (h : RM G K A L U x S) : ((0 ≤ a1.toInt ∧ a1.toInt ≤ 40 ∧ A 0 0 + a1.toInt ≤ 999) ∧ ∃ (S1 : dg_S) (y : Int32), F_m_worth o S a1 = (S1, y) ∧ y.toInt = s_wo G (s_n G K (G 0 3) a1.toInt.toNat A) ∧ RM G K A L U x S1) ∨ (¬ (0 ≤ a1.toInt ∧ a1.toInt ≤ 40 ∧ A 0 0 + a1.toInt ≤ 999) ∧ F_m_worth o S a1 = (S, (-1 : Int32))) := by
  have z0 : (0 : Int32).toInt = 0 := by decide +kernel
  have z1 : (1 : Int32).toInt = 1 := by decide +kernel
  have z40 : (40 : Int32).toInt = 40 := by decide +kernel
  have hcm := mx_come (o := o) (a1 := a1) (a2 := 0) (a3 := 40) h.1.1.1 h.2.1 ok.2.2.1.1 (by decide +kernel) (by decide +kernel)
  rw [z0, z40] at hcm
  rcases hcm with ⟨e, w⟩ | ⟨e, w⟩
  rotate_left
  · exact Or.inr ⟨w, F_m_worth_p1 rfl e⟩
  have ne : ¬ F_m_isAhead o S a1 (0 : Int32) (40 : Int32) = (0 : Int32) := by rw [e]; decide +kernel
  obtain ⟨S2, e2, r2, l2⟩ := mx_try (o := o) ok h
  obtain ⟨S3, L1, e3, r3, l3⟩ := mx_runs (o := o) (a1 := a1) (n := a1.toInt.toNat) ok r2 ok.2.2.1.1 ok.2.2.1.2 l2 (by omega) (by omega) (by omega)
  have okn := s_n_ok (K := K) (r := G 0 3) ok.1.1 ok.2.2.1.1 ok.2.2.1.2 a1.toInt.toNat
  exact Or.inl ⟨w, S3, _, F_m_worth_p0 rfl ne e2.symm e3.symm rfl, mx_worthOf r3.1.1.1 ok.1.1.1 l3 okn.1 okn.2 z1 (by decide), r3⟩
end DA
end
