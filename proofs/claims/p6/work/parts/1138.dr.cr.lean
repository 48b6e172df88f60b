/-! the reference's acts: shifts -/
theorem mx_gd.keep2 {G : aR} {S S1 : dg_S} (h : mx_gd G S) (e47 : zI S1 0 47 = zI S 0 47) (e13 : zI S1 0 13 = zI S 0 13) (e : ∀ i, i ≤ 19 → S1.2.1 i = S.2.1 i) : mx_gd G S1 := by
  obtain ⟨h1, h2, h3, h4, h5⟩ := h
  refine ⟨by rw [e47]; exact h1, ?_, ?_, ?_, ?_⟩
  · rw [e13, e 2 (by decide)]; exact h2
  · rw [e13, e 3 (by decide)]; exact h3
  · rw [e13, e 4 (by decide)]; exact h4
  · rw [e13, e 9 (by decide)]; exact h5
/-- all that is told of a ground -/
def mx_gf (G : aR) (K : Nat → List Int) (S : dg_S) : Prop := mx_g G K S ∧ ((S.2.1 5 (zI S 0 13).toNatClampNeg).toInt = G 0 3 ∧ (S.2.1 6 (zI S 0 13).toNatClampNeg).toInt = G 0 4 ∧ (S.2.1 8 (zI S 0 13).toNatClampNeg).toInt = G 0 5 ∧ (S.2.1 12 (zI S 0 13).toNatClampNeg).toInt = G 0 7) ∧ (∀ c : Int, s_in G c → (S.2.1 7 (64 * (zI S 0 13).toNatClampNeg + c.toNat)).toInt = G 1 c.toNat) ∧ (∀ k : Nat, (k : Int) < G 0 6 → (S.2.1 10 (16 * (zI S 0 13).toNatClampNeg + k)).toInt = G 5 k ∧ (S.2.1 11 (16 * (zI S 0 13).toNatClampNeg + k)).toInt = G 6 k) ∧ ∀ k : Nat, (k : Int) < G 0 7 → (S.2.1 13 (5 * (zI S 0 13).toNatClampNeg + k)).toInt = G 2 k ∧ (S.2.1 14 (5 * (zI S 0 13).toNatClampNeg + k)).toInt = G 3 k ∧ (S.2.1 15 (5 * (zI S 0 13).toNatClampNeg + k)).toInt = G 4 k
theorem mx_gf.keep {G : aR} {K : Nat → List Int} {S S1 : dg_S} (h : mx_gf G K S) (e47 : zI S1 0 47 = zI S 0 47) (e13 : zI S1 0 13 = zI S 0 13) (e : ∀ i, i ≤ 19 → S1.2.1 i = S.2.1 i) : mx_gf G K S1 := by
  obtain ⟨⟨g1, b, g2, g3, g4⟩, ⟨f5, f6, f8, f12⟩, h2, h3, h4⟩ := h
  refine ⟨⟨g1.keep2 e47 e13 e, b, g2, by rw [e13]; exact g3, fun w hw => (g4 w hw).keep e⟩, ⟨?_, ?_, ?_, ?_⟩, fun c hc => ?_, fun k hk => ?_, fun k hk => ?_⟩
  · rw [e13, e 5 (by decide)]; exact f5
  · rw [e13, e 6 (by decide)]; exact f6
  · rw [e13, e 8 (by decide)]; exact f8
  · rw [e13, e 12 (by decide)]; exact f12
  · rw [e13, e 7 (by decide)]; exact h2 c hc
  · rw [e13, e 10 (by decide), e 11 (by decide)]; exact h3 k hk
  · rw [e13, e 13 (by decide), e 14 (by decide), e 15 (by decide)]; exact h4 k hk
/-- what one state of the mine is: the reference's side -/
def RM (G : aR) (K : Nat → List Int) (A : aR) (L : s_L) (U : s_U) (x : Int) (S : dg_S) : Prop := mx_gf G K S ∧ mx_lay G A L S 0 ∧ mx_ud G S U ∧ (zI S 0 63).toInt = G 0 3 ∧ (zL S 0 62).toInt = x
section RS
variable {o n : Nat} {G A A' : aR} {K : Nat → List Int} {L L' : s_L} {U : s_U} {S S0 S1 : dg_S} {x r : Int} {a a1 : Int32}
theorem mx_ud.keep (h : mx_ud G S U) (hb : G 0 6 ≤ 16) (e60 : zI S1 0 60 = zI S 0 60) (e61 : zI S1 0 61 = zI S 0 61) (e : ∀ a, 29 ≤ a → a ≤ 39 → ∀ j, 2 * mx_w a ≤ j → S1.2.1 a j = S.2.1 a j) : mx_ud G S1 U := by
  obtain ⟨h1, h2, f, h3, h4, h5⟩ := h
  refine ⟨by rw [e61]; exact h1, h2, f, h3, by rw [e60]; exact h4, fun i e9 he => (h5 i e9 he).keep hb (fun a a0 a1 j j0 _ => e a a0 a1 j ?_)⟩
  have h9 := Nat.mul_le_mul_left (mx_w a) (show 2 ≤ 2 + (f + i) % 20 by omega)
  rw [Nat.mul_comm (mx_w a) 2] at h9
  omega
/-- what leaves a state as it is -/
theorem RM.keep {LF : Nat → Nat → Prop} {LA : Nat → Prop} (h : RM G K A L U x S) (hb : G 0 6 ≤ 16) (t : kp LF LA S S1) (f : ∀ b, b = 13 ∨ b = 47 ∨ b = 60 ∨ b = 61 ∨ b = 62 ∨ b = 63 → ¬ LF 0 b) (ag : ∀ a, a ≤ 19 → ¬ LA a) (al : ∀ a, 29 ≤ a → a ≤ 39 → ¬ LA a) : RM G K A L U x S1 := by
  obtain ⟨h1, h2, h3, h4, h5⟩ := h
  exact ⟨h1.keep (t.I (f 47 (by omega))) (t.I (f 13 (by omega))) (fun i hi => (t.2 i (ag i hi)).1), h2.keep hb (fun a a0 a1 j _ _ => by rw [(t.2 a (al a a0 a1)).1]), h3.keep hb (t.I (f 60 (by omega))) (t.I (f 61 (by omega))) (fun a a0 a1 j _ => by rw [(t.2 a (al a a0 a1)).1]), by rw [t.I (f 63 (by omega))]; exact h4, by rw [t.L (f 62 (by omega))]; exact h5⟩
/-- what is done to layer 0 or 1 alone -/
theorem RM.v {v : Nat} (h : RM G K A L U x S) (hb : G 0 6 ≤ 16) (t : k_v v S S1) (hv : v ≤ 1) (hl : mx_lay G A' L' S1 0) : RM G K A' L' U x S1 := by
  obtain ⟨h1, h2, h3, h4, h5⟩ := h
  exact ⟨h1.keep t.I t.I (fun i hi => t.row (by omega)), hl, t.ud h3 hv hb, by rw [t.I]; exact h4, by rw [t.1.L id]; exact h5⟩
/-- ahead of an act -/
theorem mx_act (hG : s_gx G) (h : RM G K A L U x S) : ∃ S1, F_m_keeps o S = S1 ∧ RM G K A L (s_ud U (A, L)) x S1 ∧ k_u S S1 := by
  obtain ⟨h1, h2, h3, h4, h5⟩ := h
  have hb := hG.1.2.2.2
  obtain ⟨S1, e1, k1, u1⟩ := mx_keeps (o := o) hb h2 h3
  exact ⟨S1, e1, ⟨h1.keep (k1.1.I (by decide)) (k1.1.I (by decide)) (fun i hi => (k1.1.2 i (by omega)).1), k1.lay h2 (by decide) hb, u1, by rw [k1.1.I (by decide)]; exact h4, by rw [k1.1.L (by decide)]; exact h5⟩, k1⟩
theorem s_go_00 (h : A 0 0 + (n : Int) ≤ 999) {q : s_L × Int} : (s_go G K r n (A, q)).1 0 0 = A 0 0 + n := by
  induction n with
  | zero =>
    show A 0 0 = A 0 0 + ((0 : Nat) : Int)
    omega
  | succ n ih =>
    have e := ih (by omega)
    show s_tk G K r (s_go G K r n (A, q)).1 0 0 = A 0 0 + ((n + 1 : Nat) : Int)
    unfold s_tk
    rw [s_up_at, e]
    omega
/-- a shift of layer 0 -/
theorem mx_tick0 (ok : s_ok G K A U) (h : RM G K A L U x S) (h9 : A 0 0 < 999) : ∃ (S1 : dg_S) (y : Int32), F_m_ticks o S (0 : Int32) = (S1, y) ∧ y.toInt = s_dn G K (G 0 3) A ∧ RM G K (s_tk G K (G 0 3) A) (s_dL G K (G 0 3) A L) U x S1 ∧ zI S1 0 13 = zI S 0 13 := by
  obtain ⟨hG, hK, ⟨hw, hcw⟩, -⟩ := ok
  have hr := hG.2.1
  obtain ⟨S1, y, e1, k1, l1, y1⟩ := mx_tick (o := o) (v := 0) (a1 := 0) hG.1 hK hw hcw h.1.1 h.2.1 (by decide +kernel) (by decide) h.2.2.2.1 (by omega)
  rw [s_tu_tk h9] at l1
  exact ⟨S1, y, e1, y1, h.v hG.1.2.2.2 k1 (by decide) l1, k1.I⟩
theorem mx_come (hg : mx_gd G S) (hl : mx_lay G A L S 0) (hw : s_wf G A) {a2 a3 : Int32} (h3 : -1000 ≤ a3.toInt ∧ a3.toInt ≤ 1000) (h2 : 0 ≤ a2.toInt) : F_m_isAhead o S a1 a2 a3 = 1 ∧ (a2.toInt ≤ a1.toInt ∧ a1.toInt ≤ a3.toInt ∧ A 0 0 + a1.toInt ≤ 999) ∨ F_m_isAhead o S a1 a2 a3 = 0 ∧ ¬ (a2.toInt ≤ a1.toInt ∧ a1.toInt ≤ a3.toInt ∧ A 0 0 + a1.toInt ≤ 999) := by
  have z0 : (0 : Int32).toInt = 0 := by decide +kernel
  have n0 : (0 : Int32).toNatClampNeg = 0 := by decide +kernel
  have hw0 := hw.1
  have h29 := hl.2.1
  have n47 : ¬ zI S 0 47 = (0 : Int32) := fun z => hg.1 (dk_eqc z0 z)
  rcases mx_is (o := o) (S := S) (a := a1) (b := a2) (c := a3) with ⟨e, h⟩ | ⟨e, h⟩
  · have ne : ¬ F_m_is o S a1 a2 a3 = (0 : Int32) := by rw [e]; decide +kernel
    have e11 : ((999 : Int32) - a1).toInt = 999 - a1.toInt := dk_subT (by decide +kernel) rfl (by omega) (by omega)
    by_cases q : (999 : Int32) - a1 < S.2.1 29 (0 : Int32).toNatClampNeg
    · have d := w_lt.mp q
      rw [n0, e11] at d
      exact Or.inr ⟨F_m_isAhead_p2 rfl rfl n47 rfl ne rfl q, by omega⟩
    · have d : ¬ ((999 : Int32) - a1).toInt < (S.2.1 29 (0 : Int32).toNatClampNeg).toInt := fun z => q (w_lt.mpr z)
      rw [n0, e11] at d
      exact Or.inl ⟨F_m_isAhead_p3 rfl rfl n47 rfl ne rfl q, by omega⟩
  · exact Or.inr ⟨F_m_isAhead_p1 rfl n47 rfl e, by omega⟩
theorem s_go_okU (ok : s_ok G K A U) {q : s_L × Int} (c : Nat) : s_ok G K (s_go G K (G 0 3) c (A, q)).1 U := ⟨ok.1, ok.2.1, s_go_ok ok.1.1 ok.2.2.1.1 ok.2.2.1.2 c, ok.2.2.2⟩
theorem s_ud_ok (ok : s_ok G K A U) : s_ok G K A (s_ud U (A, L)) := by
  refine ⟨ok.1, ok.2.1, ok.2.2.1, fun i e he => ?_⟩
  unfold s_ud at he
  rcases ap_get he with ⟨-, b⟩ | ⟨-, b⟩
  · by_cases q : U.length = 20
    · rw [if_pos q, tl_get] at b
      exact ok.2.2.2 _ e b
    · rw [if_neg q] at b
      exact ok.2.2.2 _ e b
  · rw [b]
    exact ok.2.2.1
/-- SHIFTS of the reference, where they come -/
theorem mx_shifts (ok : s_ok G K A U) (h : RM G K A L U x S) (hn : a1.toInt = n) (h1 : 1 ≤ n) (h40 : n ≤ 40) (h9 : A 0 0 + n ≤ 999) : ∃ (S1 : dg_S) (y : Int32), F_m_shifts o S a1 = (S1, y) ∧ y.toInt = (s_go G K (G 0 3) n (A, L, 0)).2.2 ∧ RM G K (s_go G K (G 0 3) n (A, L, 0)).1 (s_go G K (G 0 3) n (A, L, 0)).2.1 (s_ud U (A, L)) x S1 := by
  have z0 : (0 : Int32).toInt = 0 := by decide +kernel
  obtain ⟨S2, e2, r2, k2⟩ := mx_act (o := o) ok.1 h
  have okU := s_ud_ok (L := L) ok
  have come : ¬ F_m_isAhead o S a1 (1 : Int32) (40 : Int32) = (0 : Int32) := by
    rcases mx_come (o := o) (a1 := a1) (a2 := 1) (a3 := 40) h.1.1.1 h.2.1 ok.2.2.1.1 (by decide +kernel) (by decide +kernel) with ⟨e, -⟩ | ⟨-, e⟩
    · rw [e]; decide +kernel
    · exfalso
      apply e
      rw [hn, show (1 : Int32).toInt = 1 by decide +kernel, show (40 : Int32).toInt = 40 by decide +kernel]
      omega
  have main := lp_cnt (f := F_m_shifts_B1 a1 o) (z := (S, (0 : Int32))) (W := n) (P := fun c s => s.1.toInt = (s_go G K (G 0 3) c (A, L, 0)).2.2 ∧ RM G K (s_go G K (G 0 3) c (A, L, 0)).1 (s_go G K (G 0 3) c (A, L, 0)).2.1 (s_ud U (A, L)) x s.2.2) (Q := fun q => q.2.toInt = (s_go G K (G 0 3) n (A, L, 0)).2.2 ∧ RM G K (s_go G K (G 0 3) n (A, L, 0)).1 (s_go G K (G 0 3) n (A, L, 0)).2.1 (s_ud U (A, L)) x q.1) (by omega) (fun c cI s hc hcI hP => by
    obtain ⟨m, w, T⟩ := s
    obtain ⟨p1, p2⟩ := hP
    have okc := s_go_okU (q := (L, 0)) okU c
    have nb := s_go_n (G := G) (K := K) (r := G 0 3) (A := A) (q := (L, (0 : Int))) c
    have e00 := s_go_00 (n := c) (G := G) (K := K) (r := G 0 3) (A := A) (q := (L, (0 : Int))) (by omega)
    obtain ⟨T1, y, e1, y1, i1, -⟩ := mx_tick0 (o := o) okc p2 (by rw [e00]; omega)
    have dn := s_dn_01 (G := G) (K := K) (r := G 0 3) (A := (s_go G K (G 0 3) c (A, L, 0)).1)
    have q0 : ¬ a1 ≤ cI := fun z => by have := w_le.mp z; omega
    refine ⟨(m + y, _, T1), F_m_shifts_p1 q0 (by rw [e1]) (show y = _ by rw [e1]) rfl rfl rfl, ?_, i1⟩
    show (m + y).toInt = _ + s_dn G K (G 0 3) _
    have p1 : m.toInt = (s_go G K (G 0 3) c (A, L, 0)).2.2 := p1
    have nb1 : (0 : Int) ≤ (s_go G K (G 0 3) c (A, L, 0)).2.2 := nb.1
    have nb2 : (s_go G K (G 0 3) c (A, L, 0)).2.2 ≤ 0 + c := nb.2
    exact dk_addT p1 y1 (by omega) (by omega)) (fun cI s hcI hP => by
    obtain ⟨m, w, T⟩ := s
    exact ⟨(T, m), F_m_shifts_p0 (w_le.mpr (by omega)), hP⟩) ((41 - ((0 : Int32)).toInt).toNat + 1) 0 0 (0, S2.2.1 29 (0 : Int32).toNatClampNeg, S2) (by rw [z0]; omega) (by omega) z0 ⟨z0, r2⟩
  rw [F_m_shifts_p2 rfl come e2.symm rfl]
  exact ⟨_, _, rfl, main.1, main.2⟩
theorem mx_ref (hb : G 0 6 ≤ 16) (h : RM G K A L U x S) {k : Nat} (hk : a1.toInt = k) : ∃ S1, F_m_refuses o S a1 = (S1, (-1 : Int32)) ∧ RM G K A L U x S1 ∧ S1 = dg_uf S 28 (upd (S.2.1 28) k (S.2.1 28 k + (1 : Int32))) := by
  have kn : a1.toNatClampNeg = k := by rw [dk_clN]; omega
  obtain ⟨S1, h1⟩ : ∃ T, T = dg_uf S 28 (upd (S.2.1 28) a1.toNatClampNeg (S.2.1 28 a1.toNatClampNeg + (1 : Int32))) := ⟨_, rfl⟩
  have t : kp (fun _ _ => False) (fun a => a = 28) S S1 := by rw [h1]; exact kp.uf kp.rf rfl
  refine ⟨S1, F_m_refuses_p0 rfl rfl h1, h.keep hb t (fun _ _ => id) (fun a _ => by omega) (fun a _ _ => by omega), ?_⟩
  rw [h1, kn]
/-- SHIFTS on both sides -/
theorem sim_shifts {oX oM g : Nat} {SX SM : dg_S} (ok : s_ok G K A U) (hX : RX oX g G K A L U x SX) (hM : RM G K A L U x SM) : ∃ (A' : aR) (L' : s_L) (U' : s_U), (F_d_shifts oX SX a1).2 = (F_m_shifts oM SM a1).2 ∧ s_ok G K A' U' ∧ RX oX g G K A' L' U' x (F_d_shifts oX SX a1).1 ∧ RM G K A' L' U' x (F_m_shifts oM SM a1).1 := by
  have z1 : (1 : Int32).toInt = 1 := by decide +kernel
  have z40 : (40 : Int32).toInt = 40 := by decide +kernel
  have cX := cx_come (o := oX) (a1 := 1) (a2 := a1) (a3 := 40) hX.2.1 hX.1 ok.1.1 ok.2.2.1.1 hX.2.2.1 (by decide +kernel) (by decide +kernel)
  have cM := mx_come (o := oM) (a1 := a1) (a2 := 1) (a3 := 40) hM.1.1.1 hM.2.1 ok.2.2.1.1 (by decide +kernel) (by decide +kernel)
  rw [z1, z40] at cX cM
  by_cases q : 1 ≤ a1.toInt ∧ a1.toInt ≤ 40 ∧ A 0 0 + a1.toInt ≤ 999
  · obtain ⟨n, hn⟩ : ∃ n : Nat, a1.toInt = n := ⟨a1.toInt.toNat, by omega⟩
    obtain ⟨S1, y, e1, y1, r1⟩ := cx_shifts (o := oX) ok hX hn (by omega) (by omega) (by omega)
    obtain ⟨S2, w, e2, w2, r2⟩ := mx_shifts (o := oM) ok hM hn (by omega) (by omega) (by omega)
    rw [e1, e2]
    exact ⟨_, _, _, Int32.toInt_inj.mp (y1.trans w2.symm), s_go_okU (s_ud_ok ok) n, r1, r2⟩
  · have e1 : F_d_shiftsCome oX SX (1 : Int32) a1 (40 : Int32) = 0 := by
      rcases cX with ⟨-, e⟩ | ⟨e, -⟩
      · exact absurd e q
      · exact e
    have e2 : F_m_isAhead oM SM a1 (1 : Int32) (40 : Int32) = 0 := by
      rcases cM with ⟨-, e⟩ | ⟨e, -⟩
      · exact absurd e q
      · exact e
    obtain ⟨S1, -, f1, r1, -⟩ := cx_no (o := oX) (a1 := 2) (k := 2) hX (by decide +kernel)
    obtain ⟨S2, f2, r2, -⟩ := mx_ref (o := oM) (a1 := 2) (k := 2) ok.1.1.2.2.2 hM (by decide +kernel)
    rw [F_d_shifts_p3 rfl e1 rfl rfl, F_m_shifts_p3 rfl e2 rfl rfl, f1, f2]
    exact ⟨A, L, U, rfl, ok, r1, r2⟩
end RS
