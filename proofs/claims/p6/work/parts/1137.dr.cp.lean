/-! the class's acts: shifts -/
/-- all that is told of a ground -/
def cx_g (G : aR) (K : Nat → List Int) (S : dg_S) (g : Nat) : Prop := cx_gt G K S g ∧ ((zI S g 0).toInt = G 0 0 ∧ (zI S g 1).toInt = G 0 1 ∧ (zI S g 3).toInt = G 0 3 ∧ (zI S g 4).toInt = G 0 4 ∧ (zI S g 6).toInt = G 0 5 ∧ (zI S g 11).toInt = G 0 7) ∧ (∀ c : Int, s_in G c → (S.2.1 (g + 1) (c + 8).toNat).toInt = G 1 c.toNat) ∧ (∀ k : Nat, (k : Int) < G 0 6 → (S.2.1 (g + 3) k).toInt = G 5 k ∧ (S.2.1 (g + 4) k).toInt = G 6 k + 8) ∧ ∀ k : Nat, (k : Int) < G 0 7 → (S.2.1 (g + 6) k).toInt = G 2 k ∧ (S.2.1 (g + 7) k).toInt = G 3 k ∧ (S.2.1 (g + 8) k).toInt = G 4 k
theorem cx_g.keep {G : aR} {K : Nat → List Int} {S S1 : dg_S} {g : Nat} (h : cx_g G K S g) (e : ∀ i, g ≤ i → i ≤ g + 11 → S1.2.1 i = S.2.1 i) (e2 : ∀ b, zI S1 g b = zI S g b) : cx_g G K S1 g := by
  obtain ⟨h1, ⟨f0, f1, f3, f4, f6, f11⟩, h2, h3, h4⟩ := h
  refine ⟨h1.keep e e2, ⟨by rw [e2]; exact f0, by rw [e2]; exact f1, by rw [e2]; exact f3, by rw [e2]; exact f4, by rw [e2]; exact f6, by rw [e2]; exact f11⟩, fun c hc => by rw [e _ (by omega) (by omega)]; exact h2 c hc, fun k hk => by rw [e _ (by omega) (by omega), e _ (by omega) (by omega)]; exact h3 k hk, fun k hk => by rw [e _ (by omega) (by omega), e _ (by omega) (by omega), e _ (by omega) (by omega)]; exact h4 k hk⟩
/-- bounds of a ground -/
def s_gx (G : aR) : Prop := s_gw G ∧ (0 ≤ G 0 3 ∧ G 0 3 ≤ 20) ∧ (0 ≤ G 0 4 ∧ G 0 4 ≤ 100) ∧ (0 ≤ G 0 5 ∧ G 0 5 ≤ 6) ∧ (0 ≤ G 0 7 ∧ G 0 7 ≤ 5) ∧ (∀ c, s_in G c → 0 ≤ G 1 c.toNat ∧ G 1 c.toNat ≤ 9) ∧ (∀ k : Nat, (k : Int) < G 0 6 → (0 ≤ G 5 k ∧ G 5 k < G 0 5) ∧ s_in G (G 6 k)) ∧ ∀ k : Nat, (k : Int) < G 0 7 → (0 ≤ G 2 k ∧ G 2 k ≤ 9) ∧ (1 ≤ G 3 k ∧ G 3 k ≤ 9) ∧ (0 ≤ G 4 k ∧ G 4 k ≤ 999)
/-- what one state of the mine is: the class's side -/
def RX (o g : Nat) (G : aR) (K : Nat → List Int) (A : aR) (L : s_L) (U : s_U) (x : Int) (S : dg_S) : Prop := zR o S 0 6 = g ∧ cx_g G K S g ∧ cx_pit G A S 3 ∧ cx_kp S L ∧ cx_ud G S U ∧ (zI S 0 12).toInt = x
/-- what holds of such a state -/
def s_ok (G : aR) (K : Nat → List Int) (A : aR) (U : s_U) : Prop := s_gx G ∧ s_cd K ∧ (s_wf G A ∧ s_cw G A) ∧ ∀ (i : Nat) e, U[i]? = some e → s_wf G e.1 ∧ s_cw G e.1
section XS
variable {o g n : Nat} {G A : aR} {K : Nat → List Int} {L : s_L} {U : s_U} {S S0 S1 : dg_S} {x r : Int} {a a1 : Int32}
theorem cx_kp.keep (h : cx_kp S L) (e1 : zI S1 17 1 = zI S 17 1) (e2 : S1.2.1 18 = S.2.1 18) : cx_kp S1 L := by
  obtain ⟨h1, h2, h3⟩ := h
  exact ⟨by rw [e1]; exact h1, h2, by rw [e2]; exact h3⟩
theorem cx_ud.keep (h : cx_ud G S U) (e2 : zI S1 17 2 = zI S 17 2) (e3 : zI S1 17 3 = zI S 17 3) (er : ∀ i, 21 ≤ i → i < 182 → S1.2.1 i = S.2.1 i) (ef : ∀ a b, 42 ≤ a → a < 182 → zI S1 a b = zI S a b) : cx_ud G S1 U := by
  obtain ⟨h1, h2, nx, h3, h4, h5⟩ := h
  refine ⟨by rw [e2]; exact h1, h2, nx, h3, by rw [e3]; exact h4, fun i e he => ?_⟩
  obtain ⟨a1, a2, a3, a4⟩ := h5 i e he
  exact ⟨a1.keep (fun j _ _ => er j (by omega) (by omega)) (fun b _ => ef _ _ (by omega) (by omega)), by rw [er 41 (by decide) (by decide)]; exact a2, a3, by rw [er _ (by omega) (by omega)]; exact a4⟩
/-- what leaves a state as it is -/
theorem RX.keep {LF : Nat → Nat → Prop} {LA : Nat → Prop} (h : RX o g G K A L U x S) (t : kp LF LA S S1) (f06 : ¬ LF 0 6) (f012 : ¬ LF 0 12) (fg : ∀ a b, 185 ≤ a → a ≤ 208 → ¬ LF a b) (f3 : ∀ b, ¬ LF 3 b) (f17 : ∀ b, ¬ LF 17 b) (fh : ∀ a b, 42 ≤ a → a < 182 → ¬ LF a b) (ag : ∀ a, 185 ≤ a → a ≤ 208 → ¬ LA a) (a3 : ∀ a, 4 ≤ a → a ≤ 9 → ¬ LA a) (a18 : ¬ LA 18) (ah : ∀ a, 21 ≤ a → a < 182 → ¬ LA a) : RX o g G K A L U x S1 := by
  obtain ⟨h1, h2, h3, h4, h5, h6⟩ := h
  have sep := rX_sep h2.1.1
  refine ⟨by rw [t.R f06]; exact h1, h2.keep (fun i i0 i1 => (t.2 i (ag i (by omega) (by omega))).1) (fun b => t.I (fg _ _ (by omega) (by omega))), h3.keep (fun i i0 i1 => (t.2 i (a3 i (by omega) (by omega))).1) (fun b _ => t.I (f3 b)), h4.keep (t.I (f17 1)) (t.2 18 a18).1, h5.keep (t.I (f17 2)) (t.I (f17 3)) (fun i i0 i1 => (t.2 i (ah i i0 i1)).1) (fun a b a0 a1 => t.I (fh a b a0 a1)), by rw [t.I f012]; exact h6⟩
theorem cx_forget : kp (fun a b => (a = 221 ∧ (b = 2 ∨ b = 3)) ∨ (a = 229 ∧ b = 4)) (fun _ => False) S (F_d_forgetTrials o S) := by
  rw [F_d_forgetTrials_p0 rfl rfl, F_e_forget_p0 rfl, F_f_forget_p0 rfl rfl]
  exact kp.uF (kp.uF (kp.uF kp.rf (by decide)) (by decide)) (by decide)
/-- ahead of an act -/
theorem cx_act (hG : s_gx G) (h : RX o g G K A L U x S) : ∃ S1, F_d_beginAct o S = S1 ∧ RX o g G K A L (s_ud U (A, L)) x S1 ∧ kp (fun a b => (a = 17 ∧ (b = 2 ∨ b = 3)) ∨ (42 ≤ a ∧ a < 182) ∨ (a = 221 ∧ (b = 2 ∨ b = 3)) ∨ (a = 229 ∧ b = 4)) (fun a => 21 ≤ a ∧ a < 182) S S1 := by
  obtain ⟨h1, h2, h3, h4, h5, h6⟩ := h
  have sep := rX_sep h2.1.1
  obtain ⟨S2, e2, k2, u2⟩ := cx_put (o := o) hG.1.2.2.2 pX_3' (by decide) h3 h4 h5
  have kf := cx_forget (o := o) (S := S2)
  obtain ⟨S3, e3⟩ : ∃ T, T = F_d_forgetTrials o S2 := ⟨_, rfl⟩
  rw [← e3] at kf
  have t : kp (fun a b => (a = 17 ∧ (b = 2 ∨ b = 3)) ∨ (42 ≤ a ∧ a < 182) ∨ (a = 221 ∧ (b = 2 ∨ b = 3)) ∨ (a = 229 ∧ b = 4)) (fun a => 21 ≤ a ∧ a < 182) S S3 := kp.tr (k2.w (fun a b z => by omega) (fun a z => z)) (kf.w (fun a b z => by omega) (fun a z => absurd z id))
  refine ⟨S3, F_d_beginAct_p0 e2.symm e3, ⟨by rw [t.R (by decide)]; exact h1, h2.keep (fun i i0 i1 => (t.2 i (fun z => by omega)).1) (fun b => t.I (fun z => by omega)), h3.keep (fun i i0 i1 => (t.2 i (fun z => by omega)).1) (fun b _ => t.I (fun z => by omega)), h4.keep (t.I (by decide)) (t.2 18 (by decide)).1, u2.keep (kf.I (by decide)) (kf.I (by decide)) (fun i _ _ => (kf.2 i id).1) (fun a b a0 a1 => kf.I (fun z => by omega)), by rw [t.I (by decide)]; exact h6⟩, t⟩
theorem cx_enter {p : Nat} : ∃ S1, F_w_enter o S g p a = S1 ∧ zR o S1 214 7 = p ∧ zR o S1 214 6 = g ∧ zI S1 214 8 = a ∧ (zI S1 214 9).toInt ≠ 0 ∧ kp (fun a b => a = 214 ∧ 6 ≤ b ∧ b ≤ 9) (fun _ => False) S S1 := by
  obtain ⟨S1, h1⟩ : ∃ T, T = dg_uF S 214 6 (.ref (o + g)) := ⟨_, rfl⟩
  obtain ⟨S2, h2⟩ : ∃ T, T = dg_uF S1 214 7 (.ref (o + p)) := ⟨_, rfl⟩
  obtain ⟨S3, h3⟩ : ∃ T, T = dg_uF S2 214 8 (.int a) := ⟨_, rfl⟩
  obtain ⟨S5, h5⟩ : ∃ T, T = dg_uF S3 214 9 (.int (1 : Int32)) := ⟨_, rfl⟩
  refine ⟨S5, ?_, ?_, ?_, ?_, ?_, ?_⟩
  · rw [F_w_enter_p1 h1 h2 h3 h5]
    exact F_w_enter_p0
  · rw [h5, w_R0 (by decide), h3, w_R0 (by decide), h2, w_R, if_pos ⟨rfl, rfl⟩]
  · rw [h5, w_R0 (by decide), h3, w_R0 (by decide), h2, w_R, if_neg (by decide), h1, w_R, if_pos ⟨rfl, rfl⟩]
  · rw [h5, w_I, if_neg (by decide), h3, w_I, if_pos ⟨rfl, rfl⟩]
  · rw [h5, w_I, if_pos ⟨rfl, rfl⟩]
    decide +kernel
  · rw [h5, h3, h2, h1]
    exact kp.uF (kp.uF (kp.uF (kp.uF kp.rf (by decide)) (by decide)) (by decide)) (by decide)
theorem s_dg_cell (h : (s_dg G K r A).2.1 ≠ -1) : 0 ≤ (s_dg G K r A).2.2.1 ∧ (s_dg G K r A).2.2.1 < 64 := by
  unfold s_dg at h ⊢
  by_cases q : s_no G A
  · rw [s_if_y q] at h
    exact absurd rfl h
  · rw [s_if_n q]
    have hd : s_so G A (A 4 (s_k G A)) := by
      apply Classical.byContradiction
      intro z
      exact q (Or.inr (Or.inr (fun y => z y.1)))
    by_cases q2 : s_fa G K r A (A 4 (s_k G A))
    · rw [s_if_y q2]
      exact hd.1.1
    · rw [s_if_n q2]
      exact hd.1.1
/-- the works as they stand within an act -/
def cx_in (o g : Nat) (G : aR) (K : Nat → List Int) (r : Int) (A : aR) (L : s_L) (S : dg_S) : Prop := zR o S 214 7 = 3 ∧ zR o S 214 6 = g ∧ (zI S 214 8).toInt = r ∧ cx_gt G K S g ∧ cx_pit G A S 3 ∧ cx_kp S L ∧ cx_LI G A r S
/-- what a shift of the pit itself writes -/
def k_pk (S S1 : dg_S) : Prop := kp (fun a b => a = 215 ∨ (a = 214 ∧ (b = 4 ∨ 9 ≤ b)) ∨ (a = 3 ∧ b = 0) ∨ (a = 17 ∧ b = 1)) (fun a => (216 ≤ a ∧ a ≤ 220) ∨ a = 4 ∨ a = 5 ∨ a = 9 ∨ a = 18) S S1
theorem cx_pk (hG : s_gw G) (hK : s_cd K) (hw : s_wf G A) (hcw : s_cw G A) (hr9 : 0 ≤ r ∧ r ≤ 900) (h : cx_in o g G K r A L S) : ∃ (S1 : dg_S) (y : Int32), F_d_passAndKeep o S = (S1, y) ∧ y.toInt = s_dn G K r A ∧ cx_in o g G K r (s_tk G K r A) (s_dL G K r A L) S1 ∧ k_pk S S1 := by
  obtain ⟨h1, h2, h3, h4, h5, h6, h7⟩ := h
  have sep := rX_sep h4.1
  have z0 : (0 : Int32).toInt = 0 := by decide +kernel
  have z1 : (1 : Int32).toInt = 1 := by decide +kernel
  have m1 : (-1 : Int32).toInt = -1 := by decide +kernel
  obtain ⟨S2, e2, k2, p2, l2, d2⟩ := cx_tick (o := o) (S0 := S) (S := S) (p := 3) (a := 1) (k := 0) pX_3' h1 h1 h2 hG hK hw hcw h4 h3 hr9 h5 h7 (by decide +kernel)
  have eP : F_w_pass o S (1 : Int32) = S2 := by
    rw [F_w_pass_p3, show (2147483648 - ((0 : Int32)).toInt).toNat = 2147483647 + 1 by rw [z0]; rfl]
    exact (lp_sl (n := 2147483647 + 1) e2).trans (lp_sr (n := 2147483647) (F_w_pass_p0 (by decide +kernel)))
  have t2 : k_pk S S2 := k2.w (fun a b z => by omega) (fun a z => by omega)
  have go : ∀ S1 L', k_pk S S1 → cx_pit G (s_tk G K r A) S1 3 → cx_kp S1 L' → cx_LI G (s_tk G K r A) r S1 → cx_in o g G K r (s_tk G K r A) L' S1 := fun S1 L' t hp hk hl => ⟨by rw [t.R (by decide)]; exact h1, by rw [t.R (by decide)]; exact h2, by rw [t.I (by decide)]; exact h3, h4.keep (fun i _ _ => (t.2 i (fun z => by omega)).1) (fun b => t.I (fun z => by omega)), hp, hk, hl⟩
  rcases d2 with ⟨a1, a2⟩ | ⟨a1, a2, a3, a4⟩
  · refine ⟨S2, 0, F_d_passAndKeep_p2 eP.symm rfl (dk_eqp (k := -1) m1 a2), ?_, go S2 _ t2 p2 ?_ l2, t2⟩
    · unfold s_dn
      rw [if_pos (Or.inl a1), z0]
    · unfold s_dL
      rw [if_pos a1]
      exact h6.keep (k2.I (by decide)) (k2.2 18 (by decide)).1
  · have q3 : ¬ zI S2 214 10 = (-1 : Int32) := fun z => a1 (by rw [← a2, z]; exact m1)
    have cb := s_dg_cell a1
    have e6 : (zI S2 214 11 - (8 : Int32)).toInt = (s_dg G K r A).2.2.1 := by
      rw [dk_subT a3 (b := 8) (by decide +kernel) (by omega) (by omega)]
      omega
    have k6 : cx_kp S2 L := h6.keep (k2.I (by decide)) (k2.2 18 (by decide)).1
    obtain ⟨S8, e8, p8, k8⟩ := cx_keep (o := o) (S := S2) (a1 := zI S 3 0) (a2 := zI S2 214 10) (a3 := zI S2 214 11 - (8 : Int32)) (a4 := zI S2 214 12) k6
    rw [h5.2.1, a2, e6, a4] at p8
    have t8 : k_pk S S8 := kp.tr t2 (k8.w (fun a b z => by omega) (fun a z => by omega))
    have p8' : cx_pit G (s_tk G K r A) S8 3 := p2.keep (fun i _ _ => (k8.2 i (fun z => by omega)).1) (fun b _ => k8.I (fun z => by omega))
    have l8 : cx_LI G (s_tk G K r A) r S8 := by
      rcases l2 with z | z
      · exact Or.inl (by rw [k8.I (by decide)]; exact z)
      · exact Or.inr (z.sm rfl rfl rfl (k8.2 217 (by decide)).1 (k8.2 218 (by decide)).1 (k8.2 219 (by decide)).1 (k8.I (by decide)))
    have eL : s_dL G K r A L = s_kp L (A 0 0, (s_dg G K r A).2.1, (s_dg G K r A).2.2.1, (s_dg G K r A).2.2.2) := by
      unfold s_dL
      rw [if_neg a1]
    rw [← eL] at p8
    by_cases q7 : zI S2 214 12 = (-1 : Int32)
    · refine ⟨S8, 0, F_d_passAndKeep_p1 rfl eP.symm rfl q3 rfl rfl rfl e8.symm q7, ?_, go S8 _ t8 p8' p8 l8, t8⟩
      unfold s_dn
      rw [if_pos (Or.inr (by rw [← a4, q7]; exact m1)), z0]
    · refine ⟨S8, 1, F_d_passAndKeep_p0 rfl eP.symm rfl q3 rfl rfl rfl e8.symm q7, ?_, go S8 _ t8 p8' p8 l8, t8⟩
      unfold s_dn
      rw [if_neg (fun z => by
        rcases z with z | z
        · exact a1 z
        · exact q7 (dk_eqp (k := -1) m1 (by rw [a4]; exact z))), z1]
/-- shift by shift: the pit, what is kept, how many tubs -/
noncomputable def s_go (G : aR) (K : Nat → List Int) (r : Int) : Nat → aR × s_L × Int → aR × s_L × Int
  | 0, q => q
  | n + 1, q => (s_tk G K r (s_go G K r n q).1, s_dL G K r (s_go G K r n q).1 (s_go G K r n q).2.1, (s_go G K r n q).2.2 + s_dn G K r (s_go G K r n q).1)
theorem s_go_ok (hG : s_gw G) (hw : s_wf G A) (hcw : s_cw G A) {q : s_L × Int} : ∀ n : Nat, s_wf G (s_go G K r n (A, q)).1 ∧ s_cw G (s_go G K r n (A, q)).1
  | 0 => ⟨hw, hcw⟩
  | n + 1 => by
    have h := s_go_ok hG hw hcw (q := q) n
    exact ⟨s_tk_wf hG h.1 h.2, s_tk_cw hG h.1 h.2⟩
theorem s_dn_01 : s_dn G K r A = 0 ∨ s_dn G K r A = 1 := by
  unfold s_dn
  split
  · exact Or.inl rfl
  · exact Or.inr rfl
theorem s_go_n {q : s_L × Int} : ∀ n : Nat, q.2 ≤ (s_go G K r n (A, q)).2.2 ∧ (s_go G K r n (A, q)).2.2 ≤ q.2 + n
  | 0 => ⟨Int.le_refl _, by show q.2 ≤ q.2 + ((0 : Nat) : Int); omega⟩
  | n + 1 => by
    have h := s_go_n (q := q) n
    have h2 := s_dn_01 (G := G) (K := K) (r := r) (A := (s_go G K r n (A, q)).1)
    show q.2 ≤ (s_go G K r n (A, q)).2.2 + s_dn G K r (s_go G K r n (A, q)).1 ∧ (s_go G K r n (A, q)).2.2 + s_dn G K r (s_go G K r n (A, q)).1 ≤ q.2 + ((n + 1 : Nat) : Int)
    omega
/-- do so many shifts come -/
theorem cx_come (hg : cx_g G K S g) (h6 : zR o S 0 6 = g) (hG : s_gw G) (hw : s_wf G A) (hp : cx_pit G A S 3) {a2 a3 : Int32} (h3 : -1000 ≤ a3.toInt ∧ a3.toInt ≤ 1000) (h1 : 0 ≤ a1.toInt) : F_d_shiftsCome o S a1 a2 a3 = 1 ∧ (a1.toInt ≤ a2.toInt ∧ a2.toInt ≤ a3.toInt ∧ A 0 0 + a2.toInt ≤ 999) ∨ F_d_shiftsCome o S a1 a2 a3 = 0 ∧ ¬ (a1.toInt ≤ a2.toInt ∧ a2.toInt ≤ a3.toInt ∧ A 0 0 + a2.toInt ≤ 999) := by
  have z0 : (0 : Int32).toInt = 0 := by decide +kernel
  have z9 : (999 : Int32).toInt = 999 := by decide +kernel
  have hc := hg.2.1.1
  have hG1 := hG.1.1.1
  have hw0 := hw.1
  have n1 : ¬ zI S g 0 ≤ (0 : Int32) := fun z => by have := dk_lec z0 z; omega
  have es : ¬ F_g_hasSeam o S g = (0 : Int32) := by
    rw [F_g_hasSeam_p1 rfl n1]
    decide +kernel
  by_cases q1 : a2 < a1
  · have := w_lt.mp q1
    exact Or.inr ⟨F_d_shiftsCome_p1 h6.symm rfl es q1, by omega⟩
  have d1 : ¬ a2.toInt < a1.toInt := fun z => q1 (w_lt.mpr z)
  by_cases q2 : a3 < a2
  · have := w_lt.mp q2
    exact Or.inr ⟨F_d_shiftsCome_p2 h6.symm rfl es q1 q2, by omega⟩
  have d2 : ¬ a3.toInt < a2.toInt := fun z => q2 (w_lt.mpr z)
  have e20 : (zI S 3 0 + a2).toInt = A 0 0 + a2.toInt := dk_addT hp.2.1 rfl (by omega) (by omega)
  by_cases q3 : (999 : Int32) < zI S 3 0 + a2
  · have := dk_gtc z9 q3
    exact Or.inr ⟨F_d_shiftsCome_p3 h6.symm rfl es q1 q2 rfl rfl q3, by omega⟩
  · have := dk_ngtc z9 q3
    exact Or.inl ⟨F_d_shiftsCome_p4 h6.symm rfl es q1 q2 rfl rfl q3, by omega⟩
/-- within an act, all the rest stays -/
theorem RX.act {LF : Nat → Nat → Prop} {LA : Nat → Prop} {A' : aR} {L' : s_L} (h : RX o g G K A L U x S) (t : kp LF LA S S1) (hp : cx_pit G A' S1 3) (hk : cx_kp S1 L') (f06 : ¬ LF 0 6) (f012 : ¬ LF 0 12) (fg : ∀ a b, 185 ≤ a → a ≤ 208 → ¬ LF a b) (f17 : ¬ LF 17 2 ∧ ¬ LF 17 3) (fh : ∀ a b, 42 ≤ a → a < 182 → ¬ LF a b) (ag : ∀ a, 185 ≤ a → a ≤ 208 → ¬ LA a) (ah : ∀ a, 21 ≤ a → a < 182 → ¬ LA a) : RX o g G K A' L' U x S1 := by
  obtain ⟨h1, h2, h3, h4, h5, h6⟩ := h
  have sep := rX_sep h2.1.1
  exact ⟨by rw [t.R f06]; exact h1, h2.keep (fun i i0 i1 => (t.2 i (ag i (by omega) (by omega))).1) (fun b => t.I (fg _ _ (by omega) (by omega))), hp, hk, h5.keep (t.I f17.1) (t.I f17.2) (fun i i0 i1 => (t.2 i (ah i i0 i1)).1) (fun a b a0 a1 => t.I (fh a b a0 a1)), by rw [t.I f012]; exact h6⟩
/-- SHIFTS of the class, where they come -/
theorem cx_shifts (ok : s_ok G K A U) (h : RX o g G K A L U x S) (hn : a1.toInt = n) (h1 : 1 ≤ n) (h40 : n ≤ 40) (h9 : A 0 0 + n ≤ 999) : ∃ (S1 : dg_S) (y : Int32), F_d_shifts o S a1 = (S1, y) ∧ y.toInt = (s_go G K (G 0 3) n (A, L, 0)).2.2 ∧ RX o g G K (s_go G K (G 0 3) n (A, L, 0)).1 (s_go G K (G 0 3) n (A, L, 0)).2.1 (s_ud U (A, L)) x S1 := by
  obtain ⟨hG, hK, ⟨hw, hcw⟩, -⟩ := ok
  have z0 : (0 : Int32).toInt = 0 := by decide +kernel
  obtain ⟨S4, e4, r4, k4⟩ := cx_act (o := o) hG h
  have sep := rX_sep h.2.1.1.1
  obtain ⟨S7, e7, f7, f6, f8, f9, k7⟩ := cx_enter (o := o) (S := S4) (g := g) (p := 3) (a := zI S g 3)
  have r3 : (zI S g 3).toInt = G 0 3 := h.2.1.2.1.2.2.1
  have r7 : RX o g G K A L (s_ud U (A, L)) x S7 := r4.keep k7 (by decide) (by decide) (fun a b _ _ => by omega) (fun b => by omega) (fun b => by omega) (fun a b _ _ => by omega) (fun a _ _ => id) (fun a _ _ => id) id (fun a _ _ => id)
  have i7 : cx_in o g G K (G 0 3) A L S7 := ⟨f7, f6, by rw [f8]; exact r3, r7.2.1.1, r7.2.2.1, r7.2.2.2.1, Or.inl f9⟩
  have come : ¬ F_d_shiftsCome o S (1 : Int32) a1 (40 : Int32) = (0 : Int32) := by
    rcases cx_come (o := o) (a1 := 1) (a2 := a1) (a3 := 40) h.2.1 h.1 hG.1 hw h.2.2.1 (by decide +kernel) (by decide +kernel) with ⟨e, -⟩ | ⟨-, e⟩
    · rw [e]; decide +kernel
    · exfalso
      apply e
      rw [hn, show (1 : Int32).toInt = 1 by decide +kernel, show (40 : Int32).toInt = 40 by decide +kernel]
      omega
  have main := lp_cnt (f := F_d_shifts_B1 a1 o) (z := (S, (0 : Int32))) (W := n) (P := fun c s => s.1.toInt = (s_go G K (G 0 3) c (A, L, 0)).2.2 ∧ cx_in o g G K (G 0 3) (s_go G K (G 0 3) c (A, L, 0)).1 (s_go G K (G 0 3) c (A, L, 0)).2.1 s.2 ∧ k_pk S7 s.2) (Q := fun q => q.2.toInt = (s_go G K (G 0 3) n (A, L, 0)).2.2 ∧ cx_in o g G K (G 0 3) (s_go G K (G 0 3) n (A, L, 0)).1 (s_go G K (G 0 3) n (A, L, 0)).2.1 q.1 ∧ k_pk S7 q.1) (by omega) (fun c cI s hc hcI hP => by
    obtain ⟨m, T⟩ := s
    obtain ⟨p1, p2, p3⟩ := hP
    have okc := s_go_ok (K := K) (r := G 0 3) hG.1 hw hcw (q := (L, 0)) c
    have nb := s_go_n (G := G) (K := K) (r := G 0 3) (A := A) (q := (L, (0 : Int))) c
    obtain ⟨T1, y, e1, y1, i1, k1⟩ := cx_pk hG.1 hK okc.1 okc.2 ⟨by have := hG.2.1; omega, by have := hG.2.1; omega⟩ p2
    have dn := s_dn_01 (G := G) (K := K) (r := G 0 3) (A := (s_go G K (G 0 3) c (A, L, 0)).1)
    have q0 : ¬ a1 ≤ cI := fun z => by have := w_le.mp z; omega
    refine ⟨(m + y, T1), F_d_shifts_p1 q0 (by rw [e1]) (show y = _ by rw [e1]) rfl rfl, ?_, i1, kp.tr p3 k1⟩
    show (m + y).toInt = _ + s_dn G K (G 0 3) _
    have p1 : m.toInt = (s_go G K (G 0 3) c (A, L, 0)).2.2 := p1
    have nb1 : (0 : Int) ≤ (s_go G K (G 0 3) c (A, L, 0)).2.2 := nb.1
    have nb2 : (s_go G K (G 0 3) c (A, L, 0)).2.2 ≤ 0 + c := nb.2
    exact dk_addT p1 y1 (by omega) (by omega)) (fun cI s hcI hP => by
    obtain ⟨m, T⟩ := s
    exact ⟨(T, m), F_d_shifts_p0 (w_le.mpr (by omega)), hP⟩) ((2147483648 - ((0 : Int32)).toInt).toNat + 1) 0 0 (0, S7) (by rw [z0]; omega) (by omega) z0 ⟨z0, i7, kp.rf⟩
  rw [F_d_shifts_p2 rfl come e4.symm h.1.symm rfl e7.symm]
  obtain ⟨m1, m2, m3⟩ := main
  refine ⟨_, _, rfl, m1, r7.act m3 m2.2.2.2.2.1 m2.2.2.2.2.2.1 (by decide) (by decide) (fun a b _ _ => by omega) (by decide) (fun a b _ _ => by omega) (fun a _ _ => by omega) (fun a _ _ => by omega)⟩
/-- refused -/
theorem cx_no (h : RX o g G K A L U x S) {k : Nat} (hk : a1.toInt = k) : ∃ S1, F_d_no o S a1 = (S1, (0 : Int32)) ∧ F_d_none o S a1 = (S1, (-1 : Int32)) ∧ RX o g G K A L U x S1 ∧ S1 = dg_uf S 184 (upd (S.2.1 184) k (S.2.1 184 k + (1 : Int32))) := by
  have kn : a1.toNatClampNeg = k := by rw [dk_clN]; omega
  obtain ⟨S1, h1⟩ : ∃ T, T = dg_uf S 184 (upd (S.2.1 184) a1.toNatClampNeg (S.2.1 184 a1.toNatClampNeg + (1 : Int32))) := ⟨_, rfl⟩
  have t : kp (fun _ _ => False) (fun a => a = 184) S S1 := by rw [h1]; exact kp.uf kp.rf rfl
  refine ⟨S1, F_d_no_p0 rfl rfl h1, F_d_none_p0 rfl rfl h1, h.keep t id id (fun _ _ _ _ => id) (fun _ => id) (fun _ => id) (fun _ _ _ _ => id) (fun a _ _ => by omega) (fun a _ _ => by omega) (by decide) (fun a _ _ => by omega), ?_⟩
  rw [h1, kn]
end XS
