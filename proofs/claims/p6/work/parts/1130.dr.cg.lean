/-! the reference: what is asked of a cell -/
def k41 (S S1 : dg_S) : Prop := kp (fun _ _ => False) (fun a => a = 41) S S1
/-- the working rows alone -/
def k_x (S S1 : dg_S) : Prop := kp (fun _ _ => False) (fun a => 40 ≤ a ∧ a ≤ 44) S S1
/-- rows 40, 41 alone -/
def k_r (S S1 : dg_S) : Prop := kp (fun _ _ => False) (fun a => a = 40 ∨ a = 41) S S1
theorem k41.r {S S1 : dg_S} (t : k41 S S1) : k_r S S1 := t.w (fun _ _ z => z) (fun a z => Or.inr z)
theorem k_rk.r {S S1 : dg_S} (t : k_rk S S1) : k_r S S1 := t.w (fun _ _ z => z) (fun a z => Or.inl z)
theorem k_r.x {S S1 : dg_S} (t : k_r S S1) : k_x S S1 := t.w (fun _ _ z => z) (fun a z => by omega)
theorem k41.x {S S1 : dg_S} (t : k41 S S1) : k_x S S1 := t.w (fun _ _ z => z) (fun a z => by omega)
theorem k_rk.x {S S1 : dg_S} (t : k_rk S S1) : k_x S S1 := t.w (fun _ _ z => z) (fun a z => by omega)
theorem k_ms.x {S S1 : dg_S} (t : k_ms S S1) : k_x S S1 := t.w (fun _ _ z => z) (fun a z => by omega)
theorem k_x.gd {G : aR} {S S1 : dg_S} (t : k_x S S1) (h : mx_gd G S) : mx_gd G S1 := h.keep (fun b => t.I id) (fun i hi => (t.2 i (by omega)).1)
theorem k_x.ce {G A : aR} {S S1 : dg_S} {v : Nat} (t : k_x S S1) (h : mx_ce G A S v) : mx_ce G A S1 v := h.keep (t.2 31 (by omega)).1 (t.2 32 (by omega)).1
theorem mx_fr.keep {G A : aR} {S S1 : dg_S} (h : mx_fr G A S) (e : S1.2.1 42 = S.2.1 42) : mx_fr G A S1 := by
  intro c hc
  rw [e]
  exact h c hc
theorem mx_code.keep {S S1 : dg_S} {b w : Nat} {C : List Int} (h : mx_code S b w C) (e : ∀ i, i ≤ 19 → S1.2.1 i = S.2.1 i) : mx_code S1 b w C := by
  rcases h with ⟨h1, h2⟩ | ⟨h1, fr, f0, f1, f2, f3, f4⟩
  · exact Or.inl ⟨h1, by rw [e 16 (by decide)]; exact h2⟩
  · refine Or.inr ⟨h1, fr, f0, f1, by rw [e 16 (by decide)]; exact f2, by rw [e 17 (by decide)]; exact f3, fun i hi => ?_⟩
    have := f4 i hi
    unfold mx_c1 at this ⊢
    rw [e 18 (by decide), e 19 (by decide)]
    exact this
/-- the ground and its rules, as they are read -/
def mx_g (G : aR) (K : Nat → List Int) (S : dg_S) : Prop := mx_gd G S ∧ ∃ b : Nat, b ≤ 1 ∧ (zI S 0 13).toInt = b ∧ ∀ w, w < 3 → mx_code S b w (K w)
theorem mx_g.keep {G : aR} {K : Nat → List Int} {S S1 : dg_S} (h : mx_g G K S) (e0 : ∀ b, zI S1 0 b = zI S 0 b) (e : ∀ i, i ≤ 19 → S1.2.1 i = S.2.1 i) : mx_g G K S1 := by
  obtain ⟨h1, b, h2, h3, h4⟩ := h
  exact ⟨h1.keep e0 e, b, h2, by rw [e0]; exact h3, fun w hw => (h4 w hw).keep e⟩
theorem k_x.g {G : aR} {K : Nat → List Int} {S S1 : dg_S} (t : k_x S S1) (h : mx_g G K S) : mx_g G K S1 := h.keep (fun b => t.I id) (fun i hi => (t.2 i (by omega)).1)
section SE
variable {G A : aR} {r c : Int}
theorem s_env1 : s_env G A r c (-1) = s_c A c := by
  unfold s_env
  rw [if_pos rfl]
theorem s_env2 : s_env G A r c (-2) = c / 8 := by
  unfold s_env
  rw [if_neg (show ¬ (-2 : Int) = -1 by decide), if_pos rfl]
theorem s_env3 : s_env G A r c (-3) = A 0 0 := by
  unfold s_env
  rw [if_neg (show ¬ (-3 : Int) = -1 by decide), if_neg (show ¬ (-3 : Int) = -2 by decide), if_pos rfl]
theorem s_env4 : s_env G A r c (-4) = s_nl G A r c := by
  unfold s_env
  rw [if_neg (show ¬ (-4 : Int) = -1 by decide), if_neg (show ¬ (-4 : Int) = -2 by decide), if_neg (show ¬ (-4 : Int) = -3 by decide), if_pos rfl]
theorem s_env5 : s_env G A r c (-5) = s_ob G A c := by
  unfold s_env
  rw [if_neg (show ¬ (-5 : Int) = -1 by decide), if_neg (show ¬ (-5 : Int) = -2 by decide), if_neg (show ¬ (-5 : Int) = -3 by decide), if_neg (show ¬ (-5 : Int) = -4 by decide), if_pos rfl]
theorem s_env6 : s_env G A r c (-6) = if s_nl G A r c = -1 then 0 else 1 := by
  unfold s_env
  rw [if_neg (show ¬ (-6 : Int) = -1 by decide), if_neg (show ¬ (-6 : Int) = -2 by decide), if_neg (show ¬ (-6 : Int) = -3 by decide), if_neg (show ¬ (-6 : Int) = -4 by decide), if_neg (show ¬ (-6 : Int) = -5 by decide), if_pos rfl]
theorem s_env7 : s_env G A r c (-7) = 1 := by
  unfold s_env
  rw [if_neg (show ¬ (-7 : Int) = -1 by decide), if_neg (show ¬ (-7 : Int) = -2 by decide), if_neg (show ¬ (-7 : Int) = -3 by decide), if_neg (show ¬ (-7 : Int) = -4 by decide), if_neg (show ¬ (-7 : Int) = -5 by decide), if_neg (show ¬ (-7 : Int) = -6 by decide)]
end SE
theorem mx_env_at {S : dg_S} {s : Int} {k : Nat} {x : Int32} (h : -6 ≤ s ∧ s < 0) (hk : (-s).toNat = k) (hx : S.2.1 41 k = x) : mx_env S s = x.toInt := by
  unfold mx_env
  rw [if_pos h, hk, hx]
section LY
variable {G A : aR} {S : dg_S} {v o : Nat} {r : Int} {a1 a2 : Int32}
theorem mx_lays (hb : s_gb G) (hg : mx_gd G S) (hce : mx_ce G A S v) (hf : mx_fr G A S) (ha : a1.toInt = v) (hv : v ≤ 40) (hr : (zI S 0 63).toInt = r) (hr9 : r ≤ 900) (hc : s_in G a2.toInt) (hso : 0 ≤ s_c A a2.toInt) (hsh : (S.2.1 29 v).toInt = A 0 0) : ∃ S1, F_m_lays o S a1 a2 = S1 ∧ k41 S S1 ∧ ∀ s, -7 ≤ s → s < 0 → (s = -4 → s_nl G A r a2.toInt ≠ -1) → mx_env S1 s = s_env G A r a2.toInt s := by
  have n1 : (1 : Int32).toNatClampNeg = 1 := by decide +kernel
  have n2 : (2 : Int32).toNatClampNeg = 2 := by decide +kernel
  have n3 : (3 : Int32).toNatClampNeg = 3 := by decide +kernel
  have n4 : (4 : Int32).toNatClampNeg = 4 := by decide +kernel
  have n5 : (5 : Int32).toNatClampNeg = 5 := by decide +kernel
  have n6 : (6 : Int32).toNatClampNeg = 6 := by decide +kernel
  have z0 : (0 : Int32).toInt = 0 := by decide +kernel
  have z1 : (1 : Int32).toInt = 1 := by decide +kernel
  obtain ⟨x4, hx4⟩ : ∃ x, x = S.2.1 31 ((64 : Int32) * a1 + a2).toNatClampNeg := ⟨_, rfl⟩
  obtain ⟨S6, h6⟩ : ∃ S', S' = dg_uf S 41 (upd (S.2.1 41) (1 : Int32).toNatClampNeg x4) := ⟨_, rfl⟩
  obtain ⟨x8, hx8⟩ : ∃ x, x = a2 / (8 : Int32) := ⟨_, rfl⟩
  obtain ⟨S10, h10⟩ : ∃ S', S' = dg_uf S6 41 (upd (S6.2.1 41) (2 : Int32).toNatClampNeg x8) := ⟨_, rfl⟩
  obtain ⟨x13, hx13⟩ : ∃ x, x = S10.2.1 29 a1.toNatClampNeg := ⟨_, rfl⟩
  obtain ⟨S15, h15⟩ : ∃ S', S' = dg_uf S10 41 (upd (S10.2.1 41) (3 : Int32).toNatClampNeg x13) := ⟨_, rfl⟩
  obtain ⟨x17, hx17⟩ : ∃ x, x = F_m_litBeside o S15 a1 a2 := ⟨_, rfl⟩
  obtain ⟨S20, h20⟩ : ∃ S', S' = dg_uf S15 41 (upd (S15.2.1 41) (4 : Int32).toNatClampNeg x17) := ⟨_, rfl⟩
  obtain ⟨x22, hx22⟩ : ∃ x, x = F_m_openBeside o S20 a1 a2 := ⟨_, rfl⟩
  obtain ⟨S25, h25⟩ : ∃ S', S' = dg_uf S20 41 (upd (S20.2.1 41) (5 : Int32).toNatClampNeg x22) := ⟨_, rfl⟩
  obtain ⟨x27, hx27⟩ : ∃ x, x = F_m_litBeside o S25 a1 a2 := ⟨_, rfl⟩
  have k10 : k41 S S10 := by rw [h10, h6]; exact kp.uf (kp.uf kp.rf rfl) rfl
  have k15 : k41 S S15 := by rw [h15]; exact kp.uf k10 rfl
  have k20 : k41 S S20 := by rw [h20]; exact kp.uf k15 rfl
  have k25 : k41 S S25 := by rw [h25]; exact kp.uf k20 rfl
  have an : a1.toNatClampNeg = v := by rw [dk_clN]; omega
  have K : ∀ S1, k41 S S1 → mx_ce G A S1 v ∧ mx_fr G A S1 ∧ mx_gd G S1 ∧ (zI S1 0 63).toInt = r := fun S1 t => ⟨t.x.ce hce, hf.keep (t.2 42 (by decide)).1, t.x.gd hg, by rw [t.I id]; exact hr⟩
  obtain ⟨c15, f15, g15, r15⟩ := K S15 k15
  obtain ⟨c20, f20, g20, r20⟩ := K S20 k20
  obtain ⟨c25, f25, g25, r25⟩ := K S25 k25
  obtain ⟨l17, e17⟩ := mx_nl (o := o) c15 f15 g15 hb ha hv r15 hr9 hc
  obtain ⟨l27, e27⟩ := mx_nl (o := o) c25 f25 g25 hb ha hv r25 hr9 hc
  rw [← hx17] at l17 e17
  rw [← hx27] at l27 e27
  have e22 := mx_ob (o := o) c20 g20 hb ha hv hc
  rw [← hx22] at e22
  have e4 : x4.toInt = s_c A a2.toInt := by
    have h1 := (hce a2.toInt hc).1
    unfold mx_en at h1
    rw [if_neg (by omega)] at h1
    rw [hx4, mx_adr ha hv ⟨hc.1.1, hc.1.2⟩]
    exact h1
  have e8 : x8.toInt = a2.toInt / 8 := by rw [hx8]; exact (mx_rq hc).2
  have e13 : x13.toInt = A 0 0 := by rw [hx13, (k10.2 29 (by decide)).1, an]; exact hsh
  have fin : ∀ (x : Int32) (S1 : dg_S), x.toInt = (if s_nl G A r a2.toInt = -1 then 0 else 1) → S1 = dg_uf S25 41 (upd (S25.2.1 41) (6 : Int32).toNatClampNeg x) → k41 S S1 ∧ ∀ s, -7 ≤ s → s < 0 → (s = -4 → s_nl G A r a2.toInt ≠ -1) → mx_env S1 s = s_env G A r a2.toInt s := by
    intro x S1 hx hS1
    refine ⟨by rw [hS1]; exact kp.uf k25 rfl, ?_⟩
    have R : ∀ j, S1.2.1 41 j = if j = 6 then x else if j = 5 then x22 else if j = 4 then x17 else if j = 3 then x13 else if j = 2 then x8 else if j = 1 then x4 else S.2.1 41 j := fun j => by
      rw [hS1, w_f, if_pos rfl, w_u, n6, h25, w_f, if_pos rfl, w_u, n5, h20, w_f, if_pos rfl, w_u, n4, h15, w_f, if_pos rfl, w_u, n3, h10, w_f, if_pos rfl, w_u, n2, h6, w_f, if_pos rfl, w_u, n1]
    intro s h7 h0 h4
    have c : s = -1 ∨ s = -2 ∨ s = -3 ∨ s = -4 ∨ s = -5 ∨ s = -6 ∨ s = -7 := by omega
    rcases c with c | c | c | c | c | c | c
    · subst c
      rw [s_env1, mx_env_at (k := 1) (by decide) (by decide) ((R 1).trans rfl)]
      exact e4
    · subst c
      rw [s_env2, mx_env_at (k := 2) (by decide) (by decide) ((R 2).trans rfl)]
      exact e8
    · subst c
      rw [s_env3, mx_env_at (k := 3) (by decide) (by decide) ((R 3).trans rfl)]
      exact e13
    · subst c
      have h4 := h4 rfl
      rw [s_env4, mx_env_at (k := 4) (by decide) (by decide) ((R 4).trans rfl), ← e17]
      exact ((mx_fi_n l17).2.1 (by rw [e17]; exact h4)).symm
    · subst c
      rw [s_env5, mx_env_at (k := 5) (by decide) (by decide) ((R 5).trans rfl)]
      exact e22
    · subst c
      rw [s_env6, mx_env_at (k := 6) (by decide) (by decide) ((R 6).trans rfl)]
      exact hx
    · subst c
      rw [s_env7]
      rfl
  have m27 := (mx_fi_n l27).1
  rw [e27] at m27
  unfold mx_lv at l27
  by_cases q : (100000000 : Int32) ≤ x27
  · have d := dk_gec (k := 100000000) (by decide +kernel) q
    obtain ⟨S31, h31⟩ : ∃ S', S' = dg_uf S25 41 (upd (S25.2.1 41) (6 : Int32).toNatClampNeg (0 : Int32)) := ⟨_, rfl⟩
    have h9 := fin 0 S31 (by rw [if_pos (m27.mpr (by omega))]; exact z0) h31
    refine ⟨S31, ?_, h9⟩
    rw [F_m_lays_p2 rfl rfl hx4 h6 hx8 h10 hx13 h15 hx17 h20]
    exact F_m_lays_p0 hx22 h25 hx27 q h31
  · have d := dk_ngec (k := 100000000) (by decide +kernel) q
    obtain ⟨S35, h35⟩ : ∃ S', S' = dg_uf S25 41 (upd (S25.2.1 41) (6 : Int32).toNatClampNeg (1 : Int32)) := ⟨_, rfl⟩
    have h9 := fin 1 S35 (by rw [if_neg (fun z => by have := m27.mp z; omega)]; exact z1) h35
    refine ⟨S35, ?_, h9⟩
    rw [F_m_lays_p2 rfl rfl hx4 h6 hx8 h10 hx13 h15 hx17 h20]
    exact F_m_lays_p1 hx22 h25 hx27 q h35
end LY
section EV
variable {G A : aR} {K : Nat → List Int} {S : dg_S} {v o : Nat} {r : Int} {a1 a2 : Int32}
theorem mx_code_g (h : mx_g G K S) {w : Nat} (hw : w < 3) : ∃ b : Nat, b ≤ 1 ∧ (zI S 0 13).toInt = b ∧ mx_code S b w (K w) := by
  obtain ⟨-, b, h2, h3, h4⟩ := h
  exact ⟨b, h2, h3, h4 w hw⟩
theorem s_env_b6 (hw : s_wf G A) (hc : 0 ≤ r ∧ r < 64) (hs : 0 ≤ s_c A r ∧ s_c A r ≤ 9) {q s : Int} (h4 : s = -4 → -1 ≤ s_nl G A q r ∧ s_nl G A q r ≤ 63) : -1000000 ≤ s_env G A q r s ∧ s_env G A q r s ≤ 1000000 := by
  by_cases z : s = -4
  · have := h4 z
    rw [z, s_env4]
    omega
  · exact s_env_b hw hc hs z
/-- does it fall -/
theorem mx_falls (hb : s_gb G) (hK : s_cd K) (hw : s_wf G A) (hg : mx_g G K S) (hce : mx_ce G A S v) (hf : mx_fr G A S) (ha : a1.toInt = v) (hv : v ≤ 40) (hr : (zI S 0 63).toInt = r) (hr9 : r ≤ 900) (hc : s_in G a2.toInt) (hso : 0 ≤ s_c A a2.toInt) (hsh : (S.2.1 29 v).toInt = A 0 0) : ∃ (S1 : dg_S) (x : Int32), F_m_isFalling o S a1 a2 = (S1, x) ∧ k_r S S1 ∧ (x = 1 ∧ s_fa G K r A a2.toInt ∨ x = 0 ∧ ¬ s_fa G K r A a2.toInt) := by
  obtain ⟨b, hb1, hbk, hcode⟩ := mx_code_g hg (w := 1) (by decide)
  rcases mx_told1 (o := o) hbk hb1 hcode with ⟨e, h⟩ | ⟨e, h⟩
  · exact ⟨S, 0, F_m_isFalling_p2 rfl e, kp.rf, Or.inr ⟨rfl, fun z => z.1 h⟩⟩
  · have n0 : ¬ F_m_isTold_1 o S = (0 : Int32) := by rw [e]; decide +kernel
    obtain ⟨hty, -, h4⟩ := hK 1 (by decide) h
    have h4 := h4 (by decide)
    obtain ⟨S5, e5, k5, env5⟩ := mx_lays (o := o) hb hg.1 hce hf ha hv hr hr9 hc hso hsh
    have n4 : ∀ s ∈ K 1, s ≠ -4 := fun s hs z => h4 (by rw [← z]; exact hs)
    have u9 := (hce a2.toInt hc).2.2.2
    have ev : ∀ s ∈ K 1, -7 ≤ s → s < 0 → mx_env S5 s = s_env G A r a2.toInt s := fun s hs h7 h0 => env5 s h7 h0 (fun z => absurd z (n4 s hs))
    obtain ⟨S7, x6, e6, v6, k7⟩ := mx_reckons1 (o := o) (S := S5) (by rw [k5.I id]; exact hbk) hb1 (hcode.keep (fun i hi => (k5.2 i (by omega)).1)) h hty (fun s hs h6 h0 => by
      rw [ev s hs (by omega) h0]
      exact s_env_b hw hc.1 ⟨hso, u9⟩ (n4 s hs))
    rw [s_ev_congr ev] at v6
    have e61 : S7 = (F_m_reckons_1 o S5).1 := by rw [e6]
    have e62 : x6 = (F_m_reckons_1 o S5).2 := by rw [e6]
    have z1 : (1 : Int64).toInt = 1 := by decide +kernel
    have t7 : k_r S S7 := k5.r.tr k7.r
    by_cases q : lg_cmp x6 (1 : Int64) = (0 : Int32)
    · have d := l_eq.mp q
      rw [v6, z1] at d
      exact ⟨S7, 1, F_m_isFalling_p1 rfl n0 e5.symm e61 e62 rfl q, t7, Or.inl ⟨rfl, h, d⟩⟩
    · refine ⟨S7, 0, F_m_isFalling_p0 rfl n0 e5.symm e61 e62 rfl q, t7, Or.inr ⟨rfl, fun z => q (l_eq.mpr ?_)⟩⟩
      rw [v6, z1]
      exact z.2
/-- which grade a tub has -/
theorem mx_got (hb : s_gb G) (hK : s_cd K) (hw : s_wf G A) (hg : mx_g G K S) (hce : mx_ce G A S v) (hf : mx_fr G A S) (ha : a1.toInt = v) (hv : v ≤ 40) (hr : (zI S 0 63).toInt = r) (hr9 : r ≤ 900) (hc : s_in G a2.toInt) (hso : 0 ≤ s_c A a2.toInt) (hsh : (S.2.1 29 v).toInt = A 0 0) : ∃ (S1 : dg_S) (x : Int32), F_m_gotG o S a1 a2 = (S1, x) ∧ k_r S S1 ∧ x.toInt = s_gr G K r A a2.toInt := by
  obtain ⟨b, hb1, hbk, hcode⟩ := mx_code_g hg (w := 2) (by decide)
  unfold s_gr
  rcases mx_told2 (o := o) hbk hb1 hcode with ⟨e, h⟩ | ⟨e, h⟩
  · refine ⟨S, _, F_m_gotG_p3 rfl e rfl rfl rfl, kp.rf, ?_⟩
    have h1 := (hce a2.toInt hc).1
    unfold mx_en at h1
    rw [if_neg (by omega)] at h1
    rw [s_if_y h, mx_adr ha hv ⟨hc.1.1, hc.1.2⟩]
    exact h1
  · have n0 : ¬ F_m_isTold_2 o S = (0 : Int32) := by rw [e]; decide +kernel
    obtain ⟨hty, -, h4⟩ := hK 2 (by decide) h
    have h4 := h4 (by decide)
    obtain ⟨S5, e5, k5, env5⟩ := mx_lays (o := o) hb hg.1 hce hf ha hv hr hr9 hc hso hsh
    have n4 : ∀ s ∈ K 2, s ≠ -4 := fun s hs z => h4 (by rw [← z]; exact hs)
    have u9 := (hce a2.toInt hc).2.2.2
    have ev : ∀ s ∈ K 2, -7 ≤ s → s < 0 → mx_env S5 s = s_env G A r a2.toInt s := fun s hs h7 h0 => env5 s h7 h0 (fun z => absurd z (n4 s hs))
    obtain ⟨S7, x6, e6, v6, k7⟩ := mx_reckons2 (o := o) (S := S5) (by rw [k5.I id]; exact hbk) hb1 (hcode.keep (fun i hi => (k5.2 i (by omega)).1)) h hty (fun s hs h6 h0 => by
      rw [ev s hs (by omega) h0]
      exact s_env_b hw hc.1 ⟨hso, u9⟩ (n4 s hs))
    rw [s_ev_congr ev] at v6
    have e61 : S7 = (F_m_reckons_2 o S5).1 := by rw [e6]
    have e62 : x6 = (F_m_reckons_2 o S5).2 := by rw [e6]
    have z0 : (0 : Int64).toInt = 0 := by decide +kernel
    have z9 : (9 : Int64).toInt = 9 := by decide +kernel
    have y0 : (0 : Int32).toInt = 0 := by decide +kernel
    have y9 : (9 : Int32).toInt = 9 := by decide +kernel
    have t7 : k_r S S7 := k5.r.tr k7.r
    rw [s_if_n h, ← v6]
    by_cases q : (0 : Int32) ≤ lg_cmp x6 (0 : Int64)
    · have d := l_ge.mp q
      rw [z0] at d
      by_cases p : lg_cmp x6 (9 : Int64) ≤ (0 : Int32)
      · have d2 := l_le.mp p
        rw [z9] at d2
        refine ⟨S7, _, F_m_gotG_p0 rfl n0 e5.symm e61 e62 rfl q rfl p rfl, t7, ?_⟩
        show (Int64.toInt32 x6).toInt = _
        rw [cx_l2i (by omega) (by omega)]
        omega
      · have d2 : ¬ x6.toInt ≤ (9 : Int64).toInt := fun z => p (l_le.mpr z)
        rw [z9] at d2
        refine ⟨S7, 9, F_m_gotG_p1 rfl n0 e5.symm e61 e62 rfl q rfl p, t7, ?_⟩
        rw [y9]
        omega
    · have d : ¬ (0 : Int64).toInt ≤ x6.toInt := fun z => q (l_ge.mpr z)
      rw [z0] at d
      refine ⟨S7, 0, F_m_gotG_p2 rfl n0 e5.symm e61 e62 rfl q, t7, ?_⟩
      rw [y0]
      omega
end EV
