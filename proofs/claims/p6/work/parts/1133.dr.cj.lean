/-! the reference: light spoils -/
noncomputable def s_lb (G : aR) (K : Nat → List Int) (r : Int) (A : aR) (c : Int) : Int := s_if (s_so G A c ∧ s_nl G A r c ≠ -1) (max 0 (min 9 (s_sv G K r A c))) 0
/-- rows 40, 41, 44 alone -/
def k_l (S S1 : dg_S) : Prop := kp (fun _ _ => False) (fun a => a = 40 ∨ a = 41 ∨ a = 44) S S1
theorem k_l.x {S S1 : dg_S} (t : k_l S S1) : k_x S S1 := t.w (fun _ _ z => z) (fun a z => by omega)
theorem k_r.l {S S1 : dg_S} (t : k_r S S1) : k_l S S1 := t.w (fun _ _ z => z) (fun a z => by omega)
theorem mx_ce.congr {G A A' : aR} {S : dg_S} {v : Nat} (h : mx_ce G A S v) (e : ∀ d, s_in G d → s_c A' d = s_c A d) : mx_ce G A' S v := by
  intro d hd
  rw [e d hd]
  exact h d hd
section LG
variable {v o : Nat} {S S0 S1 S9 : dg_S} {G A : aR} {K : Nat → List Int} {L : s_L} {r : Int} {a1 cI : Int32}
theorem mx_J7 {x : Int64} : ∃ (S1 : dg_S) (y : Int32), F_m_lightens_J7 x S cI = .inl (cI + 1, S1) ∧ S1 = dg_uf S 44 (upd (S.2.1 44) cI.toNatClampNeg y) ∧ y.toInt = max 0 (min 9 x.toInt) := by
  have z0 : (0 : Int64).toInt = 0 := by decide +kernel
  have z9 : (9 : Int64).toInt = 9 := by decide +kernel
  have y0 : (0 : Int32).toInt = 0 := by decide +kernel
  have y9 : (9 : Int32).toInt = 9 := by decide +kernel
  by_cases q : (0 : Int32) ≤ lg_cmp x (0 : Int64)
  · have d := l_ge.mp q
    rw [z0] at d
    by_cases p : lg_cmp x (9 : Int64) ≤ (0 : Int32)
    · have d2 := l_le.mp p
      rw [z9] at d2
      refine ⟨_, Int64.toInt32 x, ?_, rfl, ?_⟩
      · rw [F_m_lightens_p13 rfl q rfl p rfl, F_m_lightens_p12 rfl, F_m_lightens_p9 rfl]
      · rw [cx_l2i (by omega) (by omega)]
        omega
    · have d2 : ¬ x.toInt ≤ (9 : Int64).toInt := fun z => p (l_le.mpr z)
      rw [z9] at d2
      refine ⟨_, 9, ?_, rfl, ?_⟩
      · rw [F_m_lightens_p14 rfl q rfl p, F_m_lightens_p12 rfl, F_m_lightens_p9 rfl]
      · rw [y9]
        omega
  · have d : ¬ (0 : Int64).toInt ≤ x.toInt := fun z => q (l_ge.mpr z)
    rw [z0] at d
    refine ⟨_, 0, ?_, rfl, ?_⟩
    · rw [F_m_lightens_p15 rfl q, F_m_lightens_p12 rfl, F_m_lightens_p9 rfl]
    · rw [y0]
      omega
/-- one cell: by how much it is less -/
theorem mx_less (hb : s_gb G) (hK : s_cd K) (hw : s_wf G A) (hg : mx_g G K S) (hce : mx_ce G A S v) (hf : mx_fr G A S) (ha : a1.toInt = v) (hv : v ≤ 40) (hr : (zI S 0 63).toInt = r) (hr9 : r ≤ 900) (hsh : (S.2.1 29 v).toInt = A 0 0) {c : Nat} (hc : cI.toInt = c) (hc6 : c < 64) : ∃ S1, F_m_lightens_B5 a1 o S9 (cI, S) = .inl (cI + 1, S1) ∧ k_l S S1 ∧ (∀ j, j ≠ c → S1.2.1 44 j = S.2.1 44 j) ∧ (S1.2.1 44 c).toInt = s_lb G K r A c := by
  have z0 : (0 : Int32).toInt = 0 := by decide +kernel
  have c64 : ¬ (64 : Int32) ≤ cI := fun z => by have := dk_gec (k := 64) (by decide +kernel) z; omega
  have cn : cI.toNatClampNeg = c := by rw [dk_clN]; omega
  obtain ⟨S19, h19⟩ : ∃ S', S' = dg_uf S 44 (upd (S.2.1 44) cI.toNatClampNeg (0 : Int32)) := ⟨_, rfl⟩
  have k19 : k_l S S19 := by rw [h19]; exact kp.uf kp.rf (Or.inr (Or.inr rfl))
  have t19 := k19.x
  have r19 : ∀ j, S19.2.1 44 j = if j = c then (0 : Int32) else S.2.1 44 j := fun j => by rw [h19, w_f, if_pos rfl, w_u, cn]
  have none : ¬ (s_so G A c ∧ s_nl G A r c ≠ -1) → F_m_lightens_B5 a1 o S9 (cI, S) = F_m_lightens_J6 cI S19 → ∃ S1, F_m_lightens_B5 a1 o S9 (cI, S) = .inl (cI + 1, S1) ∧ k_l S S1 ∧ (∀ j, j ≠ c → S1.2.1 44 j = S.2.1 44 j) ∧ (S1.2.1 44 c).toInt = s_lb G K r A c := fun hn e => by
    refine ⟨S19, by rw [e, F_m_lightens_p9 rfl], k19, fun j hj => by rw [r19, if_neg hj], ?_⟩
    rw [r19, if_pos rfl, z0]
    unfold s_lb
    rw [s_if_n hn]
  have g19 := t19.g hg
  have c19 := t19.ce hce
  have f19 : mx_fr G A S19 := hf.keep (k19.2 42 (by decide)).1
  have R19 : (zI S19 0 63).toInt = r := by rw [t19.I id]; exact hr
  rcases mx_isCellOf (o := o) (a := cI) g19.1 hb with ⟨e1, y1⟩ | ⟨e1, y1⟩
  rotate_left
  · rw [hc] at y1
    exact none (fun z => y1 z.1.1) (F_m_lightens_p10 c64 h19 rfl e1)
  have n1 : ¬ F_m_isCellOf o S19 cI = (0 : Int32) := by rw [e1]; decide +kernel
  rcases mx_op (o := o) (b := cI) c19 ha hv y1 with ⟨e2, y2⟩ | ⟨e2, y2⟩
  · rw [hc] at y2
    exact none (fun z => by have := z.1.2; have := y2.2; omega) (F_m_lightens_p11 c64 h19 rfl n1 rfl (by rw [e2]; decide +kernel))
  obtain ⟨l3, e3⟩ := mx_nl (o := o) (a2 := cI) c19 f19 g19.1 hb ha hv R19 hr9 y1
  have fn := mx_fi_n l3
  by_cases q3 : F_m_litBeside o S19 a1 cI = (100000000 : Int32)
  · have d3 := dk_eqc (k := 100000000) (by decide +kernel) q3
    have := fn.1.mpr d3
    rw [e3, hc] at this
    exact none (fun z => z.2 this) (F_m_lightens_p18 c64 h19 rfl n1 rfl e2 rfl q3)
  have d3 := dk_neqc (k := 100000000) (by decide +kernel) q3
  have nl : s_nl G A r c ≠ -1 := fun z => d3 (fn.1.mp (by rw [e3, hc]; exact z))
  have hso : s_so G A c := by
    have := (s_so_n (A := A) y1).mpr y2
    rw [hc] at this
    exact this
  have nlb : -1 ≤ s_nl G A r c ∧ s_nl G A r c ≤ 63 := by
    have := fn.2.2.2
    rw [e3, hc] at this
    exact this
  have cb : s_c A c ≤ 9 := by
    have := (hce cI.toInt y1).2.2.2
    rw [hc] at this
    exact this
  rw [hc] at y1
  obtain ⟨S61, e61, k61, env⟩ := mx_lays (o := o) (a2 := cI) hb g19.1 c19 f19 ha hv R19 hr9 (by rw [hc]; exact y1) (by rw [hc]; exact hso.2) (by rw [(k19.2 29 (by decide)).1]; exact hsh)
  rw [hc] at env
  obtain ⟨b, hb1, hbk, hcode⟩ := mx_code_g ((k61.x).g g19) (w := 0) (by decide)
  have fin : ∀ (x : Int64) (S5 : dg_S), x.toInt = s_sv G K r A c → k_l S19 S5 → S5.2.1 44 = S19.2.1 44 → F_m_lightens_B5 a1 o S9 (cI, S) = F_m_lightens_J7 x S5 cI → ∃ S1, F_m_lightens_B5 a1 o S9 (cI, S) = .inl (cI + 1, S1) ∧ k_l S S1 ∧ (∀ j, j ≠ c → S1.2.1 44 j = S.2.1 44 j) ∧ (S1.2.1 44 c).toInt = s_lb G K r A c := fun x S5 hx h5 h44 e => by
    obtain ⟨S1, y, f1, f2, f3⟩ := mx_J7 (x := x) (S := S5) (cI := cI)
    refine ⟨S1, e.trans f1, by rw [f2]; exact kp.uf (k19.tr h5) (Or.inr (Or.inr rfl)), fun j hj => ?_, ?_⟩
    · rw [f2, w_f, if_pos rfl, w_u, cn, if_neg hj, h44, r19, if_neg hj]
    · rw [f2, w_f, if_pos rfl, w_u, cn, if_pos rfl, f3, hx]
      unfold s_lb
      rw [s_if_y ⟨hso, nl⟩]
  rcases mx_told0 (o := o) hbk hb1 hcode with ⟨e4, h4⟩ | ⟨e4, h4⟩
  · refine fin 1 S61 ?_ k61.r.l (k61.2 44 (by decide)).1 (F_m_lightens_p16 c64 h19 rfl n1 rfl e2 rfl q3 e61.symm rfl e4)
    unfold s_sv
    rw [s_if_y h4]
    decide +kernel
  · have n4 : ¬ F_m_isTold_0 o S61 = (0 : Int32) := by rw [e4]; decide +kernel
    obtain ⟨hty, -, -⟩ := hK 0 (by decide) h4
    have ev : ∀ s ∈ K 0, -7 ≤ s → s < 0 → mx_env S61 s = s_env G A r c s := fun s _ h7 h0 => env s h7 h0 (fun _ => nl)
    obtain ⟨S7, x6, e6, v6, k7⟩ := mx_reckons0 (o := o) (S := S61) hbk hb1 hcode h4 hty (fun s hs h6 h0 => by
      rw [ev s hs (by omega) h0]
      exact s_env_b6 hw ⟨by omega, by omega⟩ ⟨hso.2, cb⟩ (fun _ => nlb))
    rw [s_ev_congr ev] at v6
    have e61' : S7 = (F_m_reckons_0 o S61).1 := by rw [e6]
    have e62' : x6 = (F_m_reckons_0 o S61).2 := by rw [e6]
    refine fin x6 S7 ?_ (k_r.l (k61.r.tr k7.r)) (by rw [(k7.2 44 (by decide)).1, (k61.2 44 (by decide)).1]) (F_m_lightens_p17 c64 h19 rfl n1 rfl e2 rfl q3 e61.symm rfl n4 e61' e62')
    unfold s_sv
    rw [s_if_n h4]
    exact v6
theorem mx_l5 (hb : s_gb G) (hK : s_cd K) (hw : s_wf G A) (hg : mx_g G K S0) (hce : mx_ce G A S0 v) (hf : mx_fr G A S0) (ha : a1.toInt = v) (hv : v ≤ 40) (hr : (zI S0 0 63).toInt = r) (hr9 : r ≤ 900) (hsh : (S0.2.1 29 v).toInt = A 0 0) {z : dg_S} : ∀ (n c : Nat) (cI : Int32) (S : dg_S), 65 ≤ n + c → c ≤ 64 → cI.toInt = c → k_l S0 S → (∀ j : Nat, j < c → (S.2.1 44 j).toInt = s_lb G K r A j) → ∃ S1, lp (F_m_lightens_B5 a1 o S9) z n (cI, S) = F_m_lightens_J1 a1 o S9 S1 ∧ k_l S0 S1 ∧ ∀ j : Nat, j < 64 → (S1.2.1 44 j).toInt = s_lb G K r A j := by
  intro n
  induction n with
  | zero =>
    intro c cI S h1 h2
    omega
  | succ n ih =>
    intro c cI S h1 h2 hc hk hl
    by_cases q : (64 : Int32) ≤ cI
    · have d := dk_gec (k := 64) (by decide +kernel) q
      have ec : c = 64 := by omega
      subst ec
      exact ⟨S, lp_sr (F_m_lightens_p8 q), hk, hl⟩
    · have d := dk_ngec (k := 64) (by decide +kernel) q
      have ek : (cI + 1).toInt = ((c + 1 : Nat) : Int) := by
        rw [dk_addT (a := (c : Int)) (b := 1) hc (by decide +kernel) (by omega) (by omega)]
        omega
      obtain ⟨S1, e1, k1, o1, v1⟩ := mx_less (o := o) (S9 := S9) (cI := cI) (S := S) hb hK hw (hk.x.g hg) (hk.x.ce hce) (hf.keep (hk.2 42 (by decide)).1) ha hv (by rw [hk.x.I id]; exact hr) hr9 (by rw [(hk.2 29 (by decide)).1]; exact hsh) hc (by omega)
      obtain ⟨S2, e2, k2, v2⟩ := ih (c + 1) (cI + 1) S1 (by omega) (by omega) ek (hk.tr k1) (fun j hj => by
        by_cases y : j = c
        · rw [y]
          exact v1
        · rw [o1 j y]
          exact hl j (by omega))
      exact ⟨S2, (lp_sl e1).trans e2, k2, v2⟩
/-- what is less is less -/
theorem mx_l2 (hb : s_gb G) (hg : mx_g G K S0) (ha : a1.toInt = v) (hv : v ≤ 21) (hA : mx_ce G A S0 v) (hl : ∀ j : Nat, j < 64 → (S0.2.1 44 j).toInt = s_lb G K r A j) {z : dg_S} : ∀ (n c : Nat) (cI : Int32) (S : dg_S), 65 ≤ n + c → c ≤ 64 → cI.toInt = c → k_v v S0 S → (∀ i, i ≠ 31 → S.2.1 i = S0.2.1 i) → mx_ce G (s_spD G K r A (fun d => d < c)) S v → ∃ S1, lp (F_m_lightens_B2 a1 o) z n (cI, S) = S1 ∧ k_v v S0 S1 ∧ (∀ i, i ≠ 31 → S1.2.1 i = S0.2.1 i) ∧ mx_ce G (s_spD G K r A (fun d => d < 64)) S1 v := by
  intro n
  induction n with
  | zero =>
    intro c cI S h1 h2
    omega
  | succ n ih =>
    intro c cI S h1 h2 hc hk ho hce
    by_cases q : (64 : Int32) ≤ cI
    · have d := dk_gec (k := 64) (by decide +kernel) q
      have ec : c = 64 := by omega
      subst ec
      exact ⟨S, lp_sr (F_m_lightens_p0 q), hk, ho, hce⟩
    have d := dk_ngec (k := 64) (by decide +kernel) q
    have z0 : (0 : Int32).toInt = 0 := by decide +kernel
    have cn : cI.toNatClampNeg = c := by rw [dk_clN]; omega
    have ek : (cI + 1).toInt = ((c + 1 : Nat) : Int) := by
      rw [dk_addT (a := (c : Int)) (b := 1) hc (by decide +kernel) (by omega) (by omega)]
      omega
    have c0 : (0 : Int) ≤ (c : Int) := by omega
    -- a cell that stays
    have stay : ¬ (s_so G A c ∧ s_nl G A r c ≠ -1) → F_m_lightens_B2 a1 o (cI, S) = F_m_lightens_J3 cI S → ∃ S1, lp (F_m_lightens_B2 a1 o) z (n + 1) (cI, S) = S1 ∧ k_v v S0 S1 ∧ (∀ i, i ≠ 31 → S1.2.1 i = S0.2.1 i) ∧ mx_ce G (s_spD G K r A (fun d => d < 64)) S1 v := fun hn e => by
      have e0 : s_spD G K r A (fun d => d < ((c + 1 : Nat) : Int)) = s_spD G K r A (fun d => d < (c : Int)) := s_spD_congr (fun x hx hx2 => by
        refine ⟨fun y => ?_, fun y => by omega⟩
        by_cases w : x = c
        · subst w
          exact absurd ⟨hx, hx2⟩ hn
        · omega)
      obtain ⟨S1, f1, f2, f3, f4⟩ := ih (c + 1) (cI + 1) S (by omega) (by omega) ek hk ho (by rw [e0]; exact hce)
      refine ⟨S1, ?_, f2, f3, f4⟩
      rw [lp_sl (e.trans (F_m_lightens_p1 rfl))]
      exact f1
    rcases mx_isCellOf (o := o) (a := cI) (hk.gd hg.1) hb with ⟨e1, y1⟩ | ⟨e1, y1⟩
    rotate_left
    · rw [hc] at y1
      exact stay (fun z => y1 z.1.1) (F_m_lightens_p2 q rfl e1)
    have n1 : ¬ F_m_isCellOf o S cI = (0 : Int32) := by rw [e1]; decide +kernel
    have ad := mx_adr (a := a1) (b := cI) ha (by omega) (by omega)
    rw [hc] at y1 ad
    obtain ⟨h31, -, -, -⟩ := hce c y1
    have same : s_c (s_spD G K r A (fun d => d < (c : Int))) c = s_c A c := by
      rw [s_spD_c c0, s_if_n (fun z => absurd z.1 (by omega))]
    rw [same] at h31
    have cb := (hA c y1).2.2.2
    by_cases q2 : S.2.1 31 ((64 : Int32) * a1 + cI).toNatClampNeg = (-1 : Int32)
    · have d2 := dk_eqc (k := -1) (by decide +kernel) q2
      rw [ad, h31] at d2
      refine stay (fun z => ?_) (F_m_lightens_p3 q rfl rfl rfl rfl n1 q2)
      have := z.1.2
      unfold mx_en at d2
      rw [if_neg (by omega)] at d2
      omega
    have d2 := dk_neqc (k := -1) (by decide +kernel) q2
    rw [ad, h31] at d2
    have hs0 : 0 ≤ s_c A c := by
      apply Classical.byContradiction
      intro w
      unfold mx_en at d2
      rw [if_pos (by omega)] at d2
      exact d2 rfl
    have hso : s_so G A c := ⟨y1, hs0⟩
    unfold mx_en at h31
    rw [if_neg (by omega)] at h31
    have e44 : (S.2.1 44 cI.toNatClampNeg).toInt = s_lb G K r A c := by
      rw [cn, ho 44 (by decide)]
      exact hl c (by omega)
    have lbb : 0 ≤ s_lb G K r A c ∧ s_lb G K r A c ≤ 9 := by
      unfold s_lb
      by_cases w : s_so G A c ∧ s_nl G A r c ≠ -1
      · rw [s_if_y w]
        omega
      · rw [s_if_n w]
        omega
    have x31 : (S.2.1 31 ((64 : Int32) * a1 + cI).toNatClampNeg).toInt = s_c A c := by rw [ad]; exact h31
    have adn : mx_ad v c = 64 * v + c := by unfold mx_ad; omega
    have w31 : mx_w 31 = 64 := rfl
    -- a cell that is told anew
    have go : ∀ y : Int32, y.toInt = max 0 (s_c A c - s_lb G K r A c) → F_m_lightens_B2 a1 o (cI, S) = F_m_lightens_J4 S ((64 : Int32) * a1 + cI) y cI → ∃ S1, lp (F_m_lightens_B2 a1 o) z (n + 1) (cI, S) = S1 ∧ k_v v S0 S1 ∧ (∀ i, i ≠ 31 → S1.2.1 i = S0.2.1 i) ∧ mx_ce G (s_spD G K r A (fun d => d < 64)) S1 v := fun y hy e => by
      obtain ⟨S2, h2'⟩ : ∃ S', S' = dg_uf S 31 (upd (S.2.1 31) ((64 : Int32) * a1 + cI).toNatClampNeg y) := ⟨_, rfl⟩
      have ce2 := hce.up (S1 := S2) (c := c) (y := max 0 (s_c A c - s_lb G K r A c)) (x := y) y1 (by rw [same]; exact hs0) (by rw [h2', w_f, if_pos rfl, ad]) (by rw [h2', w_f, if_neg (by decide)]) hy (by omega)
      have ce3 : mx_ce G (s_spD G K r A (fun d => d < ((c + 1 : Nat) : Int))) S2 v := ce2.congr (fun x hx => by
        have hx0 := hx.1.1
        rw [s_c_up c0 hx0, s_spD_c hx0, s_spD_c hx0]
        by_cases w : x = c
        · rw [if_pos w, w]
          unfold s_lb
          by_cases u : s_so G A c ∧ s_nl G A r c ≠ -1
          · rw [s_if_y ⟨by omega, u⟩, s_if_y u]
            omega
          · rw [s_if_n (fun y => u y.2), s_if_n u]
            omega
        · rw [if_neg w]
          by_cases u : (x < (c : Int)) ∧ s_so G A x ∧ s_nl G A r x ≠ -1
          · rw [s_if_y ⟨by omega, u.2⟩, s_if_y u]
          · rw [s_if_n (fun y => u ⟨by omega, y.2⟩), s_if_n u])
      obtain ⟨S1, f1, f2, f3, f4⟩ := ih (c + 1) (cI + 1) S2 (by omega) (by omega) ek (by rw [h2', ad]; exact hk.uf (by decide) (by decide) (mw 31 64 _ _ rfl (by omega))) (fun i hi => by rw [h2', w_f, if_neg hi]; exact ho i hi) ce3
      refine ⟨S1, ?_, f2, f3, f4⟩
      rw [lp_sl ((e.trans (F_m_lightens_p4 h2')).trans (F_m_lightens_p1 rfl))]
      exact f1
    by_cases q3 : S.2.1 31 ((64 : Int32) * a1 + cI).toNatClampNeg ≤ S.2.1 44 cI.toNatClampNeg
    · have d3 := w_le.mp q3
      rw [x31, e44] at d3
      exact go 0 (by rw [z0]; omega) (F_m_lightens_p5 q rfl rfl rfl rfl n1 q2 rfl rfl rfl q3)
    · have d3 : ¬ (S.2.1 31 ((64 : Int32) * a1 + cI).toNatClampNeg).toInt ≤ (S.2.1 44 cI.toNatClampNeg).toInt := fun w => q3 (w_le.mpr w)
      rw [x31, e44] at d3
      refine go (S.2.1 31 ((64 : Int32) * a1 + cI).toNatClampNeg - S.2.1 44 cI.toNatClampNeg) ?_ (F_m_lightens_p6 q rfl rfl rfl rfl n1 q2 rfl rfl rfl q3 rfl)
      rw [dk_subT x31 e44 (by omega) (by omega)]
      omega
theorem mx_light (hG : s_gw G) (hK : s_cd K) (hw : s_wf G A) (hcw : s_cw G A) (hg : mx_g G K S) (hl : mx_lay G A L S v) (ha : a1.toInt = v) (hv : v ≤ 21) (hr : (zI S 0 63).toInt = r) (hr9 : r ≤ 900) : ∃ S1, F_m_lightens o S a1 = S1 ∧ k_v v S S1 ∧ mx_lay G (s_sp G K r A) L S1 v := by
  have z0 : (0 : Int32).toInt = 0 := by decide +kernel
  obtain ⟨hG1, hG2, hG6⟩ := hG
  obtain ⟨S5, h5, f5, k5⟩ := mx_measures (o := o) hG1 hg.1 hl.1 ha (by omega) hcw.2
  have t5 := k5.x
  have l5 := t5.lay hl hG6.2
  obtain ⟨S1, e1, k1, v1⟩ := mx_l5 (o := o) (S9 := S) (z := S) hG1 hK hw (t5.g hg) l5.1 f5 ha (by omega) (by rw [t5.I id]; exact hr) hr9 l5.2.1 ((65 - ((0 : Int32)).toInt).toNat + 1) 0 0 S5 (by rw [z0]; decide) (by decide) z0 kp.rf (fun j hj => absurd hj (Nat.not_lt_zero j))
  have t1 := t5.tr k1.x
  have l1 := k_x.lay t1 hl hG6.2
  have s0 : mx_ce G (s_spD G K r A (fun d => d < ((0 : Nat) : Int))) S1 v := l1.1.congr (fun d hd => by
    rw [s_spD_c hd.1.1, s_if_n (fun w => by have := w.1; have := hd.1.1; omega)])
  obtain ⟨S2, e2, k2, o2, c2⟩ := mx_l2 (o := o) (z := S) hG1 (k_x.g t1 hg) ha hv l1.1 v1 ((65 - ((0 : Int32)).toInt).toNat + 1) 0 0 S1 (by rw [z0]; decide) (by decide) z0 k_v.rf (fun _ _ => rfl) s0
  refine ⟨S2, ?_, (k_x.kv t1).tr k2, ?_⟩
  · rw [F_m_lightens_p19 h5.symm, e1, F_m_lightens_p7]
    exact e2
  · have es : s_spD G K r A (fun d => d < 64) = s_sp G K r A := s_spD_congr (fun x hx _ => ⟨fun _ => trivial, fun _ => hx.1.1.2⟩)
    rw [es] at c2
    obtain ⟨y1, y2, y3, y4, y5, y6, y7, y8⟩ := l1
    have U : ∀ a b, a ≠ 1 → s_sp G K r A a b = A a b := fun a b h => s_sp_o h
    refine ⟨c2, ?_, ?_, ?_, fun k hk => ?_, ?_, fun k hk => ?_, y8.keep (by rw [o2 38 (by decide)]) (fun j _ _ => by rw [o2 39 (by decide)])⟩
    · rw [o2 29 (by decide), U _ _ (by decide)]; exact y2
    · rw [o2 30 (by decide), U _ _ (by decide)]; exact y3
    · rw [o2 33 (by decide)]; exact ⟨y4.1, fun k hk => by rw [U _ _ (by decide)]; exact y4.2 k hk⟩
    · rw [o2 35 (by decide), o2 36 (by decide), U _ _ (by decide), U _ _ (by decide)]; exact y5 k hk
    · rw [o2 34 (by decide)]; exact ⟨y6.1, fun k hk => by rw [U _ _ (by decide)]; exact y6.2 k hk⟩
    · rw [o2 37 (by decide), U _ _ (by decide)]; exact y7 k hk
/-- one shift, its number not held back -/
noncomputable def s_tu (G : aR) (K : Nat → List Int) (r : Int) (A : aR) : aR := s_up (s_sp G K r (s_dg G K r A).1) 0 0 (A 0 0 + 1)
theorem s_tu_tk (h : A 0 0 < 999) : s_tu G K r A = s_tk G K r A := by
  unfold s_tu s_tk
  rw [show min 999 (A 0 0 + 1) = A 0 0 + 1 by omega]
/-- ONE SHIFT OF THE REFERENCE -/
theorem mx_tick (hG : s_gw G) (hK : s_cd K) (hw : s_wf G A) (hcw : s_cw G A) (hg : mx_g G K S) (hl : mx_lay G A L S v) (ha : a1.toInt = v) (hv : v ≤ 21) (hr : (zI S 0 63).toInt = r) (hr9 : r ≤ 900) : ∃ (S1 : dg_S) (x : Int32), F_m_ticks o S a1 = (S1, x) ∧ k_v v S S1 ∧ mx_lay G (s_tu G K r A) (s_dL G K r A L) S1 v ∧ x.toInt = s_dn G K r A := by
  have z0 : (0 : Int32).toInt = 0 := by decide +kernel
  have z1 : (1 : Int32).toInt = 1 := by decide +kernel
  have an : a1.toNatClampNeg = v := by rw [dk_clN]; omega
  obtain ⟨S2, x1, e1, k1, l1, d1⟩ := mx_dig (o := o) hG hK hw hcw hg hl ha hv hr hr9
  have e11 : S2 = (F_m_digs o S a1).1 := by rw [e1]
  have e12 : x1 = (F_m_digs o S a1).2 := by rw [e1]
  obtain ⟨S12, e2, k2, l2⟩ := mx_light (o := o) hG hK (s_dg_wf (K := K) (r := r) hG hw hcw) (s_dg_cw (K := K) (r := r) hG hw hcw) (k1.g hg) l1 ha hv (by rw [k1.I]; exact hr) hr9
  have w0 := hw.1
  obtain ⟨s0, hs0⟩ : ∃ x, x = S.2.1 29 a1.toNatClampNeg := ⟨_, rfl⟩
  have es0 : s0.toInt = A 0 0 := by rw [hs0, an]; exact hl.2.1
  have ex : (s0 + (1 : Int32)).toInt = A 0 0 + 1 := dk_addT es0 z1 (by omega) (by omega)
  obtain ⟨S17, h17⟩ : ∃ S', S' = dg_uf S12 29 (upd (S12.2.1 29) a1.toNatClampNeg (s0 + (1 : Int32))) := ⟨_, rfl⟩
  have w29 : mx_w 29 = 1 := rfl
  have t17 : k_v v S S17 := by
    rw [h17, an]
    exact (k1.tr k2).uf (by decide) (by decide) (mw 29 1 _ _ rfl (by omega))
  have lay : mx_lay G (s_tu G K r A) (s_dL G K r A L) S17 v := by
    obtain ⟨y1, y2, y3, y4, y5, y6, y7, y8⟩ := l2
    have U : ∀ a b, a ≠ 0 ∨ b ≠ 0 → s_tu G K r A a b = s_sp G K r (s_dg G K r A).1 a b := fun a b h => by
      unfold s_tu
      rw [s_up_ne (fun z => by omega)]
    have ro : ∀ i, i ≠ 29 → S17.2.1 i = S12.2.1 i := fun i hi => by rw [h17, w_f, if_neg hi]
    refine ⟨?_, ?_, ?_, ?_, fun k hk => ?_, ?_, fun k hk => ?_, y8.keep (by rw [ro 38 (by decide)]) (fun j _ _ => by rw [ro 39 (by decide)])⟩
    · have h9 := y1.keep (S1 := S17) (ro 31 (by decide)) (ro 32 (by decide))
      exact h9.congr (fun d _ => by unfold s_c; rw [U _ _ (Or.inl (by decide))])
    · rw [h17, w_f, if_pos rfl, w_u, an, if_pos rfl, ex]
      unfold s_tu
      rw [s_up_at]
    · rw [ro 30 (by decide), U _ _ (Or.inr (by decide))]; exact y3
    · rw [ro 33 (by decide)]; exact ⟨y4.1, fun k hk => by rw [U _ _ (Or.inl (by decide))]; exact y4.2 k hk⟩
    · rw [ro 35 (by decide), ro 36 (by decide), U _ _ (Or.inl (by decide)), U _ _ (Or.inl (by decide))]; exact y5 k hk
    · rw [ro 34 (by decide)]; exact ⟨y6.1, fun k hk => by rw [U _ _ (Or.inl (by decide))]; exact y6.2 k hk⟩
    · rw [ro 37 (by decide), U _ _ (Or.inl (by decide))]; exact y7 k hk
  have dn : s_dn G K r A = 0 ∨ s_dn G K r A = 1 := by
    unfold s_dn
    split
    · exact Or.inl rfl
    · exact Or.inr rfl
  by_cases q : x1 = (0 : Int32)
  · have d := dk_eqc (k := 0) z0 q
    refine ⟨S17, 0, ?_, t17, lay, by rw [← d1, d, z0]⟩
    rw [F_m_ticks_p1 hs0 e11 e12 q]
    exact F_m_ticks_p0 e2.symm rfl h17
  · have d := dk_neqc (k := 0) z0 q
    refine ⟨S17, 1, ?_, t17, lay, by rw [z1]; omega⟩
    rw [F_m_ticks_p2 hs0 e11 e12 q]
    exact F_m_ticks_p0 e2.symm rfl h17
end LG
