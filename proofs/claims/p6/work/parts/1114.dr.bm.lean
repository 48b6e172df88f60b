/-! the class digs by its plan -/
def k_dg (p : Nat) (S S1 : dg_S) : Prop := kp (fun a b => a = 215 ∨ (a = 214 ∧ 9 ≤ b)) (fun a => a = 216 ∨ a = p + 1 ∨ a = p + 2 ∨ a = p + 6) S S1
section XM
variable {G A A' : aR} {K : Nat → List Int} {S S1 : dg_S} {o g p : Nat} {r c x v : Int}
theorem s_ob_b (c : Int) : 0 ≤ s_ob G A c ∧ s_ob G A c ≤ 4 := by
  have h1 := s_b01 (s_op G A (c - 8))
  have h2 := s_b01 (s_op G A (c - 1))
  have h3 := s_b01 (s_op G A (c + 1))
  have h4 := s_b01 (s_op G A (c + 8))
  unfold s_ob
  omega
theorem s_env_b (hw : s_wf G A) (hc : 0 ≤ c ∧ c < 64) (hs : 0 ≤ s_c A c ∧ s_c A c ≤ 9) {s : Int} (h4 : s ≠ -4) : -1000000 ≤ s_env G A r c s ∧ s_env G A r c s ≤ 1000000 := by
  have h1 := hw.1
  have h2 := s_ob_b (G := G) (A := A) c
  unfold s_env
  by_cases c1 : s = -1
  · rw [if_pos c1]; omega
  rw [if_neg c1]
  by_cases c2 : s = -2
  · rw [if_pos c2]; omega
  rw [if_neg c2]
  by_cases c3 : s = -3
  · rw [if_pos c3]; omega
  rw [if_neg c3, if_neg h4]
  by_cases c5 : s = -5
  · rw [if_pos c5]; omega
  rw [if_neg c5]
  by_cases c6 : s = -6
  · rw [if_pos c6]
    split <;> omega
  rw [if_neg c6]
  omega
theorem cx_code.keep {w : Nat} {C : List Int} (h : cx_code S g w C) (e : ∀ i, g ≤ i → i ≤ g + 11 → S1.2.1 i = S.2.1 i) : cx_code S1 g w C := by
  obtain ⟨fr, f0, f1, f2, f3, f4⟩ := h
  refine ⟨fr, f0, f1, by rw [e _ (by omega) (by omega)]; exact f2, by rw [e _ (by omega) (by omega)]; exact f3, fun i hi => by rw [e _ (by omega) (by omega)]; exact f4 i hi⟩
theorem cx_gt.keep (h : cx_gt G K S g) (e : ∀ i, g ≤ i → i ≤ g + 11 → S1.2.1 i = S.2.1 i) (e2 : ∀ b, zI S1 g b = zI S g b) : cx_gt G K S1 g := by
  obtain ⟨h1, h2, h3, h4⟩ := h
  exact ⟨h1, by rw [e2]; exact h2, by rw [e2]; exact h3, fun w hw => (h4 w hw).keep e⟩
theorem cx_pit.keep (h : cx_pit G A S p) (e : ∀ i, p < i → i ≤ p + 6 → S1.2.1 i = S.2.1 i) (e2 : ∀ b, b < 2 → zI S1 p b = zI S p b) : cx_pit G A S1 p := by
  obtain ⟨h1, h2, h3, h4, h5, h6, h7⟩ := h
  refine ⟨h1.keep (e _ (by omega) (by omega)), by rw [e2 0 (by omega)]; exact h2, by rw [e2 1 (by omega)]; exact h3, fun k hk => by rw [e _ (by omega) (by omega)]; exact h4 k hk, fun k hk => by rw [e _ (by omega) (by omega), e _ (by omega) (by omega)]; exact h5 k hk, fun k hk => by rw [e _ (by omega) (by omega)]; exact h6 k hk, fun k hk => by rw [e _ (by omega) (by omega)]; exact h7 k hk⟩
theorem cx_clamp {x : Int32} : (if (0 : Int32) < (if x < (9 : Int32) then x else (9 : Int32)) then (if x < (9 : Int32) then x else (9 : Int32)) else (0 : Int32)).toInt = max 0 (min 9 x.toInt) := by
  have z0 : (0 : Int32).toInt = 0 := by decide +kernel
  have z9 : (9 : Int32).toInt = 9 := by decide +kernel
  by_cases q : x < (9 : Int32)
  · have q1 := dk_ltc (k := 9) z9 q
    rw [if_pos q]
    by_cases q2 : (0 : Int32) < x
    · have := dk_gtc (k := 0) z0 q2
      rw [if_pos q2]
      omega
    · have := dk_ngtc (k := 0) z0 q2
      rw [if_neg q2, z0]
      omega
  · have q1 := dk_nltc (k := 9) z9 q
    rw [if_neg q, if_pos (by decide +kernel), z9]
    omega
theorem cx_dig (hp : pX p) (hS : zR o S 214 7 = p) (hgr : zR o S 214 6 = g) (hG : s_gw G) (hK : s_cd K) (hw : s_wf G A) (hg : cx_gt G K S g) (hpit : cx_pit G A S p) (hl : cx_light G A r S) : ∃ S1, F_w_digByPlan o S = S1 ∧ k_dg p S S1 ∧ cx_pit G (s_dg G K r A).1 S1 p ∧ ((zI S1 214 9).toInt ≠ 0 ∨ (zI S1 214 9 = zI S 214 9 ∧ cx_light G (s_dg G K r A).1 r S1)) ∧ (((s_dg G K r A).2.1 = -1 ∧ zI S1 214 10 = zI S 214 10) ∨ ((s_dg G K r A).2.1 ≠ -1 ∧ (zI S1 214 10).toInt = (s_dg G K r A).2.1 ∧ (zI S1 214 11).toInt = (s_dg G K r A).2.2.1 + 8 ∧ (zI S1 214 12).toInt = (s_dg G K r A).2.2.2)) := by
  have sep := pX_sep hp
  have sepg := rX_sep hg.1
  have z0 : (0 : Int32).toInt = 0 := by decide +kernel
  have z1 : (1 : Int32).toInt = 1 := by decide +kernel
  obtain ⟨hce, hsh, hpu, hhu, hpl, hso, htu⟩ := hpit
  obtain ⟨w0, w1, w2, w3, w4, w5⟩ := hw
  have hfp := hg.2.2.1
  have none : s_no G A → F_w_digByPlan o S = S → ∃ S1, F_w_digByPlan o S = S1 ∧ k_dg p S S1 ∧ cx_pit G (s_dg G K r A).1 S1 p ∧ ((zI S1 214 9).toInt ≠ 0 ∨ (zI S1 214 9 = zI S 214 9 ∧ cx_light G (s_dg G K r A).1 r S1)) ∧ (((s_dg G K r A).2.1 = -1 ∧ zI S1 214 10 = zI S 214 10) ∨ ((s_dg G K r A).2.1 ≠ -1 ∧ (zI S1 214 10).toInt = (s_dg G K r A).2.1 ∧ (zI S1 214 11).toInt = (s_dg G K r A).2.2.1 + 8 ∧ (zI S1 214 12).toInt = (s_dg G K r A).2.2.2)) := fun hn e => by
    have ed : s_dg G K r A = (A, -1, 0, 0) := by
      unfold s_dg
      exact s_if_y hn
    rw [ed]
    exact ⟨S, e, kp.rf, ⟨hce, hsh, hpu, hhu, hpl, hso, htu⟩, Or.inr ⟨rfl, hl⟩, Or.inl ⟨rfl, rfl⟩⟩
  by_cases q0 : zI S g 8 = (0 : Int32)
  · have := dk_eqc (k := 0) z0 q0
    exact none (Or.inl (by omega)) (F_w_digByPlan_p6 hgr.symm rfl q0)
  have q0' := dk_neqc (k := 0) z0 q0
  have hG6 := hG.2.2
  obtain ⟨x6, hx6⟩ : ∃ x6, x6 = zI S p 0 - zI S p 0 / zI S g 8 * zI S g 8 := ⟨_, rfl⟩
  have e6 : x6.toInt = A 0 0 % G 0 6 := by
    rw [hx6, i_rem (by omega) (by omega), hsh, hfp]
  have m0 := Int.emod_nonneg (A 0 0) (show G 0 6 ≠ 0 by omega)
  have m1 := Int.emod_lt_of_pos (A 0 0) (show 0 < G 0 6 by omega)
  have ek : x6.toNatClampNeg = s_k G A := by
    rw [dk_clN, e6]
    rfl
  have hk : ((s_k G A : Nat) : Int) < G 0 6 := by
    unfold s_k
    omega
  obtain ⟨pm, pc⟩ := hpl _ hk
  obtain ⟨wm, wc⟩ := w3 _ hk
  have wc56 := s_in_56 hG.1.2 wc
  obtain ⟨x8, hx8⟩ : ∃ x8, x8 = S.2.1 (p + 3) x6.toNatClampNeg := ⟨_, rfl⟩
  obtain ⟨x10, hx10⟩ : ∃ x10, x10 = S.2.1 (p + 4) x6.toNatClampNeg := ⟨_, rfl⟩
  obtain ⟨m, hm⟩ : ∃ m, m = A 3 (s_k G A) := ⟨_, rfl⟩
  obtain ⟨c, hcc⟩ : ∃ c, c = A 4 (s_k G A) := ⟨_, rfl⟩
  rw [← hm] at pm wm
  rw [← hcc] at pc wc wc56
  have e8 : x8.toInt = m := by rw [hx8, ek]; exact pm
  have e10 : x10.toInt = c + 8 := by rw [hx10, ek]; exact pc
  have e8n : x8.toNatClampNeg = m.toNat := by rw [dk_clN, e8]
  have e10n : x10.toNatClampNeg = (c + 8).toNat := by rw [dk_clN, e10]
  have hhm := hhu m.toNat (by omega)
  by_cases q1 : S.2.1 (p + 2) x8.toNatClampNeg = (1 : Int32)
  · have q1' := dk_eqc (k := 1) z1 q1
    rw [e8n] at q1'
    exact none (Or.inr (Or.inl (by rw [← hm]; omega))) (F_w_digByPlan_p0 hgr.symm rfl q0 hS.symm rfl hx6 hx8 rfl q1)
  have q1' := dk_neqc (k := 1) z1 q1
  rw [e8n] at q1'
  have ecd := cx_canBeDug (o := o) (a := x10) hce (by omega) (by omega)
  rw [e10, show c + 8 - 8 = c by omega] at ecd
  by_cases q2 : F_p_canBeDug o S p x10 = (0 : Int32)
  · refine none (Or.inr (Or.inr (fun z => ?_))) (F_w_digByPlan_p5 hgr.symm rfl q0 hS.symm rfl hx6 hx8 hx10 rfl q1 rfl q2)
    rw [← hcc] at z
    rw [q2, s_b1 z] at ecd
    exact absurd ecd (by decide +kernel)
  have hcd : s_so G A c ∧ 0 < s_ob G A c := by
    apply Classical.byContradiction
    intro z
    rw [s_b0 z] at ecd
    exact q2 (dk_eqp (k := 0) z0 ecd)
  have nno : ¬ s_no G A := fun z => by
    rcases z with z | z | z
    · omega
    · rw [← hm] at z
      omega
    · rw [← hcc] at z
      exact z hcd
  obtain ⟨S17, hS17⟩ : ∃ S17, S17 = dg_uF S 214 10 (.int x8) := ⟨_, rfl⟩
  obtain ⟨S18, hS18⟩ : ∃ S18, S18 = dg_uF S17 214 11 (.int x10) := ⟨_, rfl⟩
  have r18 : S18.2.1 = S.2.1 := by rw [hS18, hS17]; rfl
  have k18 : k_dg p S S18 := by rw [hS18, hS17]; exact kp.uF (kp.uF kp.rf (Or.inr ⟨rfl, by decide⟩)) (Or.inr ⟨rfl, by decide⟩)
  have R18 : ∀ b, b < 9 → zR o S18 214 b = zR o S 214 b := fun b hb => k18.R (fun z => by omega)
  have l18 : cx_light G A r S18 := hl.sm rfl rfl rfl (by rw [r18]) (by rw [r18]) (by rw [r18]) (k18.I (fun z => by omega))
  obtain ⟨S19, e19, k19, env19⟩ := cx_tell (o := o) (a := x10) hp (by rw [R18 7 (by omega)]; exact hS) (hce.keep (by rw [r18])) l18 (by omega) (by rw [e10, show c + 8 - 8 = c by omega]; exact hcd.1) (by rw [k18.I (fun z => by omega)]; exact hsh)
  rw [e10, show c + 8 - 8 = c by omega] at env19
  have t19 : k_dg p S S19 := k18.tr (k19.w (fun a b z => Or.inl z) (fun a z => absurd z id))
  have sc9 := (((hce (c + 8) (by omega) (by omega)).1 (by rw [show c + 8 - 8 = c by omega]; exact wc)).2).2
  rw [show c + 8 - 8 = c by omega] at sc9
  have eb : ∀ (C : List Int) (S' : dg_S), cx_env S' = cx_env S19 → -4 ∉ C → ∀ s ∈ C, -6 ≤ s → s < 0 → -1000000 ≤ cx_env S' s ∧ cx_env S' s ≤ 1000000 := fun C S' hE h4 s hs h6 h0 => by
    have n4 : s ≠ -4 := fun z => h4 (by rw [← z]; exact hs)
    rw [hE, env19 s n4 (by omega) h0]
    exact s_env_b ⟨w0, w1, w2, w3, w4, w5⟩ wc.1 ⟨hcd.1.2, sc9⟩ n4
  have evs : ∀ (C : List Int) (S' : dg_S), cx_env S' = cx_env S19 → -4 ∉ C → s_ev (cx_env S') C = s_ev (s_env G A r c) C := fun C S' hE h4 => by
    rw [hE]
    exact s_ev_congr (fun s hs h7 h0 => env19 s (fun z => h4 (by rw [← z]; exact hs)) h7 h0)
  have row19 : ∀ i, i ≠ 216 → i ≠ p + 1 → i ≠ p + 2 → i ≠ p + 6 → S19.2.1 i = S.2.1 i := fun i a1 a2 a3 a4 => (t19.2 i (fun z => by omega)).1
  have row19' : S19.2.1 = S.2.1 := by
    funext i
    rw [(k19.2 i id).1, r18]
  -- falls: does it fall
  obtain ⟨S22, x21, e22, k22, fa⟩ : ∃ (S22 : dg_S) (x21 : Int32), F_r_valueOf o S19 g (1 : Int32) (0 : Int32) = (S22, x21) ∧ k_ru S19 S22 ∧ (x21 = (1 : Int32) ↔ s_fa G K r A c) := by
    have w1n : (1 : Int32).toNatClampNeg = 1 := by decide +kernel
    have hcode := (hg.2.2.2 1 (by decide)).keep (S1 := S19) (fun i _ _ => by rw [row19'])
    by_cases hK1 : K 1 = []
    · rw [hK1] at hcode
      exact ⟨S19, 0, cx_value0 w1n hcode, kp.rf, fun z => absurd z (by decide +kernel), fun z => absurd hK1 z.1⟩
    · obtain ⟨ty, -, n4⟩ := hK 1 (by decide) hK1
      obtain ⟨S22, v, e, ev, k⟩ := cx_value (o := o) (a2 := 0) hg.1 w1n hcode hK1 ty (eb _ S19 rfl (n4 (by decide)))
      refine ⟨S22, v, e, k, ?_⟩
      rw [evs _ S19 rfl (n4 (by decide))] at ev
      unfold s_fa
      rw [← ev]
      exact ⟨fun z => ⟨hK1, dk_eqc (k := 1) z1 z⟩, fun z => dk_eqp (k := 1) z1 z.2⟩
  have t22 : k_dg p S S22 := t19.tr (k22.w (fun a b z => Or.inl z.1) (fun a z => Or.inl z))
  have row22 : ∀ i, i ≠ 216 → S22.2.1 i = S.2.1 i := fun i hi => by rw [k22.row hi, row19']
  have F4 := F_w_digByPlan_p4 (o := o) (S := S) hgr.symm rfl q0 hS.symm rfl hx6 hx8 hx10 rfl q1 rfl q2 hS17 hS18 e19.symm rfl rfl
  rw [e22] at F4
  have i10 : zI S22 214 10 = x8 := by
    have a1 : zI S18 214 10 = x8 := by rw [hS18, w_I, if_neg (by decide), hS17, w_I, if_pos ⟨rfl, rfl⟩]
    have a2 : zI S19 214 10 = x8 := by rw [k19.I (fun z => absurd z (by decide))]; exact a1
    rw [k22.I (fun z => absurd z.1 (by decide))]
    exact a2
  have i11 : zI S22 214 11 = x10 := by
    have a1 : zI S18 214 11 = x10 := by rw [hS18, w_I, if_pos ⟨rfl, rfl⟩]
    have a2 : zI S19 214 11 = x10 := by rw [k19.I (fun z => absurd z (by decide))]; exact a1
    rw [k22.I (fun z => absurd z.1 (by decide))]
    exact a2
  by_cases q3 : x21 = (1 : Int32)
  · -- it falls
    have hf := fa.mp q3
    obtain ⟨S39, hS39⟩ : ∃ S39, S39 = dg_uF S22 214 12 (.int (-1 : Int32)) := ⟨_, rfl⟩
    obtain ⟨S41, hS41⟩ : ∃ S41, S41 = dg_uf S39 (p + 1) (upd (S39.2.1 (p + 1)) x10.toNatClampNeg (0 : Int32)) := ⟨_, rfl⟩
    obtain ⟨S44, hS44⟩ : ∃ S44, S44 = dg_uf S41 (p + 2) (upd (S41.2.1 (p + 2)) x8.toNatClampNeg (1 : Int32)) := ⟨_, rfl⟩
    have ed : s_dg G K r A = (s_up (s_up A 1 c.toNat 0) 2 m.toNat 1, m, c, -1) := by
      unfold s_dg
      rw [s_if_n nno, ← hcc, ← hm, s_if_y hf]
    rw [ed]
    dsimp only
    have t44 : k_dg p S S44 := by
      rw [hS44, hS41, hS39]
      exact kp.uf (kp.uf (kp.uF t22 (Or.inr ⟨rfl, by decide⟩)) (Or.inr (Or.inl rfl))) (Or.inr (Or.inr (Or.inl rfl)))
    have rc : S44.2.1 (p + 1) = upd (S.2.1 (p + 1)) (c + 8).toNat (0 : Int32) := by
      rw [hS44, w_f, if_neg (by omega), hS41, w_f, if_pos rfl, hS39, w_Ff, row22 _ (by omega), e10n]
    have rh : S44.2.1 (p + 2) = upd (S.2.1 (p + 2)) m.toNat (1 : Int32) := by
      rw [hS44, w_f, if_pos rfl, hS41, w_f, if_neg (by omega), hS39, w_Ff, row22 _ (by omega), e8n]
    have ro : ∀ i, i ≠ 216 → i ≠ p + 1 → i ≠ p + 2 → S44.2.1 i = S.2.1 i := fun i a1 a2 a3 => by
      rw [hS44, w_f, if_neg a3, hS41, w_f, if_neg a2, hS39, w_Ff, row22 _ a1]
    have cE : cx_ce G (s_up A 1 c.toNat 0) S44 p := by
      have := hce.up (S1 := S44) (x := c + 8) (v := 0) (by omega) (by rw [show c + 8 - 8 = c by omega]; exact wc) rc (by rw [z0]; decide) (by omega)
      rw [show c + 8 - 8 = c by omega] at this
      exact this
    have cE2 : cx_ce G (s_up (s_up A 1 c.toNat 0) 2 m.toNat 1) S44 p := by
      intro z a b
      rw [s_c_o (by decide)]
      exact cE z a b
    have sc : ∀ d, 0 ≤ d → s_c (s_up (s_up A 1 c.toNat 0) 2 m.toNat 1) d = if d = c then 0 else s_c A d := fun d hd => by rw [s_c_o (by decide), s_c_up wc.1.1 hd]
    refine ⟨S44, ?_, t44, ⟨cE2, ?_, ?_, fun k hk => ?_, fun k hk => ?_, fun k hk => ?_, fun k hk => ?_⟩, Or.inr ⟨?_, ?_⟩, Or.inr ⟨by omega, ?_, ?_, ?_⟩⟩
    · rw [F4]
      exact F_w_digByPlan_p3 q3 hS39 hS41 hS44
    · rw [t44.I (fun z => by omega)]
      rw [s_up_ne (fun z => absurd z.1 (by decide)), s_up_ne (fun z => absurd z.1 (by decide))]
      exact hsh
    · rw [t44.I (fun z => by omega)]
      rw [s_up_ne (fun z => absurd z.1 (by decide)), s_up_ne (fun z => absurd z.1 (by decide))]
      exact hpu
    · rw [rh, w_u]
      by_cases y : k = m.toNat
      · rw [if_pos y, y, s_up_at]
        exact z1
      · rw [if_neg y, s_up_ne (fun z => y z.2), s_up_ne (fun z => absurd z.1 (by decide))]
        exact hhu k hk
    · rw [ro _ (by omega) (by omega) (by omega), ro _ (by omega) (by omega) (by omega), s_up_ne (fun z => absurd z.1 (by decide)), s_up_ne (fun z => absurd z.1 (by decide)), s_up_ne (fun z => absurd z.1 (by decide)), s_up_ne (fun z => absurd z.1 (by decide))]
      exact hpl k hk
    · rw [ro _ (by omega) (by omega) (by omega), s_up_ne (fun z => absurd z.1 (by decide)), s_up_ne (fun z => absurd z.1 (by decide))]
      exact hso k hk
    · rw [ro _ (by omega) (by omega) (by omega), s_up_ne (fun z => absurd z.1 (by decide)), s_up_ne (fun z => absurd z.1 (by decide))]
      exact htu k hk
    · have a1 : zI S44 214 9 = zI S22 214 9 := by rw [hS44, w_If, hS41, w_If, hS39, w_I0 (by decide)]
      rw [a1, k22.I (fun z => absurd z.1 (by decide)), k19.I (fun z => absurd z (by decide)), hS18, w_I0 (by decide), hS17, w_I0 (by decide)]
    · refine hl.sm ?_ ?_ ?_ (ro _ (by omega) (by omega) (by omega)) (ro _ (by omega) (by omega) (by omega)) (ro _ (by omega) (by omega) (by omega)) (t44.I (fun z => by omega))
      · funext d
        apply propext
        unfold s_op
        refine ⟨fun z => ⟨z.1, ?_⟩, fun z => ⟨z.1, ?_⟩⟩
        · have h2 := z.2
          rw [sc d z.1.1.1] at h2
          by_cases y : d = c
          · rw [if_pos y] at h2
            omega
          · rw [if_neg y] at h2
            exact h2
        · rw [sc d z.1.1.1, if_neg (fun y => by have h2 := z.2; have h3 := hcd.1.2; rw [y] at h2; omega)]
          exact z.2
      · funext d
        apply propext
        unfold s_ps
        refine ⟨fun z => ⟨z.1, ?_⟩, fun z => ⟨z.1, ?_⟩⟩
        · have h2 := z.2
          rw [sc d z.1.1.1] at h2
          by_cases y : d = c
          · rw [if_pos y] at h2
            omega
          · rw [if_neg y] at h2
            exact h2
        · rw [sc d z.1.1.1, if_neg (fun y => by have h2 := z.2; have h3 := hcd.1.2; rw [y] at h2; omega)]
          exact z.2
      · funext d
        apply propext
        unfold s_so
        refine ⟨fun z => ⟨z.1, ?_⟩, fun z => ⟨z.1, ?_⟩⟩
        · have h2 := z.2
          rw [sc d z.1.1.1] at h2
          by_cases y : d = c
          · rw [y]
            exact hcd.1.2
          · rw [if_neg y] at h2
            exact h2
        · rw [sc d z.1.1.1]
          split
          · omega
          · exact z.2
    · rw [hS44, w_If, hS41, w_If, hS39, w_I0 (by decide), i10]
      exact e8
    · rw [hS44, w_If, hS41, w_If, hS39, w_I0 (by decide), i11]
      exact e10
    · rw [hS44, w_If, hS41, w_If, hS39, w_I, if_pos ⟨rfl, rfl⟩]
      decide +kernel
  · -- a tub
    have hf : ¬ s_fa G K r A c := fun z => q3 (fa.mpr z)
    obtain ⟨gr, hgrd⟩ : ∃ gr, gr = s_gr G K r A c := ⟨_, rfl⟩
    have row22' : S22.2.1 (p + 1) = S.2.1 (p + 1) := row22 _ (by omega)
    have e25 : (S22.2.1 (p + 1) x10.toNatClampNeg).toInt = s_c A c := by
      rw [row22', e10n]
      have := hce.val (x := c + 8) (by omega) (by omega) (by rw [show c + 8 - 8 = c by omega]; exact hcd.1)
      rw [show c + 8 - 8 = c by omega] at this
      exact this
    obtain ⟨S28, x27, e28, k28, v27⟩ : ∃ (S28 : dg_S) (x27 : Int32), F_r_valueOf o S22 g (2 : Int32) (S22.2.1 (p + 1) x10.toNatClampNeg) = (S28, x27) ∧ k_ru S22 S28 ∧ max 0 (min 9 x27.toInt) = gr := by
      have w2n : (2 : Int32).toNatClampNeg = 2 := by decide +kernel
      have hcode := (hg.2.2.2 2 (by decide)).keep (S1 := S22) (fun i _ _ => row22 i (by omega))
      by_cases hK2 : K 2 = []
      · rw [hK2] at hcode
        refine ⟨S22, _, cx_value0 w2n hcode, kp.rf, ?_⟩
        rw [hgrd, e25]
        unfold s_gr
        rw [s_if_y hK2]
        have := hcd.1.2
        omega
      · obtain ⟨ty, -, n4⟩ := hK 2 (by decide) hK2
        obtain ⟨S28, v, e, ev, k⟩ := cx_value (o := o) (a2 := S22.2.1 (p + 1) x10.toNatClampNeg) hg.1 w2n hcode hK2 ty (eb _ S22 k22.env (n4 (by decide)))
        refine ⟨S28, v, e, k, ?_⟩
        rw [evs _ S22 k22.env (n4 (by decide))] at ev
        rw [hgrd, ev]
        unfold s_gr
        rw [s_if_n hK2]
    obtain ⟨x29, hx29⟩ : ∃ x29, x29 = if x27 < (9 : Int32) then x27 else (9 : Int32) := ⟨_, rfl⟩
    obtain ⟨x30, hx30⟩ : ∃ x30, x30 = if (0 : Int32) < x29 then x29 else (0 : Int32) := ⟨_, rfl⟩
    have e30 : x30.toInt = gr := by
      rw [hx30, hx29, cx_clamp]
      exact v27
    have g09 : 0 ≤ gr ∧ gr ≤ 9 := by omega
    have e30n : x30.toNatClampNeg = gr.toNat := by rw [dk_clN, e30]
    obtain ⟨S31, hS31⟩ : ∃ S31, S31 = dg_uF S28 214 12 (.int x30) := ⟨_, rfl⟩
    obtain ⟨x4, hx4⟩ : ∃ x4, x4 = if S31.2.1 (p + 6) x30.toNatClampNeg + (1 : Int32) < (99 : Int32) then S31.2.1 (p + 6) x30.toNatClampNeg + (1 : Int32) else (99 : Int32) := ⟨_, rfl⟩
    obtain ⟨S32, hS32⟩ : ∃ S32, S32 = dg_uf S31 (p + 6) (upd (S31.2.1 (p + 6)) x30.toNatClampNeg x4) := ⟨_, rfl⟩
    have eS32 : F_p_addTub o S31 p x30 = S32 := F_p_addTub_p0 rfl rfl hx4 hS32
    obtain ⟨S34, hS34⟩ : ∃ S34, S34 = dg_uf S32 (p + 1) (upd (S32.2.1 (p + 1)) x10.toNatClampNeg (255 : Int32)) := ⟨_, rfl⟩
    obtain ⟨S37, hS37⟩ : ∃ S37, S37 = dg_uF S34 214 9 (.int (1 : Int32)) := ⟨_, rfl⟩
    have ed : s_dg G K r A = (s_up (s_up A 6 gr.toNat (min 99 (A 6 gr.toNat + 1))) 1 c.toNat (-1), m, c, gr) := by
      unfold s_dg
      rw [s_if_n nno, ← hcc, ← hm, s_if_n hf, ← hgrd]
    rw [ed]
    dsimp only
    have t28 : k_dg p S S28 := t22.tr (k28.w (fun a b z => Or.inl z.1) (fun a z => Or.inl z))
    have row28 : ∀ i, i ≠ 216 → S28.2.1 i = S.2.1 i := fun i hi => by rw [k28.row hi, row22 i hi]
    have t37 : k_dg p S S37 := by
      rw [hS37, hS34, hS32, hS31]
      exact kp.uF (kp.uf (kp.uf (kp.uF t28 (Or.inr ⟨rfl, by decide⟩)) (Or.inr (Or.inr (Or.inr rfl)))) (Or.inr (Or.inl rfl))) (Or.inr ⟨rfl, by decide⟩)
    have rc : S37.2.1 (p + 1) = upd (S.2.1 (p + 1)) (c + 8).toNat (255 : Int32) := by
      rw [hS37, w_Ff, hS34, w_f, if_pos rfl, hS32, w_f, if_neg (by omega), hS31, w_Ff, row28 _ (by omega), e10n]
    have ro : ∀ i, i ≠ 216 → i ≠ p + 1 → i ≠ p + 6 → S37.2.1 i = S.2.1 i := fun i a1 a2 a3 => by
      rw [hS37, w_Ff, hS34, w_f, if_neg a2, hS32, w_f, if_neg a3, hS31, w_Ff, row28 _ a1]
    have rt0 : S31.2.1 (p + 6) = S.2.1 (p + 6) := by rw [hS31, w_Ff, row28 _ (by omega)]
    have rt : S37.2.1 (p + 6) = upd (S.2.1 (p + 6)) gr.toNat x4 := by
      rw [hS37, w_Ff, hS34, w_f, if_neg (by omega), hS32, w_f, if_pos rfl, rt0, e30n]
    have ht := htu gr.toNat (by omega)
    have hwt := w5 gr.toNat (by omega)
    have e4 : x4.toInt = min 99 (A 6 gr.toNat + 1) := by
      have e3 : (S31.2.1 (p + 6) x30.toNatClampNeg + (1 : Int32)).toInt = A 6 gr.toNat + 1 := by
        rw [rt0, e30n]
        rw [dk_addT rfl z1 (by omega) (by omega), ht]
      have z99 : (99 : Int32).toInt = 99 := by decide +kernel
      rw [hx4]
      by_cases y : S31.2.1 (p + 6) x30.toNatClampNeg + (1 : Int32) < (99 : Int32)
      · have := dk_ltc (k := 99) z99 y
        rw [if_pos y, e3]
        omega
      · have := dk_nltc (k := 99) z99 y
        rw [if_neg y, z99]
        omega
    have cE : cx_ce G (s_up A 1 c.toNat (-1)) S37 p := by
      have := hce.up (S1 := S37) (x := c + 8) (v := -1) (by omega) (by rw [show c + 8 - 8 = c by omega]; exact wc) rc (by decide +kernel) (by omega)
      rw [show c + 8 - 8 = c by omega] at this
      exact this
    refine ⟨S37, ?_, t37, ⟨?_, ?_, ?_, fun k hk => ?_, fun k hk => ?_, fun k hk => ?_, fun k hk => ?_⟩, Or.inl ?_, Or.inr ⟨by omega, ?_, ?_, ?_⟩⟩
    · rw [F4]
      have e28a : S28 = (F_r_valueOf o S22 g (2 : Int32) (S22.2.1 (p + 1) x10.toNatClampNeg)).1 := by rw [e28]
      have e28b : x27 = (F_r_valueOf o S22 g (2 : Int32) (S22.2.1 (p + 1) x10.toNatClampNeg)).2 := by rw [e28]
      rw [F_w_digByPlan_p2 q3 rfl e28a e28b hx29 hx30 hS31 eS32.symm hS34]
      exact F_w_digByPlan_p1 hS37
    · intro z a b
      have := cE z a b
      have e : ∀ d, s_c (s_up (s_up A 6 gr.toNat (min 99 (A 6 gr.toNat + 1))) 1 c.toNat (-1)) d = s_c (s_up A 1 c.toNat (-1)) d := fun d => by
        unfold s_c s_up
        by_cases y : (1 : Nat) = 1 ∧ d.toNat = c.toNat
        · rw [if_pos y, if_pos y]
        · rw [if_neg y, if_neg y, if_neg (fun z => absurd z.1 (by decide))]
      rw [e]
      exact this
    · rw [t37.I (fun z => by omega)]
      rw [s_up_ne (fun z => absurd z.1 (by decide)), s_up_ne (fun z => absurd z.1 (by decide))]
      exact hsh
    · rw [t37.I (fun z => by omega)]
      rw [s_up_ne (fun z => absurd z.1 (by decide)), s_up_ne (fun z => absurd z.1 (by decide))]
      exact hpu
    · rw [ro _ (by omega) (by omega) (by omega), s_up_ne (fun z => absurd z.1 (by decide)), s_up_ne (fun z => absurd z.1 (by decide))]
      exact hhu k hk
    · rw [ro _ (by omega) (by omega) (by omega), ro _ (by omega) (by omega) (by omega), s_up_ne (fun z => absurd z.1 (by decide)), s_up_ne (fun z => absurd z.1 (by decide)), s_up_ne (fun z => absurd z.1 (by decide)), s_up_ne (fun z => absurd z.1 (by decide))]
      exact hpl k hk
    · rw [ro _ (by omega) (by omega) (by omega), s_up_ne (fun z => absurd z.1 (by decide)), s_up_ne (fun z => absurd z.1 (by decide))]
      exact hso k hk
    · rw [rt, w_u, s_up_ne (fun z => absurd z.1 (by decide))]
      by_cases y : k = gr.toNat
      · rw [if_pos y, y, s_up_at]
        exact e4
      · rw [if_neg y, s_up_ne (fun z => y z.2)]
        exact htu k hk
    · rw [hS37, w_I, if_pos ⟨rfl, rfl⟩, z1]
      decide
    · have a1 : zI S37 214 10 = zI S22 214 10 := by rw [hS37, w_I0 (by decide), hS34, w_If, hS32, w_If, hS31, w_I0 (by decide), k28.I (fun z => absurd z.1 (by decide))]
      rw [a1, i10]
      exact e8
    · have a1 : zI S37 214 11 = zI S22 214 11 := by rw [hS37, w_I0 (by decide), hS34, w_If, hS32, w_If, hS31, w_I0 (by decide), k28.I (fun z => absurd z.1 (by decide))]
      rw [a1, i11]
      exact e10
    · rw [hS37, w_I0 (by decide), hS34, w_If, hS32, w_If, hS31, w_I, if_pos ⟨rfl, rfl⟩]
      exact e30
end XM
