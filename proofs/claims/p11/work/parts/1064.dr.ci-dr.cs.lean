section
/-! the reference digs -/
section DG
variable {v o : Nat} {S S1 : dg_S} {G A : aR} {K : Nat → List Int} {L : s_L} {r : Int} {a b a1 a2 : Int32}
theorem s_so_n (hc : s_in G r) : s_so G A r ↔ ¬ s_op G A r := by
  unfold s_so s_op
  exact ⟨fun z y => by have := z.2; have := y.2; omega, fun z => ⟨hc, by
    apply Classical.byContradiction
    intro y
    exact z ⟨hc, by omega⟩⟩⟩
theorem mx_canDig (hb : s_gb G) (hg : mx_gd G S) (h : mx_ce G A S v) (ha : a.toInt = v) (hv : v ≤ 40) (hc : s_in G b.toInt) : F_m_canDigG o S a b = 1 ∧ (s_so G A b.toInt ∧ 0 < s_ob G A b.toInt) ∨ F_m_canDigG o S a b = 0 ∧ ¬ (s_so G A b.toInt ∧ 0 < s_ob G A b.toInt) := by
  have hso := s_so_n (G := G) (A := A) hc
  have eo := mx_ob (o := o) h hg hb ha hv hc
  rcases mx_op (o := o) (b := b) h ha hv hc with ⟨e, q⟩ | ⟨e, q⟩
  · have e : F_m_isOpenG o S a b = 1 := e
    exact Or.inr ⟨F_m_canDigG_p0 rfl (by rw [e]; decide +kernel), fun z => hso.mp z.1 q⟩
  · have e : F_m_isOpenG o S a b = 0 := e
    by_cases p : F_m_openBeside o S a b ≤ (0 : Int32)
    · have d := dk_lec (k := 0) (by decide +kernel) p
      exact Or.inr ⟨F_m_canDigG_p1 rfl e rfl p, fun z => by have := z.2; omega⟩
    · have d := dk_nlec (k := 0) (by decide +kernel) p
      exact Or.inl ⟨F_m_canDigG_p2 rfl e rfl p, hso.mpr q, by omega⟩
/-- what is kept behind a digging; whether a tub was got -/
noncomputable def s_dL (G : aR) (K : Nat → List Int) (r : Int) (A : aR) (L : s_L) : s_L := if (s_dg G K r A).2.1 = -1 then L else s_kp L (A 0 0, (s_dg G K r A).2.1, (s_dg G K r A).2.2.1, (s_dg G K r A).2.2.2)
noncomputable def s_dn (G : aR) (K : Nat → List Int) (r : Int) (A : aR) : Int := if (s_dg G K r A).2.1 = -1 ∨ (s_dg G K r A).2.2.2 = -1 then 0 else 1
/-- a cell of layer v is told anew -/
theorem mx_ce.up {c y : Int} {x : Int32} (h : mx_ce G A S v) (hc : s_in G c) (hy : 0 ≤ s_c A c) (e31 : S1.2.1 31 = upd (S.2.1 31) (mx_ad v c) x) (e32 : S1.2.1 32 = S.2.1 32) (hx : x.toInt = y) (hy1 : -1 ≤ y ∧ y ≤ 9) : mx_ce G (s_up A 1 c.toNat y) S1 v := by
  intro d hd
  obtain ⟨h1, h2, h3, h4⟩ := h d hd
  rw [s_c_up hc.1.1 hd.1.1, e31, e32, w_u]
  have hc0 := hc.1
  have hd0 := hd.1
  by_cases z : d = c
  · subst z
    rw [if_pos rfl, if_pos rfl, hx, h2]
    have u1 : mx_cu (s_c A d) = 0 := by unfold mx_cu; rw [if_neg (by omega)]
    have u2 : mx_cu y = 0 := by unfold mx_cu; rw [if_neg (by omega)]
    rw [u1, u2]
    refine ⟨?_, rfl, by omega, by omega⟩
    unfold mx_en
    split <;> omega
  · rw [if_neg z, if_neg (fun w => z (by unfold mx_ad at w; omega))]
    exact ⟨h1, h2, h3, h4⟩
theorem mx_dig (hG : s_gw G) (hK : s_cd K) (hw : s_wf G A) (hcw : s_cw G A) (hg : mx_g G K S) (hl : mx_lay G A L S v) (ha : a1.toInt = v) (hv : v ≤ 21) (hr : (zI S 0 63).toInt = r) (hr9 : r ≤ 900) : ∃ (S1 : dg_S) (x : Int32), F_m_digs o S a1 = (S1, x) ∧ k_v v S S1 ∧ mx_lay G (s_dg G K r A).1 (s_dL G K r A L) S1 v ∧ x.toInt = s_dn G K r A := by
  have z0 : (0 : Int32).toInt = 0 := by decide +kernel
  have z1 : (1 : Int32).toInt = 1 := by decide +kernel
  have m1 : (-1 : Int32).toInt = -1 := by decide +kernel
  obtain ⟨hG1, hG2, hG6⟩ := hG
  obtain ⟨w0, w1, w2, w3, w4, w5⟩ := id hw
  obtain ⟨hce, hsh, hpu, ⟨hhb, hhu⟩, hpl, hso, htu, hkp⟩ := id hl
  have an : a1.toNatClampNeg = v := by rw [dk_clN]; omega
  have efp : (S.2.1 9 (zI S 0 13).toNatClampNeg).toInt = G 0 6 := hg.1.2.2.2.2
  have none : ∀ S1, s_no G A → F_m_digs o S a1 = (S1, (0 : Int32)) → k_x S S1 → ∃ (S1 : dg_S) (x : Int32), F_m_digs o S a1 = (S1, x) ∧ k_v v S S1 ∧ mx_lay G (s_dg G K r A).1 (s_dL G K r A L) S1 v ∧ x.toInt = s_dn G K r A := fun S1 hn e t => by
    have ed : s_dg G K r A = (A, -1, 0, 0) := by
      unfold s_dg
      exact s_if_y hn
    refine ⟨S1, 0, e, t.kv, ?_, ?_⟩
    · unfold s_dL
      rw [ed, if_pos rfl]
      exact t.lay hl hG6.2
    · unfold s_dn
      rw [ed, if_pos (Or.inl rfl)]
      exact z0
  by_cases q0 : S.2.1 9 (zI S 0 13).toNatClampNeg = (0 : Int32)
  · have := dk_eqc (k := 0) z0 q0
    exact none S (Or.inl (by omega)) (F_m_digs_p7 rfl rfl q0) kp.rf
  have q0' := dk_neqc (k := 0) z0 q0
  obtain ⟨x3, hx3⟩ : ∃ x, x = S.2.1 9 (zI S 0 13).toNatClampNeg := ⟨_, rfl⟩
  rw [← hx3] at efp q0 q0'
  obtain ⟨x7, hx7⟩ : ∃ x, x = S.2.1 29 a1.toNatClampNeg := ⟨_, rfl⟩
  have e7 : x7.toInt = A 0 0 := by rw [hx7, an]; exact hsh
  obtain ⟨x10, hx10⟩ : ∃ x, x = x7 - x7 / x3 * x3 := ⟨_, rfl⟩
  have e10 : x10.toInt = A 0 0 % G 0 6 := by rw [hx10, i_rem (by omega) (by omega), e7, efp]
  have m0 := Int.emod_nonneg (A 0 0) (show G 0 6 ≠ 0 by omega)
  have m9 := Int.emod_lt_of_pos (A 0 0) (show 0 < G 0 6 by omega)
  have hk : ((s_k G A : Nat) : Int) < G 0 6 := by
    unfold s_k
    omega
  have hk0 : ((s_k G A : Nat) : Int) = A 0 0 % G 0 6 := by
    unfold s_k
    omega
  have e5 : ((16 : Int32) * a1).toInt = 16 * (v : Int) := dk_mulT (by decide +kernel) ha (by omega) (by omega)
  obtain ⟨x11, hx11⟩ : ∃ x, x = (16 : Int32) * a1 + x10 := ⟨_, rfl⟩
  have n11 : x11.toNatClampNeg = 16 * v + s_k G A := by
    rw [dk_clN, hx11, dk_addT e5 e10 (by omega) (by omega)]
    omega
  obtain ⟨pm, pc⟩ := hpl _ hk
  obtain ⟨wm, wc⟩ := w3 _ hk
  obtain ⟨m, hm⟩ : ∃ m, m = A 3 (s_k G A) := ⟨_, rfl⟩
  obtain ⟨c, hcc⟩ : ∃ c, c = A 4 (s_k G A) := ⟨_, rfl⟩
  rw [← hm] at pm wm
  rw [← hcc] at pc wc
  obtain ⟨x13, hx13⟩ : ∃ x, x = S.2.1 36 x11.toNatClampNeg := ⟨_, rfl⟩
  have e13 : x13.toInt = c := by rw [hx13, n11]; exact pc
  obtain ⟨S17, h17, f17, k17⟩ := mx_measures (o := o) hG1 hg.1 hce ha (by omega) hcw.2
  have t17 := k17.x
  have l17 := t17.lay hl hG6.2
  have g17 := t17.g hg
  have r17 : ∀ i, ¬ (40 ≤ i ∧ i ≤ 44) → S17.2.1 i = S.2.1 i := fun i hi => (t17.2 i hi).1
  obtain ⟨x19, hx19⟩ : ∃ x, x = S17.2.1 33 a1.toNatClampNeg := ⟨_, rfl⟩
  have e19 : x19 = S.2.1 33 v := by rw [hx19, r17 33 (by decide), an]
  obtain ⟨x21, hx21⟩ : ∃ x, x = S17.2.1 35 x11.toNatClampNeg := ⟨_, rfl⟩
  have e21 : x21.toInt = m := by rw [hx21, r17 35 (by decide), n11]; exact pm
  have hhm := hhu m.toNat (by omega)
  rw [← e19] at hhb hhm
  rcases mx_has2 (S := S17) (o := o) (a := x19) (b := x21) hhb (by omega) with ⟨q1, y1⟩ | ⟨q1, y1⟩
  · rw [e21, ← hhm] at y1
    exact none S17 (Or.inr (Or.inl (by rw [← hm]; exact y1))) (F_m_digs_p0 rfl hx3 q0 rfl hx7 hx10 hx11 h17.symm hx19 hx21 rfl (by rw [q1]; decide +kernel)) t17
  rw [e21, ← hhm] at y1
  have c17 : s_in G x13.toInt := by rw [e13]; exact wc
  rcases mx_canDig (o := o) (b := x13) hG1 g17.1 l17.1 ha (by omega) c17 with ⟨q2, y2⟩ | ⟨q2, y2⟩
  rotate_left
  · rw [e13] at y2
    exact none S17 (Or.inr (Or.inr (by rw [← hcc]; exact y2))) (F_m_digs_p6 rfl hx3 q0 rfl hx7 hx10 hx11 hx13 h17.symm hx19 hx21 rfl q1 rfl q2) t17
  have n2 : ¬ F_m_canDigG o S17 a1 x13 = (0 : Int32) := by rw [q2]; decide +kernel
  rw [e13] at y2
  have nno : ¬ s_no G A := fun z => by
    rcases z with z | z | z
    · omega
    · rw [← hm] at z
      omega
    · rw [← hcc] at z
      exact z y2
  obtain ⟨S34, x33, e34, k34, fa⟩ := mx_falls (o := o) (a2 := x13) hG1 hK hw g17 l17.1 f17 ha (by omega) (by rw [t17.I id]; exact hr) hr9 c17 (by rw [e13]; exact y2.1.2) l17.2.1
  rw [e13] at fa
  have e341 : S34 = (F_m_isFalling o S17 a1 x13).1 := by rw [e34]
  have e342 : x33 = (F_m_isFalling o S17 a1 x13).2 := by rw [e34]
  have t34 : k_x S S34 := t17.tr k34.x
  have ad : ((64 : Int32) * a1 + x13).toNatClampNeg = mx_ad v c := by
    rw [mx_adr ha (by omega) (by rw [e13]; exact wc.1), e13]
  have wc0 := wc.1
  have w31 : mx_w 31 = 64 := rfl
  have w33 : mx_w 33 = 1 := rfl
  have w37 : mx_w 37 = 10 := rfl
  have adn : mx_ad v c = 64 * v + c.toNat := by unfold mx_ad; omega
  rcases fa with ⟨q3, y3⟩ | ⟨q3, y3⟩
  · -- it falls
    have ed : s_dg G K r A = (s_up (s_up A 1 c.toNat 0) 2 m.toNat 1, m, c, -1) := by
      unfold s_dg
      rw [s_if_n nno, ← hcc, ← hm, s_if_y y3]
    obtain ⟨S64, h64⟩ : ∃ S', S' = dg_uf S34 31 (upd (S34.2.1 31) ((64 : Int32) * a1 + x13).toNatClampNeg (0 : Int32)) := ⟨_, rfl⟩
    obtain ⟨S73, h73⟩ : ∃ S', S' = dg_uf S64 33 (upd (S64.2.1 33) a1.toNatClampNeg (x19 ||| ((1 : Int32) <<< (x21 &&& 31)))) := ⟨_, rfl⟩
    have t73 : k_v v S S73 := by
      rw [h73, an]
      refine k_v.uf ?_ (by decide) (by decide) (mw 33 1 _ _ rfl (by omega))
      rw [h64, ad]
      exact k_v.uf t34.kv (by decide) (by decide) (mw 31 64 _ _ rfl (by omega))
    have l34 := t34.lay hl hG6.2
    have o73 : ∀ i, i ≠ 31 → i ≠ 33 → S73.2.1 i = S34.2.1 i := fun i i1 i3 => by rw [h73, w_f, if_neg i3, h64, w_f, if_neg i1]
    obtain ⟨S76, e76, p76, k76, o76⟩ := mx_wd (o := o) (a2 := x21) (a3 := x13) (a4 := (-1 : Int32)) (L := L) (S := S73) ha hv (l34.2.2.2.2.2.2.2.keep (by rw [o73 38 (by decide) (by decide)]) (fun j _ _ => by rw [o73 39 (by decide) (by decide)]))
    rw [e21, e13, m1, o73 29 (by decide) (by decide), l34.2.1] at p76
    have row : ∀ i, i ≠ 31 → i ≠ 33 → i ≠ 38 → i ≠ 39 → S76.2.1 i = S34.2.1 i := fun i i1 i3 i8 i9 => by rw [o76 i i8 i9, o73 i i1 i3]
    obtain ⟨b1, b2⟩ := mx_setbit (a := x19) (b := x21) hhb (by omega)
    have r33 : S76.2.1 33 v = x19 ||| ((1 : Int32) <<< (x21 &&& 31)) := by rw [o76 33 (by decide) (by decide), h73, w_f, if_pos rfl, w_u, an, if_pos rfl]
    refine ⟨S76, 0, ?_, t73.tr k76, ?_, ?_⟩
    · rw [F_m_digs_p5 rfl hx3 q0 rfl hx7 hx10 hx11 hx13 h17.symm hx19 hx21 rfl q1 rfl n2 e341 e342 (by rw [q3]; decide +kernel) rfl rfl h64 rfl rfl h73]
      exact F_m_digs_p4 e76.symm
    · unfold s_dL
      rw [ed, if_neg (show ¬ m = -1 by omega)]
      obtain ⟨y1', y2', y3', y4', y5', y6', y7', y8'⟩ := l34
      have U : ∀ a b, a ≠ 1 → a ≠ 2 → s_up (s_up A 1 c.toNat 0) 2 m.toNat 1 a b = A a b := fun a b i1 i2 => by rw [s_up_ne (fun z => i2 z.1), s_up_ne (fun z => i1 z.1)]
      show mx_lay G (s_up (s_up A 1 c.toNat 0) 2 m.toNat 1) (s_kp L (A 0 0, m, c, -1)) S76 v
      refine ⟨?_, ?_, ?_, ⟨?_, fun k hk => ?_⟩, fun k hk => ?_, ?_, fun k hk => ?_, p76⟩
      · have h9 := y1'.up (S1 := S76) (y := 0) wc y2.1.2 (x := 0) (by rw [o76 31 (by decide) (by decide), h73, w_f, if_neg (by decide), h64, w_f, if_pos rfl, ad]) (row 32 (by decide) (by decide) (by decide) (by decide)) z0 ⟨by decide, by decide⟩
        intro d hd
        rw [s_c_o (by decide)]
        exact h9 d hd
      · rw [row 29 (by decide) (by decide) (by decide) (by decide), U _ _ (by decide) (by decide)]; exact y2'
      · rw [row 30 (by decide) (by decide) (by decide) (by decide), U _ _ (by decide) (by decide)]; exact y3'
      · rw [r33]; exact b1
      · rw [r33, b2 k hk, e21]
        by_cases z : k = m.toNat
        · rw [if_pos z, z, s_up_at]
        · rw [if_neg z, s_up_ne (fun y => z y.2), s_up_ne (fun y => absurd y.1 (by decide)), e19]
          exact hhu k hk
      · rw [row 35 (by decide) (by decide) (by decide) (by decide), row 36 (by decide) (by decide) (by decide) (by decide), U _ _ (by decide) (by decide), U _ _ (by decide) (by decide)]; exact y5' k hk
      · rw [row 34 (by decide) (by decide) (by decide) (by decide)]
        exact ⟨y6'.1, fun k hk => by rw [U _ _ (by decide) (by decide)]; exact y6'.2 k hk⟩
      · rw [row 37 (by decide) (by decide) (by decide) (by decide), U _ _ (by decide) (by decide)]; exact y7' k hk
    · unfold s_dn
      rw [ed, if_pos (Or.inr rfl)]
      exact z0
  · -- a tub is got
    obtain ⟨S37, x36, e37, k37, v36⟩ := mx_got (o := o) (a2 := x13) hG1 hK hw (k34.x.g g17) (k34.x.ce l17.1) (f17.keep (k34.2 42 (by decide)).1) ha (by omega) (by rw [t34.I id]; exact hr) hr9 c17 (by rw [e13]; exact y2.1.2) (t34.lay hl hG6.2).2.1
    rw [e13] at v36
    have e371 : S37 = (F_m_gotG o S34 a1 x13).1 := by rw [e37]
    have e372 : x36 = (F_m_gotG o S34 a1 x13).2 := by rw [e37]
    have t37 : k_x S S37 := t34.tr k37.x
    have l37 := t37.lay hl hG6.2
    obtain ⟨gr, hgr⟩ : ∃ gr, gr = s_gr G K r A c := ⟨_, rfl⟩
    have grb := s_gr_b (G := G) (K := K) (r := r) (A := A) (c := c) ⟨y2.1.2, (hce c wc).2.2.2⟩
    rw [← hgr] at v36 grb
    have ed : s_dg G K r A = (s_up (s_up A 6 gr.toNat (min 99 (A 6 gr.toNat + 1))) 1 c.toNat (-1), m, c, gr) := by
      unfold s_dg
      rw [s_if_n nno, ← hcc, ← hm, s_if_n y3, ← hgr]
    obtain ⟨S41, h41⟩ : ∃ S', S' = dg_uf S37 31 (upd (S37.2.1 31) ((64 : Int32) * a1 + x13).toNatClampNeg (-1 : Int32)) := ⟨_, rfl⟩
    have t41 : k_v v S S41 := by
      rw [h41, ad]
      exact k_v.uf t37.kv (by decide) (by decide) (mw 31 64 _ _ rfl (by omega))
    have o41 : ∀ i, i ≠ 31 → S41.2.1 i = S37.2.1 i := fun i i1 => by rw [h41, w_f, if_neg i1]
    obtain ⟨S45, e45, p45, k45, o45⟩ := mx_wd (o := o) (a2 := x21) (a3 := x13) (a4 := x36) (L := L) (S := S41) ha hv (l37.2.2.2.2.2.2.2.keep (by rw [o41 38 (by decide)]) (fun j _ _ => by rw [o41 39 (by decide)]))
    rw [e21, e13, v36, o41 29 (by decide), l37.2.1] at p45
    have row : ∀ i, i ≠ 31 → i ≠ 38 → i ≠ 39 → S45.2.1 i = S37.2.1 i := fun i i1 i8 i9 => by rw [o45 i i8 i9, o41 i i1]
    obtain ⟨y1', y2', y3', y4', y5', y6', y7', y8'⟩ := l37
    have w56 := w5 gr.toNat (by omega)
    have fin : ∀ S1, (∀ i, i ≠ 37 → S1.2.1 i = S45.2.1 i) → (∀ k, k < 10 → (S1.2.1 37 (10 * v + k)).toInt = (if k = gr.toNat then min 99 (A 6 gr.toNat + 1) else A 6 k)) → mx_lay G (s_dg G K r A).1 (s_dL G K r A L) S1 v ∧ (1 : Int32).toInt = s_dn G K r A := fun S1 hs ht => by
      refine ⟨?_, ?_⟩
      · unfold s_dL
        rw [ed, if_neg (show ¬ m = -1 by omega)]
        have U : ∀ a b, a ≠ 1 → a ≠ 6 → s_up (s_up A 6 gr.toNat (min 99 (A 6 gr.toNat + 1))) 1 c.toNat (-1) a b = A a b := fun a b i1 i2 => by rw [s_up_ne (fun z => i1 z.1), s_up_ne (fun z => i2 z.1)]
        have row1 : ∀ i, i ≠ 31 → i ≠ 37 → i ≠ 38 → i ≠ 39 → S1.2.1 i = S37.2.1 i := fun i i1 i7 i8 i9 => by rw [hs i i7, row i i1 i8 i9]
        show mx_lay G (s_up (s_up A 6 gr.toNat (min 99 (A 6 gr.toNat + 1))) 1 c.toNat (-1)) (s_kp L (A 0 0, m, c, gr)) S1 v
        refine ⟨?_, ?_, ?_, ?_, fun k hk => ?_, ?_, fun k hk => ?_, ?_⟩
        · have h9 := y1'.up (S1 := S1) (y := -1) wc y2.1.2 (x := -1) (by rw [hs 31 (by decide), o45 31 (by decide) (by decide), h41, w_f, if_pos rfl, ad]) (row1 32 (by decide) (by decide) (by decide) (by decide)) m1 ⟨by decide, by decide⟩
          intro d hd
          have e9 : s_c (s_up (s_up A 6 gr.toNat (min 99 (A 6 gr.toNat + 1))) 1 c.toNat (-1)) d = s_c (s_up A 1 c.toNat (-1)) d := by
            rw [s_c_up wc0.1 hd.1.1, s_c_up wc0.1 hd.1.1, s_c_o (by decide)]
          rw [e9]
          exact h9 d hd
        · rw [row1 29 (by decide) (by decide) (by decide) (by decide), U _ _ (by decide) (by decide)]; exact y2'
        · rw [row1 30 (by decide) (by decide) (by decide) (by decide), U _ _ (by decide) (by decide)]; exact y3'
        · rw [row1 33 (by decide) (by decide) (by decide) (by decide)]
          exact ⟨y4'.1, fun k hk => by rw [U _ _ (by decide) (by decide)]; exact y4'.2 k hk⟩
        · rw [row1 35 (by decide) (by decide) (by decide) (by decide), row1 36 (by decide) (by decide) (by decide) (by decide), U _ _ (by decide) (by decide), U _ _ (by decide) (by decide)]; exact y5' k hk
        · rw [row1 34 (by decide) (by decide) (by decide) (by decide)]
          exact ⟨y6'.1, fun k hk => by rw [U _ _ (by decide) (by decide)]; exact y6'.2 k hk⟩
        · rw [ht k hk, s_up_ne (fun z => absurd z.1 (by decide))]
          by_cases z : k = gr.toNat
          · rw [if_pos z, z, s_up_at]
          · rw [if_neg z, s_up_ne (fun y => z y.2)]
        · exact p45.keep (by rw [hs 38 (by decide)]) (fun j _ _ => by rw [hs 39 (by decide)])
      · unfold s_dn
        rw [ed, if_neg (show ¬ (m = -1 ∨ gr = -1) by omega)]
        exact z1
    have e10' : ((10 : Int32) * a1).toInt = 10 * (v : Int) := dk_mulT (by decide +kernel) ha (by omega) (by omega)
    have n47 : ((10 : Int32) * a1 + x36).toNatClampNeg = 10 * v + gr.toNat := by
      rw [dk_clN, dk_addT e10' v36 (by omega) (by omega)]
      omega
    have r37 : ∀ k, k < 10 → (S45.2.1 37 (10 * v + k)).toInt = A 6 k := fun k hk => by
      rw [row 37 (by decide) (by decide) (by decide)]
      exact y7' k hk
    have hd := F_m_digs_p3 rfl hx3 q0 rfl hx7 hx10 hx11 hx13 h17.symm hx19 hx21 rfl q1 rfl n2 e341 e342 q3 e371 e372 rfl rfl h41
    by_cases q4 : (99 : Int32) ≤ S45.2.1 37 ((10 : Int32) * a1 + x36).toNatClampNeg
    · have d := dk_gec (k := 99) (by decide +kernel) q4
      rw [n47, r37 _ (by omega)] at d
      obtain ⟨f1, f2⟩ := fin S45 (fun _ _ => rfl) (fun k hk => by
        rw [r37 k hk]
        by_cases z : k = gr.toNat
        · rw [if_pos z, z]
          omega
        · rw [if_neg z])
      exact ⟨S45, 1, hd.trans (F_m_digs_p1 e45.symm rfl rfl rfl q4), t41.tr k45, f1, f2⟩
    · have d := dk_ngec (k := 99) (by decide +kernel) q4
      rw [n47, r37 _ (by omega)] at d
      obtain ⟨S59, h59⟩ : ∃ S', S' = dg_uf S45 37 (upd (S45.2.1 37) ((10 : Int32) * a1 + x36).toNatClampNeg (S45.2.1 37 ((10 : Int32) * a1 + x36).toNatClampNeg + (1 : Int32))) := ⟨_, rfl⟩
      obtain ⟨f1, f2⟩ := fin S59 (fun i hi => by rw [h59, w_f, if_neg hi]) (fun k hk => by
        rw [h59, w_f, if_pos rfl, w_u, n47]
        by_cases z : k = gr.toNat
        · rw [if_pos (by omega), if_pos z, dk_addT (r37 _ (by omega)) (b := 1) (by decide +kernel) (by omega) (by omega)]
          omega
        · rw [if_neg (by omega), if_neg z]
          exact r37 k hk)
      refine ⟨S59, 1, hd.trans (F_m_digs_p2 e45.symm rfl rfl rfl q4 rfl rfl rfl rfl h59), ?_, f1, f2⟩
      rw [h59, n47]
      exact (t41.tr k45).uf (by decide) (by decide) (mw 37 10 _ _ rfl (by omega))
end DG
end
section
/-! the reference: light spoils -/
noncomputable def s_lb (G : aR) (K : Nat → List Int) (r : Int) (A : aR) (c : Int) : Int := s_if (s_so G A c ∧ s_nl G A r c ≠ -1) (max 0 (min 9 (s_sv G K r A c))) 0
/-- rows 40, 41, 44 alone -/
def k_l (S S1 : dg_S) : Prop := kp (fun _ _ => False) (fun a => a = 40 ∨ a = 41 ∨ a = 44) S S1
theorem k_l.x {S S1 : dg_S} (t : k_l S S1) : k_x S S1 := t.w (fun _ _ z => z) (fun a z => by omega)
theorem k_r.l {S S1 : dg_S} (t : k_r S S1) : k_l S S1 := t.w (fun _ _ z => z) (fun a z => by omega)
theorem mx_ce.congr {G A A' : aR} {S : dg_S} {v : Nat} (h : mx_ce G A S v) (e : ∀ d, s_in G d → s_c A' d = s_c A d) : mx_ce G A' S v := by
  intro d hd
  rw [e d hd]
  exact h d hd
section LG
variable {v o : Nat} {S S0 S1 S9 : dg_S} {G A : aR} {K : Nat → List Int} {L : s_L} {r : Int} {a1 cI : Int32}
theorem mx_J7 {x : Int64} : ∃ (S1 : dg_S) (y : Int32), F_m_lightens_J7 x S cI = .inl (cI + 1, S1) ∧ S1 = dg_uf S 44 (upd (S.2.1 44) cI.toNatClampNeg y) ∧ y.toInt = max 0 (min 9 x.toInt) := by
  have z0 : (0 : Int64).toInt = 0 := by decide +kernel
  have z9 : (9 : Int64).toInt = 9 := by decide +kernel
  have y0 : (0 : Int32).toInt = 0 := by decide +kernel
  have y9 : (9 : Int32).toInt = 9 := by decide +kernel
  by_cases q : (0 : Int32) ≤ lg_cmp x (0 : Int64)
  · have d := l_ge.mp q
    rw [z0] at d
    by_cases p : lg_cmp x (9 : Int64) ≤ (0 : Int32)
    · have d2 := l_le.mp p
      rw [z9] at d2
      refine ⟨_, Int64.toInt32 x, ?_, rfl, ?_⟩
      · rw [F_m_lightens_p13 rfl q rfl p rfl, F_m_lightens_p12 rfl, F_m_lightens_p9 rfl]
      · rw [cx_l2i (by omega) (by omega)]
        omega
    · have d2 : ¬ x.toInt ≤ (9 : Int64).toInt := fun z => p (l_le.mpr z)
      rw [z9] at d2
      refine ⟨_, 9, ?_, rfl, ?_⟩
      · rw [F_m_lightens_p14 rfl q rfl p, F_m_lightens_p12 rfl, F_m_lightens_p9 rfl]
      · rw [y9]
        omega
  · have d : ¬ (0 : Int64).toInt ≤ x.toInt := fun z => q (l_ge.mpr z)
    rw [z0] at d
    refine ⟨_, 0, ?_, rfl, ?_⟩
    · rw [F_m_lightens_p15 rfl q, F_m_lightens_p12 rfl, F_m_lightens_p9 rfl]
    · rw [y0]
      omega
/-- one cell: by how much it is less -/
theorem mx_less (hb : s_gb G) (hK : s_cd K) (hw : s_wf G A) (hg : mx_g G K S) (hce : mx_ce G A S v) (hf : mx_fr G A S) (ha : a1.toInt = v) (hv : v ≤ 40) (hr : (zI S 0 63).toInt = r) (hr9 : r ≤ 900) (hsh : (S.2.1 29 v).toInt = A 0 0) {c : Nat} (hc : cI.toInt = c) (hc6 : c < 64) : ∃ S1, F_m_lightens_B5 a1 o S9 (cI, S) = .inl (cI + 1, S1) ∧ k_l S S1 ∧ (∀ j, j ≠ c → S1.2.1 44 j = S.2.1 44 j) ∧ (S1.2.1 44 c).toInt = s_lb G K r A c := by
  have z0 : (0 : Int32).toInt = 0 := by decide +kernel
  have c64 : ¬ (64 : Int32) ≤ cI := fun z => by have := dk_gec (k := 64) (by decide +kernel) z; omega
  have cn : cI.toNatClampNeg = c := by rw [dk_clN]; omega
  obtain ⟨S19, h19⟩ : ∃ S', S' = dg_uf S 44 (upd (S.2.1 44) cI.toNatClampNeg (0 : Int32)) := ⟨_, rfl⟩
  have k19 : k_l S S19 := by rw [h19]; exact kp.uf kp.rf (Or.inr (Or.inr rfl))
  have t19 := k19.x
  have r19 : ∀ j, S19.2.1 44 j = if j = c then (0 : Int32) else S.2.1 44 j := fun j => by rw [h19, w_f, if_pos rfl, w_u, cn]
  have none : ¬ (s_so G A c ∧ s_nl G A r c ≠ -1) → F_m_lightens_B5 a1 o S9 (cI, S) = F_m_lightens_J6 cI S19 → ∃ S1, F_m_lightens_B5 a1 o S9 (cI, S) = .inl (cI + 1, S1) ∧ k_l S S1 ∧ (∀ j, j ≠ c → S1.2.1 44 j = S.2.1 44 j) ∧ (S1.2.1 44 c).toInt = s_lb G K r A c := fun hn e => by
    refine ⟨S19, by rw [e, F_m_lightens_p9 rfl], k19, fun j hj => by rw [r19, if_neg hj], ?_⟩
    rw [r19, if_pos rfl, z0]
    unfold s_lb
    rw [s_if_n hn]
  have g19 := t19.g hg
  have c19 := t19.ce hce
  have f19 : mx_fr G A S19 := hf.keep (k19.2 42 (by decide)).1
  have R19 : (zI S19 0 63).toInt = r := by rw [t19.I id]; exact hr
  rcases mx_isCellOf (o := o) (a := cI) g19.1 hb with ⟨e1, y1⟩ | ⟨e1, y1⟩
  rotate_left
  · rw [hc] at y1
    exact none (fun z => y1 z.1.1) (F_m_lightens_p10 c64 h19 rfl e1)
  have n1 : ¬ F_m_isCellOf o S19 cI = (0 : Int32) := by rw [e1]; decide +kernel
  rcases mx_op (o := o) (b := cI) c19 ha hv y1 with ⟨e2, y2⟩ | ⟨e2, y2⟩
  · rw [hc] at y2
    exact none (fun z => by have := z.1.2; have := y2.2; omega) (F_m_lightens_p11 c64 h19 rfl n1 rfl (by rw [e2]; decide +kernel))
  obtain ⟨l3, e3⟩ := mx_nl (o := o) (a2 := cI) c19 f19 g19.1 hb ha hv R19 hr9 y1
  have fn := mx_fi_n l3
  by_cases q3 : F_m_litBeside o S19 a1 cI = (100000000 : Int32)
  · have d3 := dk_eqc (k := 100000000) (by decide +kernel) q3
    have := fn.1.mpr d3
    rw [e3, hc] at this
    exact none (fun z => z.2 this) (F_m_lightens_p18 c64 h19 rfl n1 rfl e2 rfl q3)
  have d3 := dk_neqc (k := 100000000) (by decide +kernel) q3
  have nl : s_nl G A r c ≠ -1 := fun z => d3 (fn.1.mp (by rw [e3, hc]; exact z))
  have hso : s_so G A c := by
    have := (s_so_n (A := A) y1).mpr y2
    rw [hc] at this
    exact this
  have nlb : -1 ≤ s_nl G A r c ∧ s_nl G A r c ≤ 63 := by
    have := fn.2.2.2
    rw [e3, hc] at this
    exact this
  have cb : s_c A c ≤ 9 := by
    have := (hce cI.toInt y1).2.2.2
    rw [hc] at this
    exact this
  rw [hc] at y1
  obtain ⟨S61, e61, k61, env⟩ := mx_lays (o := o) (a2 := cI) hb g19.1 c19 f19 ha hv R19 hr9 (by rw [hc]; exact y1) (by rw [hc]; exact hso.2) (by rw [(k19.2 29 (by decide)).1]; exact hsh)
  rw [hc] at env
  obtain ⟨b, hb1, hbk, hcode⟩ := mx_code_g ((k61.x).g g19) (w := 0) (by decide)
  have fin : ∀ (x : Int64) (S5 : dg_S), x.toInt = s_sv G K r A c → k_l S19 S5 → S5.2.1 44 = S19.2.1 44 → F_m_lightens_B5 a1 o S9 (cI, S) = F_m_lightens_J7 x S5 cI → ∃ S1, F_m_lightens_B5 a1 o S9 (cI, S) = .inl (cI + 1, S1) ∧ k_l S S1 ∧ (∀ j, j ≠ c → S1.2.1 44 j = S.2.1 44 j) ∧ (S1.2.1 44 c).toInt = s_lb G K r A c := fun x S5 hx h5 h44 e => by
    obtain ⟨S1, y, f1, f2, f3⟩ := mx_J7 (x := x) (S := S5) (cI := cI)
    refine ⟨S1, e.trans f1, by rw [f2]; exact kp.uf (k19.tr h5) (Or.inr (Or.inr rfl)), fun j hj => ?_, ?_⟩
    · rw [f2, w_f, if_pos rfl, w_u, cn, if_neg hj, h44, r19, if_neg hj]
    · rw [f2, w_f, if_pos rfl, w_u, cn, if_pos rfl, f3, hx]
      unfold s_lb
      rw [s_if_y ⟨hso, nl⟩]
  rcases mx_told0 (o := o) hbk hb1 hcode with ⟨e4, h4⟩ | ⟨e4, h4⟩
  · refine fin 1 S61 ?_ k61.r.l (k61.2 44 (by decide)).1 (F_m_lightens_p16 c64 h19 rfl n1 rfl e2 rfl q3 e61.symm rfl e4)
    unfold s_sv
    rw [s_if_y h4]
    decide +kernel
  · have n4 : ¬ F_m_isTold_0 o S61 = (0 : Int32) := by rw [e4]; decide +kernel
    obtain ⟨hty, -, -⟩ := hK 0 (by decide) h4
    have ev : ∀ s ∈ K 0, -7 ≤ s → s < 0 → mx_env S61 s = s_env G A r c s := fun s _ h7 h0 => env s h7 h0 (fun _ => nl)
    obtain ⟨S7, x6, e6, v6, k7⟩ := mx_reckons0 (o := o) (S := S61) hbk hb1 hcode h4 hty (fun s hs h6 h0 => by
      rw [ev s hs (by omega) h0]
      exact s_env_b6 hw ⟨by omega, by omega⟩ ⟨hso.2, cb⟩ (fun _ => nlb))
    rw [s_ev_congr ev] at v6
    have e61' : S7 = (F_m_reckons_0 o S61).1 := by rw [e6]
    have e62' : x6 = (F_m_reckons_0 o S61).2 := by rw [e6]
    refine fin x6 S7 ?_ (k_r.l (k61.r.tr k7.r)) (by rw [(k7.2 44 (by decide)).1, (k61.2 44 (by decide)).1]) (F_m_lightens_p17 c64 h19 rfl n1 rfl e2 rfl q3 e61.symm rfl n4 e61' e62')
    unfold s_sv
    rw [s_if_n h4]
    exact v6
theorem mx_l5 (hb : s_gb G) (hK : s_cd K) (hw : s_wf G A) (hg : mx_g G K S0) (hce : mx_ce G A S0 v) (hf : mx_fr G A S0) (ha : a1.toInt = v) (hv : v ≤ 40) (hr : (zI S0 0 63).toInt = r) (hr9 : r ≤ 900) (hsh : (S0.2.1 29 v).toInt = A 0 0) {z : dg_S} : ∀ (n c : Nat) (cI : Int32) (S : dg_S), 65 ≤ n + c → c ≤ 64 → cI.toInt = c → k_l S0 S → (∀ j : Nat, j < c → (S.2.1 44 j).toInt = s_lb G K r A j) → ∃ S1, lp (F_m_lightens_B5 a1 o S9) z n (cI, S) = F_m_lightens_J1 a1 o S9 S1 ∧ k_l S0 S1 ∧ ∀ j : Nat, j < 64 → (S1.2.1 44 j).toInt = s_lb G K r A j := by
  intro n
  induction n with
  | zero =>
    intro c cI S h1 h2
    omega
  | succ n ih =>
    intro c cI S h1 h2 hc hk hl
    by_cases q : (64 : Int32) ≤ cI
    · have d := dk_gec (k := 64) (by decide +kernel) q
      have ec : c = 64 := by omega
      subst ec
      exact ⟨S, lp_sr (F_m_lightens_p8 q), hk, hl⟩
    · have d := dk_ngec (k := 64) (by decide +kernel) q
      have ek : (cI + 1).toInt = ((c + 1 : Nat) : Int) := by
        rw [dk_addT (a := (c : Int)) (b := 1) hc (by decide +kernel) (by omega) (by omega)]
        omega
      obtain ⟨S1, e1, k1, o1, v1⟩ := mx_less (o := o) (S9 := S9) (cI := cI) (S := S) hb hK hw (hk.x.g hg) (hk.x.ce hce) (hf.keep (hk.2 42 (by decide)).1) ha hv (by rw [hk.x.I id]; exact hr) hr9 (by rw [(hk.2 29 (by decide)).1]; exact hsh) hc (by omega)
      obtain ⟨S2, e2, k2, v2⟩ := ih (c + 1) (cI + 1) S1 (by omega) (by omega) ek (hk.tr k1) (fun j hj => by
        by_cases y : j = c
        · rw [y]
          exact v1
        · rw [o1 j y]
          exact hl j (by omega))
      exact ⟨S2, (lp_sl e1).trans e2, k2, v2⟩
/-- what is less is less -/
theorem mx_l2 (hb : s_gb G) (hg : mx_g G K S0) (ha : a1.toInt = v) (hv : v ≤ 21) (hA : mx_ce G A S0 v) (hl : ∀ j : Nat, j < 64 → (S0.2.1 44 j).toInt = s_lb G K r A j) {z : dg_S} : ∀ (n c : Nat) (cI : Int32) (S : dg_S), 65 ≤ n + c → c ≤ 64 → cI.toInt = c → k_v v S0 S → (∀ i, i ≠ 31 → S.2.1 i = S0.2.1 i) → mx_ce G (s_spD G K r A (fun d => d < c)) S v → ∃ S1, lp (F_m_lightens_B2 a1 o) z n (cI, S) = S1 ∧ k_v v S0 S1 ∧ (∀ i, i ≠ 31 → S1.2.1 i = S0.2.1 i) ∧ mx_ce G (s_spD G K r A (fun d => d < 64)) S1 v := by
  intro n
  induction n with
  | zero =>
    intro c cI S h1 h2
    omega
  | succ n ih =>
    intro c cI S h1 h2 hc hk ho hce
    by_cases q : (64 : Int32) ≤ cI
    · have d := dk_gec (k := 64) (by decide +kernel) q
      have ec : c = 64 := by omega
      subst ec
      exact ⟨S, lp_sr (F_m_lightens_p0 q), hk, ho, hce⟩
    have d := dk_ngec (k := 64) (by decide +kernel) q
    have z0 : (0 : Int32).toInt = 0 := by decide +kernel
    have cn : cI.toNatClampNeg = c := by rw [dk_clN]; omega
    have ek : (cI + 1).toInt = ((c + 1 : Nat) : Int) := by
      rw [dk_addT (a := (c : Int)) (b := 1) hc (by decide +kernel) (by omega) (by omega)]
      omega
    have c0 : (0 : Int) ≤ (c : Int) := by omega
    -- a cell that stays
    have stay : ¬ (s_so G A c ∧ s_nl G A r c ≠ -1) → F_m_lightens_B2 a1 o (cI, S) = F_m_lightens_J3 cI S → ∃ S1, lp (F_m_lightens_B2 a1 o) z (n + 1) (cI, S) = S1 ∧ k_v v S0 S1 ∧ (∀ i, i ≠ 31 → S1.2.1 i = S0.2.1 i) ∧ mx_ce G (s_spD G K r A (fun d => d < 64)) S1 v := fun hn e => by
      have e0 : s_spD G K r A (fun d => d < ((c + 1 : Nat) : Int)) = s_spD G K r A (fun d => d < (c : Int)) := s_spD_congr (fun x hx hx2 => by
        refine ⟨fun y => ?_, fun y => by omega⟩
        by_cases w : x = c
        · subst w
          exact absurd ⟨hx, hx2⟩ hn
        · omega)
      obtain ⟨S1, f1, f2, f3, f4⟩ := ih (c + 1) (cI + 1) S (by omega) (by omega) ek hk ho (by rw [e0]; exact hce)
      refine ⟨S1, ?_, f2, f3, f4⟩
      rw [lp_sl (e.trans (F_m_lightens_p1 rfl))]
      exact f1
    rcases mx_isCellOf (o := o) (a := cI) (hk.gd hg.1) hb with ⟨e1, y1⟩ | ⟨e1, y1⟩
    rotate_left
    · rw [hc] at y1
      exact stay (fun z => y1 z.1.1) (F_m_lightens_p2 q rfl e1)
    have n1 : ¬ F_m_isCellOf o S cI = (0 : Int32) := by rw [e1]; decide +kernel
    have ad := mx_adr (a := a1) (b := cI) ha (by omega) (by omega)
    rw [hc] at y1 ad
    obtain ⟨h31, -, -, -⟩ := hce c y1
    have same : s_c (s_spD G K r A (fun d => d < (c : Int))) c = s_c A c := by
      rw [s_spD_c c0, s_if_n (fun z => absurd z.1 (by omega))]
    rw [same] at h31
    have cb := (hA c y1).2.2.2
    by_cases q2 : S.2.1 31 ((64 : Int32) * a1 + cI).toNatClampNeg = (-1 : Int32)
    · have d2 := dk_eqc (k := -1) (by decide +kernel) q2
      rw [ad, h31] at d2
      refine stay (fun z => ?_) (F_m_lightens_p3 q rfl rfl rfl rfl n1 q2)
      have := z.1.2
      unfold mx_en at d2
      rw [if_neg (by omega)] at d2
      omega
    have d2 := dk_neqc (k := -1) (by decide +kernel) q2
    rw [ad, h31] at d2
    have hs0 : 0 ≤ s_c A c := by
      apply Classical.byContradiction
      intro w
      unfold mx_en at d2
      rw [if_pos (by omega)] at d2
      exact d2 rfl
    have hso : s_so G A c := ⟨y1, hs0⟩
    unfold mx_en at h31
    rw [if_neg (by omega)] at h31
    have e44 : (S.2.1 44 cI.toNatClampNeg).toInt = s_lb G K r A c := by
      rw [cn, ho 44 (by decide)]
      exact hl c (by omega)
    have lbb : 0 ≤ s_lb G K r A c ∧ s_lb G K r A c ≤ 9 := by
      unfold s_lb
      by_cases w : s_so G A c ∧ s_nl G A r c ≠ -1
      · rw [s_if_y w]
        omega
      · rw [s_if_n w]
        omega
    have x31 : (S.2.1 31 ((64 : Int32) * a1 + cI).toNatClampNeg).toInt = s_c A c := by rw [ad]; exact h31
    have adn : mx_ad v c = 64 * v + c := by unfold mx_ad; omega
    have w31 : mx_w 31 = 64 := rfl
    -- a cell that is told anew
    have go : ∀ y : Int32, y.toInt = max 0 (s_c A c - s_lb G K r A c) → F_m_lightens_B2 a1 o (cI, S) = F_m_lightens_J4 S ((64 : Int32) * a1 + cI) y cI → ∃ S1, lp (F_m_lightens_B2 a1 o) z (n + 1) (cI, S) = S1 ∧ k_v v S0 S1 ∧ (∀ i, i ≠ 31 → S1.2.1 i = S0.2.1 i) ∧ mx_ce G (s_spD G K r A (fun d => d < 64)) S1 v := fun y hy e => by
      obtain ⟨S2, h2'⟩ : ∃ S', S' = dg_uf S 31 (upd (S.2.1 31) ((64 : Int32) * a1 + cI).toNatClampNeg y) := ⟨_, rfl⟩
      have ce2 := hce.up (S1 := S2) (c := c) (y := max 0 (s_c A c - s_lb G K r A c)) (x := y) y1 (by rw [same]; exact hs0) (by rw [h2', w_f, if_pos rfl, ad]) (by rw [h2', w_f, if_neg (by decide)]) hy (by omega)
      have ce3 : mx_ce G (s_spD G K r A (fun d => d < ((c + 1 : Nat) : Int))) S2 v := ce2.congr (fun x hx => by
        have hx0 := hx.1.1
        rw [s_c_up c0 hx0, s_spD_c hx0, s_spD_c hx0]
        by_cases w : x = c
        · rw [if_pos w, w]
          unfold s_lb
          by_cases u : s_so G A c ∧ s_nl G A r c ≠ -1
          · rw [s_if_y ⟨by omega, u⟩, s_if_y u]
            omega
          · rw [s_if_n (fun y => u y.2), s_if_n u]
            omega
        · rw [if_neg w]
          by_cases u : (x < (c : Int)) ∧ s_so G A x ∧ s_nl G A r x ≠ -1
          · rw [s_if_y ⟨by omega, u.2⟩, s_if_y u]
          · rw [s_if_n (fun y => u ⟨by omega, y.2⟩), s_if_n u])
      obtain ⟨S1, f1, f2, f3, f4⟩ := ih (c + 1) (cI + 1) S2 (by omega) (by omega) ek (by rw [h2', ad]; exact hk.uf (by decide) (by decide) (mw 31 64 _ _ rfl (by omega))) (fun i hi => by rw [h2', w_f, if_neg hi]; exact ho i hi) ce3
      refine ⟨S1, ?_, f2, f3, f4⟩
      rw [lp_sl ((e.trans (F_m_lightens_p4 h2')).trans (F_m_lightens_p1 rfl))]
      exact f1
    by_cases q3 : S.2.1 31 ((64 : Int32) * a1 + cI).toNatClampNeg ≤ S.2.1 44 cI.toNatClampNeg
    · have d3 := w_le.mp q3
      rw [x31, e44] at d3
      exact go 0 (by rw [z0]; omega) (F_m_lightens_p5 q rfl rfl rfl rfl n1 q2 rfl rfl rfl q3)
    · have d3 : ¬ (S.2.1 31 ((64 : Int32) * a1 + cI).toNatClampNeg).toInt ≤ (S.2.1 44 cI.toNatClampNeg).toInt := fun w => q3 (w_le.mpr w)
      rw [x31, e44] at d3
      refine go (S.2.1 31 ((64 : Int32) * a1 + cI).toNatClampNeg - S.2.1 44 cI.toNatClampNeg) ?_ (F_m_lightens_p6 q rfl rfl rfl rfl n1 q2 rfl rfl rfl q3 rfl)
      rw [dk_subT x31 e44 (by omega) (by omega)]
      omega
theorem mx_light (hG : s_gw G) (hK : s_cd K) (hw : s_wf G A) (hcw : s_cw G A) (hg : mx_g G K S) (hl : mx_lay G A L S v) (ha : a1.toInt = v) (hv : v ≤ 21) (hr : (zI S 0 63).toInt = r) (hr9 : r ≤ 900) : ∃ S1, F_m_lightens o S a1 = S1 ∧ k_v v S S1 ∧ mx_lay G (s_sp G K r A) L S1 v := by
  have z0 : (0 : Int32).toInt = 0 := by decide +kernel
  obtain ⟨hG1, hG2, hG6⟩ := hG
  obtain ⟨S5, h5, f5, k5⟩ := mx_measures (o := o) hG1 hg.1 hl.1 ha (by omega) hcw.2
  have t5 := k5.x
  have l5 := t5.lay hl hG6.2
  obtain ⟨S1, e1, k1, v1⟩ := mx_l5 (o := o) (S9 := S) (z := S) hG1 hK hw (t5.g hg) l5.1 f5 ha (by omega) (by rw [t5.I id]; exact hr) hr9 l5.2.1 ((65 - ((0 : Int32)).toInt).toNat + 1) 0 0 S5 (by rw [z0]; decide) (by decide) z0 kp.rf (fun j hj => absurd hj (Nat.not_lt_zero j))
  have t1 := t5.tr k1.x
  have l1 := k_x.lay t1 hl hG6.2
  have s0 : mx_ce G (s_spD G K r A (fun d => d < ((0 : Nat) : Int))) S1 v := l1.1.congr (fun d hd => by
    rw [s_spD_c hd.1.1, s_if_n (fun w => by have := w.1; have := hd.1.1; omega)])
  obtain ⟨S2, e2, k2, o2, c2⟩ := mx_l2 (o := o) (z := S) hG1 (k_x.g t1 hg) ha hv l1.1 v1 ((65 - ((0 : Int32)).toInt).toNat + 1) 0 0 S1 (by rw [z0]; decide) (by decide) z0 k_v.rf (fun _ _ => rfl) s0
  refine ⟨S2, ?_, (k_x.kv t1).tr k2, ?_⟩
  · rw [F_m_lightens_p19 h5.symm, e1, F_m_lightens_p7]
    exact e2
  · have es : s_spD G K r A (fun d => d < 64) = s_sp G K r A := s_spD_congr (fun x hx _ => ⟨fun _ => trivial, fun _ => hx.1.1.2⟩)
    rw [es] at c2
    obtain ⟨y1, y2, y3, y4, y5, y6, y7, y8⟩ := l1
    have U : ∀ a b, a ≠ 1 → s_sp G K r A a b = A a b := fun a b h => s_sp_o h
    refine ⟨c2, ?_, ?_, ?_, fun k hk => ?_, ?_, fun k hk => ?_, y8.keep (by rw [o2 38 (by decide)]) (fun j _ _ => by rw [o2 39 (by decide)])⟩
    · rw [o2 29 (by decide), U _ _ (by decide)]; exact y2
    · rw [o2 30 (by decide), U _ _ (by decide)]; exact y3
    · rw [o2 33 (by decide)]; exact ⟨y4.1, fun k hk => by rw [U _ _ (by decide)]; exact y4.2 k hk⟩
    · rw [o2 35 (by decide), o2 36 (by decide), U _ _ (by decide), U _ _ (by decide)]; exact y5 k hk
    · rw [o2 34 (by decide)]; exact ⟨y6.1, fun k hk => by rw [U _ _ (by decide)]; exact y6.2 k hk⟩
    · rw [o2 37 (by decide), U _ _ (by decide)]; exact y7 k hk
/-- one shift, its number not held back -/
noncomputable def s_tu (G : aR) (K : Nat → List Int) (r : Int) (A : aR) : aR := s_up (s_sp G K r (s_dg G K r A).1) 0 0 (A 0 0 + 1)
theorem s_tu_tk (h : A 0 0 < 999) : s_tu G K r A = s_tk G K r A := by
  unfold s_tu s_tk
  rw [show min 999 (A 0 0 + 1) = A 0 0 + 1 by omega]
/-- ONE SHIFT OF THE REFERENCE -/
theorem mx_tick (hG : s_gw G) (hK : s_cd K) (hw : s_wf G A) (hcw : s_cw G A) (hg : mx_g G K S) (hl : mx_lay G A L S v) (ha : a1.toInt = v) (hv : v ≤ 21) (hr : (zI S 0 63).toInt = r) (hr9 : r ≤ 900) : ∃ (S1 : dg_S) (x : Int32), F_m_ticks o S a1 = (S1, x) ∧ k_v v S S1 ∧ mx_lay G (s_tu G K r A) (s_dL G K r A L) S1 v ∧ x.toInt = s_dn G K r A := by
  have z0 : (0 : Int32).toInt = 0 := by decide +kernel
  have z1 : (1 : Int32).toInt = 1 := by decide +kernel
  have an : a1.toNatClampNeg = v := by rw [dk_clN]; omega
  obtain ⟨S2, x1, e1, k1, l1, d1⟩ := mx_dig (o := o) hG hK hw hcw hg hl ha hv hr hr9
  have e11 : S2 = (F_m_digs o S a1).1 := by rw [e1]
  have e12 : x1 = (F_m_digs o S a1).2 := by rw [e1]
  obtain ⟨S12, e2, k2, l2⟩ := mx_light (o := o) hG hK (s_dg_wf (K := K) (r := r) hG hw hcw) (s_dg_cw (K := K) (r := r) hG hw hcw) (k1.g hg) l1 ha hv (by rw [k1.I]; exact hr) hr9
  have w0 := hw.1
  obtain ⟨s0, hs0⟩ : ∃ x, x = S.2.1 29 a1.toNatClampNeg := ⟨_, rfl⟩
  have es0 : s0.toInt = A 0 0 := by rw [hs0, an]; exact hl.2.1
  have ex : (s0 + (1 : Int32)).toInt = A 0 0 + 1 := dk_addT es0 z1 (by omega) (by omega)
  obtain ⟨S17, h17⟩ : ∃ S', S' = dg_uf S12 29 (upd (S12.2.1 29) a1.toNatClampNeg (s0 + (1 : Int32))) := ⟨_, rfl⟩
  have w29 : mx_w 29 = 1 := rfl
  have t17 : k_v v S S17 := by
    rw [h17, an]
    exact (k1.tr k2).uf (by decide) (by decide) (mw 29 1 _ _ rfl (by omega))
  have lay : mx_lay G (s_tu G K r A) (s_dL G K r A L) S17 v := by
    obtain ⟨y1, y2, y3, y4, y5, y6, y7, y8⟩ := l2
    have U : ∀ a b, a ≠ 0 ∨ b ≠ 0 → s_tu G K r A a b = s_sp G K r (s_dg G K r A).1 a b := fun a b h => by
      unfold s_tu
      rw [s_up_ne (fun z => by omega)]
    have ro : ∀ i, i ≠ 29 → S17.2.1 i = S12.2.1 i := fun i hi => by rw [h17, w_f, if_neg hi]
    refine ⟨?_, ?_, ?_, ?_, fun k hk => ?_, ?_, fun k hk => ?_, y8.keep (by rw [ro 38 (by decide)]) (fun j _ _ => by rw [ro 39 (by decide)])⟩
    · have h9 := y1.keep (S1 := S17) (ro 31 (by decide)) (ro 32 (by decide))
      exact h9.congr (fun d _ => by unfold s_c; rw [U _ _ (Or.inl (by decide))])
    · rw [h17, w_f, if_pos rfl, w_u, an, if_pos rfl, ex]
      unfold s_tu
      rw [s_up_at]
    · rw [ro 30 (by decide), U _ _ (Or.inr (by decide))]; exact y3
    · rw [ro 33 (by decide)]; exact ⟨y4.1, fun k hk => by rw [U _ _ (Or.inl (by decide))]; exact y4.2 k hk⟩
    · rw [ro 35 (by decide), ro 36 (by decide), U _ _ (Or.inl (by decide)), U _ _ (Or.inl (by decide))]; exact y5 k hk
    · rw [ro 34 (by decide)]; exact ⟨y6.1, fun k hk => by rw [U _ _ (Or.inl (by decide))]; exact y6.2 k hk⟩
    · rw [ro 37 (by decide), U _ _ (Or.inl (by decide))]; exact y7 k hk
  have dn : s_dn G K r A = 0 ∨ s_dn G K r A = 1 := by
    unfold s_dn
    split
    · exact Or.inl rfl
    · exact Or.inr rfl
  by_cases q : x1 = (0 : Int32)
  · have d := dk_eqc (k := 0) z0 q
    refine ⟨S17, 0, ?_, t17, lay, by rw [← d1, d, z0]⟩
    rw [F_m_ticks_p1 hs0 e11 e12 q]
    exact F_m_ticks_p0 e2.symm rfl h17
  · have d := dk_neqc (k := 0) z0 q
    refine ⟨S17, 1, ?_, t17, lay, by rw [z1]; omega⟩
    rw [F_m_ticks_p2 hs0 e11 e12 q]
    exact F_m_ticks_p0 e2.symm rfl h17
end LG
end
section
/-! the reference: a layer is copied -/
/-- a loop that counts -/
theorem lp_cnt {σ ρ : Type} {f : Int32 × σ → (Int32 × σ) ⊕ ρ} {z : ρ} {W : Nat} {P : Nat → σ → Prop} {Q : ρ → Prop} (hW : W < 2000000000) (hs : ∀ (c : Nat) (cI : Int32) (s : σ), c < W → cI.toInt = c → P c s → ∃ s1, f (cI, s) = .inl (cI + 1, s1) ∧ P (c + 1) s1) (he : ∀ (cI : Int32) (s : σ), cI.toInt = W → P W s → ∃ r, f (cI, s) = .inr r ∧ Q r) : ∀ (n c : Nat) (cI : Int32) (s : σ), W + 1 ≤ n + c → c ≤ W → cI.toInt = c → P c s → Q (lp f z n (cI, s)) := by
  intro n
  induction n with
  | zero =>
    intro c cI s h1 h2
    omega
  | succ n ih =>
    intro c cI s h1 h2 h3 h4
    by_cases q : c < W
    · obtain ⟨s1, e1, p1⟩ := hs c cI s q h3 h4
      rw [lp_sl e1]
      refine ih (c + 1) (cI + 1) s1 (by omega) (by omega) ?_ p1
      rw [dk_addT h3 (b := 1) (by decide +kernel) (by omega) (by omega)]
      omega
    · have ec : c = W := by omega
      subst ec
      obtain ⟨r, e1, q1⟩ := he cI s h3 h4
      rw [lp_sr e1]
      exact q1
/-- c places from q on are copied to p -/
def cpl (r : Nat → Int32) (p q c : Nat) : Nat → Int32 := fun j => if p ≤ j ∧ j < p + c then r (q + (j - p)) else r j
theorem cpl_0 {r : Nat → Int32} {p q : Nat} : cpl r p q 0 = r := by
  funext j
  unfold cpl
  rw [if_neg (by omega)]
theorem cpl_s {r : Nat → Int32} {p q c : Nat} (hd : ¬ (p ≤ q + c ∧ q + c < p + c)) : upd (cpl r p q c) (p + c) (cpl r p q c (q + c)) = cpl r p q (c + 1) := by
  funext j
  rw [w_u]
  unfold cpl
  by_cases z : j = p + c
  · rw [if_pos z, if_neg hd, if_pos (by omega), z, show p + c - p = c by omega]
  · rw [if_neg z]
    by_cases y : p ≤ j ∧ j < p + c
    · rw [if_pos y, if_pos (by omega)]
    · rw [if_neg y, if_neg (by omega)]
theorem cpl_in {r : Nat → Int32} {p q c k : Nat} (h : k < c) : cpl r p q c (p + k) = r (q + k) := by
  unfold cpl
  rw [if_pos (by omega), show p + k - p = k by omega]
theorem cpl_out {r : Nat → Int32} {p q c j : Nat} (h : ¬ (p ≤ j ∧ j < p + c)) : cpl r p q c j = r j := by
  unfold cpl
  rw [if_neg h]
/-- place c of a layer's block -/
theorem mx_pl {a b w : Int32} {v c n : Nat} (ha : a.toInt = v) (hv : v ≤ 40) (hb : b.toInt = c) (hc : c < 160) (hw : w.toInt = n) (hn : n ≤ 160) (h : (n : Int) * v ≤ 6400) : (w * a + b).toNatClampNeg = n * v + c := by
  have h0 : 0 ≤ (n : Int) * v := Int.mul_nonneg (by omega) (by omega)
  have e1 : (w * a).toInt = (n : Int) * v := dk_mulT hw ha (by omega) (by omega)
  rw [dk_clN, dk_addT e1 hb (by omega) (by omega)]
  have e2 : ((n * v : Nat) : Int) = (n : Int) * v := Int.natCast_mul n v
  omega
section CP
variable {v u o : Nat} {S S0 S1 T : dg_S} {G A : aR} {L : s_L} {a1 a2 : Int32}
/-- two rows of a block so far -/
def cp2 (x y p q : Nat) (T : dg_S) (c : Nat) (S : dg_S) : Prop := S.2.1 x = cpl (T.2.1 x) p q c ∧ S.2.1 y = cpl (T.2.1 y) p q c ∧ kp (fun _ _ => False) (fun a => a = x ∨ a = y) T S
theorem cp2.zr {x y p q : Nat} : cp2 x y p q T 0 T := ⟨cpl_0.symm, cpl_0.symm, kp.rf⟩
theorem cp2.st {x y p q c : Nat} {i j i' j' : Int32} (h : cp2 x y p q T c S) (hxy : x ≠ y) (hd : ¬ (p ≤ q + c ∧ q + c < p + c)) (hi : i.toNatClampNeg = p + c) (hj : j.toNatClampNeg = q + c) (hi' : i'.toNatClampNeg = p + c) (hj' : j'.toNatClampNeg = q + c) (e1 : S0 = dg_uf S x (upd (S.2.1 x) i.toNatClampNeg (S.2.1 x j.toNatClampNeg))) (e2 : S1 = dg_uf S0 y (upd (S0.2.1 y) i'.toNatClampNeg (S0.2.1 y j'.toNatClampNeg))) : cp2 x y p q T (c + 1) S1 := by
  obtain ⟨h1, h2, h3⟩ := h
  have r0 : S0.2.1 y = S.2.1 y := by rw [e1, w_f, if_neg (fun z => hxy z.symm)]
  refine ⟨?_, ?_, ?_⟩
  · rw [e2, w_f, if_neg hxy, e1, w_f, if_pos rfl, hi, hj, h1]
    exact cpl_s hd
  · rw [e2, w_f, if_pos rfl, r0, hi', hj', h2]
    exact cpl_s hd
  · rw [e2, e1]
    exact kp.uf (kp.uf h3 (Or.inl rfl)) (Or.inr rfl)
def cp1 (x p q : Nat) (T : dg_S) (c : Nat) (S : dg_S) : Prop := S.2.1 x = cpl (T.2.1 x) p q c ∧ kp (fun _ _ => False) (fun a => a = x) T S
theorem cp1.zr {x p q : Nat} : cp1 x p q T 0 T := ⟨cpl_0.symm, kp.rf⟩
theorem cp1.st {x p q c : Nat} {i j : Int32} (h : cp1 x p q T c S) (hd : ¬ (p ≤ q + c ∧ q + c < p + c)) (hi : i.toNatClampNeg = p + c) (hj : j.toNatClampNeg = q + c) (e1 : S1 = dg_uf S x (upd (S.2.1 x) i.toNatClampNeg (S.2.1 x j.toNatClampNeg))) : cp1 x p q T (c + 1) S1 := by
  obtain ⟨h1, h3⟩ := h
  refine ⟨?_, ?_⟩
  · rw [e1, w_f, if_pos rfl, hi, hj, h1]
    exact cpl_s hd
  · rw [e1]
    exact kp.uf h3 rfl
/-- what a copied layer is made of -/
def mx_cp (S S1 : dg_S) (v u n : Nat) : Prop := kp (fun _ _ => False) (fun a => 29 ≤ a ∧ a ≤ 39) S S1 ∧ (∀ a, a = 29 ∨ a = 30 ∨ a = 33 ∨ a = 34 ∨ a = 38 → S1.2.1 a = upd (S.2.1 a) v (S.2.1 a u)) ∧ (∀ a, a = 31 ∨ a = 32 → S1.2.1 a = cpl (S.2.1 a) (64 * v) (64 * u) 64) ∧ (∀ a, a = 35 ∨ a = 36 → S1.2.1 a = cpl (S.2.1 a) (16 * v) (16 * u) 16) ∧ S1.2.1 37 = cpl (S.2.1 37) (10 * v) (10 * u) 10 ∧ S1.2.1 39 = cpl (S.2.1 39) (160 * v) (160 * u) (4 * n)
theorem mx_cp5 (h1 : a1.toInt = v) (h2 : a2.toInt = u) (hv : v ≤ 21) (hu : u ≤ 21) (hne : v ≠ u) {n : Nat} (hn : n ≤ 40) (hc : (S.2.1 38 u).toInt = n) {z : dg_S} : ∃ S1, F_m_copies_J4 S a2 a1 z = S1 ∧ S1.2.1 38 = upd (S.2.1 38) v (S.2.1 38 u) ∧ S1.2.1 39 = cpl (S.2.1 39) (160 * v) (160 * u) (4 * n) ∧ kp (fun _ _ => False) (fun a => a = 38 ∨ a = 39) S S1 := by
  have z0 : (0 : Int32).toInt = 0 := by decide +kernel
  have n1 : a1.toNatClampNeg = v := by rw [dk_clN]; omega
  have n2 : a2.toNatClampNeg = u := by rw [dk_clN]; omega
  have e160 : (160 : Int32).toInt = ((160 : Nat) : Int) := by decide +kernel
  obtain ⟨T, hT⟩ : ∃ T, T = dg_uf S 38 (upd (S.2.1 38) a1.toNatClampNeg (S.2.1 38 a2.toNatClampNeg)) := ⟨_, rfl⟩
  have T38 : T.2.1 38 = upd (S.2.1 38) v (S.2.1 38 u) := by rw [hT, w_f, if_pos rfl, n1, n2]
  have T39 : T.2.1 39 = S.2.1 39 := by rw [hT, w_f, if_neg (by decide)]
  have kT : kp (fun _ _ => False) (fun a => a = 38 ∨ a = 39) S T := by rw [hT]; exact kp.uf kp.rf (Or.inl rfl)
  have Tu : (T.2.1 38 u).toInt = n := by rw [T38, w_u, if_neg (fun y => hne y.symm)]; exact hc
  have lim : ∀ S', kp (fun _ _ => False) (fun a => a = 39) T S' → ((4 : Int32) * S'.2.1 38 a2.toNatClampNeg).toInt = 4 * (n : Int) := fun S' t => by
    rw [n2, (t.2 38 (by decide)).1]
    exact dk_mulT (by decide +kernel) Tu (by omega) (by omega)
  have main := lp_cnt (f := F_m_copies_B5 a2 a1) (z := z) (W := 4 * n) (P := fun c S' => cp1 39 (160 * v) (160 * u) T c S') (Q := fun S1 => cp1 39 (160 * v) (160 * u) T (4 * n) S1) (by omega) (fun c cI S' hcW hcI hP => by
    have l := lim S' hP.2
    refine ⟨_, F_m_copies_p1 rfl rfl (fun q => by have := w_le.mp q; omega) rfl rfl rfl rfl rfl rfl rfl, ?_⟩
    exact hP.st (by omega) (mx_pl h1 (by omega) hcI (by omega) e160 (by omega) (by omega)) (mx_pl h2 (by omega) hcI (by omega) e160 (by omega) (by omega)) rfl) (fun cI S' hcI hP => by
    have l := lim S' hP.2
    exact ⟨S', F_m_copies_p0 rfl rfl (w_le.mpr (by omega)), hP⟩) ((161 - ((0 : Int32)).toInt).toNat + 1) 0 0 T (by rw [z0]; omega) (by omega) z0 cp1.zr
  refine ⟨_, F_m_copies_p2 rfl hT, ?_, ?_, ?_⟩
  · rw [(main.2.2 38 (by decide)).1]
    exact T38
  · rw [main.1, T39]
  · exact kT.tr (main.2.w (fun _ _ y => y) (fun a y => Or.inr y))
theorem mx_cp6 (h1 : a1.toInt = v) (h2 : a2.toInt = u) (hv : v ≤ 21) (hu : u ≤ 21) (hne : v ≠ u) {z : dg_S} : ∃ S1, F_m_copies_J3 a2 a1 z S = F_m_copies_J4 S1 a2 a1 z ∧ cp1 37 (10 * v) (10 * u) S 10 S1 := by
  have z0 : (0 : Int32).toInt = 0 := by decide +kernel
  have e10 : (10 : Int32).toInt = ((10 : Nat) : Int) := by decide +kernel
  rw [F_m_copies_p5]
  refine lp_cnt (f := F_m_copies_B6 a2 a1 z) (z := z) (W := 10) (P := fun c S' => cp1 37 (10 * v) (10 * u) S c S') (Q := fun r => ∃ S1, r = F_m_copies_J4 S1 a2 a1 z ∧ cp1 37 (10 * v) (10 * u) S 10 S1) (by omega) (fun c cI S' hcW hcI hP => ?_) (fun cI S' hcI hP => ?_) ((11 - ((0 : Int32)).toInt).toNat + 1) 0 0 S (by rw [z0]; decide) (by decide) z0 cp1.zr
  · refine ⟨_, F_m_copies_p4 (fun q => by have := dk_gec (k := 10) (by decide +kernel) q; omega) rfl rfl rfl rfl rfl rfl rfl, ?_⟩
    exact hP.st (by omega) (mx_pl h1 (by omega) hcI (by omega) e10 (by omega) (by omega)) (mx_pl h2 (by omega) hcI (by omega) e10 (by omega) (by omega)) rfl
  · exact ⟨_, F_m_copies_p3 (dk_gep (k := 10) (by decide +kernel) (by omega)), S', rfl, hP⟩
theorem mx_cp7 (h1 : a1.toInt = v) (h2 : a2.toInt = u) (hv : v ≤ 21) (hu : u ≤ 21) (hne : v ≠ u) {z : dg_S} : ∃ S1, F_m_copies_J2 a2 a1 z S = F_m_copies_J3 a2 a1 z S1 ∧ cp2 35 36 (16 * v) (16 * u) S 16 S1 := by
  have z0 : (0 : Int32).toInt = 0 := by decide +kernel
  have e16 : (16 : Int32).toInt = ((16 : Nat) : Int) := by decide +kernel
  rw [F_m_copies_p8]
  refine lp_cnt (f := F_m_copies_B7 a2 a1 z) (z := z) (W := 16) (P := fun c S' => cp2 35 36 (16 * v) (16 * u) S c S') (Q := fun r => ∃ S1, r = F_m_copies_J3 a2 a1 z S1 ∧ cp2 35 36 (16 * v) (16 * u) S 16 S1) (by omega) (fun c cI S' hcW hcI hP => ?_) (fun cI S' hcI hP => ?_) ((17 - ((0 : Int32)).toInt).toNat + 1) 0 0 S (by rw [z0]; decide) (by decide) z0 cp2.zr
  · have i1 := mx_pl h1 (w := 16) (by omega) hcI (by omega) e16 (by omega) (by omega)
    have i2 := mx_pl h2 (w := 16) (by omega) hcI (by omega) e16 (by omega) (by omega)
    refine ⟨_, F_m_copies_p7 (fun q => by have := dk_gec (k := 16) (by decide +kernel) q; omega) rfl rfl rfl rfl rfl rfl rfl rfl rfl rfl rfl rfl rfl, ?_⟩
    exact hP.st (by decide) (by omega) i1 i2 i1 i2 rfl rfl
  · exact ⟨_, F_m_copies_p6 (dk_gep (k := 16) (by decide +kernel) (by omega)), S', rfl, hP⟩
theorem mx_cp8 (h1 : a1.toInt = v) (h2 : a2.toInt = u) (hv : v ≤ 21) (hu : u ≤ 21) (hne : v ≠ u) {z : dg_S} : ∃ S1, F_m_copies_J1 a2 a1 z S = F_m_copies_J2 a2 a1 z S1 ∧ cp2 31 32 (64 * v) (64 * u) S 64 S1 := by
  have z0 : (0 : Int32).toInt = 0 := by decide +kernel
  have e64 : (64 : Int32).toInt = ((64 : Nat) : Int) := by decide +kernel
  rw [F_m_copies_p11]
  refine lp_cnt (f := F_m_copies_B8 a2 a1 z) (z := z) (W := 64) (P := fun c S' => cp2 31 32 (64 * v) (64 * u) S c S') (Q := fun r => ∃ S1, r = F_m_copies_J2 a2 a1 z S1 ∧ cp2 31 32 (64 * v) (64 * u) S 64 S1) (by omega) (fun c cI S' hcW hcI hP => ?_) (fun cI S' hcI hP => ?_) ((65 - ((0 : Int32)).toInt).toNat + 1) 0 0 S (by rw [z0]; decide) (by decide) z0 cp2.zr
  · have i1 := mx_pl h1 (w := 64) (by omega) hcI (by omega) e64 (by omega) (by omega)
    have i2 := mx_pl h2 (w := 64) (by omega) hcI (by omega) e64 (by omega) (by omega)
    refine ⟨_, F_m_copies_p10 (fun q => by have := dk_gec (k := 64) (by decide +kernel) q; omega) rfl rfl rfl rfl rfl rfl rfl rfl rfl rfl rfl rfl rfl, ?_⟩
    exact hP.st (by decide) (by omega) i1 i2 i1 i2 rfl rfl
  · exact ⟨_, F_m_copies_p9 (dk_gep (k := 64) (by decide +kernel) (by omega)), S', rfl, hP⟩
theorem mx_copies0 (h1 : a1.toInt = v) (h2 : a2.toInt = u) (hv : v ≤ 21) (hu : u ≤ 21) (hne : v ≠ u) {n : Nat} (hn : n ≤ 40) (hc : (S.2.1 38 u).toInt = n) : ∃ S1, F_m_copies o S a1 a2 = S1 ∧ mx_cp S S1 v u n := by
  have n1 : a1.toNatClampNeg = v := by rw [dk_clN]; omega
  have n2 : a2.toNatClampNeg = u := by rw [dk_clN]; omega
  obtain ⟨S4, h4⟩ : ∃ T, T = dg_uf S 29 (upd (S.2.1 29) a1.toNatClampNeg (S.2.1 29 a2.toNatClampNeg)) := ⟨_, rfl⟩
  obtain ⟨S9, h9⟩ : ∃ T, T = dg_uf S4 30 (upd (S4.2.1 30) a1.toNatClampNeg (S4.2.1 30 a2.toNatClampNeg)) := ⟨_, rfl⟩
  obtain ⟨S13, h13⟩ : ∃ T, T = dg_uf S9 33 (upd (S9.2.1 33) a1.toNatClampNeg (S9.2.1 33 a2.toNatClampNeg)) := ⟨_, rfl⟩
  obtain ⟨S17, h17⟩ : ∃ T, T = dg_uf S13 34 (upd (S13.2.1 34) a1.toNatClampNeg (S13.2.1 34 a2.toNatClampNeg)) := ⟨_, rfl⟩
  have k17 : kp (fun _ _ => False) (fun a => a = 29 ∨ a = 30 ∨ a = 33 ∨ a = 34) S S17 := by
    rw [h17, h13, h9, h4]
    exact kp.uf (kp.uf (kp.uf (kp.uf kp.rf (Or.inl rfl)) (Or.inr (Or.inl rfl))) (Or.inr (Or.inr (Or.inl rfl)))) (Or.inr (Or.inr (Or.inr rfl)))
  have r29 : S17.2.1 29 = upd (S.2.1 29) v (S.2.1 29 u) := by rw [h17, w_f, if_neg (by decide), h13, w_f, if_neg (by decide), h9, w_f, if_neg (by decide), h4, w_f, if_pos rfl, n1, n2]
  have r30 : S17.2.1 30 = upd (S.2.1 30) v (S.2.1 30 u) := by
    have e : S4.2.1 30 = S.2.1 30 := by rw [h4, w_f, if_neg (by decide)]
    rw [h17, w_f, if_neg (by decide), h13, w_f, if_neg (by decide), h9, w_f, if_pos rfl, n1, n2, e]
  have r33 : S17.2.1 33 = upd (S.2.1 33) v (S.2.1 33 u) := by
    have e : S9.2.1 33 = S.2.1 33 := by rw [h9, w_f, if_neg (by decide), h4, w_f, if_neg (by decide)]
    rw [h17, w_f, if_neg (by decide), h13, w_f, if_pos rfl, n1, n2, e]
  have r34 : S17.2.1 34 = upd (S.2.1 34) v (S.2.1 34 u) := by
    have e : S13.2.1 34 = S.2.1 34 := by rw [h13, w_f, if_neg (by decide), h9, w_f, if_neg (by decide), h4, w_f, if_neg (by decide)]
    rw [h17, w_f, if_pos rfl, n1, n2, e]
  obtain ⟨T1, g1, p1⟩ := mx_cp8 (S := S17) (z := S) h1 h2 hv hu hne
  obtain ⟨T2, g2, p2⟩ := mx_cp7 (S := T1) (z := S) h1 h2 hv hu hne
  obtain ⟨T3, g3, p3⟩ := mx_cp6 (S := T2) (z := S) h1 h2 hv hu hne
  have b1 : ∀ a, a ≠ 31 → a ≠ 32 → T1.2.1 a = S17.2.1 a := fun a x y => (p1.2.2.2 a (by omega)).1
  have b2 : ∀ a, a ≠ 35 → a ≠ 36 → T2.2.1 a = T1.2.1 a := fun a x y => (p2.2.2.2 a (by omega)).1
  have b3 : ∀ a, a ≠ 37 → T3.2.1 a = T2.2.1 a := fun a x => (p3.2.2 a x).1
  have b0 : ∀ a, a ≠ 29 → a ≠ 30 → a ≠ 33 → a ≠ 34 → S17.2.1 a = S.2.1 a := fun a x y z w => (k17.2 a (by omega)).1
  have e38 : T3.2.1 38 = S.2.1 38 := by rw [b3 38 (by decide), b2 38 (by decide) (by decide), b1 38 (by decide) (by decide), b0 38 (by decide) (by decide) (by decide) (by decide)]
  have e39 : T3.2.1 39 = S.2.1 39 := by rw [b3 39 (by decide), b2 39 (by decide) (by decide), b1 39 (by decide) (by decide), b0 39 (by decide) (by decide) (by decide) (by decide)]
  obtain ⟨S1, g4, q38, q39, p4⟩ := mx_cp5 (S := T3) (z := S) h1 h2 hv hu hne hn (by rw [e38]; exact hc)
  have b4 : ∀ a, a ≠ 38 → a ≠ 39 → S1.2.1 a = T3.2.1 a := fun a x y => (p4.2 a (by omega)).1
  have W : ∀ {LA : Nat → Prop} {X Y : dg_S}, kp (fun _ _ => False) LA X Y → (∀ a, LA a → 29 ≤ a ∧ a ≤ 39) → kp (fun _ _ => False) (fun a => 29 ≤ a ∧ a ≤ 39) X Y := fun t h => t.w (fun _ _ y => y) h
  refine ⟨S1, ?_, ?_, ?_, ?_, ?_, ?_, ?_⟩
  · rw [F_m_copies_p12 rfl h4 rfl h9 rfl h13 rfl h17, g1, g2, g3]
    exact g4
  · exact ((((W k17 (fun a y => by omega)).tr (W p1.2.2 (fun a y => by omega))).tr (W p2.2.2 (fun a y => by omega))).tr (W p3.2 (fun a y => by omega))).tr (W p4 (fun a y => by omega))
  · intro a ha
    rcases ha with rfl | rfl | rfl | rfl | rfl
    · rw [b4 29 (by decide) (by decide), b3 29 (by decide), b2 29 (by decide) (by decide), b1 29 (by decide) (by decide)]; exact r29
    · rw [b4 30 (by decide) (by decide), b3 30 (by decide), b2 30 (by decide) (by decide), b1 30 (by decide) (by decide)]; exact r30
    · rw [b4 33 (by decide) (by decide), b3 33 (by decide), b2 33 (by decide) (by decide), b1 33 (by decide) (by decide)]; exact r33
    · rw [b4 34 (by decide) (by decide), b3 34 (by decide), b2 34 (by decide) (by decide), b1 34 (by decide) (by decide)]; exact r34
    · rw [q38, e38]
  · intro a ha
    rcases ha with rfl | rfl
    · rw [b4 31 (by decide) (by decide), b3 31 (by decide), b2 31 (by decide) (by decide), p1.1, b0 31 (by decide) (by decide) (by decide) (by decide)]
    · rw [b4 32 (by decide) (by decide), b3 32 (by decide), b2 32 (by decide) (by decide), p1.2.1, b0 32 (by decide) (by decide) (by decide) (by decide)]
  · intro a ha
    rcases ha with rfl | rfl
    · rw [b4 35 (by decide) (by decide), b3 35 (by decide), p2.1, b1 35 (by decide) (by decide), b0 35 (by decide) (by decide) (by decide) (by decide)]
    · rw [b4 36 (by decide) (by decide), b3 36 (by decide), p2.2.1, b1 36 (by decide) (by decide), b0 36 (by decide) (by decide) (by decide) (by decide)]
  · rw [b4 37 (by decide) (by decide), p3.1, b2 37 (by decide) (by decide), b1 37 (by decide) (by decide), b0 37 (by decide) (by decide) (by decide) (by decide)]
  · rw [q39, e39]
/-- A LAYER IS COPIED -/
theorem mx_copies (h1 : a1.toInt = v) (h2 : a2.toInt = u) (hv : v ≤ 21) (hu : u ≤ 21) (hne : v ≠ u) (hl : mx_lay G A L S u) (hb : G 0 6 ≤ 16) : ∃ S1, F_m_copies o S a1 a2 = S1 ∧ k_v v S S1 ∧ mx_lay G A L S1 v := by
  obtain ⟨y1, y2, y3, y4, y5, y6, y7, y8, y9, y10⟩ := hl
  obtain ⟨S1, e, c1, c2, c3, c4, c5, c6⟩ := mx_copies0 (o := o) h1 h2 hv hu hne y9 y8
  have up : ∀ a, a = 29 ∨ a = 30 ∨ a = 33 ∨ a = 34 ∨ a = 38 → S1.2.1 a v = S.2.1 a u := fun a ha => by rw [c2 a ha, w_u, if_pos rfl]
  refine ⟨S1, e, ⟨c1.w (fun _ _ z => z) (fun a z => by omega), fun a a0 a1 j hj => ?_⟩, ?_, ?_, ?_, ?_, fun k hk => ?_, ?_, fun k hk => ?_, ?_, y9, fun i hi => ?_⟩
  · have c : (a = 29 ∨ a = 30 ∨ a = 33 ∨ a = 34 ∨ a = 38) ∨ (a = 31 ∨ a = 32) ∨ (a = 35 ∨ a = 36) ∨ a = 37 ∨ a = 39 := by omega
    rcases c with c | c | c | c | c
    · have w : mx_w a = 1 := by rcases c with rfl | rfl | rfl | rfl | rfl <;> rfl
      rw [w] at hj
      rw [c2 a c, w_u, if_neg (by omega)]
    · have w : mx_w a = 64 := by rcases c with rfl | rfl <;> rfl
      rw [w] at hj
      rw [c3 a c, cpl_out hj]
    · have w : mx_w a = 16 := by rcases c with rfl | rfl <;> rfl
      rw [w] at hj
      rw [c4 a c, cpl_out hj]
    · subst c
      have w : mx_w 37 = 10 := rfl
      rw [w] at hj
      rw [c5, cpl_out hj]
    · subst c
      have w : mx_w 39 = 160 := rfl
      rw [w] at hj
      rw [c6, cpl_out (by omega)]
  · intro c hc
    have hc0 := hc.1
    have ad : ∀ w : Nat, mx_ad w c = 64 * w + c.toNat := fun w => by unfold mx_ad; omega
    have h9 := y1 c hc
    rw [ad] at h9
    rw [ad, c3 31 (Or.inl rfl), c3 32 (Or.inr rfl), cpl_in (by omega), cpl_in (by omega)]
    exact h9
  · rw [up 29 (by decide)]; exact y2
  · rw [up 30 (by decide)]; exact y3
  · rw [up 33 (by decide)]; exact y4
  · rw [c4 35 (Or.inl rfl), c4 36 (Or.inr rfl), cpl_in (by omega), cpl_in (by omega)]
    exact y5 k hk
  · rw [up 34 (by decide)]; exact y6
  · rw [c5, cpl_in (by omega)]
    exact y7 k hk
  · rw [up 38 (by decide)]; exact y8
  · have h9 := y10 i hi
    rw [c6, cpl_in (k := 4 * i) (by omega), show 160 * v + 4 * i + 1 = 160 * v + (4 * i + 1) by omega, show 160 * v + 4 * i + 2 = 160 * v + (4 * i + 2) by omega, show 160 * v + 4 * i + 3 = 160 * v + (4 * i + 3) by omega, cpl_in (k := 4 * i + 1) (by omega), cpl_in (k := 4 * i + 2) (by omega), cpl_in (k := 4 * i + 3) (by omega)]
    exact h9
end CP
end
section
/-! the reference: ahead of each act, and back -/
abbrev s_U : Type := List (aR × s_L)
/-- the last 20 -/
def s_ud (U : s_U) (e : aR × s_L) : s_U := (if U.length = 20 then U.tail else U) ++ [e]
theorem s_ud_len {U : s_U} {e : aR × s_L} (h : U.length ≤ 20) : (s_ud U e).length = min 20 (U.length + 1) := by
  unfold s_ud
  by_cases q : U.length = 20
  · rw [if_pos q, List.length_append, List.length_tail]
    simp only [List.length_cons, List.length_nil]
    omega
  · rw [if_neg q, List.length_append]
    simp only [List.length_cons, List.length_nil]
    omega
theorem tl_get {α : Type} (U : List α) (i : Nat) : U.tail[i]? = U[i + 1]? := by
  cases U <;> simp
theorem ap_get {α : Type} {X : List α} {e y : α} {i : Nat} (h : (X ++ [e])[i]? = some y) : (i < X.length ∧ X[i]? = some y) ∨ (i = X.length ∧ y = e) := by
  by_cases q : i < X.length
  · rw [List.getElem?_append_left q] at h
    exact Or.inl ⟨q, h⟩
  · rw [List.getElem?_append_right (by omega)] at h
    by_cases z : i = X.length
    · subst z
      rw [Nat.sub_self] at h
      exact Or.inr ⟨rfl, (Option.some.inj h).symm⟩
    · exfalso
      obtain ⟨m, hm⟩ : ∃ m, i - X.length = m + 1 := ⟨i - X.length - 1, by omega⟩
      rw [hm] at h
      simp at h
theorem get_lt {α : Type} {X : List α} {y : α} {i : Nat} (h : X[i]? = some y) : i < X.length := by
  apply Classical.byContradiction
  intro q
  rw [List.getElem?_eq_none (by omega)] at h
  cases h
def mx_ud (G : aR) (S : dg_S) (U : s_U) : Prop := (zI S 0 61).toInt = U.length ∧ U.length ≤ 20 ∧ ∃ f : Nat, f < 20 ∧ (zI S 0 60).toInt = f ∧ ∀ i e, U[i]? = some e → mx_lay G e.1 e.2 S (2 + (f + i) % 20)
section UD
variable {v u o : Nat} {S S0 S1 T : dg_S} {G A : aR} {L : s_L} {U : s_U} {K : Nat → List Int} {a1 a2 : Int32}
theorem k_v.ud (t : k_v v S S1) (h : mx_ud G S U) (hv : v ≤ 1) (hb : G 0 6 ≤ 16) : mx_ud G S1 U := by
  obtain ⟨h1, h2, f, h3, h4, h5⟩ := h
  exact ⟨by rw [t.I]; exact h1, h2, f, h3, by rw [t.I]; exact h4, fun i e he => t.lay (h5 i e he) (by omega) hb⟩
theorem mx_slot {f n : Nat} (hf : f < 20) (h60 : (zI S 0 60).toInt = f) (hn : n ≤ 20) (ha : a1.toInt = n) : (F_m_slot o S a1).toInt = ((2 + (f + n) % 20 : Nat) : Int) := by
  have e1 : (zI S 0 60 + a1).toInt = ((f + n : Nat) : Int) := by
    rw [dk_addT h60 ha (by omega) (by omega)]
    omega
  have e2 : (zI S 0 60 + a1 - (zI S 0 60 + a1) / (20 : Int32) * (20 : Int32)).toInt = (((f + n) % 20 : Nat) : Int) := by
    rw [dk_remL (b := 20) (by omega) (by decide +kernel) (by omega), e1]
    omega
  rw [F_m_slot_p0 rfl rfl rfl rfl, dk_addT (a := 2) (by decide +kernel) e2 (by omega) (by omega)]
  omega
/-- fields 60, 61 and the layers from 2 on -/
def k_u (S S1 : dg_S) : Prop := kp (fun a b => a = 0 ∧ (b = 60 ∨ b = 61)) (fun a => 29 ≤ a ∧ a ≤ 44) S S1 ∧ ∀ a, 29 ≤ a → a ≤ 39 → ∀ j, j < 2 * mx_w a → S1.2.1 a j = S.2.1 a j
theorem mx_w1 (a : Nat) : 1 ≤ mx_w a := by
  unfold mx_w
  split
  · decide
  · split
    · decide
    · split
      · decide
      · split <;> decide
theorem k_v.ku (t : k_v v S S1) (hv : 2 ≤ v) : k_u S S1 := by
  refine ⟨t.1.w (fun _ _ z => absurd z id) (fun a z => z), fun a a0 a1 j hj => t.2 a a0 a1 j (fun z => ?_)⟩
  have h := Nat.mul_le_mul_left (mx_w a) hv
  rw [Nat.mul_comm (mx_w a) 2] at h
  omega
theorem k_u.tr (t : k_u S S0) (t1 : k_u S0 S1) : k_u S S1 := ⟨t.1.tr t1.1, fun a a0 a1 j hj => (t1.2 a a0 a1 j hj).trans (t.2 a a0 a1 j hj)⟩
theorem k_u.F {b : Nat} {w : Value} (hb : b = 60 ∨ b = 61) : k_u S (dg_uF S 0 b w) := ⟨kp.uF kp.rf ⟨rfl, hb⟩, fun _ _ _ _ _ => rfl⟩
theorem k_u.lay (t : k_u S S1) (h : mx_lay G A L S v) (hv : v < 2) (hb : G 0 6 ≤ 16) : mx_lay G A L S1 v := h.keep hb (fun a a0 a1 j j0 j1 => t.2 a a0 a1 j (by
  have h9 := Nat.mul_le_mul_left (mx_w a) (show v + 1 ≤ 2 by omega)
  rw [Nat.mul_comm (mx_w a) 2, Nat.mul_add, Nat.mul_one] at h9
  omega))
theorem k_u.gd (t : k_u S S1) (h : mx_gd G S) : mx_gd G S1 := by
  obtain ⟨h1, h2, h3, h4, h5⟩ := h
  have e : ∀ i, i ≤ 19 → S1.2.1 i = S.2.1 i := fun i hi => (t.1.2 i (by omega)).1
  have e47 : zI S1 0 47 = zI S 0 47 := t.1.I (by decide)
  have e13 : zI S1 0 13 = zI S 0 13 := t.1.I (by decide)
  refine ⟨by rw [e47]; exact h1, ?_, ?_, ?_, ?_⟩
  · rw [e13, e 2 (by decide)]; exact h2
  · rw [e13, e 3 (by decide)]; exact h3
  · rw [e13, e 4 (by decide)]; exact h4
  · rw [e13, e 9 (by decide)]; exact h5
theorem k_u.g (t : k_u S S1) (h : mx_g G K S) : mx_g G K S1 := by
  obtain ⟨h1, b, h2, h3, h4⟩ := h
  exact ⟨t.gd h1, b, h2, by rw [t.1.I (by decide)]; exact h3, fun w hw => (h4 w hw).keep (fun i hi => (t.1.2 i (by omega)).1)⟩
/-- ahead of an act -/
theorem mx_keeps1 {f n : Nat} (hb : G 0 6 ≤ 16) (hl : mx_lay G A L S 0) (hn : n = U.length) (hn9 : n ≤ 19) (hf : f < 20) (h60 : (zI S 0 60).toInt = f) (ha : a1.toInt = n) (hU : ∀ i e, U[i]? = some e → mx_lay G e.1 e.2 S (2 + (f + i) % 20)) : ∃ S1, F_m_keeps_J1 o S a1 = S1 ∧ k_u S S1 ∧ mx_ud G S1 (U ++ [(A, L)]) := by
  have z0 : (0 : Int32).toInt = 0 := by decide +kernel
  have es := mx_slot (o := o) hf h60 (by omega) ha
  obtain ⟨S2, e2, k2, l2⟩ := mx_copies (o := o) (S := S) (v := 2 + (f + n) % 20) (u := 0) (a1 := F_m_slot o S a1) (a2 := 0) es z0 (by omega) (by omega) (by omega) hl hb
  obtain ⟨S3, h3⟩ : ∃ T, T = dg_uF S2 0 61 (.int (a1 + (1 : Int32))) := ⟨_, rfl⟩
  have r3 : S3.2.1 = S2.2.1 := by rw [h3]; rfl
  refine ⟨S3, F_m_keeps_p0 rfl e2.symm rfl h3, ?_, ?_, ?_, f, hf, ?_, fun i e he => ?_⟩
  · rw [h3]
    exact (k2.ku (by omega)).tr (k_u.F (Or.inr rfl))
  · rw [h3, w_I, if_pos ⟨rfl, rfl⟩, dk_addT ha (b := 1) (by decide +kernel) (by omega) (by omega), List.length_append]
    simp only [List.length_cons, List.length_nil]
    omega
  · rw [List.length_append]
    simp only [List.length_cons, List.length_nil]
    omega
  · rw [h3, w_I, if_neg (by decide), k2.I]
    exact h60
  · have L3 : ∀ {B : aR} {M : s_L} {w : Nat}, mx_lay G B M S2 w → mx_lay G B M S3 w := fun h => h.keep hb (fun a _ _ j _ _ => by rw [r3])
    rcases ap_get he with ⟨q, y⟩ | ⟨q, y⟩
    · exact L3 (k2.lay (hU i e y) (by omega) hb)
    · subst y
      rw [q, ← hn]
      exact L3 l2
theorem mx_keeps (hb : G 0 6 ≤ 16) (hl : mx_lay G A L S 0) (hu : mx_ud G S U) : ∃ S1, F_m_keeps o S = S1 ∧ k_u S S1 ∧ mx_ud G S1 (s_ud U (A, L)) := by
  obtain ⟨h1, h2, f, h3, h4, h5⟩ := hu
  unfold s_ud
  by_cases q : zI S 0 61 = (20 : Int32)
  · have d := dk_eqc (k := 20) (by decide +kernel) q
    have hl20 : U.length = 20 := by omega
    rw [if_pos hl20]
    have e1 : (zI S 0 60 + (1 : Int32)).toInt = (f : Int) + 1 := dk_addT h4 (by decide +kernel) (by omega) (by omega)
    have e2 : (zI S 0 60 + (1 : Int32) - (zI S 0 60 + (1 : Int32)) / (20 : Int32) * (20 : Int32)).toInt = (((f + 1) % 20 : Nat) : Int) := by
      rw [dk_remL (b := 20) (by omega) (by decide +kernel) (by omega), e1]
      omega
    obtain ⟨S41, h41⟩ : ∃ T, T = dg_uF S 0 60 (.int (zI S 0 60 + (1 : Int32) - (zI S 0 60 + (1 : Int32)) / (20 : Int32) * (20 : Int32))) := ⟨_, rfl⟩
    obtain ⟨S43, h43⟩ : ∃ T, T = dg_uF S41 0 61 (.int (zI S 0 61 - (1 : Int32))) := ⟨_, rfl⟩
    have t43 : k_u S S43 := by
      rw [h43, h41]
      exact (k_u.F (Or.inl rfl)).tr (k_u.F (Or.inr rfl))
    have r43 : S43.2.1 = S.2.1 := by rw [h43, h41]; rfl
    have L3 : ∀ {B : aR} {M : s_L} {w : Nat}, mx_lay G B M S w → mx_lay G B M S43 w := fun h => h.keep hb (fun a _ _ j _ _ => by rw [r43])
    have ht : U.tail.length = 19 := by rw [List.length_tail, hl20]
    obtain ⟨S1, g1, g2, g3⟩ := mx_keeps1 (o := o) (S := S43) (n := 19) (f := (f + 1) % 20) (U := U.tail) (a1 := zI S 0 61 - (1 : Int32)) hb (L3 hl) ht.symm (by omega) (by omega) (by rw [h43, w_I, if_neg (by decide), h41, w_I, if_pos ⟨rfl, rfl⟩]; exact e2) (by rw [dk_subT d (b := 1) (by decide +kernel) (by omega) (by omega)]; rfl) (fun i e he => by
      rw [tl_get] at he
      have := L3 (h5 (i + 1) e he)
      rw [show (f + 1) % 20 + i = (f + 1) % 20 + i by rfl, show ((f + 1) % 20 + i) % 20 = (f + (i + 1)) % 20 by omega]
      exact this)
    exact ⟨S1, (F_m_keeps_p2 rfl q rfl rfl rfl h41 rfl h43).trans g1, t43.tr g2, g3⟩
  · have d := dk_neqc (k := 20) (by decide +kernel) q
    rw [if_neg (fun z => d (by rw [h1, z]; rfl))]
    obtain ⟨S1, g1, g2, g3⟩ := mx_keeps1 (o := o) (S := S) (n := U.length) (f := f) (U := U) (a1 := zI S 0 61) hb hl rfl (by omega) h3 h4 h1 h5
    exact ⟨S1, (F_m_keeps_p1 rfl q).trans g1, g2, g3⟩
/-- an act is undone -/
theorem mx_undo1 (hb : G 0 6 ≤ 16) (hu : mx_ud G S (U ++ [(A, L)])) : ∃ S1, F_m_undo o S = (S1, (1 : Int32)) ∧ mx_lay G A L S1 0 ∧ mx_ud G S1 U ∧ kp (fun a b => a = 0 ∧ b = 61) (fun a => 29 ≤ a ∧ a ≤ 44) S S1 := by
  have z0 : (0 : Int32).toInt = 0 := by decide +kernel
  obtain ⟨h1, h2, f, h3, h4, h5⟩ := hu
  rw [List.length_append] at h1 h2
  simp only [List.length_cons, List.length_nil] at h1 h2
  have q : ¬ zI S 0 61 = (0 : Int32) := fun z => by
    have := dk_eqc z0 z
    omega
  have e3 : (zI S 0 61 - (1 : Int32)).toInt = (U.length : Int) := by
    rw [dk_subT h1 (b := 1) (by decide +kernel) (by omega) (by omega)]
    omega
  obtain ⟨S4, h9⟩ : ∃ T, T = dg_uF S 0 61 (.int (zI S 0 61 - (1 : Int32))) := ⟨_, rfl⟩
  have r4 : S4.2.1 = S.2.1 := by rw [h9]; rfl
  have i60 : (zI S4 0 60).toInt = f := by rw [h9, w_I, if_neg (by decide)]; exact h4
  have es := mx_slot (o := o) h3 i60 (by omega) e3
  have L4 : ∀ {B : aR} {M : s_L} {w : Nat}, mx_lay G B M S w → mx_lay G B M S4 w := fun h => h.keep hb (fun a _ _ j _ _ => by rw [r4])
  have hl := L4 (h5 U.length (A, L) (by rw [List.getElem?_append_right (Nat.le_refl _), Nat.sub_self]; rfl))
  obtain ⟨S5, e5, k5, l5⟩ := mx_copies (o := o) (S := S4) (v := 0) (u := 2 + (f + U.length) % 20) (a1 := 0) (a2 := F_m_slot o S4 (zI S 0 61 - (1 : Int32))) z0 es (by omega) (by omega) (by omega) hl hb
  refine ⟨S5, F_m_undo_p0 rfl q rfl h9 rfl e5.symm, l5, ⟨?_, by omega, f, h3, by rw [k5.I]; exact i60, fun i e he => ?_⟩, ?_⟩
  · rw [k5.I, h9, w_I, if_pos ⟨rfl, rfl⟩]
    exact e3
  · refine k5.lay (L4 (h5 i e ?_)) (by omega) hb
    rw [List.getElem?_append_left (get_lt he)]
    exact he
  · have t4 : kp (fun a b => a = 0 ∧ b = 61) (fun a => 29 ≤ a ∧ a ≤ 44) S S4 := by
      rw [h9]
      exact kp.uF kp.rf ⟨rfl, rfl⟩
    exact t4.tr (k5.1.w (fun _ _ z => absurd z id) (fun _ z => z))
end UD
end
section
/-! the class: a pit is copied; what is kept; ahead of each act, and back -/
theorem va_c0 {f g : Nat → Int32} {n j : Nat} : va_cpy f g 0 0 n j = if j < n then f j else g j := by
  unfold va_cpy
  by_cases h : j < n
  · rw [if_pos ⟨Nat.zero_le _, by omega⟩, if_pos h, show 0 + (j - 0) = j by omega]
  · rw [if_neg (by omega), if_neg h]
theorem pX_ne {p q : Nat} (hp : pX p) (hq : pX q) (h : p ≠ q) : p + 6 < q ∨ q + 6 < p := by
  have h1 : ∀ p ∈ alX.getD 1 [], ∀ q ∈ alX.getD 1 [], p ≠ q → p + 6 < q ∨ q + 6 < p := by decide +kernel
  exact h1 p hp q hq h
theorem pX_h {k : Nat} (h : k < 20) : pX (42 + 7 * k) := by
  have h1 : ∀ k : Nat, k < 20 → (42 + 7 * k) ∈ alX.getD 1 [] := by decide +kernel
  exact h1 k h
theorem pX_3' : pX 3 := by
  have h1 : (3 : Nat) ∈ alX.getD 1 [] := by decide +kernel
  exact h1
section XC
variable {G A : aR} {S S0 S1 T : dg_S} {p q o : Nat} {L : s_L} {U : s_U} {a1 a2 a3 a4 : Int32}
def k_pt (p : Nat) (S S1 : dg_S) : Prop := kp (fun a b => a = p ∧ b < 2) (fun a => p < a ∧ a ≤ p + 6) S S1
theorem cx_copy (hp : pX p) (hq : pX q) (hne : p ≠ q) (h : cx_pit G A S q) (hb : G 0 6 ≤ 16) : ∃ S1, F_p_copy o S p q = S1 ∧ k_pt p S S1 ∧ cx_pit G A S1 p := by
  have sep := pX_ne hp hq hne
  obtain ⟨y1, y2, y3, y4, y5, y6, y7⟩ := h
  obtain ⟨S2, h2⟩ : ∃ T, T = dg_uF S p 0 (.int (zI S q 0)) := ⟨_, rfl⟩
  obtain ⟨S4, h4⟩ : ∃ T, T = dg_uF S2 p 1 (.int (zI S2 q 1)) := ⟨_, rfl⟩
  obtain ⟨S10, h10⟩ : ∃ T, T = dg_uf S4 (p + 1) (va_cpy (S4.2.1 (q + 1)) (S4.2.1 (p + 1)) (0 : Int32).toNatClampNeg (0 : Int32).toNatClampNeg (72 : Int32).toNatClampNeg) := ⟨_, rfl⟩
  obtain ⟨S17, h17⟩ : ∃ T, T = dg_uf S10 (p + 2) (va_cpy (S10.2.1 (q + 2)) (S10.2.1 (p + 2)) (0 : Int32).toNatClampNeg (0 : Int32).toNatClampNeg (6 : Int32).toNatClampNeg) := ⟨_, rfl⟩
  obtain ⟨S24, h24⟩ : ∃ T, T = dg_uf S17 (p + 3) (va_cpy (S17.2.1 (q + 3)) (S17.2.1 (p + 3)) (0 : Int32).toNatClampNeg (0 : Int32).toNatClampNeg (16 : Int32).toNatClampNeg) := ⟨_, rfl⟩
  obtain ⟨S31, h31⟩ : ∃ T, T = dg_uf S24 (p + 4) (va_cpy (S24.2.1 (q + 4)) (S24.2.1 (p + 4)) (0 : Int32).toNatClampNeg (0 : Int32).toNatClampNeg (16 : Int32).toNatClampNeg) := ⟨_, rfl⟩
  obtain ⟨S38, h38⟩ : ∃ T, T = dg_uf S31 (p + 5) (va_cpy (S31.2.1 (q + 5)) (S31.2.1 (p + 5)) (0 : Int32).toNatClampNeg (0 : Int32).toNatClampNeg (5 : Int32).toNatClampNeg) := ⟨_, rfl⟩
  obtain ⟨S45, h45⟩ : ∃ T, T = dg_uf S38 (p + 6) (va_cpy (S38.2.1 (q + 6)) (S38.2.1 (p + 6)) (0 : Int32).toNatClampNeg (0 : Int32).toNatClampNeg (10 : Int32).toNatClampNeg) := ⟨_, rfl⟩
  have n0 : (0 : Int32).toNatClampNeg = 0 := by decide +kernel
  have n72 : (72 : Int32).toNatClampNeg = 72 := by decide +kernel
  have n6 : (6 : Int32).toNatClampNeg = 6 := by decide +kernel
  have n16 : (16 : Int32).toNatClampNeg = 16 := by decide +kernel
  have n5 : (5 : Int32).toNatClampNeg = 5 := by decide +kernel
  have n10 : (10 : Int32).toNatClampNeg = 10 := by decide +kernel
  have k45 : k_pt p S S45 := by
    rw [h45, h38, h31, h24, h17, h10, h4, h2]
    exact kp.uf (kp.uf (kp.uf (kp.uf (kp.uf (kp.uf (kp.uF (kp.uF kp.rf ⟨rfl, by decide⟩) ⟨rfl, by decide⟩) ⟨by omega, by omega⟩) ⟨by omega, by omega⟩) ⟨by omega, by omega⟩) ⟨by omega, by omega⟩) ⟨by omega, by omega⟩) ⟨by omega, by omega⟩
  have F4 : S4.2.1 = S.2.1 := by rw [h4, h2]; rfl
  have o10 : ∀ i, i ≠ p + 1 → S10.2.1 i = S.2.1 i := fun i hi => by rw [h10, w_f, if_neg hi, F4]
  have o17 : ∀ i, i ≠ p + 1 → i ≠ p + 2 → S17.2.1 i = S.2.1 i := fun i i1 i2 => by rw [h17, w_f, if_neg i2, o10 i i1]
  have o24 : ∀ i, i ≠ p + 1 → i ≠ p + 2 → i ≠ p + 3 → S24.2.1 i = S.2.1 i := fun i i1 i2 i3 => by rw [h24, w_f, if_neg i3, o17 i i1 i2]
  have o31 : ∀ i, i ≠ p + 1 → i ≠ p + 2 → i ≠ p + 3 → i ≠ p + 4 → S31.2.1 i = S.2.1 i := fun i i1 i2 i3 i4 => by rw [h31, w_f, if_neg i4, o24 i i1 i2 i3]
  have o38 : ∀ i, i ≠ p + 1 → i ≠ p + 2 → i ≠ p + 3 → i ≠ p + 4 → i ≠ p + 5 → S38.2.1 i = S.2.1 i := fun i i1 i2 i3 i4 i5 => by rw [h38, w_f, if_neg i5, o31 i i1 i2 i3 i4]
  have r1 : ∀ j, j < 72 → S45.2.1 (p + 1) j = S.2.1 (q + 1) j := fun j hj => by
    rw [h45, w_f, if_neg (by omega), h38, w_f, if_neg (by omega), h31, w_f, if_neg (by omega), h24, w_f, if_neg (by omega), h17, w_f, if_neg (by omega), h10, w_f, if_pos rfl, n0, n72, va_c0, if_pos hj, F4]
  have r2 : ∀ j, j < 6 → S45.2.1 (p + 2) j = S.2.1 (q + 2) j := fun j hj => by
    rw [h45, w_f, if_neg (by omega), h38, w_f, if_neg (by omega), h31, w_f, if_neg (by omega), h24, w_f, if_neg (by omega), h17, w_f, if_pos rfl, n0, n6, va_c0, if_pos hj, o10 _ (by omega)]
  have r3 : ∀ j, j < 16 → S45.2.1 (p + 3) j = S.2.1 (q + 3) j := fun j hj => by
    rw [h45, w_f, if_neg (by omega), h38, w_f, if_neg (by omega), h31, w_f, if_neg (by omega), h24, w_f, if_pos rfl, n0, n16, va_c0, if_pos hj, o17 _ (by omega) (by omega)]
  have r4 : ∀ j, j < 16 → S45.2.1 (p + 4) j = S.2.1 (q + 4) j := fun j hj => by
    rw [h45, w_f, if_neg (by omega), h38, w_f, if_neg (by omega), h31, w_f, if_pos rfl, n0, n16, va_c0, if_pos hj, o24 _ (by omega) (by omega) (by omega)]
  have r5 : ∀ j, j < 5 → S45.2.1 (p + 5) j = S.2.1 (q + 5) j := fun j hj => by
    rw [h45, w_f, if_neg (by omega), h38, w_f, if_pos rfl, n0, n5, va_c0, if_pos hj, o31 _ (by omega) (by omega) (by omega) (by omega)]
  have r6 : ∀ j, j < 10 → S45.2.1 (p + 6) j = S.2.1 (q + 6) j := fun j hj => by
    rw [h45, w_f, if_pos rfl, n0, n10, va_c0, if_pos hj, o38 _ (by omega) (by omega) (by omega) (by omega) (by omega)]
  have f0 : zI S45 p 0 = zI S q 0 := by
    rw [h45, w_If, h38, w_If, h31, w_If, h24, w_If, h17, w_If, h10, w_If, h4, w_I, if_neg (by omega), h2, w_I, if_pos ⟨rfl, rfl⟩]
  have f1 : zI S45 p 1 = zI S q 1 := by
    rw [h45, w_If, h38, w_If, h31, w_If, h24, w_If, h17, w_If, h10, w_If, h4, w_I, if_pos ⟨rfl, rfl⟩, h2, w_I, if_neg (by omega)]
  refine ⟨S45, ?_, k45, fun x x0 x1 => ?_, by rw [f0]; exact y2, by rw [f1]; exact y3, fun k hk => by rw [r2 k hk]; exact y4 k hk, fun k hk => by rw [r3 k (by omega), r4 k (by omega)]; exact y5 k hk, fun k hk => by rw [r5 k hk]; exact y6 k hk, fun k hk => by rw [r6 k hk]; exact y7 k hk⟩
  · rw [F_p_copy_p2 rfl h2 rfl h4 h10 h17, F_p_copy_p1 h24 h31 h38 h45]
    exact F_p_copy_p0
  · have e : cx_at S45 p x = cx_at S q x := by
      unfold cx_at
      rw [r1 _ (by omega)]
    rw [e]
    exact y1 x x0 x1
/-- a row of what is kept -/
def kr (r : Nat → Int32) (L : s_L) : Prop := ∀ i, i < L.length → (r (4 * i)).toInt = (L.getD i (0, 0, 0, 0)).1 ∧ (r (4 * i + 1)).toInt = (L.getD i (0, 0, 0, 0)).2.1 ∧ (r (4 * i + 2)).toInt = (L.getD i (0, 0, 0, 0)).2.2.1 ∧ (r (4 * i + 3)).toInt = (L.getD i (0, 0, 0, 0)).2.2.2
theorem kr.congr {r r' : Nat → Int32} (h : kr r L) (e : ∀ j, j < 4 * L.length → r' j = r j) : kr r' L := by
  intro i hi
  rw [e _ (by omega), e _ (by omega), e _ (by omega), e _ (by omega)]
  exact h i hi
def cx_kp (S : dg_S) (L : s_L) : Prop := (zI S 17 1).toInt = L.length ∧ L.length ≤ 40 ∧ kr (S.2.1 18) L
theorem cx_keep1 {x : Int32} (hx : x.toInt = L.length) (hL : L.length < 40) (h : kr (S.2.1 18) L) : ∃ S1, F_h_keep_J1 x S a1 a2 a3 a4 = S1 ∧ cx_kp S1 (L ++ [(a1.toInt, a2.toInt, a3.toInt, a4.toInt)]) ∧ kp (fun a b => a = 17 ∧ b = 1) (fun a => a = 18) S S1 := by
  have e3 : ((4 : Int32) * x).toInt = 4 * (L.length : Int) := dk_mulT (by decide +kernel) hx (by omega) (by omega)
  obtain ⟨y, hy⟩ : ∃ y, y = (4 : Int32) * x := ⟨_, rfl⟩
  rw [← hy] at e3
  obtain ⟨m, hm⟩ : ∃ m, m = 4 * L.length := ⟨_, rfl⟩
  have n0 : y.toNatClampNeg = m := by rw [dk_clN]; omega
  have n1 : (y + (1 : Int32)).toNatClampNeg = m + 1 := by rw [dk_clN, dk_addT e3 (b := 1) (by decide +kernel) (by omega) (by omega)]; omega
  have n2 : (y + (2 : Int32)).toNatClampNeg = m + 2 := by rw [dk_clN, dk_addT e3 (b := 2) (by decide +kernel) (by omega) (by omega)]; omega
  have n3 : (y + (3 : Int32)).toNatClampNeg = m + 3 := by rw [dk_clN, dk_addT e3 (b := 3) (by decide +kernel) (by omega) (by omega)]; omega
  obtain ⟨S4, h4⟩ : ∃ S', S' = dg_uf S 18 (upd (S.2.1 18) y.toNatClampNeg a1) := ⟨_, rfl⟩
  obtain ⟨S7, h7⟩ : ∃ S', S' = dg_uf S4 18 (upd (S4.2.1 18) (y + (1 : Int32)).toNatClampNeg a2) := ⟨_, rfl⟩
  obtain ⟨S10, h10⟩ : ∃ S', S' = dg_uf S7 18 (upd (S7.2.1 18) (y + (2 : Int32)).toNatClampNeg a3) := ⟨_, rfl⟩
  obtain ⟨S13, h13⟩ : ∃ S', S' = dg_uf S10 18 (upd (S10.2.1 18) (y + (3 : Int32)).toNatClampNeg a4) := ⟨_, rfl⟩
  obtain ⟨S18, h18⟩ : ∃ S', S' = dg_uF S13 17 1 (.int (x + (1 : Int32))) := ⟨_, rfl⟩
  have ex : (x + (1 : Int32)).toInt = (L.length : Int) + 1 := dk_addT hx (by decide +kernel) (by omega) (by omega)
  have R : ∀ j, S18.2.1 18 j = if j = m + 3 then a4 else if j = m + 2 then a3 else if j = m + 1 then a2 else if j = m then a1 else S.2.1 18 j := fun j => by
    rw [h18, w_Ff, h13, w_f, if_pos rfl, w_u, n3, h10, w_f, if_pos rfl, w_u, n2, h7, w_f, if_pos rfl, w_u, n1, h4, w_f, if_pos rfl, w_u, n0]
  refine ⟨S18, ?_, ⟨?_, ?_, fun i hi => ?_⟩, ?_⟩
  · rw [F_h_keep_p1 hy h4 rfl h7 rfl h10 rfl h13]
    exact F_h_keep_p0 rfl h18
  · rw [h18, w_I, if_pos ⟨rfl, rfl⟩, ex]
    simp
  · simp
    omega
  · simp only [List.length_append, List.length_cons, List.length_nil] at hi
    by_cases q : i < L.length
    · rw [R, R, R, R]
      rw [if_neg (show ¬ 4 * i = m + 3 by omega), if_neg (show ¬ 4 * i = m + 2 by omega), if_neg (show ¬ 4 * i = m + 1 by omega), if_neg (show ¬ 4 * i = m by omega)]
      rw [if_neg (show ¬ 4 * i + 1 = m + 3 by omega), if_neg (show ¬ 4 * i + 1 = m + 2 by omega), if_neg (show ¬ 4 * i + 1 = m + 1 by omega), if_neg (show ¬ 4 * i + 1 = m by omega)]
      rw [if_neg (show ¬ 4 * i + 2 = m + 3 by omega), if_neg (show ¬ 4 * i + 2 = m + 2 by omega), if_neg (show ¬ 4 * i + 2 = m + 1 by omega), if_neg (show ¬ 4 * i + 2 = m by omega)]
      rw [if_neg (show ¬ 4 * i + 3 = m + 3 by omega), if_neg (show ¬ 4 * i + 3 = m + 2 by omega), if_neg (show ¬ 4 * i + 3 = m + 1 by omega), if_neg (show ¬ 4 * i + 3 = m by omega)]
      have eg : (L ++ [(a1.toInt, a2.toInt, a3.toInt, a4.toInt)]).getD i (0, 0, 0, 0) = L.getD i (0, 0, 0, 0) := by
        rw [List.getD_eq_getElem?_getD, List.getD_eq_getElem?_getD, List.getElem?_append_left q]
      rw [eg]
      exact h i q
    · have ei : i = L.length := by omega
      subst ei
      have eg : (L ++ [(a1.toInt, a2.toInt, a3.toInt, a4.toInt)]).getD L.length (0, 0, 0, 0) = (a1.toInt, a2.toInt, a3.toInt, a4.toInt) := by
        rw [List.getD_eq_getElem?_getD, List.getElem?_append_right (Nat.le_refl _), Nat.sub_self]
        rfl
      rw [eg, R, R, R, R]
      rw [if_neg (show ¬ 4 * L.length = m + 3 by omega), if_neg (show ¬ 4 * L.length = m + 2 by omega), if_neg (show ¬ 4 * L.length = m + 1 by omega), if_pos (show 4 * L.length = m by omega)]
      rw [if_neg (show ¬ 4 * L.length + 1 = m + 3 by omega), if_neg (show ¬ 4 * L.length + 1 = m + 2 by omega), if_pos (show 4 * L.length + 1 = m + 1 by omega)]
      rw [if_neg (show ¬ 4 * L.length + 2 = m + 3 by omega), if_pos (show 4 * L.length + 2 = m + 2 by omega)]
      rw [if_pos (show 4 * L.length + 3 = m + 3 by omega)]
      exact ⟨rfl, rfl, rfl, rfl⟩
  · rw [h18, h13, h10, h7, h4]
    exact kp.uF (kp.uf (kp.uf (kp.uf (kp.uf kp.rf rfl) rfl) rfl) rfl) ⟨rfl, rfl⟩
/-- a digging is kept -/
theorem cx_keep (h : cx_kp S L) : ∃ S1, F_h_keep o S a1 a2 a3 a4 = S1 ∧ cx_kp S1 (s_kp L (a1.toInt, a2.toInt, a3.toInt, a4.toInt)) ∧ kp (fun a b => a = 17 ∧ b = 1) (fun a => a = 18) S S1 := by
  obtain ⟨h1, h2, h3⟩ := h
  unfold s_kp
  by_cases q : zI S 17 1 = (40 : Int32)
  · have d := dk_eqc (k := 40) (by decide +kernel) q
    have hl : L.length = 40 := by omega
    rw [if_pos hl]
    have n4 : (4 : Int32).toNatClampNeg = 4 := by decide +kernel
    have n0 : (0 : Int32).toNatClampNeg = 0 := by decide +kernel
    have n156 : (156 : Int32).toNatClampNeg = 156 := by decide +kernel
    obtain ⟨S50, h50⟩ : ∃ S', S' = dg_uf S 18 (va_cpy (S.2.1 18) (S.2.1 18) (4 : Int32).toNatClampNeg (0 : Int32).toNatClampNeg (156 : Int32).toNatClampNeg) := ⟨_, rfl⟩
    obtain ⟨S53, h53⟩ : ∃ S', S' = dg_uF S50 17 1 (.int (zI S 17 1 - (1 : Int32))) := ⟨_, rfl⟩
    have ht : L.tail.length = 39 := by rw [List.length_tail, hl]
    have ex : (zI S 17 1 - (1 : Int32)).toInt = (L.tail.length : Int) := by
      rw [dk_subT d (b := 1) (by decide +kernel) (by omega) (by omega), ht]
      rfl
    have r18 : ∀ j, j < 156 → S53.2.1 18 j = S.2.1 18 (j + 4) := fun j hj => by
      rw [h53, w_Ff, h50, w_f, if_pos rfl, n4, n0, n156]
      unfold va_cpy
      rw [if_pos ⟨Nat.zero_le _, by omega⟩, show 4 + (j - 0) = j + 4 by omega]
    obtain ⟨S1, g1, g2, g3⟩ := cx_keep1 (S := S53) (a1 := a1) (a2 := a2) (a3 := a3) (a4 := a4) ex (by omega) (fun i hi => by
      rw [ht] at hi
      rw [r18 _ (by omega), r18 _ (by omega), r18 _ (by omega), r18 _ (by omega), tl_getD]
      have := h3 (i + 1) (by omega)
      rw [show 4 * (i + 1) = 4 * i + 4 by omega] at this
      rw [show 4 * i + 1 + 4 = 4 * i + 4 + 1 by omega, show 4 * i + 2 + 4 = 4 * i + 4 + 2 by omega, show 4 * i + 3 + 4 = 4 * i + 4 + 3 by omega]
      exact this)
    refine ⟨S1, (F_h_keep_p3 rfl q h50 rfl h53).trans g1, g2, ?_⟩
    have k53 : kp (fun a b => a = 17 ∧ b = 1) (fun a => a = 18) S S53 := by
      rw [h53, h50]
      exact kp.uF (kp.uf kp.rf rfl) ⟨rfl, rfl⟩
    exact k53.tr g3
  · have d := dk_neqc (k := 40) (by decide +kernel) q
    have hl : ¬ L.length = 40 := fun z => d (by rw [h1, z]; rfl)
    rw [if_neg hl]
    obtain ⟨S1, g1, g2, g3⟩ := cx_keep1 (S := S) (x := zI S 17 1) (a1 := a1) (a2 := a2) (a3 := a3) (a4 := a4) h1 (by omega) h3
    exact ⟨S1, (F_h_keep_p2 rfl q).trans g1, g2, g3⟩
/-- how all was ahead of the last acts -/
def cx_ud (G : aR) (S : dg_S) (U : s_U) : Prop := (zI S 17 2).toInt = U.length ∧ U.length ≤ 20 ∧ ∃ nx : Nat, nx < 20 ∧ (zI S 17 3).toInt = nx ∧ ∀ i e, U[i]? = some e → cx_pit G e.1 S (42 + 7 * ((nx + 20 - U.length + i) % 20)) ∧ (S.2.1 41 ((nx + 20 - U.length + i) % 20)).toInt = e.2.length ∧ e.2.length ≤ 40 ∧ kr (S.2.1 (21 + (nx + 20 - U.length + i) % 20)) e.2
/-- the ring alone -/
def k_h (S S1 : dg_S) : Prop := kp (fun a b => (a = 17 ∧ (b = 2 ∨ b = 3)) ∨ (42 ≤ a ∧ a < 182)) (fun a => 21 ≤ a ∧ a < 182) S S1
theorem cx_put (hb : G 0 6 ≤ 16) (hp : pX p) (hp3 : p + 6 < 42 ∨ 182 ≤ p) (hpit : cx_pit G A S p) (hk : cx_kp S L) (hu : cx_ud G S U) : ∃ S1, F_h_put o S p = S1 ∧ k_h S S1 ∧ cx_ud G S1 (s_ud U (A, L)) := by
  obtain ⟨h1, h2, nx, h3, h4, h5⟩ := hu
  obtain ⟨c1, c2, c3⟩ := hk
  have n0 : (0 : Int32).toNatClampNeg = 0 := by decide +kernel
  have en : (zI S 17 3).toNatClampNeg = nx := by rw [dk_clN]; omega
  obtain ⟨S4, e4, k4, p4⟩ := cx_copy (o := o) (S := S) (p := 42 + 7 * nx) (q := p) (pX_h h3) hp (by omega) hpit hb
  have x8 : ((4 : Int32) * zI S 17 1).toInt = 4 * (L.length : Int) := dk_mulT (by decide +kernel) c1 (by omega) (by omega)
  have n8 : ((4 : Int32) * zI S 17 1).toNatClampNeg = 4 * L.length := by rw [dk_clN]; omega
  obtain ⟨S13, h13⟩ : ∃ T, T = dg_uf S4 (21 + nx) (va_cpy (S4.2.1 18) (S4.2.1 (21 + nx)) (0 : Int32).toNatClampNeg (0 : Int32).toNatClampNeg ((4 : Int32) * zI S 17 1).toNatClampNeg) := ⟨_, rfl⟩
  obtain ⟨S16, h16⟩ : ∃ T, T = dg_uf S13 41 (upd (S13.2.1 41) (zI S 17 3).toNatClampNeg (zI S 17 1)) := ⟨_, rfl⟩
  have e17 : (zI S 17 3 + (1 : Int32)).toInt = (nx : Int) + 1 := dk_addT h4 (by decide +kernel) (by omega) (by omega)
  obtain ⟨x18, hx18⟩ : ∃ x, x = zI S 17 3 + (1 : Int32) - (zI S 17 3 + (1 : Int32)) / (20 : Int32) * (20 : Int32) := ⟨_, rfl⟩
  have e18 : x18.toInt = (((nx + 1) % 20 : Nat) : Int) := by
    rw [hx18, dk_remL (b := 20) (by omega) (by decide +kernel) (by omega), e17]
    omega
  obtain ⟨S20, h20⟩ : ∃ T, T = dg_uF S16 17 3 (.int x18) := ⟨_, rfl⟩
  obtain ⟨x22, hx22⟩ : ∃ x, x = if zI S16 17 2 + (1 : Int32) < (20 : Int32) then zI S16 17 2 + (1 : Int32) else (20 : Int32) := ⟨_, rfl⟩
  obtain ⟨S23, h23⟩ : ∃ T, T = dg_uF S20 17 2 (.int x22) := ⟨_, rfl⟩
  have i16 : ∀ a b, ¬ (42 ≤ a ∧ a < 182) → zI S16 a b = zI S a b := fun a b hab => by
    rw [h16, w_If, h13, w_If, k4.I (fun z => by omega)]
  have e22 : x22.toInt = ((s_ud U (A, L)).length : Int) := by
    have e : (zI S16 17 2 + (1 : Int32)).toInt = (U.length : Int) + 1 := by
      rw [i16 17 2 (by decide)]
      exact dk_addT h1 (by decide +kernel) (by omega) (by omega)
    have z20 : (20 : Int32).toInt = 20 := by decide +kernel
    rw [hx22, s_ud_len h2]
    by_cases y : zI S16 17 2 + (1 : Int32) < (20 : Int32)
    · have := dk_ltc z20 y
      rw [if_pos y, e]
      omega
    · have := dk_nltc z20 y
      rw [if_neg y, z20]
      omega
  have t13 : k_h S S13 := by
    rw [h13]
    exact kp.uf (k4.w (fun a b z => by omega) (fun a z => by omega)) ⟨by omega, by omega⟩
  have t23 : k_h S S23 := by
    rw [h23, h20, h16]
    exact kp.uF (kp.uF (kp.uf t13 ⟨by decide, by decide⟩) (Or.inl ⟨rfl, Or.inr rfl⟩)) (Or.inl ⟨rfl, Or.inl rfl⟩)
  have ro : ∀ i, i ≠ 41 → i ≠ 21 + nx → S23.2.1 i = S4.2.1 i := fun i i1 i2 => by rw [h23, w_Ff, h20, w_Ff, h16, w_f, if_neg i1, h13, w_f, if_neg i2]
  have r41 : ∀ j, S23.2.1 41 j = if j = nx then zI S 17 1 else S.2.1 41 j := fun j => by
    rw [h23, w_Ff, h20, w_Ff, h16, w_f, if_pos rfl, w_u, en, h13, w_f, if_neg (show ¬ (41 : Nat) = 21 + nx by omega), (k4.2 41 (by omega)).1]
  have rk : S23.2.1 (21 + nx) = va_cpy (S.2.1 18) (S.2.1 (21 + nx)) 0 0 (4 * L.length) := by
    rw [h23, w_Ff, h20, w_Ff, h16, w_f, if_neg (by omega), h13, w_f, if_pos rfl, n0, n8, (k4.2 18 (by omega)).1, (k4.2 (21 + nx) (by omega)).1]
  have I23 : ∀ a b, a ≠ 17 → zI S23 a b = zI S4 a b := fun a b ha => by rw [h23, w_I0 (fun z => ha z.1), h20, w_I0 (fun z => ha z.1), h16, w_If, h13, w_If]
  have new : cx_pit G A S23 (42 + 7 * nx) := p4.keep (fun i _ _ => ro i (by omega) (by omega)) (fun b _ => I23 _ _ (by omega))
  have old : ∀ B k, k < 20 → k ≠ nx → cx_pit G B S (42 + 7 * k) → cx_pit G B S23 (42 + 7 * k) := fun B k hk hkn h => h.keep (fun i _ _ => by rw [ro i (by omega) (by omega), (k4.2 i (by omega)).1]) (fun b _ => by rw [I23 _ _ (by omega), k4.I (fun z => by omega)])
  have oldr : ∀ k, k < 20 → k ≠ nx → S23.2.1 (21 + k) = S.2.1 (21 + k) := fun k hk hkn => by rw [ro _ (by omega) (by omega), (k4.2 (21 + k) (by omega)).1]
  have F : F_h_put o S p = S23 := by
    rw [F_h_put_p1 rfl (by rw [en]) e4.symm (by rw [en]) rfl rfl h13 h16 rfl hx18 rfl h20]
    exact F_h_put_p0 rfl hx22 h23
  have len := s_ud_len (e := (A, L)) h2
  refine ⟨S23, F, t23, by rw [h23, w_I, if_pos ⟨rfl, rfl⟩]; exact e22, by omega, (nx + 1) % 20, by omega, by rw [h23, w_I, if_neg (by decide), h20, w_I, if_pos ⟨rfl, rfl⟩]; exact e18, fun i e he => ?_⟩
  -- the newest
  have last : ∀ m : Nat, m = nx → cx_pit G A S23 (42 + 7 * m) ∧ (S23.2.1 41 m).toInt = L.length ∧ L.length ≤ 40 ∧ kr (S23.2.1 (21 + m)) L := fun m hm => by
    subst hm
    refine ⟨new, by rw [r41, if_pos rfl]; exact c1, c2, c3.congr (fun j hj => ?_)⟩
    rw [rk, va_c0, if_pos hj]
  have keep : ∀ (m : Nat) (e : aR × s_L), m < 20 → m ≠ nx → (cx_pit G e.1 S (42 + 7 * m) ∧ (S.2.1 41 m).toInt = e.2.length ∧ e.2.length ≤ 40 ∧ kr (S.2.1 (21 + m)) e.2) → cx_pit G e.1 S23 (42 + 7 * m) ∧ (S23.2.1 41 m).toInt = e.2.length ∧ e.2.length ≤ 40 ∧ kr (S23.2.1 (21 + m)) e.2 := fun m e hm hmn h => ⟨old _ m hm hmn h.1, by rw [r41, if_neg hmn]; exact h.2.1, h.2.2.1, by rw [oldr m hm hmn]; exact h.2.2.2⟩
  rw [len]
  unfold s_ud at he
  by_cases q : U.length = 20
  · rw [if_pos q] at he
    have ht : U.tail.length = 19 := by rw [List.length_tail, q]
    rcases ap_get he with ⟨a, b⟩ | ⟨a, b⟩
    · rw [tl_get] at b
      have := h5 (i + 1) e b
      rw [show (nx + 20 - U.length + (i + 1)) % 20 = ((nx + 1) % 20 + 20 - min 20 (U.length + 1) + i) % 20 by omega] at this
      exact keep _ e (by omega) (by omega) this
    · rw [b]
      exact last _ (by omega)
  · rw [if_neg q] at he
    rcases ap_get he with ⟨a, b⟩ | ⟨a, b⟩
    · have := h5 i e b
      rw [show (nx + 20 - U.length + i) % 20 = ((nx + 1) % 20 + 20 - min 20 (U.length + 1) + i) % 20 by omega] at this
      exact keep _ e (by omega) (by omega) this
    · rw [b]
      exact last _ (by omega)
/-- an act is undone -/
theorem cx_back (hb : G 0 6 ≤ 16) (hp : pX p) (hp3 : p + 6 < 17) (hu : cx_ud G S (U ++ [(A, L)])) : ∃ S1, F_h_takeBack o S p = (S1, (1 : Int32)) ∧ cx_pit G A S1 p ∧ cx_kp S1 L ∧ cx_ud G S1 U ∧ kp (fun a b => (a = p ∧ b < 2) ∨ (a = 17 ∧ (b = 1 ∨ b = 2 ∨ b = 3))) (fun a => (p < a ∧ a ≤ p + 6) ∨ a = 18) S S1 := by
  obtain ⟨h1, h2, nx, h3, h4, h5⟩ := hu
  have n0 : (0 : Int32).toNatClampNeg = 0 := by decide +kernel
  have z0 : (0 : Int32).toInt = 0 := by decide +kernel
  have len : (U ++ [(A, L)]).length = U.length + 1 := by rw [List.length_append]; rfl
  rw [len] at h1 h2 h5
  have q : ¬ zI S 17 2 = (0 : Int32) := fun z => by
    have := dk_eqc z0 z
    omega
  have e4 : (zI S 17 2 - (1 : Int32)).toInt = (U.length : Int) := by
    rw [dk_subT h1 (b := 1) (by decide +kernel) (by omega) (by omega)]
    omega
  obtain ⟨S5, g5⟩ : ∃ T, T = dg_uF S 17 2 (.int (zI S 17 2 - (1 : Int32))) := ⟨_, rfl⟩
  have e6 : (zI S 17 3 + (20 : Int32)).toInt = (nx : Int) + 20 := dk_addT h4 (by decide +kernel) (by omega) (by omega)
  have e7 : (zI S 17 3 + (20 : Int32) - (1 : Int32)).toInt = (nx : Int) + 20 - 1 := dk_subT e6 (by decide +kernel) (by omega) (by omega)
  obtain ⟨x8, hx8⟩ : ∃ x, x = zI S 17 3 + (20 : Int32) - (1 : Int32) - (zI S 17 3 + (20 : Int32) - (1 : Int32)) / (20 : Int32) * (20 : Int32) := ⟨_, rfl⟩
  obtain ⟨m, hm⟩ : ∃ m, m = (nx + 19) % 20 := ⟨_, rfl⟩
  have e8 : x8.toInt = (m : Int) := by
    rw [hx8, dk_remL (b := 20) (by omega) (by decide +kernel) (by omega), e7]
    omega
  have n8 : x8.toNatClampNeg = m := by rw [dk_clN]; omega
  obtain ⟨S9, g9⟩ : ∃ T, T = dg_uF S5 17 3 (.int x8) := ⟨_, rfl⟩
  have r9 : S9.2.1 = S.2.1 := by rw [g9, g5]; rfl
  have I9 : ∀ a b, a ≠ 17 → zI S9 a b = zI S a b := fun a b ha => by rw [g9, w_I0 (fun z => ha z.1), g5, w_I0 (fun z => ha z.1)]
  have hlast := h5 U.length (A, L) (by rw [List.getElem?_append_right (Nat.le_refl _), Nat.sub_self]; rfl)
  rw [show (nx + 20 - (U.length + 1) + U.length) % 20 = m by omega] at hlast
  obtain ⟨l1, l2, l3, l4⟩ := hlast
  have l3 : L.length ≤ 40 := l3
  have l1' : cx_pit G A S9 (42 + 7 * m) := l1.keep (fun i _ _ => by rw [r9]) (fun b _ => I9 _ _ (by omega))
  obtain ⟨S12, e12, k12, p12⟩ := cx_copy (o := o) (S := S9) (p := p) (q := 42 + 7 * m) hp (pX_h (by omega)) (by omega) l1' hb
  have r12 : ∀ i, ¬ (p < i ∧ i ≤ p + 6) → S12.2.1 i = S.2.1 i := fun i hi => by rw [(k12.2 i hi).1, r9]
  obtain ⟨S15, g15⟩ : ∃ T, T = dg_uF S12 17 1 (.int (S12.2.1 41 x8.toNatClampNeg)) := ⟨_, rfl⟩
  have c41 : (S12.2.1 41 x8.toNatClampNeg).toInt = L.length := by rw [n8, r12 41 (by omega)]; exact l2
  have x18 : ((4 : Int32) * S12.2.1 41 x8.toNatClampNeg).toInt = 4 * (L.length : Int) := dk_mulT (by decide +kernel) c41 (by omega) (by omega)
  have n18 : ((4 : Int32) * S12.2.1 41 x8.toNatClampNeg).toNatClampNeg = 4 * L.length := by rw [dk_clN]; omega
  obtain ⟨S23, g23⟩ : ∃ T, T = dg_uf S15 18 (va_cpy (S15.2.1 (21 + m)) (S15.2.1 18) (0 : Int32).toNatClampNeg (0 : Int32).toNatClampNeg ((4 : Int32) * S12.2.1 41 x8.toNatClampNeg).toNatClampNeg) := ⟨_, rfl⟩
  have r15 : S15.2.1 = S12.2.1 := by rw [g15]; rfl
  have ro : ∀ i, i ≠ 18 → S23.2.1 i = S12.2.1 i := fun i hi => by rw [g23, w_f, if_neg hi, r15]
  have r18 : S23.2.1 18 = va_cpy (S.2.1 (21 + m)) (S.2.1 18) 0 0 (4 * L.length) := by
    rw [g23, w_f, if_pos rfl, n0, n18, r15, r12 _ (by omega), r12 18 (by omega)]
  have I23 : ∀ a b, a ≠ 17 → zI S23 a b = zI S12 a b := fun a b ha => by rw [g23, w_If, g15, w_I0 (fun z => ha z.1)]
  refine ⟨S23, ?_, p12.keep (fun i _ _ => ro i (by omega)) (fun b _ => I23 _ _ (by omega)), ⟨?_, l3, l4.congr (fun j hj => by rw [r18, va_c0, if_pos hj])⟩, ⟨?_, by omega, m, by omega, ?_, fun i e he => ?_⟩, ?_⟩
  · rw [F_h_takeBack_p1 rfl q rfl rfl g5 rfl rfl hx8 g9 (by rw [n8]) e12.symm rfl g15]
    exact F_h_takeBack_p0 (by rw [n8]) rfl g23
  · rw [g23, w_If, g15, w_I, if_pos ⟨rfl, rfl⟩]
    exact c41
  · rw [g23, w_If, g15, w_I, if_neg (by decide), k12.I (fun z => by omega), g9, w_I, if_neg (by decide), g5, w_I, if_pos ⟨rfl, rfl⟩]
    exact e4
  · rw [g23, w_If, g15, w_I, if_neg (by decide), k12.I (fun z => by omega), g9, w_I, if_pos ⟨rfl, rfl⟩]
    exact e8
  · have hi := get_lt he
    have := h5 i e (by rw [List.getElem?_append_left hi]; exact he)
    rw [show (nx + 20 - (U.length + 1) + i) % 20 = (m + 20 - U.length + i) % 20 by omega] at this
    obtain ⟨a1, a2, a3, a4⟩ := this
    refine ⟨a1.keep (fun j _ _ => by rw [ro j (by omega), r12 j (by omega)]) (fun b _ => by rw [I23 _ _ (by omega), k12.I (fun z => by omega), I9 _ _ (by omega)]), ?_, a3, ?_⟩
    · rw [ro 41 (by decide), r12 41 (by omega)]; exact a2
    · rw [ro _ (by omega), r12 _ (by omega)]; exact a4
  · have t9 : kp (fun a b => (a = p ∧ b < 2) ∨ (a = 17 ∧ (b = 1 ∨ b = 2 ∨ b = 3))) (fun a => (p < a ∧ a ≤ p + 6) ∨ a = 18) S S9 := by
      rw [g9, g5]
      exact kp.uF (kp.uF kp.rf (Or.inr ⟨rfl, by omega⟩)) (Or.inr ⟨rfl, by omega⟩)
    have t12 := t9.tr (k12.w (LF' := fun a b => (a = p ∧ b < 2) ∨ (a = 17 ∧ (b = 1 ∨ b = 2 ∨ b = 3))) (LA' := fun a => (p < a ∧ a ≤ p + 6) ∨ a = 18) (fun a b z => Or.inl z) (fun a z => Or.inl z))
    rw [g23, g15]
    exact kp.uf (kp.uF t12 (Or.inr ⟨rfl, by omega⟩)) (Or.inr rfl)
end XC
end
section
/-! the class's acts: shifts -/
/-- all that is told of a ground -/
def cx_g (G : aR) (K : Nat → List Int) (S : dg_S) (g : Nat) : Prop := cx_gt G K S g ∧ ((zI S g 0).toInt = G 0 0 ∧ (zI S g 1).toInt = G 0 1 ∧ (zI S g 3).toInt = G 0 3 ∧ (zI S g 4).toInt = G 0 4 ∧ (zI S g 6).toInt = G 0 5 ∧ (zI S g 11).toInt = G 0 7) ∧ (∀ c : Int, s_in G c → (S.2.1 (g + 1) (c + 8).toNat).toInt = G 1 c.toNat) ∧ (∀ k : Nat, (k : Int) < G 0 6 → (S.2.1 (g + 3) k).toInt = G 5 k ∧ (S.2.1 (g + 4) k).toInt = G 6 k + 8) ∧ ∀ k : Nat, (k : Int) < G 0 7 → (S.2.1 (g + 6) k).toInt = G 2 k ∧ (S.2.1 (g + 7) k).toInt = G 3 k ∧ (S.2.1 (g + 8) k).toInt = G 4 k
theorem cx_g.keep {G : aR} {K : Nat → List Int} {S S1 : dg_S} {g : Nat} (h : cx_g G K S g) (e : ∀ i, g ≤ i → i ≤ g + 11 → S1.2.1 i = S.2.1 i) (e2 : ∀ b, zI S1 g b = zI S g b) : cx_g G K S1 g := by
  obtain ⟨h1, ⟨f0, f1, f3, f4, f6, f11⟩, h2, h3, h4⟩ := h
  refine ⟨h1.keep e e2, ⟨by rw [e2]; exact f0, by rw [e2]; exact f1, by rw [e2]; exact f3, by rw [e2]; exact f4, by rw [e2]; exact f6, by rw [e2]; exact f11⟩, fun c hc => by rw [e _ (by omega) (by omega)]; exact h2 c hc, fun k hk => by rw [e _ (by omega) (by omega), e _ (by omega) (by omega)]; exact h3 k hk, fun k hk => by rw [e _ (by omega) (by omega), e _ (by omega) (by omega), e _ (by omega) (by omega)]; exact h4 k hk⟩
/-- bounds of a ground -/
def s_gx (G : aR) : Prop := s_gw G ∧ (0 ≤ G 0 3 ∧ G 0 3 ≤ 20) ∧ (0 ≤ G 0 4 ∧ G 0 4 ≤ 100) ∧ (0 ≤ G 0 5 ∧ G 0 5 ≤ 6) ∧ (0 ≤ G 0 7 ∧ G 0 7 ≤ 5) ∧ (∀ c, s_in G c → 0 ≤ G 1 c.toNat ∧ G 1 c.toNat ≤ 9) ∧ (∀ k : Nat, (k : Int) < G 0 6 → (0 ≤ G 5 k ∧ G 5 k < G 0 5) ∧ s_in G (G 6 k)) ∧ ∀ k : Nat, (k : Int) < G 0 7 → (0 ≤ G 2 k ∧ G 2 k ≤ 9) ∧ (1 ≤ G 3 k ∧ G 3 k ≤ 9) ∧ (0 ≤ G 4 k ∧ G 4 k ≤ 999)
/-- what one state of the mine is: the class's side -/
def RX (o g : Nat) (G : aR) (K : Nat → List Int) (A : aR) (L : s_L) (U : s_U) (x : Int) (S : dg_S) : Prop := zR o S 0 6 = g ∧ cx_g G K S g ∧ cx_pit G A S 3 ∧ cx_kp S L ∧ cx_ud G S U ∧ (zI S 0 12).toInt = x
/-- what holds of such a state -/
def s_ok (G : aR) (K : Nat → List Int) (A : aR) (U : s_U) : Prop := s_gx G ∧ s_cd K ∧ (s_wf G A ∧ s_cw G A) ∧ ∀ (i : Nat) e, U[i]? = some e → s_wf G e.1 ∧ s_cw G e.1
section XS
variable {o g n : Nat} {G A : aR} {K : Nat → List Int} {L : s_L} {U : s_U} {S S0 S1 : dg_S} {x r : Int} {a a1 : Int32}
theorem cx_kp.keep (h : cx_kp S L) (e1 : zI S1 17 1 = zI S 17 1) (e2 : S1.2.1 18 = S.2.1 18) : cx_kp S1 L := by
  obtain ⟨h1, h2, h3⟩ := h
  exact ⟨by rw [e1]; exact h1, h2, by rw [e2]; exact h3⟩
theorem cx_ud.keep (h : cx_ud G S U) (e2 : zI S1 17 2 = zI S 17 2) (e3 : zI S1 17 3 = zI S 17 3) (er : ∀ i, 21 ≤ i → i < 182 → S1.2.1 i = S.2.1 i) (ef : ∀ a b, 42 ≤ a → a < 182 → zI S1 a b = zI S a b) : cx_ud G S1 U := by
  obtain ⟨h1, h2, nx, h3, h4, h5⟩ := h
  refine ⟨by rw [e2]; exact h1, h2, nx, h3, by rw [e3]; exact h4, fun i e he => ?_⟩
  obtain ⟨a1, a2, a3, a4⟩ := h5 i e he
  exact ⟨a1.keep (fun j _ _ => er j (by omega) (by omega)) (fun b _ => ef _ _ (by omega) (by omega)), by rw [er 41 (by decide) (by decide)]; exact a2, a3, by rw [er _ (by omega) (by omega)]; exact a4⟩
/-- what leaves a state as it is -/
theorem RX.keep {LF : Nat → Nat → Prop} {LA : Nat → Prop} (h : RX o g G K A L U x S) (t : kp LF LA S S1) (f06 : ¬ LF 0 6) (f012 : ¬ LF 0 12) (fg : ∀ a b, 185 ≤ a → a ≤ 208 → ¬ LF a b) (f3 : ∀ b, ¬ LF 3 b) (f17 : ∀ b, ¬ LF 17 b) (fh : ∀ a b, 42 ≤ a → a < 182 → ¬ LF a b) (ag : ∀ a, 185 ≤ a → a ≤ 208 → ¬ LA a) (a3 : ∀ a, 4 ≤ a → a ≤ 9 → ¬ LA a) (a18 : ¬ LA 18) (ah : ∀ a, 21 ≤ a → a < 182 → ¬ LA a) : RX o g G K A L U x S1 := by
  obtain ⟨h1, h2, h3, h4, h5, h6⟩ := h
  have sep := rX_sep h2.1.1
  refine ⟨by rw [t.R f06]; exact h1, h2.keep (fun i i0 i1 => (t.2 i (ag i (by omega) (by omega))).1) (fun b => t.I (fg _ _ (by omega) (by omega))), h3.keep (fun i i0 i1 => (t.2 i (a3 i (by omega) (by omega))).1) (fun b _ => t.I (f3 b)), h4.keep (t.I (f17 1)) (t.2 18 a18).1, h5.keep (t.I (f17 2)) (t.I (f17 3)) (fun i i0 i1 => (t.2 i (ah i i0 i1)).1) (fun a b a0 a1 => t.I (fh a b a0 a1)), by rw [t.I f012]; exact h6⟩
theorem cx_forget : kp (fun a b => (a = 221 ∧ (b = 2 ∨ b = 3)) ∨ (a = 229 ∧ b = 4)) (fun _ => False) S (F_d_forgetTrials o S) := by
  rw [F_d_forgetTrials_p0 rfl rfl, F_e_forget_p0 rfl, F_f_forget_p0 rfl rfl]
  exact kp.uF (kp.uF (kp.uF kp.rf (by decide)) (by decide)) (by decide)
/-- ahead of an act -/
theorem cx_act (hG : s_gx G) (h : RX o g G K A L U x S) : ∃ S1, F_d_beginAct o S = S1 ∧ RX o g G K A L (s_ud U (A, L)) x S1 ∧ kp (fun a b => (a = 17 ∧ (b = 2 ∨ b = 3)) ∨ (42 ≤ a ∧ a < 182) ∨ (a = 221 ∧ (b = 2 ∨ b = 3)) ∨ (a = 229 ∧ b = 4)) (fun a => 21 ≤ a ∧ a < 182) S S1 := by
  obtain ⟨h1, h2, h3, h4, h5, h6⟩ := h
  have sep := rX_sep h2.1.1
  obtain ⟨S2, e2, k2, u2⟩ := cx_put (o := o) hG.1.2.2.2 pX_3' (by decide) h3 h4 h5
  have kf := cx_forget (o := o) (S := S2)
  obtain ⟨S3, e3⟩ : ∃ T, T = F_d_forgetTrials o S2 := ⟨_, rfl⟩
  rw [← e3] at kf
  have t : kp (fun a b => (a = 17 ∧ (b = 2 ∨ b = 3)) ∨ (42 ≤ a ∧ a < 182) ∨ (a = 221 ∧ (b = 2 ∨ b = 3)) ∨ (a = 229 ∧ b = 4)) (fun a => 21 ≤ a ∧ a < 182) S S3 := kp.tr (k2.w (fun a b z => by omega) (fun a z => z)) (kf.w (fun a b z => by omega) (fun a z => absurd z id))
  refine ⟨S3, F_d_beginAct_p0 e2.symm e3, ⟨by rw [t.R (by decide)]; exact h1, h2.keep (fun i i0 i1 => (t.2 i (fun z => by omega)).1) (fun b => t.I (fun z => by omega)), h3.keep (fun i i0 i1 => (t.2 i (fun z => by omega)).1) (fun b _ => t.I (fun z => by omega)), h4.keep (t.I (by decide)) (t.2 18 (by decide)).1, u2.keep (kf.I (by decide)) (kf.I (by decide)) (fun i _ _ => (kf.2 i id).1) (fun a b a0 a1 => kf.I (fun z => by omega)), by rw [t.I (by decide)]; exact h6⟩, t⟩
theorem cx_enter {p : Nat} : ∃ S1, F_w_enter o S g p a = S1 ∧ zR o S1 214 7 = p ∧ zR o S1 214 6 = g ∧ zI S1 214 8 = a ∧ (zI S1 214 9).toInt ≠ 0 ∧ kp (fun a b => a = 214 ∧ 6 ≤ b ∧ b ≤ 9) (fun _ => False) S S1 := by
  obtain ⟨S1, h1⟩ : ∃ T, T = dg_uF S 214 6 (.ref (o + g)) := ⟨_, rfl⟩
  obtain ⟨S2, h2⟩ : ∃ T, T = dg_uF S1 214 7 (.ref (o + p)) := ⟨_, rfl⟩
  obtain ⟨S3, h3⟩ : ∃ T, T = dg_uF S2 214 8 (.int a) := ⟨_, rfl⟩
  obtain ⟨S5, h5⟩ : ∃ T, T = dg_uF S3 214 9 (.int (1 : Int32)) := ⟨_, rfl⟩
  refine ⟨S5, ?_, ?_, ?_, ?_, ?_, ?_⟩
  · rw [F_w_enter_p1 h1 h2 h3 h5]
    exact F_w_enter_p0
  · rw [h5, w_R0 (by decide), h3, w_R0 (by decide), h2, w_R, if_pos ⟨rfl, rfl⟩]
  · rw [h5, w_R0 (by decide), h3, w_R0 (by decide), h2, w_R, if_neg (by decide), h1, w_R, if_pos ⟨rfl, rfl⟩]
  · rw [h5, w_I, if_neg (by decide), h3, w_I, if_pos ⟨rfl, rfl⟩]
  · rw [h5, w_I, if_pos ⟨rfl, rfl⟩]
    decide +kernel
  · rw [h5, h3, h2, h1]
    exact kp.uF (kp.uF (kp.uF (kp.uF kp.rf (by decide)) (by decide)) (by decide)) (by decide)
theorem s_dg_cell (h : (s_dg G K r A).2.1 ≠ -1) : 0 ≤ (s_dg G K r A).2.2.1 ∧ (s_dg G K r A).2.2.1 < 64 := by
  unfold s_dg at h ⊢
  by_cases q : s_no G A
  · rw [s_if_y q] at h
    exact absurd rfl h
  · rw [s_if_n q]
    have hd : s_so G A (A 4 (s_k G A)) := by
      apply Classical.byContradiction
      intro z
      exact q (Or.inr (Or.inr (fun y => z y.1)))
    by_cases q2 : s_fa G K r A (A 4 (s_k G A))
    · rw [s_if_y q2]
      exact hd.1.1
    · rw [s_if_n q2]
      exact hd.1.1
/-- the works as they stand within an act -/
def cx_in (o g : Nat) (G : aR) (K : Nat → List Int) (r : Int) (A : aR) (L : s_L) (S : dg_S) : Prop := zR o S 214 7 = 3 ∧ zR o S 214 6 = g ∧ (zI S 214 8).toInt = r ∧ cx_gt G K S g ∧ cx_pit G A S 3 ∧ cx_kp S L ∧ cx_LI G A r S
/-- what a shift of the pit itself writes -/
def k_pk (S S1 : dg_S) : Prop := kp (fun a b => a = 215 ∨ (a = 214 ∧ (b = 4 ∨ 9 ≤ b)) ∨ (a = 3 ∧ b = 0) ∨ (a = 17 ∧ b = 1)) (fun a => (216 ≤ a ∧ a ≤ 220) ∨ a = 4 ∨ a = 5 ∨ a = 9 ∨ a = 18) S S1
theorem cx_pk (hG : s_gw G) (hK : s_cd K) (hw : s_wf G A) (hcw : s_cw G A) (hr9 : 0 ≤ r ∧ r ≤ 900) (h : cx_in o g G K r A L S) : ∃ (S1 : dg_S) (y : Int32), F_d_passAndKeep o S = (S1, y) ∧ y.toInt = s_dn G K r A ∧ cx_in o g G K r (s_tk G K r A) (s_dL G K r A L) S1 ∧ k_pk S S1 := by
  obtain ⟨h1, h2, h3, h4, h5, h6, h7⟩ := h
  have sep := rX_sep h4.1
  have z0 : (0 : Int32).toInt = 0 := by decide +kernel
  have z1 : (1 : Int32).toInt = 1 := by decide +kernel
  have m1 : (-1 : Int32).toInt = -1 := by decide +kernel
  obtain ⟨S2, e2, k2, p2, l2, d2⟩ := cx_tick (o := o) (S0 := S) (S := S) (p := 3) (a := 1) (k := 0) pX_3' h1 h1 h2 hG hK hw hcw h4 h3 hr9 h5 h7 (by decide +kernel)
  have eP : F_w_pass o S (1 : Int32) = S2 := by
    rw [F_w_pass_p3, show (2147483648 - ((0 : Int32)).toInt).toNat = 2147483647 + 1 by rw [z0]; rfl]
    exact (lp_sl (n := 2147483647 + 1) e2).trans (lp_sr (n := 2147483647) (F_w_pass_p0 (by decide +kernel)))
  have t2 : k_pk S S2 := k2.w (fun a b z => by omega) (fun a z => by omega)
  have go : ∀ S1 L', k_pk S S1 → cx_pit G (s_tk G K r A) S1 3 → cx_kp S1 L' → cx_LI G (s_tk G K r A) r S1 → cx_in o g G K r (s_tk G K r A) L' S1 := fun S1 L' t hp hk hl => ⟨by rw [t.R (by decide)]; exact h1, by rw [t.R (by decide)]; exact h2, by rw [t.I (by decide)]; exact h3, h4.keep (fun i _ _ => (t.2 i (fun z => by omega)).1) (fun b => t.I (fun z => by omega)), hp, hk, hl⟩
  rcases d2 with ⟨a1, a2⟩ | ⟨a1, a2, a3, a4⟩
  · refine ⟨S2, 0, F_d_passAndKeep_p2 eP.symm rfl (dk_eqp (k := -1) m1 a2), ?_, go S2 _ t2 p2 ?_ l2, t2⟩
    · unfold s_dn
      rw [if_pos (Or.inl a1), z0]
    · unfold s_dL
      rw [if_pos a1]
      exact h6.keep (k2.I (by decide)) (k2.2 18 (by decide)).1
  · have q3 : ¬ zI S2 214 10 = (-1 : Int32) := fun z => a1 (by rw [← a2, z]; exact m1)
    have cb := s_dg_cell a1
    have e6 : (zI S2 214 11 - (8 : Int32)).toInt = (s_dg G K r A).2.2.1 := by
      rw [dk_subT a3 (b := 8) (by decide +kernel) (by omega) (by omega)]
      omega
    have k6 : cx_kp S2 L := h6.keep (k2.I (by decide)) (k2.2 18 (by decide)).1
    obtain ⟨S8, e8, p8, k8⟩ := cx_keep (o := o) (S := S2) (a1 := zI S 3 0) (a2 := zI S2 214 10) (a3 := zI S2 214 11 - (8 : Int32)) (a4 := zI S2 214 12) k6
    rw [h5.2.1, a2, e6, a4] at p8
    have t8 : k_pk S S8 := kp.tr t2 (k8.w (fun a b z => by omega) (fun a z => by omega))
    have p8' : cx_pit G (s_tk G K r A) S8 3 := p2.keep (fun i _ _ => (k8.2 i (fun z => by omega)).1) (fun b _ => k8.I (fun z => by omega))
    have l8 : cx_LI G (s_tk G K r A) r S8 := by
      rcases l2 with z | z
      · exact Or.inl (by rw [k8.I (by decide)]; exact z)
      · exact Or.inr (z.sm rfl rfl rfl (k8.2 217 (by decide)).1 (k8.2 218 (by decide)).1 (k8.2 219 (by decide)).1 (k8.I (by decide)))
    have eL : s_dL G K r A L = s_kp L (A 0 0, (s_dg G K r A).2.1, (s_dg G K r A).2.2.1, (s_dg G K r A).2.2.2) := by
      unfold s_dL
      rw [if_neg a1]
    rw [← eL] at p8
    by_cases q7 : zI S2 214 12 = (-1 : Int32)
    · refine ⟨S8, 0, F_d_passAndKeep_p1 rfl eP.symm rfl q3 rfl rfl rfl e8.symm q7, ?_, go S8 _ t8 p8' p8 l8, t8⟩
      unfold s_dn
      rw [if_pos (Or.inr (by rw [← a4, q7]; exact m1)), z0]
    · refine ⟨S8, 1, F_d_passAndKeep_p0 rfl eP.symm rfl q3 rfl rfl rfl e8.symm q7, ?_, go S8 _ t8 p8' p8 l8, t8⟩
      unfold s_dn
      rw [if_neg (fun z => by
        rcases z with z | z
        · exact a1 z
        · exact q7 (dk_eqp (k := -1) m1 (by rw [a4]; exact z))), z1]
/-- shift by shift: the pit, what is kept, how many tubs -/
noncomputable def s_go (G : aR) (K : Nat → List Int) (r : Int) : Nat → aR × s_L × Int → aR × s_L × Int
  | 0, q => q
  | n + 1, q => (s_tk G K r (s_go G K r n q).1, s_dL G K r (s_go G K r n q).1 (s_go G K r n q).2.1, (s_go G K r n q).2.2 + s_dn G K r (s_go G K r n q).1)
theorem s_go_ok (hG : s_gw G) (hw : s_wf G A) (hcw : s_cw G A) {q : s_L × Int} : ∀ n : Nat, s_wf G (s_go G K r n (A, q)).1 ∧ s_cw G (s_go G K r n (A, q)).1
  | 0 => ⟨hw, hcw⟩
  | n + 1 => by
    have h := s_go_ok hG hw hcw (q := q) n
    exact ⟨s_tk_wf hG h.1 h.2, s_tk_cw hG h.1 h.2⟩
theorem s_dn_01 : s_dn G K r A = 0 ∨ s_dn G K r A = 1 := by
  unfold s_dn
  split
  · exact Or.inl rfl
  · exact Or.inr rfl
theorem s_go_n {q : s_L × Int} : ∀ n : Nat, q.2 ≤ (s_go G K r n (A, q)).2.2 ∧ (s_go G K r n (A, q)).2.2 ≤ q.2 + n
  | 0 => ⟨Int.le_refl _, by show q.2 ≤ q.2 + ((0 : Nat) : Int); omega⟩
  | n + 1 => by
    have h := s_go_n (q := q) n
    have h2 := s_dn_01 (G := G) (K := K) (r := r) (A := (s_go G K r n (A, q)).1)
    show q.2 ≤ (s_go G K r n (A, q)).2.2 + s_dn G K r (s_go G K r n (A, q)).1 ∧ (s_go G K r n (A, q)).2.2 + s_dn G K r (s_go G K r n (A, q)).1 ≤ q.2 + ((n + 1 : Nat) : Int)
    omega
/-- do so many shifts come -/
theorem cx_come (hg : cx_g G K S g) (h6 : zR o S 0 6 = g) (hG : s_gw G) (hw : s_wf G A) (hp : cx_pit G A S 3) {a2 a3 : Int32} (h3 : -1000 ≤ a3.toInt ∧ a3.toInt ≤ 1000) (h1 : 0 ≤ a1.toInt) : F_d_shiftsCome o S a1 a2 a3 = 1 ∧ (a1.toInt ≤ a2.toInt ∧ a2.toInt ≤ a3.toInt ∧ A 0 0 + a2.toInt ≤ 999) ∨ F_d_shiftsCome o S a1 a2 a3 = 0 ∧ ¬ (a1.toInt ≤ a2.toInt ∧ a2.toInt ≤ a3.toInt ∧ A 0 0 + a2.toInt ≤ 999) := by
  have z0 : (0 : Int32).toInt = 0 := by decide +kernel
  have z9 : (999 : Int32).toInt = 999 := by decide +kernel
  have hc := hg.2.1.1
  have hG1 := hG.1.1.1
  have hw0 := hw.1
  have n1 : ¬ zI S g 0 ≤ (0 : Int32) := fun z => by have := dk_lec z0 z; omega
  have es : ¬ F_g_hasSeam o S g = (0 : Int32) := by
    rw [F_g_hasSeam_p1 rfl n1]
    decide +kernel
  by_cases q1 : a2 < a1
  · have := w_lt.mp q1
    exact Or.inr ⟨F_d_shiftsCome_p1 h6.symm rfl es q1, by omega⟩
  have d1 : ¬ a2.toInt < a1.toInt := fun z => q1 (w_lt.mpr z)
  by_cases q2 : a3 < a2
  · have := w_lt.mp q2
    exact Or.inr ⟨F_d_shiftsCome_p2 h6.symm rfl es q1 q2, by omega⟩
  have d2 : ¬ a3.toInt < a2.toInt := fun z => q2 (w_lt.mpr z)
  have e20 : (zI S 3 0 + a2).toInt = A 0 0 + a2.toInt := dk_addT hp.2.1 rfl (by omega) (by omega)
  by_cases q3 : (999 : Int32) < zI S 3 0 + a2
  · have := dk_gtc z9 q3
    exact Or.inr ⟨F_d_shiftsCome_p3 h6.symm rfl es q1 q2 rfl rfl q3, by omega⟩
  · have := dk_ngtc z9 q3
    exact Or.inl ⟨F_d_shiftsCome_p4 h6.symm rfl es q1 q2 rfl rfl q3, by omega⟩
/-- within an act, all the rest stays -/
theorem RX.act {LF : Nat → Nat → Prop} {LA : Nat → Prop} {A' : aR} {L' : s_L} (h : RX o g G K A L U x S) (t : kp LF LA S S1) (hp : cx_pit G A' S1 3) (hk : cx_kp S1 L') (f06 : ¬ LF 0 6) (f012 : ¬ LF 0 12) (fg : ∀ a b, 185 ≤ a → a ≤ 208 → ¬ LF a b) (f17 : ¬ LF 17 2 ∧ ¬ LF 17 3) (fh : ∀ a b, 42 ≤ a → a < 182 → ¬ LF a b) (ag : ∀ a, 185 ≤ a → a ≤ 208 → ¬ LA a) (ah : ∀ a, 21 ≤ a → a < 182 → ¬ LA a) : RX o g G K A' L' U x S1 := by
  obtain ⟨h1, h2, h3, h4, h5, h6⟩ := h
  have sep := rX_sep h2.1.1
  exact ⟨by rw [t.R f06]; exact h1, h2.keep (fun i i0 i1 => (t.2 i (ag i (by omega) (by omega))).1) (fun b => t.I (fg _ _ (by omega) (by omega))), hp, hk, h5.keep (t.I f17.1) (t.I f17.2) (fun i i0 i1 => (t.2 i (ah i i0 i1)).1) (fun a b a0 a1 => t.I (fh a b a0 a1)), by rw [t.I f012]; exact h6⟩
/-- SHIFTS of the class, where they come -/
theorem cx_shifts (ok : s_ok G K A U) (h : RX o g G K A L U x S) (hn : a1.toInt = n) (h1 : 1 ≤ n) (h40 : n ≤ 40) (h9 : A 0 0 + n ≤ 999) : ∃ (S1 : dg_S) (y : Int32), F_d_shifts o S a1 = (S1, y) ∧ y.toInt = (s_go G K (G 0 3) n (A, L, 0)).2.2 ∧ RX o g G K (s_go G K (G 0 3) n (A, L, 0)).1 (s_go G K (G 0 3) n (A, L, 0)).2.1 (s_ud U (A, L)) x S1 := by
  obtain ⟨hG, hK, ⟨hw, hcw⟩, -⟩ := ok
  have z0 : (0 : Int32).toInt = 0 := by decide +kernel
  obtain ⟨S4, e4, r4, k4⟩ := cx_act (o := o) hG h
  have sep := rX_sep h.2.1.1.1
  obtain ⟨S7, e7, f7, f6, f8, f9, k7⟩ := cx_enter (o := o) (S := S4) (g := g) (p := 3) (a := zI S g 3)
  have r3 : (zI S g 3).toInt = G 0 3 := h.2.1.2.1.2.2.1
  have r7 : RX o g G K A L (s_ud U (A, L)) x S7 := r4.keep k7 (by decide) (by decide) (fun a b _ _ => by omega) (fun b => by omega) (fun b => by omega) (fun a b _ _ => by omega) (fun a _ _ => id) (fun a _ _ => id) id (fun a _ _ => id)
  have i7 : cx_in o g G K (G 0 3) A L S7 := ⟨f7, f6, by rw [f8]; exact r3, r7.2.1.1, r7.2.2.1, r7.2.2.2.1, Or.inl f9⟩
  have come : ¬ F_d_shiftsCome o S (1 : Int32) a1 (40 : Int32) = (0 : Int32) := by
    rcases cx_come (o := o) (a1 := 1) (a2 := a1) (a3 := 40) h.2.1 h.1 hG.1 hw h.2.2.1 (by decide +kernel) (by decide +kernel) with ⟨e, -⟩ | ⟨-, e⟩
    · rw [e]; decide +kernel
    · exfalso
      apply e
      rw [hn, show (1 : Int32).toInt = 1 by decide +kernel, show (40 : Int32).toInt = 40 by decide +kernel]
      omega
  have main := lp_cnt (f := F_d_shifts_B1 a1 o) (z := (S, (0 : Int32))) (W := n) (P := fun c s => s.1.toInt = (s_go G K (G 0 3) c (A, L, 0)).2.2 ∧ cx_in o g G K (G 0 3) (s_go G K (G 0 3) c (A, L, 0)).1 (s_go G K (G 0 3) c (A, L, 0)).2.1 s.2 ∧ k_pk S7 s.2) (Q := fun q => q.2.toInt = (s_go G K (G 0 3) n (A, L, 0)).2.2 ∧ cx_in o g G K (G 0 3) (s_go G K (G 0 3) n (A, L, 0)).1 (s_go G K (G 0 3) n (A, L, 0)).2.1 q.1 ∧ k_pk S7 q.1) (by omega) (fun c cI s hc hcI hP => by
    obtain ⟨m, T⟩ := s
    obtain ⟨p1, p2, p3⟩ := hP
    have okc := s_go_ok (K := K) (r := G 0 3) hG.1 hw hcw (q := (L, 0)) c
    have nb := s_go_n (G := G) (K := K) (r := G 0 3) (A := A) (q := (L, (0 : Int))) c
    obtain ⟨T1, y, e1, y1, i1, k1⟩ := cx_pk hG.1 hK okc.1 okc.2 ⟨by have := hG.2.1; omega, by have := hG.2.1; omega⟩ p2
    have dn := s_dn_01 (G := G) (K := K) (r := G 0 3) (A := (s_go G K (G 0 3) c (A, L, 0)).1)
    have q0 : ¬ a1 ≤ cI := fun z => by have := w_le.mp z; omega
    refine ⟨(m + y, T1), F_d_shifts_p1 q0 (by rw [e1]) (show y = _ by rw [e1]) rfl rfl, ?_, i1, kp.tr p3 k1⟩
    show (m + y).toInt = _ + s_dn G K (G 0 3) _
    have p1 : m.toInt = (s_go G K (G 0 3) c (A, L, 0)).2.2 := p1
    have nb1 : (0 : Int) ≤ (s_go G K (G 0 3) c (A, L, 0)).2.2 := nb.1
    have nb2 : (s_go G K (G 0 3) c (A, L, 0)).2.2 ≤ 0 + c := nb.2
    exact dk_addT p1 y1 (by omega) (by omega)) (fun cI s hcI hP => by
    obtain ⟨m, T⟩ := s
    exact ⟨(T, m), F_d_shifts_p0 (w_le.mpr (by omega)), hP⟩) ((2147483648 - ((0 : Int32)).toInt).toNat + 1) 0 0 (0, S7) (by rw [z0]; omega) (by omega) z0 ⟨z0, i7, kp.rf⟩
  rw [F_d_shifts_p2 rfl come e4.symm h.1.symm rfl e7.symm]
  obtain ⟨m1, m2, m3⟩ := main
  refine ⟨_, _, rfl, m1, r7.act m3 m2.2.2.2.2.1 m2.2.2.2.2.2.1 (by decide) (by decide) (fun a b _ _ => by omega) (by decide) (fun a b _ _ => by omega) (fun a _ _ => by omega) (fun a _ _ => by omega)⟩
/-- refused -/
theorem cx_no (h : RX o g G K A L U x S) {k : Nat} (hk : a1.toInt = k) : ∃ S1, F_d_no o S a1 = (S1, (0 : Int32)) ∧ F_d_none o S a1 = (S1, (-1 : Int32)) ∧ RX o g G K A L U x S1 ∧ S1 = dg_uf S 184 (upd (S.2.1 184) k (S.2.1 184 k + (1 : Int32))) := by
  have kn : a1.toNatClampNeg = k := by rw [dk_clN]; omega
  obtain ⟨S1, h1⟩ : ∃ T, T = dg_uf S 184 (upd (S.2.1 184) a1.toNatClampNeg (S.2.1 184 a1.toNatClampNeg + (1 : Int32))) := ⟨_, rfl⟩
  have t : kp (fun _ _ => False) (fun a => a = 184) S S1 := by rw [h1]; exact kp.uf kp.rf rfl
  refine ⟨S1, F_d_no_p0 rfl rfl h1, F_d_none_p0 rfl rfl h1, h.keep t id id (fun _ _ _ _ => id) (fun _ => id) (fun _ => id) (fun _ _ _ _ => id) (fun a _ _ => by omega) (fun a _ _ => by omega) (by decide) (fun a _ _ => by omega), ?_⟩
  rw [h1, kn]
end XS
end
section
/-! the reference's acts: shifts -/
theorem mx_gd.keep2 {G : aR} {S S1 : dg_S} (h : mx_gd G S) (e47 : zI S1 0 47 = zI S 0 47) (e13 : zI S1 0 13 = zI S 0 13) (e : ∀ i, i ≤ 19 → S1.2.1 i = S.2.1 i) : mx_gd G S1 := by
  obtain ⟨h1, h2, h3, h4, h5⟩ := h
  refine ⟨by rw [e47]; exact h1, ?_, ?_, ?_, ?_⟩
  · rw [e13, e 2 (by decide)]; exact h2
  · rw [e13, e 3 (by decide)]; exact h3
  · rw [e13, e 4 (by decide)]; exact h4
  · rw [e13, e 9 (by decide)]; exact h5
/-- all that is told of a ground -/
def mx_gf (G : aR) (K : Nat → List Int) (S : dg_S) : Prop := mx_g G K S ∧ ((S.2.1 5 (zI S 0 13).toNatClampNeg).toInt = G 0 3 ∧ (S.2.1 6 (zI S 0 13).toNatClampNeg).toInt = G 0 4 ∧ (S.2.1 8 (zI S 0 13).toNatClampNeg).toInt = G 0 5 ∧ (S.2.1 12 (zI S 0 13).toNatClampNeg).toInt = G 0 7) ∧ (∀ c : Int, s_in G c → (S.2.1 7 (64 * (zI S 0 13).toNatClampNeg + c.toNat)).toInt = G 1 c.toNat) ∧ (∀ k : Nat, (k : Int) < G 0 6 → (S.2.1 10 (16 * (zI S 0 13).toNatClampNeg + k)).toInt = G 5 k ∧ (S.2.1 11 (16 * (zI S 0 13).toNatClampNeg + k)).toInt = G 6 k) ∧ ∀ k : Nat, (k : Int) < G 0 7 → (S.2.1 13 (5 * (zI S 0 13).toNatClampNeg + k)).toInt = G 2 k ∧ (S.2.1 14 (5 * (zI S 0 13).toNatClampNeg + k)).toInt = G 3 k ∧ (S.2.1 15 (5 * (zI S 0 13).toNatClampNeg + k)).toInt = G 4 k
theorem mx_gf.keep {G : aR} {K : Nat → List Int} {S S1 : dg_S} (h : mx_gf G K S) (e47 : zI S1 0 47 = zI S 0 47) (e13 : zI S1 0 13 = zI S 0 13) (e : ∀ i, i ≤ 19 → S1.2.1 i = S.2.1 i) : mx_gf G K S1 := by
  obtain ⟨⟨g1, b, g2, g3, g4⟩, ⟨f5, f6, f8, f12⟩, h2, h3, h4⟩ := h
  refine ⟨⟨g1.keep2 e47 e13 e, b, g2, by rw [e13]; exact g3, fun w hw => (g4 w hw).keep e⟩, ⟨?_, ?_, ?_, ?_⟩, fun c hc => ?_, fun k hk => ?_, fun k hk => ?_⟩
  · rw [e13, e 5 (by decide)]; exact f5
  · rw [e13, e 6 (by decide)]; exact f6
  · rw [e13, e 8 (by decide)]; exact f8
  · rw [e13, e 12 (by decide)]; exact f12
  · rw [e13, e 7 (by decide)]; exact h2 c hc
  · rw [e13, e 10 (by decide), e 11 (by decide)]; exact h3 k hk
  · rw [e13, e 13 (by decide), e 14 (by decide), e 15 (by decide)]; exact h4 k hk
/-- what one state of the mine is: the reference's side -/
def RM (G : aR) (K : Nat → List Int) (A : aR) (L : s_L) (U : s_U) (x : Int) (S : dg_S) : Prop := mx_gf G K S ∧ mx_lay G A L S 0 ∧ mx_ud G S U ∧ (zI S 0 63).toInt = G 0 3 ∧ (zL S 0 62).toInt = x
section RS
variable {o n : Nat} {G A A' : aR} {K : Nat → List Int} {L L' : s_L} {U : s_U} {S S0 S1 : dg_S} {x r : Int} {a a1 : Int32}
theorem mx_ud.keep (h : mx_ud G S U) (hb : G 0 6 ≤ 16) (e60 : zI S1 0 60 = zI S 0 60) (e61 : zI S1 0 61 = zI S 0 61) (e : ∀ a, 29 ≤ a → a ≤ 39 → ∀ j, 2 * mx_w a ≤ j → S1.2.1 a j = S.2.1 a j) : mx_ud G S1 U := by
  obtain ⟨h1, h2, f, h3, h4, h5⟩ := h
  refine ⟨by rw [e61]; exact h1, h2, f, h3, by rw [e60]; exact h4, fun i e9 he => (h5 i e9 he).keep hb (fun a a0 a1 j j0 _ => e a a0 a1 j ?_)⟩
  have h9 := Nat.mul_le_mul_left (mx_w a) (show 2 ≤ 2 + (f + i) % 20 by omega)
  rw [Nat.mul_comm (mx_w a) 2] at h9
  omega
/-- what leaves a state as it is -/
theorem RM.keep {LF : Nat → Nat → Prop} {LA : Nat → Prop} (h : RM G K A L U x S) (hb : G 0 6 ≤ 16) (t : kp LF LA S S1) (f : ∀ b, b = 13 ∨ b = 47 ∨ b = 60 ∨ b = 61 ∨ b = 62 ∨ b = 63 → ¬ LF 0 b) (ag : ∀ a, a ≤ 19 → ¬ LA a) (al : ∀ a, 29 ≤ a → a ≤ 39 → ¬ LA a) : RM G K A L U x S1 := by
  obtain ⟨h1, h2, h3, h4, h5⟩ := h
  exact ⟨h1.keep (t.I (f 47 (by omega))) (t.I (f 13 (by omega))) (fun i hi => (t.2 i (ag i hi)).1), h2.keep hb (fun a a0 a1 j _ _ => by rw [(t.2 a (al a a0 a1)).1]), h3.keep hb (t.I (f 60 (by omega))) (t.I (f 61 (by omega))) (fun a a0 a1 j _ => by rw [(t.2 a (al a a0 a1)).1]), by rw [t.I (f 63 (by omega))]; exact h4, by rw [t.L (f 62 (by omega))]; exact h5⟩
/-- what is done to layer 0 or 1 alone -/
theorem RM.v {v : Nat} (h : RM G K A L U x S) (hb : G 0 6 ≤ 16) (t : k_v v S S1) (hv : v ≤ 1) (hl : mx_lay G A' L' S1 0) : RM G K A' L' U x S1 := by
  obtain ⟨h1, h2, h3, h4, h5⟩ := h
  exact ⟨h1.keep t.I t.I (fun i hi => t.row (by omega)), hl, t.ud h3 hv hb, by rw [t.I]; exact h4, by rw [t.1.L id]; exact h5⟩
/-- ahead of an act -/
theorem mx_act (hG : s_gx G) (h : RM G K A L U x S) : ∃ S1, F_m_keeps o S = S1 ∧ RM G K A L (s_ud U (A, L)) x S1 ∧ k_u S S1 := by
  obtain ⟨h1, h2, h3, h4, h5⟩ := h
  have hb := hG.1.2.2.2
  obtain ⟨S1, e1, k1, u1⟩ := mx_keeps (o := o) hb h2 h3
  exact ⟨S1, e1, ⟨h1.keep (k1.1.I (by decide)) (k1.1.I (by decide)) (fun i hi => (k1.1.2 i (by omega)).1), k1.lay h2 (by decide) hb, u1, by rw [k1.1.I (by decide)]; exact h4, by rw [k1.1.L (by decide)]; exact h5⟩, k1⟩
theorem s_go_00 (h : A 0 0 + (n : Int) ≤ 999) {q : s_L × Int} : (s_go G K r n (A, q)).1 0 0 = A 0 0 + n := by
  induction n with
  | zero =>
    show A 0 0 = A 0 0 + ((0 : Nat) : Int)
    omega
  | succ n ih =>
    have e := ih (by omega)
    show s_tk G K r (s_go G K r n (A, q)).1 0 0 = A 0 0 + ((n + 1 : Nat) : Int)
    unfold s_tk
    rw [s_up_at, e]
    omega
/-- a shift of layer 0 -/
theorem mx_tick0 (ok : s_ok G K A U) (h : RM G K A L U x S) (h9 : A 0 0 < 999) : ∃ (S1 : dg_S) (y : Int32), F_m_ticks o S (0 : Int32) = (S1, y) ∧ y.toInt = s_dn G K (G 0 3) A ∧ RM G K (s_tk G K (G 0 3) A) (s_dL G K (G 0 3) A L) U x S1 ∧ zI S1 0 13 = zI S 0 13 := by
  obtain ⟨hG, hK, ⟨hw, hcw⟩, -⟩ := ok
  have hr := hG.2.1
  obtain ⟨S1, y, e1, k1, l1, y1⟩ := mx_tick (o := o) (v := 0) (a1 := 0) hG.1 hK hw hcw h.1.1 h.2.1 (by decide +kernel) (by decide) h.2.2.2.1 (by omega)
  rw [s_tu_tk h9] at l1
  exact ⟨S1, y, e1, y1, h.v hG.1.2.2.2 k1 (by decide) l1, k1.I⟩
theorem mx_come (hg : mx_gd G S) (hl : mx_lay G A L S 0) (hw : s_wf G A) {a2 a3 : Int32} (h3 : -1000 ≤ a3.toInt ∧ a3.toInt ≤ 1000) (h2 : 0 ≤ a2.toInt) : F_m_isAhead o S a1 a2 a3 = 1 ∧ (a2.toInt ≤ a1.toInt ∧ a1.toInt ≤ a3.toInt ∧ A 0 0 + a1.toInt ≤ 999) ∨ F_m_isAhead o S a1 a2 a3 = 0 ∧ ¬ (a2.toInt ≤ a1.toInt ∧ a1.toInt ≤ a3.toInt ∧ A 0 0 + a1.toInt ≤ 999) := by
  have z0 : (0 : Int32).toInt = 0 := by decide +kernel
  have n0 : (0 : Int32).toNatClampNeg = 0 := by decide +kernel
  have hw0 := hw.1
  have h29 := hl.2.1
  have n47 : ¬ zI S 0 47 = (0 : Int32) := fun z => hg.1 (dk_eqc z0 z)
  rcases mx_is (o := o) (S := S) (a := a1) (b := a2) (c := a3) with ⟨e, h⟩ | ⟨e, h⟩
  · have ne : ¬ F_m_is o S a1 a2 a3 = (0 : Int32) := by rw [e]; decide +kernel
    have e11 : ((999 : Int32) - a1).toInt = 999 - a1.toInt := dk_subT (by decide +kernel) rfl (by omega) (by omega)
    by_cases q : (999 : Int32) - a1 < S.2.1 29 (0 : Int32).toNatClampNeg
    · have d := w_lt.mp q
      rw [n0, e11] at d
      exact Or.inr ⟨F_m_isAhead_p2 rfl rfl n47 rfl ne rfl q, by omega⟩
    · have d : ¬ ((999 : Int32) - a1).toInt < (S.2.1 29 (0 : Int32).toNatClampNeg).toInt := fun z => q (w_lt.mpr z)
      rw [n0, e11] at d
      exact Or.inl ⟨F_m_isAhead_p3 rfl rfl n47 rfl ne rfl q, by omega⟩
  · exact Or.inr ⟨F_m_isAhead_p1 rfl n47 rfl e, by omega⟩
theorem s_go_okU (ok : s_ok G K A U) {q : s_L × Int} (c : Nat) : s_ok G K (s_go G K (G 0 3) c (A, q)).1 U := ⟨ok.1, ok.2.1, s_go_ok ok.1.1 ok.2.2.1.1 ok.2.2.1.2 c, ok.2.2.2⟩
theorem s_ud_ok (ok : s_ok G K A U) : s_ok G K A (s_ud U (A, L)) := by
  refine ⟨ok.1, ok.2.1, ok.2.2.1, fun i e he => ?_⟩
  unfold s_ud at he
  rcases ap_get he with ⟨-, b⟩ | ⟨-, b⟩
  · by_cases q : U.length = 20
    · rw [if_pos q, tl_get] at b
      exact ok.2.2.2 _ e b
    · rw [if_neg q] at b
      exact ok.2.2.2 _ e b
  · rw [b]
    exact ok.2.2.1
/-- SHIFTS of the reference, where they come -/
theorem mx_shifts (ok : s_ok G K A U) (h : RM G K A L U x S) (hn : a1.toInt = n) (h1 : 1 ≤ n) (h40 : n ≤ 40) (h9 : A 0 0 + n ≤ 999) : ∃ (S1 : dg_S) (y : Int32), F_m_shifts o S a1 = (S1, y) ∧ y.toInt = (s_go G K (G 0 3) n (A, L, 0)).2.2 ∧ RM G K (s_go G K (G 0 3) n (A, L, 0)).1 (s_go G K (G 0 3) n (A, L, 0)).2.1 (s_ud U (A, L)) x S1 := by
  have z0 : (0 : Int32).toInt = 0 := by decide +kernel
  obtain ⟨S2, e2, r2, k2⟩ := mx_act (o := o) ok.1 h
  have okU := s_ud_ok (L := L) ok
  have come : ¬ F_m_isAhead o S a1 (1 : Int32) (40 : Int32) = (0 : Int32) := by
    rcases mx_come (o := o) (a1 := a1) (a2 := 1) (a3 := 40) h.1.1.1 h.2.1 ok.2.2.1.1 (by decide +kernel) (by decide +kernel) with ⟨e, -⟩ | ⟨-, e⟩
    · rw [e]; decide +kernel
    · exfalso
      apply e
      rw [hn, show (1 : Int32).toInt = 1 by decide +kernel, show (40 : Int32).toInt = 40 by decide +kernel]
      omega
  have main := lp_cnt (f := F_m_shifts_B1 a1 o) (z := (S, (0 : Int32))) (W := n) (P := fun c s => s.1.toInt = (s_go G K (G 0 3) c (A, L, 0)).2.2 ∧ RM G K (s_go G K (G 0 3) c (A, L, 0)).1 (s_go G K (G 0 3) c (A, L, 0)).2.1 (s_ud U (A, L)) x s.2.2) (Q := fun q => q.2.toInt = (s_go G K (G 0 3) n (A, L, 0)).2.2 ∧ RM G K (s_go G K (G 0 3) n (A, L, 0)).1 (s_go G K (G 0 3) n (A, L, 0)).2.1 (s_ud U (A, L)) x q.1) (by omega) (fun c cI s hc hcI hP => by
    obtain ⟨m, w, T⟩ := s
    obtain ⟨p1, p2⟩ := hP
    have okc := s_go_okU (q := (L, 0)) okU c
    have nb := s_go_n (G := G) (K := K) (r := G 0 3) (A := A) (q := (L, (0 : Int))) c
    have e00 := s_go_00 (n := c) (G := G) (K := K) (r := G 0 3) (A := A) (q := (L, (0 : Int))) (by omega)
    obtain ⟨T1, y, e1, y1, i1, -⟩ := mx_tick0 (o := o) okc p2 (by rw [e00]; omega)
    have dn := s_dn_01 (G := G) (K := K) (r := G 0 3) (A := (s_go G K (G 0 3) c (A, L, 0)).1)
    have q0 : ¬ a1 ≤ cI := fun z => by have := w_le.mp z; omega
    refine ⟨(m + y, _, T1), F_m_shifts_p1 q0 (by rw [e1]) (show y = _ by rw [e1]) rfl rfl rfl, ?_, i1⟩
    show (m + y).toInt = _ + s_dn G K (G 0 3) _
    have p1 : m.toInt = (s_go G K (G 0 3) c (A, L, 0)).2.2 := p1
    have nb1 : (0 : Int) ≤ (s_go G K (G 0 3) c (A, L, 0)).2.2 := nb.1
    have nb2 : (s_go G K (G 0 3) c (A, L, 0)).2.2 ≤ 0 + c := nb.2
    exact dk_addT p1 y1 (by omega) (by omega)) (fun cI s hcI hP => by
    obtain ⟨m, w, T⟩ := s
    exact ⟨(T, m), F_m_shifts_p0 (w_le.mpr (by omega)), hP⟩) ((41 - ((0 : Int32)).toInt).toNat + 1) 0 0 (0, S2.2.1 29 (0 : Int32).toNatClampNeg, S2) (by rw [z0]; omega) (by omega) z0 ⟨z0, r2⟩
  rw [F_m_shifts_p2 rfl come e2.symm rfl]
  exact ⟨_, _, rfl, main.1, main.2⟩
theorem mx_ref (hb : G 0 6 ≤ 16) (h : RM G K A L U x S) {k : Nat} (hk : a1.toInt = k) : ∃ S1, F_m_refuses o S a1 = (S1, (-1 : Int32)) ∧ RM G K A L U x S1 ∧ S1 = dg_uf S 28 (upd (S.2.1 28) k (S.2.1 28 k + (1 : Int32))) := by
  have kn : a1.toNatClampNeg = k := by rw [dk_clN]; omega
  obtain ⟨S1, h1⟩ : ∃ T, T = dg_uf S 28 (upd (S.2.1 28) a1.toNatClampNeg (S.2.1 28 a1.toNatClampNeg + (1 : Int32))) := ⟨_, rfl⟩
  have t : kp (fun _ _ => False) (fun a => a = 28) S S1 := by rw [h1]; exact kp.uf kp.rf rfl
  refine ⟨S1, F_m_refuses_p0 rfl rfl h1, h.keep hb t (fun _ _ => id) (fun a _ => by omega) (fun a _ _ => by omega), ?_⟩
  rw [h1, kn]
/-- SHIFTS on both sides -/
theorem sim_shifts {oX oM g : Nat} {SX SM : dg_S} (ok : s_ok G K A U) (hX : RX oX g G K A L U x SX) (hM : RM G K A L U x SM) : ∃ (A' : aR) (L' : s_L) (U' : s_U), (F_d_shifts oX SX a1).2 = (F_m_shifts oM SM a1).2 ∧ s_ok G K A' U' ∧ RX oX g G K A' L' U' x (F_d_shifts oX SX a1).1 ∧ RM G K A' L' U' x (F_m_shifts oM SM a1).1 := by
  have z1 : (1 : Int32).toInt = 1 := by decide +kernel
  have z40 : (40 : Int32).toInt = 40 := by decide +kernel
  have cX := cx_come (o := oX) (a1 := 1) (a2 := a1) (a3 := 40) hX.2.1 hX.1 ok.1.1 ok.2.2.1.1 hX.2.2.1 (by decide +kernel) (by decide +kernel)
  have cM := mx_come (o := oM) (a1 := a1) (a2 := 1) (a3 := 40) hM.1.1.1 hM.2.1 ok.2.2.1.1 (by decide +kernel) (by decide +kernel)
  rw [z1, z40] at cX cM
  by_cases q : 1 ≤ a1.toInt ∧ a1.toInt ≤ 40 ∧ A 0 0 + a1.toInt ≤ 999
  · obtain ⟨n, hn⟩ : ∃ n : Nat, a1.toInt = n := ⟨a1.toInt.toNat, by omega⟩
    obtain ⟨S1, y, e1, y1, r1⟩ := cx_shifts (o := oX) ok hX hn (by omega) (by omega) (by omega)
    obtain ⟨S2, w, e2, w2, r2⟩ := mx_shifts (o := oM) ok hM hn (by omega) (by omega) (by omega)
    rw [e1, e2]
    exact ⟨_, _, _, Int32.toInt_inj.mp (y1.trans w2.symm), s_go_okU (s_ud_ok ok) n, r1, r2⟩
  · have e1 : F_d_shiftsCome oX SX (1 : Int32) a1 (40 : Int32) = 0 := by
      rcases cX with ⟨-, e⟩ | ⟨e, -⟩
      · exact absurd e q
      · exact e
    have e2 : F_m_isAhead oM SM a1 (1 : Int32) (40 : Int32) = 0 := by
      rcases cM with ⟨-, e⟩ | ⟨e, -⟩
      · exact absurd e q
      · exact e
    obtain ⟨S1, -, f1, r1, -⟩ := cx_no (o := oX) (a1 := 2) (k := 2) hX (by decide +kernel)
    obtain ⟨S2, f2, r2, -⟩ := mx_ref (o := oM) (a1 := 2) (k := 2) ok.1.1.2.2.2 hM (by decide +kernel)
    rw [F_d_shifts_p3 rfl e1 rfl rfl, F_m_shifts_p3 rfl e2 rfl rfl, f1, f2]
    exact ⟨A, L, U, rfl, ok, r1, r2⟩
end RS
end
section
/-! draws and quakes, both sides -/
theorem l_mask {y : Int64} (h : 0 ≤ y.toInt) : (y &&& (2147483647 : Int64)).toInt = y.toInt % 2147483648 := by
  have e : (y &&& (2147483647 : Int64)).toBitVec = y.toBitVec &&& (2147483647 : Int64).toBitVec := rfl
  have n : (y.toBitVec &&& (2147483647 : Int64).toBitVec).toNat = y.toBitVec.toNat % 2147483648 := by
    rw [BitVec.toNat_and]
    exact Nat.and_two_pow_sub_one_eq_mod y.toBitVec.toNat 31
  have c1 := BitVec.toInt_eq_toNat_cond y.toBitVec
  have c2 := BitVec.toInt_eq_toNat_cond (y.toBitVec &&& (2147483647 : Int64).toBitVec)
  rw [n] at c2
  rw [Int64.toInt_toBitVec] at c1
  rw [← e, Int64.toInt_toBitVec] at c2
  have b := y.toBitVec.isLt
  rw [c2]
  rw [if_pos (by omega)]
  by_cases q : 2 * y.toBitVec.toNat < 2 ^ 64
  · rw [if_pos q] at c1
    omega
  · rw [if_neg q] at c1
    omega
theorem l_rem {x y : Int64} (hx : 0 ≤ x.toInt) (hy : 0 < y.toInt) : (x - x / y * y).toInt = x.toInt % y.toInt := by
  have b : x.toInt < 9223372036854775808 := by
    have := Int64.toInt_lt x
    omega
  have e1 : (x / y).toInt = x.toInt / y.toInt := by
    rw [Int64.toInt_div_of_ne_left x y (fun z => by rw [z] at hx; exact absurd hx (by decide +kernel))]
    exact Int.tdiv_eq_ediv_of_nonneg hx
  have h1 := Int.ediv_mul_le x.toInt (show y.toInt ≠ 0 by omega)
  have h2 : 0 ≤ x.toInt / y.toInt * y.toInt := Int.mul_nonneg (Int.ediv_nonneg hx (by omega)) (by omega)
  have e2 : (x / y * y).toInt = x.toInt / y.toInt * y.toInt := by
    rw [Int64.toInt_mul, e1]
    generalize x.toInt / y.toInt * y.toInt = z at h1 h2 ⊢
    exact Int.bmod_eq_of_le (by omega) (by omega)
  have e3 : (x - x / y * y).toInt = x.toInt - x.toInt / y.toInt * y.toInt := by
    rw [Int64.toInt_sub, e2]
    generalize x.toInt / y.toInt * y.toInt = z at h1 h2 ⊢
    exact Int.bmod_eq_of_le (by omega) (by omega)
  rw [e3, Int.emod_def, Int.mul_comm]
theorem l_div0 {x y : Int64} (hx : 0 ≤ x.toInt) : (x / y).toInt = x.toInt / y.toInt := by
  rw [Int64.toInt_div_of_ne_left x y (fun z => by rw [z] at hx; exact absurd hx (by decide +kernel))]
  exact Int.tdiv_eq_ediv_of_nonneg hx
/-- a draw: the seed behind it -/
def s_dr (x : Int) : Int := (1103515245 * x + 12345) % 2147483648
theorem s_dr_b (x : Int) : 0 ≤ s_dr x ∧ s_dr x < 2147483648 := by
  unfold s_dr
  omega
section DR
variable {o g n : Nat} {G A A' : aR} {K : Nat → List Int} {L L' : s_L} {U : s_U} {S S0 S1 : dg_S} {x x' r : Int} {a a1 a2 : Int32}
theorem cx_draw (h : (zI S 0 12).toInt = x) (hx : 0 ≤ x ∧ x < 2147483648) (ha : 0 < a1.toInt) : ∃ (S1 : dg_S) (y : Int32), F_d_draw o S a1 = (S1, y) ∧ y.toInt = s_dr x / 64 % a1.toInt ∧ (zI S1 0 12).toInt = s_dr x ∧ kp (fun a b => a = 0 ∧ b = 12) (fun _ => False) S S1 := by
  have hd := s_dr_b x
  have e2 : (Int32.toInt64 (zI S 0 12)).toInt = x := by rw [Int32.toInt_toInt64]; exact h
  have e3 : ((1103515245 : Int64) * Int32.toInt64 (zI S 0 12)).toInt = 1103515245 * x := l_mul (by decide +kernel) e2 (by omega) (by omega)
  have e4 : ((1103515245 : Int64) * Int32.toInt64 (zI S 0 12) + (12345 : Int64)).toInt = 1103515245 * x + 12345 := l_add e3 (by decide +kernel) (by omega) (by omega)
  have e5 : (((1103515245 : Int64) * Int32.toInt64 (zI S 0 12) + (12345 : Int64)) &&& (2147483647 : Int64)).toInt = s_dr x := by
    rw [l_mask (by omega), e4]
    rfl
  obtain ⟨x6, h6⟩ : ∃ y, y = Int64.toInt32 (((1103515245 : Int64) * Int32.toInt64 (zI S 0 12) + (12345 : Int64)) &&& (2147483647 : Int64)) := ⟨_, rfl⟩
  have e6 : x6.toInt = s_dr x := by rw [h6, cx_l2i (by omega) (by omega)]; exact e5
  obtain ⟨S7, h7⟩ : ∃ T, T = dg_uF S 0 12 (.int x6) := ⟨_, rfl⟩
  have q : ¬ a1 ≤ (0 : Int32) := fun z => by have := dk_lec (k := 0) (by decide +kernel) z; omega
  have e9 : (x6 / (64 : Int32)).toInt = s_dr x / 64 := by rw [dk_divL (b := 64) (by omega) (by decide +kernel) (by decide), e6]
  refine ⟨S7, _, F_d_draw_p1 rfl rfl rfl rfl rfl h6 h7 q rfl rfl, ?_, ?_, ?_⟩
  · rw [i_rem (by omega) ha, e9]
  · rw [h7, w_I, if_pos ⟨rfl, rfl⟩]
    exact e6
  · rw [h7]
    exact kp.uF kp.rf ⟨rfl, rfl⟩
theorem mx_draw (h : (zL S 0 62).toInt = x) (hx : 0 ≤ x ∧ x < 2147483648) (ha : 0 < a1.toInt) : ∃ (S1 : dg_S) (y : Int32), F_m_draw o S a1 = (S1, y) ∧ y.toInt = s_dr x / 64 % a1.toInt ∧ (zL S1 0 62).toInt = s_dr x ∧ kp (fun a b => a = 0 ∧ b = 62) (fun _ => False) S S1 := by
  have hd := s_dr_b x
  have hf := dk_full a1
  have e3 : ((1103515245 : Int64) * zL S 0 62).toInt = 1103515245 * x := l_mul (by decide +kernel) h (by omega) (by omega)
  have e4 : ((1103515245 : Int64) * zL S 0 62 + (12345 : Int64)).toInt = 1103515245 * x + 12345 := l_add e3 (by decide +kernel) (by omega) (by omega)
  have ec : (2147483648 : Int64).toInt = 2147483648 := by decide +kernel
  obtain ⟨x4, h4⟩ : ∃ y, y = ((1103515245 : Int64) * zL S 0 62 + (12345 : Int64)) - ((1103515245 : Int64) * zL S 0 62 + (12345 : Int64)) / (2147483648 : Int64) * (2147483648 : Int64) := ⟨_, rfl⟩
  have e5 : x4.toInt = s_dr x := by
    rw [h4, l_rem (by omega) (by omega), e4, ec]
    rfl
  obtain ⟨S5, h5⟩ : ∃ T, T = dg_uF S 0 62 (.long x4) := ⟨_, rfl⟩
  have e6 : (x4 / (64 : Int64)).toInt = s_dr x / 64 := by
    rw [l_div0 (by omega), e5]
    rfl
  have e7 : (Int32.toInt64 a1).toInt = a1.toInt := Int32.toInt_toInt64 a1
  have e8 : (x4 / (64 : Int64) - x4 / (64 : Int64) / Int32.toInt64 a1 * Int32.toInt64 a1).toInt = s_dr x / 64 % a1.toInt := by
    rw [l_rem (by omega) (by omega), e6, e7]
  have b0 := Int.emod_nonneg (s_dr x / 64) (show a1.toInt ≠ 0 by omega)
  have b1 := Int.emod_lt_of_pos (s_dr x / 64) ha
  refine ⟨S5, _, F_m_draw_p0 rfl rfl rfl h4 h5 rfl rfl rfl rfl, ?_, ?_, ?_⟩
  · rw [cx_l2i (by omega) (by omega)]
    exact e8
  · unfold zL
    rw [h5, w_F, if_pos ⟨rfl, rfl⟩]
    exact e5
  · rw [h5]
    exact kp.uF kp.rf ⟨rfl, rfl⟩
theorem RX.sx (h : RX o g G K A L U x S) (t : kp (fun a b => a = 0 ∧ b = 12) (fun _ => False) S S1) (hx : (zI S1 0 12).toInt = x') : RX o g G K A L U x' S1 := by
  obtain ⟨h1, h2, h3, h4, h5, h6⟩ := h
  have sep := rX_sep h2.1.1
  exact ⟨by rw [t.R (by decide)]; exact h1, h2.keep (fun i _ _ => (t.2 i id).1) (fun b => t.I (fun z => by omega)), h3.keep (fun i _ _ => (t.2 i id).1) (fun b _ => t.I (fun z => by omega)), h4.keep (t.I (by decide)) (t.2 18 id).1, h5.keep (t.I (by decide)) (t.I (by decide)) (fun i _ _ => (t.2 i id).1) (fun a b _ _ => t.I (fun z => by omega)), hx⟩
theorem RM.sx (h : RM G K A L U x S) (hb : G 0 6 ≤ 16) (t : kp (fun a b => a = 0 ∧ b = 62) (fun _ => False) S S1) (hx : (zL S1 0 62).toInt = x') : RM G K A L U x' S1 := by
  obtain ⟨h1, h2, h3, h4, h5⟩ := h
  exact ⟨h1.keep (t.I (by decide)) (t.I (by decide)) (fun i _ => (t.2 i id).1), h2.keep hb (fun a _ _ j _ _ => by rw [(t.2 a id).1]), h3.keep hb (t.I (by decide)) (t.I (by decide)) (fun a _ _ j _ => by rw [(t.2 a id).1]), by rw [t.I (by decide)]; exact h4, hx⟩
/-- where a cell lies -/
theorem cx_place (hg : cx_g G K S g) (hG : s_gb G) : (0 ≤ a1.toInt ∧ a1.toInt < G 0 0) ∧ (0 ≤ a2.toInt ∧ a2.toInt < G 0 1) ∧ (F_g_placeOf o S g a1 a2).toInt = 8 * a2.toInt + a1.toInt + 8 ∧ s_in G (8 * a2.toInt + a1.toInt) ∨ ¬ ((0 ≤ a1.toInt ∧ a1.toInt < G 0 0) ∧ 0 ≤ a2.toInt ∧ a2.toInt < G 0 1) ∧ F_g_placeOf o S g a1 a2 = (-1 : Int32) := by
  obtain ⟨-, ⟨f0, f1, -⟩, -⟩ := hg
  obtain ⟨⟨b0, b1⟩, b2, b3⟩ := hG
  have z0 : (0 : Int32).toInt = 0 := by decide +kernel
  by_cases q1 : a1 < (0 : Int32)
  · have := dk_ltc z0 q1
    exact Or.inr ⟨by omega, F_g_placeOf_p0 q1⟩
  have d1 := dk_nltc z0 q1
  by_cases q2 : zI S g 0 ≤ a1
  · have := w_le.mp q2
    exact Or.inr ⟨by omega, F_g_placeOf_p1 rfl q1 q2⟩
  have d2 : ¬ (zI S g 0).toInt ≤ a1.toInt := fun z => q2 (w_le.mpr z)
  by_cases q3 : a2 < (0 : Int32)
  · have := dk_ltc z0 q3
    exact Or.inr ⟨by omega, F_g_placeOf_p2 rfl q1 q2 q3⟩
  have d3 := dk_nltc z0 q3
  by_cases q4 : a2 < zI S g 1
  · have d4 := w_lt.mp q4
    have e1 : ((8 : Int32) * a2).toInt = 8 * a2.toInt := dk_mulT (by decide +kernel) rfl (by omega) (by omega)
    have e2 : ((8 : Int32) * a2 + a1).toInt = 8 * a2.toInt + a1.toInt := dk_addT e1 rfl (by omega) (by omega)
    have e3 : ((8 : Int32) * a2 + a1 + (8 : Int32)).toInt = 8 * a2.toInt + a1.toInt + 8 := dk_addT e2 (by decide +kernel) (by omega) (by omega)
    refine Or.inl ⟨⟨d1, by omega⟩, ⟨d3, by omega⟩, ?_, ⟨by omega, by omega⟩, by omega, by omega⟩
    rw [F_g_placeOf_p3 rfl rfl q1 q2 q3 q4 rfl rfl rfl]
    exact e3
  · have d4 : ¬ a2.toInt < (zI S g 1).toInt := fun z => q4 (w_lt.mpr z)
    exact Or.inr ⟨by omega, F_g_placeOf_p4 rfl rfl q1 q2 q3 q4⟩
/-- a quake: where; what is behind it; whether a cell is solid again -/
def s_qc (G : aR) (x : Int) : Int := 8 * (s_dr (s_dr (s_dr x)) / 64 % G 0 1) + s_dr (s_dr x) / 64 % G 0 0
noncomputable def s_cl (G A : aR) (c : Int) : aR × Int := s_if (s_op G A c ∧ c ≠ G 0 2) (s_up A 1 c.toNat 0, 1) (A, 0)
noncomputable def s_qk (G A : aR) (x : Int) : aR × Int × Int := if s_dr x / 64 % 100 < G 0 4 then ((s_cl G A (s_qc G x)).1, s_dr (s_dr (s_dr x)), (s_cl G A (s_qc G x)).2) else (A, s_dr x, 0)
theorem s_cl_ok {c : Int} (hw : s_wf G A) (hc : s_cw G A) : s_wf G (s_cl G A c).1 ∧ s_cw G (s_cl G A c).1 ∧ (s_cl G A c).1 0 0 = A 0 0 ∧ ((s_cl G A c).2 = 0 ∨ (s_cl G A c).2 = 1) := by
  unfold s_cl
  by_cases q : s_op G A c ∧ c ≠ G 0 2
  · rw [s_if_y q]
    show s_wf G (s_up A 1 c.toNat 0) ∧ s_cw G (s_up A 1 c.toNat 0) ∧ s_up A 1 c.toNat 0 0 0 = A 0 0 ∧ ((1 : Int) = 0 ∨ (1 : Int) = 1)
    obtain ⟨w0, w1, w2, w3, w4, w5⟩ := hw
    have U : ∀ a b, a ≠ 1 → s_up A 1 c.toNat 0 a b = A a b := fun a b h => s_up_ne (fun z => h z.1)
    have c0 := q.1.1.1.1
    have sh := hc.2.1.1.1
    refine ⟨⟨by rw [U _ _ (by decide)]; exact w0, by rw [U _ _ (by decide)]; exact w1, fun k hk => by rw [U _ _ (by decide)]; exact w2 k hk, fun k hk => by rw [U _ _ (by decide), U _ _ (by decide)]; exact w3 k hk, fun k hk => by rw [U _ _ (by decide)]; exact w4 k hk, fun k hk => by rw [U _ _ (by decide)]; exact w5 k hk⟩, ⟨fun d hd => ?_, hc.2.1, ?_⟩, U _ _ (by decide), Or.inr rfl⟩
    · show -2 ≤ s_c (s_up A 1 c.toNat 0) d ∧ s_c (s_up A 1 c.toNat 0) d ≤ 9
      rw [s_c_up c0 hd.1.1]
      split
      · omega
      · exact hc.1 d hd
    · show s_c (s_up A 1 c.toNat 0) (G 0 2) = -1
      rw [s_c_up c0 sh, if_neg (fun z => q.2 z.symm)]
      exact hc.2.2
  · rw [s_if_n q]
    exact ⟨hw, hc, rfl, Or.inl rfl⟩
/-- the class: a cell is solid again -/
theorem cx_close {p : Nat} {c : Int} (hp : pX p) (hS : zR o S 214 7 = p) (hgr : zR o S 214 6 = g) (hg : cx_gt G K S g) (hpit : cx_pit G A S p) (hc : s_in G c) (ha : a1.toInt = c + 8) (hl : cx_LI G A r S) : ∃ (S1 : dg_S) (y : Int32), F_w_closeCell o S a1 = (S1, y) ∧ y.toInt = (s_cl G A c).2 ∧ cx_pit G (s_cl G A c).1 S1 p ∧ cx_LI G (s_cl G A c).1 r S1 ∧ kp (fun a b => a = 214 ∧ b = 9) (fun a => a = p + 1) S S1 := by
  have z0 : (0 : Int32).toInt = 0 := by decide +kernel
  have z1 : (1 : Int32).toInt = 1 := by decide +kernel
  have hc0 := hc.1
  have sep := pX_sep hp
  have q1 : ¬ a1 = (-1 : Int32) := fun z => by have := dk_eqc (k := -1) (by decide +kernel) z; omega
  have hsh := hg.2.1
  unfold s_cl
  have stay : ¬ (s_op G A c ∧ c ≠ G 0 2) → F_w_closeCell o S a1 = (S, (0 : Int32)) → ∃ (S1 : dg_S) (y : Int32), F_w_closeCell o S a1 = (S1, y) ∧ y.toInt = (s_if (s_op G A c ∧ c ≠ G 0 2) (s_up A 1 c.toNat 0, (1 : Int)) (A, 0)).2 ∧ cx_pit G (s_if (s_op G A c ∧ c ≠ G 0 2) (s_up A 1 c.toNat 0, (1 : Int)) (A, 0)).1 S1 p ∧ cx_LI G (s_if (s_op G A c ∧ c ≠ G 0 2) (s_up A 1 c.toNat 0, (1 : Int)) (A, 0)).1 r S1 ∧ kp (fun a b => a = 214 ∧ b = 9) (fun a => a = p + 1) S S1 := fun hn e => by
    rw [s_if_n hn]
    exact ⟨S, 0, e, z0, hpit, hl, kp.rf⟩
  by_cases q2 : a1 = zI S g 2
  · have : a1.toInt = G 0 2 + 8 := by rw [q2]; exact hsh
    exact stay (fun z => z.2 (by omega)) (F_w_closeCell_p1 q1 hgr.symm rfl q2)
  have eo := cx_isOpen (o := o) (a := a1) hpit.1 (by omega) (by omega)
  rw [ha, show c + 8 - 8 = c by omega] at eo
  by_cases q3 : F_p_isOpen o S p a1 = (0 : Int32)
  · rw [q3, z0] at eo
    refine stay (fun z => ?_) (F_w_closeCell_p3 q1 hgr.symm rfl q2 hS.symm rfl q3)
    rw [s_b1 z.1] at eo
    exact absurd eo (by decide)
  have ho : s_op G A c := by
    apply Classical.byContradiction
    intro z
    rw [s_b0 z] at eo
    exact q3 (dk_eqp z0 eo)
  have hne : c ≠ G 0 2 := fun z => q2 (Int32.toInt_inj.mp (by rw [ha, hsh, z]))
  obtain ⟨S12, h12⟩ : ∃ T, T = dg_uf S (p + 1) (upd (S.2.1 (p + 1)) a1.toNatClampNeg (0 : Int32)) := ⟨_, rfl⟩
  obtain ⟨S15, h15⟩ : ∃ T, T = dg_uF S12 214 9 (.int (1 : Int32)) := ⟨_, rfl⟩
  rw [s_if_y ⟨ho, hne⟩]
  show ∃ (S1 : dg_S) (y : Int32), F_w_closeCell o S a1 = (S1, y) ∧ y.toInt = 1 ∧ cx_pit G (s_up A 1 c.toNat 0) S1 p ∧ cx_LI G (s_up A 1 c.toNat 0) r S1 ∧ kp (fun a b => a = 214 ∧ b = 9) (fun a => a = p + 1) S S1
  refine ⟨S15, 1, F_w_closeCell_p2 q1 hgr.symm rfl q2 hS.symm rfl q3 h12 h15, z1, ?_, Or.inl ?_, ?_⟩
  · obtain ⟨y1, y2, y3, y4, y5, y6, y7⟩ := hpit
    have ro : ∀ i, i ≠ p + 1 → S15.2.1 i = S.2.1 i := fun i hi => by rw [h15, w_Ff, h12, w_f, if_neg hi]
    have fo : ∀ b, zI S15 p b = zI S p b := fun b => by rw [h15, w_I0 (fun z => by omega), h12, w_If]
    have U : ∀ a b, a ≠ 1 → s_up A 1 c.toNat 0 a b = A a b := fun a b h => s_up_ne (fun z => h z.1)
    have h9 := y1.up (S1 := S15) (x := c + 8) (v := 0) (y := 0) ⟨by omega, by omega⟩ (by rw [show c + 8 - 8 = c by omega]; exact hc) (by rw [h15, w_Ff, h12, w_f, if_pos rfl, show a1.toNatClampNeg = (c + 8).toNat by rw [dk_clN, ha]]) z0 ⟨by decide, by decide⟩
    rw [show c + 8 - 8 = c by omega] at h9
    refine ⟨h9, by rw [fo, U _ _ (by decide)]; exact y2, by rw [fo, U _ _ (by decide)]; exact y3, fun k hk => by rw [ro _ (by omega), U _ _ (by decide)]; exact y4 k hk, fun k hk => by rw [ro _ (by omega), ro _ (by omega), U _ _ (by decide), U _ _ (by decide)]; exact y5 k hk, fun k hk => by rw [ro _ (by omega), U _ _ (by decide)]; exact y6 k hk, fun k hk => by rw [ro _ (by omega), U _ _ (by decide)]; exact y7 k hk⟩
  · rw [h15, w_I, if_pos ⟨rfl, rfl⟩, z1]
    decide
  · rw [h15, h12]
    exact kp.uF (kp.uf kp.rf rfl) ⟨rfl, rfl⟩
/-- the reference: a cell is solid again -/
theorem mx_close {v : Nat} {c : Int} (hG6 : G 0 6 ≤ 16) (hg : mx_gd G S) (hl : mx_lay G A L S v) (ha1 : a1.toInt = v) (hv : v ≤ 21) (hc : s_in G c) (ha : a2.toInt = c) : ∃ (S1 : dg_S) (y : Int32), F_m_isSolidBy o S a1 a2 = (S1, y) ∧ y.toInt = (s_cl G A c).2 ∧ mx_lay G (s_cl G A c).1 L S1 v ∧ k_v v S S1 := by
  have z0 : (0 : Int32).toInt = 0 := by decide +kernel
  have z1 : (1 : Int32).toInt = 1 := by decide +kernel
  have hc0 := hc.1
  have hsh : (S.2.1 4 (zI S 0 13).toNatClampNeg).toInt = G 0 2 := hg.2.2.2.1
  unfold s_cl
  rcases mx_op (o := o) (a := a1) (b := a2) hl.1 ha1 (by omega) (by rw [ha]; exact hc) with ⟨e, q⟩ | ⟨e, q⟩
  rotate_left
  · rw [ha] at q
    rw [s_if_n (fun z => q z.1)]
    exact ⟨S, 0, F_m_isSolidBy_p0 rfl e, z0, hl, k_v.rf⟩
  rw [ha] at q
  have ne : ¬ F_m_isOpen o S a1 a2 = (0 : Int32) := by rw [e]; decide +kernel
  by_cases q2 : a2 = S.2.1 4 (zI S 0 13).toNatClampNeg
  · rw [s_if_n (fun z => z.2 (by rw [← ha, q2]; exact hsh))]
    exact ⟨S, 0, F_m_isSolidBy_p2 rfl ne rfl rfl q2, z0, hl, k_v.rf⟩
  have hne : c ≠ G 0 2 := fun z => q2 (Int32.toInt_inj.mp (by rw [ha, hsh, z]))
  rw [s_if_y ⟨q, hne⟩]
  show ∃ (S1 : dg_S) (y : Int32), F_m_isSolidBy o S a1 a2 = (S1, y) ∧ y.toInt = 1 ∧ mx_lay G (s_up A 1 c.toNat 0) L S1 v ∧ k_v v S S1
  have ad : ((64 : Int32) * a1 + a2).toNatClampNeg = mx_ad v c := by
    rw [mx_adr ha1 (by omega) (by rw [ha]; exact hc.1), ha]
  have adn : mx_ad v c = 64 * v + c.toNat := by unfold mx_ad; omega
  obtain ⟨S12, h12⟩ : ∃ T, T = dg_uf S 31 (upd (S.2.1 31) ((64 : Int32) * a1 + a2).toNatClampNeg (0 : Int32)) := ⟨_, rfl⟩
  obtain ⟨S17, h17⟩ : ∃ T, T = dg_uf S12 32 (upd (S12.2.1 32) ((64 : Int32) * a1 + a2).toNatClampNeg (0 : Int32)) := ⟨_, rfl⟩
  have w31 : mx_w 31 = 64 := rfl
  have w32 : mx_w 32 = 64 := rfl
  refine ⟨S17, 1, F_m_isSolidBy_p1 rfl ne rfl rfl q2 rfl rfl h12 rfl rfl h17, z1, ?_, ?_⟩
  · obtain ⟨y1, y2, y3, y4, y5, y6, y7, y8⟩ := hl
    have ro : ∀ i, i ≠ 31 → i ≠ 32 → S17.2.1 i = S.2.1 i := fun i i1 i2 => by rw [h17, w_f, if_neg i2, h12, w_f, if_neg i1]
    have U : ∀ a b, a ≠ 1 → s_up A 1 c.toNat 0 a b = A a b := fun a b h => s_up_ne (fun z => h z.1)
    refine ⟨fun d hd => ?_, by rw [ro 29 (by decide) (by decide), U _ _ (by decide)]; exact y2, by rw [ro 30 (by decide) (by decide), U _ _ (by decide)]; exact y3, by rw [ro 33 (by decide) (by decide)]; exact ⟨y4.1, fun k hk => by rw [U _ _ (by decide)]; exact y4.2 k hk⟩, fun k hk => by rw [ro 35 (by decide) (by decide), ro 36 (by decide) (by decide), U _ _ (by decide), U _ _ (by decide)]; exact y5 k hk, by rw [ro 34 (by decide) (by decide)]; exact ⟨y6.1, fun k hk => by rw [U _ _ (by decide)]; exact y6.2 k hk⟩, fun k hk => by rw [ro 37 (by decide) (by decide), U _ _ (by decide)]; exact y7 k hk, y8.keep (by rw [ro 38 (by decide) (by decide)]) (fun j _ _ => by rw [ro 39 (by decide) (by decide)])⟩
    obtain ⟨i1, i2, i3, i4⟩ := y1 d hd
    have hd0 := hd.1
    have r31 : S17.2.1 31 = upd (S.2.1 31) (mx_ad v c) (0 : Int32) := by rw [h17, w_f, if_neg (by decide), h12, w_f, if_pos rfl, ad]
    have r32 : S17.2.1 32 = upd (S.2.1 32) (mx_ad v c) (0 : Int32) := by rw [h17, w_f, if_pos rfl, ad, h12, w_f, if_neg (by decide)]
    rw [s_c_up hc0.1 hd0.1, r31, r32, w_u, w_u]
    by_cases z : d = c
    · subst z
      rw [if_pos rfl, if_pos rfl, if_pos rfl, z0]
      exact ⟨rfl, rfl, by decide, by decide⟩
    · rw [if_neg z, if_neg (fun w => z (by unfold mx_ad at w; omega)), if_neg (fun w => z (by unfold mx_ad at w; omega))]
      exact ⟨i1, i2, i3, i4⟩
  · rw [h17, ad]
    refine k_v.uf ?_ (by decide) (by decide) (mw 32 64 _ _ rfl (by omega))
    rw [h12, ad]
    exact k_v.uf k_v.rf (by decide) (by decide) (mw 31 64 _ _ rfl (by omega))
end DR
end
