/-! the reference digs -/
section DG
variable {v o : Nat} {S S1 : dg_S} {G A : aR} {K : Nat → List Int} {L : s_L} {r : Int} {a b a1 a2 : Int32}
theorem s_so_n (hc : s_in G r) : s_so G A r ↔ ¬ s_op G A r := by
  unfold s_so s_op
  exact ⟨fun z y => by have := z.2; have := y.2; omega, fun z => ⟨hc, by
    apply Classical.byContradiction
    intro y
    exact z ⟨hc, by omega⟩⟩⟩
theorem mx_canDig (hb : s_gb G) (hg : mx_gd G S) (h : mx_ce G A S v) (ha : a.toInt = v) (hv : v ≤ 40) (hc : s_in G b.toInt) : F_m_canDigG o S a b = 1 ∧ (s_so G A b.toInt ∧ 0 < s_ob G A b.toInt) ∨ F_m_canDigG o S a b = 0 ∧ ¬ (s_so G A b.toInt ∧ 0 < s_ob G A b.toInt) := by
  have hso := s_so_n (G := G) (A := A) hc
  have eo := mx_ob (o := o) h hg hb ha hv hc
  rcases mx_op (o := o) (b := b) h ha hv hc with ⟨e, q⟩ | ⟨e, q⟩
  · have e : F_m_isOpenG o S a b = 1 := e
    exact Or.inr ⟨F_m_canDigG_p0 rfl (by rw [e]; decide +kernel), fun z => hso.mp z.1 q⟩
  · have e : F_m_isOpenG o S a b = 0 := e
    by_cases p : F_m_openBeside o S a b ≤ (0 : Int32)
    · have d := dk_lec (k := 0) (by decide +kernel) p
      exact Or.inr ⟨F_m_canDigG_p1 rfl e rfl p, fun z => by have := z.2; omega⟩
    · have d := dk_nlec (k := 0) (by decide +kernel) p
      exact Or.inl ⟨F_m_canDigG_p2 rfl e rfl p, hso.mpr q, by omega⟩
/-- what is kept behind a digging; whether a tub was got -/
noncomputable def s_dL (G : aR) (K : Nat → List Int) (r : Int) (A : aR) (L : s_L) : s_L := if (s_dg G K r A).2.1 = -1 then L else s_kp L (A 0 0, (s_dg G K r A).2.1, (s_dg G K r A).2.2.1, (s_dg G K r A).2.2.2)
noncomputable def s_dn (G : aR) (K : Nat → List Int) (r : Int) (A : aR) : Int := if (s_dg G K r A).2.1 = -1 ∨ (s_dg G K r A).2.2.2 = -1 then 0 else 1
/-- a cell of layer v is told anew -/
theorem mx_ce.up {c y : Int} {x : Int32} (h : mx_ce G A S v) (hc : s_in G c) (hy : 0 ≤ s_c A c) (e31 : S1.2.1 31 = upd (S.2.1 31) (mx_ad v c) x) (e32 : S1.2.1 32 = S.2.1 32) (hx : x.toInt = y) (hy1 : -1 ≤ y ∧ y ≤ 9) : mx_ce G (s_up A 1 c.toNat y) S1 v := by
  intro d hd
  obtain ⟨h1, h2, h3, h4⟩ := h d hd
  rw [s_c_up hc.1.1 hd.1.1, e31, e32, w_u]
  have hc0 := hc.1
  have hd0 := hd.1
  by_cases z : d = c
  · subst z
    rw [if_pos rfl, if_pos rfl, hx, h2]
    have u1 : mx_cu (s_c A d) = 0 := by unfold mx_cu; rw [if_neg (by omega)]
    have u2 : mx_cu y = 0 := by unfold mx_cu; rw [if_neg (by omega)]
    rw [u1, u2]
    refine ⟨?_, rfl, by omega, by omega⟩
    unfold mx_en
    split <;> omega
  · rw [if_neg z, if_neg (fun w => z (by unfold mx_ad at w; omega))]
    exact ⟨h1, h2, h3, h4⟩
theorem mx_dig (hG : s_gw G) (hK : s_cd K) (hw : s_wf G A) (hcw : s_cw G A) (hg : mx_g G K S) (hl : mx_lay G A L S v) (ha : a1.toInt = v) (hv : v ≤ 21) (hr : (zI S 0 63).toInt = r) (hr9 : r ≤ 900) : ∃ (S1 : dg_S) (x : Int32), F_m_digs o S a1 = (S1, x) ∧ k_v v S S1 ∧ mx_lay G (s_dg G K r A).1 (s_dL G K r A L) S1 v ∧ x.toInt = s_dn G K r A := by
  have z0 : (0 : Int32).toInt = 0 := by decide +kernel
  have z1 : (1 : Int32).toInt = 1 := by decide +kernel
  have m1 : (-1 : Int32).toInt = -1 := by decide +kernel
  obtain ⟨hG1, hG2, hG6⟩ := hG
  obtain ⟨w0, w1, w2, w3, w4, w5⟩ := id hw
  obtain ⟨hce, hsh, hpu, ⟨hhb, hhu⟩, hpl, hso, htu, hkp⟩ := id hl
  have an : a1.toNatClampNeg = v := by rw [dk_clN]; omega
  have efp : (S.2.1 9 (zI S 0 13).toNatClampNeg).toInt = G 0 6 := hg.1.2.2.2.2
  have none : ∀ S1, s_no G A → F_m_digs o S a1 = (S1, (0 : Int32)) → k_x S S1 → ∃ (S1 : dg_S) (x : Int32), F_m_digs o S a1 = (S1, x) ∧ k_v v S S1 ∧ mx_lay G (s_dg G K r A).1 (s_dL G K r A L) S1 v ∧ x.toInt = s_dn G K r A := fun S1 hn e t => by
    have ed : s_dg G K r A = (A, -1, 0, 0) := by
      unfold s_dg
      exact s_if_y hn
    refine ⟨S1, 0, e, t.kv, ?_, ?_⟩
    · unfold s_dL
      rw [ed, if_pos rfl]
      exact t.lay hl hG6.2
    · unfold s_dn
      rw [ed, if_pos (Or.inl rfl)]
      exact z0
  by_cases q0 : S.2.1 9 (zI S 0 13).toNatClampNeg = (0 : Int32)
  · have := dk_eqc (k := 0) z0 q0
    exact none S (Or.inl (by omega)) (F_m_digs_p7 rfl rfl q0) kp.rf
  have q0' := dk_neqc (k := 0) z0 q0
  obtain ⟨x3, hx3⟩ : ∃ x, x = S.2.1 9 (zI S 0 13).toNatClampNeg := ⟨_, rfl⟩
  rw [← hx3] at efp q0 q0'
  obtain ⟨x7, hx7⟩ : ∃ x, x = S.2.1 29 a1.toNatClampNeg := ⟨_, rfl⟩
  have e7 : x7.toInt = A 0 0 := by rw [hx7, an]; exact hsh
  obtain ⟨x10, hx10⟩ : ∃ x, x = x7 - x7 / x3 * x3 := ⟨_, rfl⟩
  have e10 : x10.toInt = A 0 0 % G 0 6 := by rw [hx10, i_rem (by omega) (by omega), e7, efp]
  have m0 := Int.emod_nonneg (A 0 0) (show G 0 6 ≠ 0 by omega)
  have m9 := Int.emod_lt_of_pos (A 0 0) (show 0 < G 0 6 by omega)
  have hk : ((s_k G A : Nat) : Int) < G 0 6 := by
    unfold s_k
    omega
  have hk0 : ((s_k G A : Nat) : Int) = A 0 0 % G 0 6 := by
    unfold s_k
    omega
  have e5 : ((16 : Int32) * a1).toInt = 16 * (v : Int) := dk_mulT (by decide +kernel) ha (by omega) (by omega)
  obtain ⟨x11, hx11⟩ : ∃ x, x = (16 : Int32) * a1 + x10 := ⟨_, rfl⟩
  have n11 : x11.toNatClampNeg = 16 * v + s_k G A := by
    rw [dk_clN, hx11, dk_addT e5 e10 (by omega) (by omega)]
    omega
  obtain ⟨pm, pc⟩ := hpl _ hk
  obtain ⟨wm, wc⟩ := w3 _ hk
  obtain ⟨m, hm⟩ : ∃ m, m = A 3 (s_k G A) := ⟨_, rfl⟩
  obtain ⟨c, hcc⟩ : ∃ c, c = A 4 (s_k G A) := ⟨_, rfl⟩
  rw [← hm] at pm wm
  rw [← hcc] at pc wc
  obtain ⟨x13, hx13⟩ : ∃ x, x = S.2.1 36 x11.toNatClampNeg := ⟨_, rfl⟩
  have e13 : x13.toInt = c := by rw [hx13, n11]; exact pc
  obtain ⟨S17, h17, f17, k17⟩ := mx_measures (o := o) hG1 hg.1 hce ha (by omega) hcw.2
  have t17 := k17.x
  have l17 := t17.lay hl hG6.2
  have g17 := t17.g hg
  have r17 : ∀ i, ¬ (40 ≤ i ∧ i ≤ 44) → S17.2.1 i = S.2.1 i := fun i hi => (t17.2 i hi).1
  obtain ⟨x19, hx19⟩ : ∃ x, x = S17.2.1 33 a1.toNatClampNeg := ⟨_, rfl⟩
  have e19 : x19 = S.2.1 33 v := by rw [hx19, r17 33 (by decide), an]
  obtain ⟨x21, hx21⟩ : ∃ x, x = S17.2.1 35 x11.toNatClampNeg := ⟨_, rfl⟩
  have e21 : x21.toInt = m := by rw [hx21, r17 35 (by decide), n11]; exact pm
  have hhm := hhu m.toNat (by omega)
  rw [← e19] at hhb hhm
  rcases mx_has2 (S := S17) (o := o) (a := x19) (b := x21) hhb (by omega) with ⟨q1, y1⟩ | ⟨q1, y1⟩
  · rw [e21, ← hhm] at y1
    exact none S17 (Or.inr (Or.inl (by rw [← hm]; exact y1))) (F_m_digs_p0 rfl hx3 q0 rfl hx7 hx10 hx11 h17.symm hx19 hx21 rfl (by rw [q1]; decide +kernel)) t17
  rw [e21, ← hhm] at y1
  have c17 : s_in G x13.toInt := by rw [e13]; exact wc
  rcases mx_canDig (o := o) (b := x13) hG1 g17.1 l17.1 ha (by omega) c17 with ⟨q2, y2⟩ | ⟨q2, y2⟩
  rotate_left
  · rw [e13] at y2
    exact none S17 (Or.inr (Or.inr (by rw [← hcc]; exact y2))) (F_m_digs_p6 rfl hx3 q0 rfl hx7 hx10 hx11 hx13 h17.symm hx19 hx21 rfl q1 rfl q2) t17
  have n2 : ¬ F_m_canDigG o S17 a1 x13 = (0 : Int32) := by rw [q2]; decide +kernel
  rw [e13] at y2
  have nno : ¬ s_no G A := fun z => by
    rcases z with z | z | z
    · omega
    · rw [← hm] at z
      omega
    · rw [← hcc] at z
      exact z y2
  obtain ⟨S34, x33, e34, k34, fa⟩ := mx_falls (o := o) (a2 := x13) hG1 hK hw g17 l17.1 f17 ha (by omega) (by rw [t17.I id]; exact hr) hr9 c17 (by rw [e13]; exact y2.1.2) l17.2.1
  rw [e13] at fa
  have e341 : S34 = (F_m_isFalling o S17 a1 x13).1 := by rw [e34]
  have e342 : x33 = (F_m_isFalling o S17 a1 x13).2 := by rw [e34]
  have t34 : k_x S S34 := t17.tr k34.x
  have ad : ((64 : Int32) * a1 + x13).toNatClampNeg = mx_ad v c := by
    rw [mx_adr ha (by omega) (by rw [e13]; exact wc.1), e13]
  have wc0 := wc.1
  have w31 : mx_w 31 = 64 := rfl
  have w33 : mx_w 33 = 1 := rfl
  have w37 : mx_w 37 = 10 := rfl
  have adn : mx_ad v c = 64 * v + c.toNat := by unfold mx_ad; omega
  rcases fa with ⟨q3, y3⟩ | ⟨q3, y3⟩
  · -- it falls
    have ed : s_dg G K r A = (s_up (s_up A 1 c.toNat 0) 2 m.toNat 1, m, c, -1) := by
      unfold s_dg
      rw [s_if_n nno, ← hcc, ← hm, s_if_y y3]
    obtain ⟨S64, h64⟩ : ∃ S', S' = dg_uf S34 31 (upd (S34.2.1 31) ((64 : Int32) * a1 + x13).toNatClampNeg (0 : Int32)) := ⟨_, rfl⟩
    obtain ⟨S73, h73⟩ : ∃ S', S' = dg_uf S64 33 (upd (S64.2.1 33) a1.toNatClampNeg (x19 ||| ((1 : Int32) <<< (x21 &&& 31)))) := ⟨_, rfl⟩
    have t73 : k_v v S S73 := by
      rw [h73, an]
      refine k_v.uf ?_ (by decide) (by decide) (mw 33 1 _ _ rfl (by omega))
      rw [h64, ad]
      exact k_v.uf t34.kv (by decide) (by decide) (mw 31 64 _ _ rfl (by omega))
    have l34 := t34.lay hl hG6.2
    have o73 : ∀ i, i ≠ 31 → i ≠ 33 → S73.2.1 i = S34.2.1 i := fun i i1 i3 => by rw [h73, w_f, if_neg i3, h64, w_f, if_neg i1]
    obtain ⟨S76, e76, p76, k76, o76⟩ := mx_wd (o := o) (a2 := x21) (a3 := x13) (a4 := (-1 : Int32)) (L := L) (S := S73) ha hv (l34.2.2.2.2.2.2.2.keep (by rw [o73 38 (by decide) (by decide)]) (fun j _ _ => by rw [o73 39 (by decide) (by decide)]))
    rw [e21, e13, m1, o73 29 (by decide) (by decide), l34.2.1] at p76
    have row : ∀ i, i ≠ 31 → i ≠ 33 → i ≠ 38 → i ≠ 39 → S76.2.1 i = S34.2.1 i := fun i i1 i3 i8 i9 => by rw [o76 i i8 i9, o73 i i1 i3]
    obtain ⟨b1, b2⟩ := mx_setbit (a := x19) (b := x21) hhb (by omega)
    have r33 : S76.2.1 33 v = x19 ||| ((1 : Int32) <<< (x21 &&& 31)) := by rw [o76 33 (by decide) (by decide), h73, w_f, if_pos rfl, w_u, an, if_pos rfl]
    refine ⟨S76, 0, ?_, t73.tr k76, ?_, ?_⟩
    · rw [F_m_digs_p5 rfl hx3 q0 rfl hx7 hx10 hx11 hx13 h17.symm hx19 hx21 rfl q1 rfl n2 e341 e342 (by rw [q3]; decide +kernel) rfl rfl h64 rfl rfl h73]
      exact F_m_digs_p4 e76.symm
    · unfold s_dL
      rw [ed, if_neg (show ¬ m = -1 by omega)]
      obtain ⟨y1', y2', y3', y4', y5', y6', y7', y8'⟩ := l34
      have U : ∀ a b, a ≠ 1 → a ≠ 2 → s_up (s_up A 1 c.toNat 0) 2 m.toNat 1 a b = A a b := fun a b i1 i2 => by rw [s_up_ne (fun z => i2 z.1), s_up_ne (fun z => i1 z.1)]
      show mx_lay G (s_up (s_up A 1 c.toNat 0) 2 m.toNat 1) (s_kp L (A 0 0, m, c, -1)) S76 v
      refine ⟨?_, ?_, ?_, ⟨?_, fun k hk => ?_⟩, fun k hk => ?_, ?_, fun k hk => ?_, p76⟩
      · have h9 := y1'.up (S1 := S76) (y := 0) wc y2.1.2 (x := 0) (by rw [o76 31 (by decide) (by decide), h73, w_f, if_neg (by decide), h64, w_f, if_pos rfl, ad]) (row 32 (by decide) (by decide) (by decide) (by decide)) z0 ⟨by decide, by decide⟩
        intro d hd
        rw [s_c_o (by decide)]
        exact h9 d hd
      · rw [row 29 (by decide) (by decide) (by decide) (by decide), U _ _ (by decide) (by decide)]; exact y2'
      · rw [row 30 (by decide) (by decide) (by decide) (by decide), U _ _ (by decide) (by decide)]; exact y3'
      · rw [r33]; exact b1
      · rw [r33, b2 k hk, e21]
        by_cases z : k = m.toNat
        · rw [if_pos z, z, s_up_at]
        · rw [if_neg z, s_up_ne (fun y => z y.2), s_up_ne (fun y => absurd y.1 (by decide)), e19]
          exact hhu k hk
      · rw [row 35 (by decide) (by decide) (by decide) (by decide), row 36 (by decide) (by decide) (by decide) (by decide), U _ _ (by decide) (by decide), U _ _ (by decide) (by decide)]; exact y5' k hk
      · rw [row 34 (by decide) (by decide) (by decide) (by decide)]
        exact ⟨y6'.1, fun k hk => by rw [U _ _ (by decide) (by decide)]; exact y6'.2 k hk⟩
      · rw [row 37 (by decide) (by decide) (by decide) (by decide), U _ _ (by decide) (by decide)]; exact y7' k hk
    · unfold s_dn
      rw [ed, if_pos (Or.inr rfl)]
      exact z0
  · -- a tub is got
    obtain ⟨S37, x36, e37, k37, v36⟩ := mx_got (o := o) (a2 := x13) hG1 hK hw (k34.x.g g17) (k34.x.ce l17.1) (f17.keep (k34.2 42 (by decide)).1) ha (by omega) (by rw [t34.I id]; exact hr) hr9 c17 (by rw [e13]; exact y2.1.2) (t34.lay hl hG6.2).2.1
    rw [e13] at v36
    have e371 : S37 = (F_m_gotG o S34 a1 x13).1 := by rw [e37]
    have e372 : x36 = (F_m_gotG o S34 a1 x13).2 := by rw [e37]
    have t37 : k_x S S37 := t34.tr k37.x
    have l37 := t37.lay hl hG6.2
    obtain ⟨gr, hgr⟩ : ∃ gr, gr = s_gr G K r A c := ⟨_, rfl⟩
    have grb := s_gr_b (G := G) (K := K) (r := r) (A := A) (c := c) ⟨y2.1.2, (hce c wc).2.2.2⟩
    rw [← hgr] at v36 grb
    have ed : s_dg G K r A = (s_up (s_up A 6 gr.toNat (min 99 (A 6 gr.toNat + 1))) 1 c.toNat (-1), m, c, gr) := by
      unfold s_dg
      rw [s_if_n nno, ← hcc, ← hm, s_if_n y3, ← hgr]
    obtain ⟨S41, h41⟩ : ∃ S', S' = dg_uf S37 31 (upd (S37.2.1 31) ((64 : Int32) * a1 + x13).toNatClampNeg (-1 : Int32)) := ⟨_, rfl⟩
    have t41 : k_v v S S41 := by
      rw [h41, ad]
      exact k_v.uf t37.kv (by decide) (by decide) (mw 31 64 _ _ rfl (by omega))
    have o41 : ∀ i, i ≠ 31 → S41.2.1 i = S37.2.1 i := fun i i1 => by rw [h41, w_f, if_neg i1]
    obtain ⟨S45, e45, p45, k45, o45⟩ := mx_wd (o := o) (a2 := x21) (a3 := x13) (a4 := x36) (L := L) (S := S41) ha hv (l37.2.2.2.2.2.2.2.keep (by rw [o41 38 (by decide)]) (fun j _ _ => by rw [o41 39 (by decide)]))
    rw [e21, e13, v36, o41 29 (by decide), l37.2.1] at p45
    have row : ∀ i, i ≠ 31 → i ≠ 38 → i ≠ 39 → S45.2.1 i = S37.2.1 i := fun i i1 i8 i9 => by rw [o45 i i8 i9, o41 i i1]
    obtain ⟨y1', y2', y3', y4', y5', y6', y7', y8'⟩ := l37
    have w56 := w5 gr.toNat (by omega)
    have fin : ∀ S1, (∀ i, i ≠ 37 → S1.2.1 i = S45.2.1 i) → (∀ k, k < 10 → (S1.2.1 37 (10 * v + k)).toInt = (if k = gr.toNat then min 99 (A 6 gr.toNat + 1) else A 6 k)) → mx_lay G (s_dg G K r A).1 (s_dL G K r A L) S1 v ∧ (1 : Int32).toInt = s_dn G K r A := fun S1 hs ht => by
      refine ⟨?_, ?_⟩
      · unfold s_dL
        rw [ed, if_neg (show ¬ m = -1 by omega)]
        have U : ∀ a b, a ≠ 1 → a ≠ 6 → s_up (s_up A 6 gr.toNat (min 99 (A 6 gr.toNat + 1))) 1 c.toNat (-1) a b = A a b := fun a b i1 i2 => by rw [s_up_ne (fun z => i1 z.1), s_up_ne (fun z => i2 z.1)]
        have row1 : ∀ i, i ≠ 31 → i ≠ 37 → i ≠ 38 → i ≠ 39 → S1.2.1 i = S37.2.1 i := fun i i1 i7 i8 i9 => by rw [hs i i7, row i i1 i8 i9]
        show mx_lay G (s_up (s_up A 6 gr.toNat (min 99 (A 6 gr.toNat + 1))) 1 c.toNat (-1)) (s_kp L (A 0 0, m, c, gr)) S1 v
        refine ⟨?_, ?_, ?_, ?_, fun k hk => ?_, ?_, fun k hk => ?_, ?_⟩
        · have h9 := y1'.up (S1 := S1) (y := -1) wc y2.1.2 (x := -1) (by rw [hs 31 (by decide), o45 31 (by decide) (by decide), h41, w_f, if_pos rfl, ad]) (row1 32 (by decide) (by decide) (by decide) (by decide)) m1 ⟨by decide, by decide⟩
          intro d hd
          have e9 : s_c (s_up (s_up A 6 gr.toNat (min 99 (A 6 gr.toNat + 1))) 1 c.toNat (-1)) d = s_c (s_up A 1 c.toNat (-1)) d := by
            rw [s_c_up wc0.1 hd.1.1, s_c_up wc0.1 hd.1.1, s_c_o (by decide)]
          rw [e9]
          exact h9 d hd
        · rw [row1 29 (by decide) (by decide) (by decide) (by decide), U _ _ (by decide) (by decide)]; exact y2'
        · rw [row1 30 (by decide) (by decide) (by decide) (by decide), U _ _ (by decide) (by decide)]; exact y3'
        · rw [row1 33 (by decide) (by decide) (by decide) (by decide)]
          exact ⟨y4'.1, fun k hk => by rw [U _ _ (by decide) (by decide)]; exact y4'.2 k hk⟩
        · rw [row1 35 (by decide) (by decide) (by decide) (by decide), row1 36 (by decide) (by decide) (by decide) (by decide), U _ _ (by decide) (by decide), U _ _ (by decide) (by decide)]; exact y5' k hk
        · rw [row1 34 (by decide) (by decide) (by decide) (by decide)]
          exact ⟨y6'.1, fun k hk => by rw [U _ _ (by decide) (by decide)]; exact y6'.2 k hk⟩
        · rw [ht k hk, s_up_ne (fun z => absurd z.1 (by decide))]
          by_cases z : k = gr.toNat
          · rw [if_pos z, z, s_up_at]
          · rw [if_neg z, s_up_ne (fun y => z y.2)]
        · exact p45.keep (by rw [hs 38 (by decide)]) (fun j _ _ => by rw [hs 39 (by decide)])
      · unfold s_dn
        rw [ed, if_neg (show ¬ (m = -1 ∨ gr = -1) by omega)]
        exact z1
    have e10' : ((10 : Int32) * a1).toInt = 10 * (v : Int) := dk_mulT (by decide +kernel) ha (by omega) (by omega)
    have n47 : ((10 : Int32) * a1 + x36).toNatClampNeg = 10 * v + gr.toNat := by
      rw [dk_clN, dk_addT e10' v36 (by omega) (by omega)]
      omega
    have r37 : ∀ k, k < 10 → (S45.2.1 37 (10 * v + k)).toInt = A 6 k := fun k hk => by
      rw [row 37 (by decide) (by decide) (by decide)]
      exact y7' k hk
    have hd := F_m_digs_p3 rfl hx3 q0 rfl hx7 hx10 hx11 hx13 h17.symm hx19 hx21 rfl q1 rfl n2 e341 e342 q3 e371 e372 rfl rfl h41
    by_cases q4 : (99 : Int32) ≤ S45.2.1 37 ((10 : Int32) * a1 + x36).toNatClampNeg
    · have d := dk_gec (k := 99) (by decide +kernel) q4
      rw [n47, r37 _ (by omega)] at d
      obtain ⟨f1, f2⟩ := fin S45 (fun _ _ => rfl) (fun k hk => by
        rw [r37 k hk]
        by_cases z : k = gr.toNat
        · rw [if_pos z, z]
          omega
        · rw [if_neg z])
      exact ⟨S45, 1, hd.trans (F_m_digs_p1 e45.symm rfl rfl rfl q4), t41.tr k45, f1, f2⟩
    · have d := dk_ngec (k := 99) (by decide +kernel) q4
      rw [n47, r37 _ (by omega)] at d
      obtain ⟨S59, h59⟩ : ∃ S', S' = dg_uf S45 37 (upd (S45.2.1 37) ((10 : Int32) * a1 + x36).toNatClampNeg (S45.2.1 37 ((10 : Int32) * a1 + x36).toNatClampNeg + (1 : Int32))) := ⟨_, rfl⟩
      obtain ⟨f1, f2⟩ := fin S59 (fun i hi => by rw [h59, w_f, if_neg hi]) (fun k hk => by
        rw [h59, w_f, if_pos rfl, w_u, n47]
        by_cases z : k = gr.toNat
        · rw [if_pos (by omega), if_pos z, dk_addT (r37 _ (by omega)) (b := 1) (by decide +kernel) (by omega) (by omega)]
          omega
        · rw [if_neg (by omega), if_neg z]
          exact r37 k hk)
      refine ⟨S59, 1, hd.trans (F_m_digs_p2 e45.symm rfl rfl rfl q4 rfl rfl rfl rfl h59), ?_, f1, f2⟩
      rw [h59, n47]
      exact (t41.tr k45).uf (by decide) (by decide) (mw 37 10 _ _ rfl (by omega))
end DG
