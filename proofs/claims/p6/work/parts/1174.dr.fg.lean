/-! ON: the class reads an image's cells -/
section FG
variable {o oX oM g n p q k i N : Nat} {G A A' : aR} {K : Nat → List Int} {B : Nat → Int} {S S0 S1 SX SM T T1 : dg_S} {x x' r c v t m : Int} {a a1 a2 a3 a4 y : Int32}
/-- what fits of a byte y for cell c -/
def s_ob9 (G : aR) (c : Int) (b : Int) : Prop := (b ≤ 9 ∨ 254 ≤ b) ∧ (c = G 0 2 → b = 255)
/-- one cell -/
theorem cx_cell1 {pI : Int32} (e1 : F_i_next o T 255 = (T1, y)) (hend : ¬ F_g_endOfPlaces o T g ≤ pI) (h100 : ¬ T.2.1 (10 + 1) pI.toNatClampNeg = (100 : Int32)) (hp : pI.toInt = c + 8) (hsh : (zI S g 2).toInt = G 0 2 + 8) : ∃ w : Int32, F_i_takeCells_B1 o g 10 S (pI, T) = .inl (pI + 1, dg_uf (dg_uF T1 182 5 (.int w)) (10 + 1) (upd (T1.2.1 (10 + 1)) pI.toNatClampNeg y)) ∧ (w.toInt = 1 ∧ (zI T1 182 5).toInt ≠ 0 ∧ s_ob9 G c y.toInt ∨ w.toInt = 0 ∧ ¬ ((zI T1 182 5).toInt ≠ 0 ∧ s_ob9 G c y.toInt)) := by
  have z0 : (0 : Int32).toInt = 0 := by decide +kernel
  have z1 : (1 : Int32).toInt = 1 := by decide +kernel
  have z9 : (9 : Int32).toInt = 9 := by decide +kernel
  have z254 : (254 : Int32).toInt = 254 := by decide +kernel
  have z255 : (255 : Int32).toInt = 255 := by decide +kernel
  have a1 : T1 = (F_i_next o T 255).1 := by rw [e1]
  have a2 : y = (F_i_next o T 255).2 := by rw [e1]
  by_cases q : pI = zI S g 2
  · have d := w_eq.mp q
    rw [hp, hsh] at d
    by_cases f : zI T1 182 5 = (0 : Int32)
    · exact ⟨0, (F_i_takeCells_p12 rfl hend rfl h100 a1 a2 rfl q rfl f).trans (F_i_takeCells_p11.trans ((F_i_takeCells_p10 rfl).trans ((F_i_takeCells_p2 rfl).trans (F_i_takeCells_p1 rfl)))), Or.inr ⟨z0, fun z => z.1 (dk_eqc z0 f)⟩⟩
    · have f' := dk_neqc z0 f
      by_cases u : y = (255 : Int32)
      · have u' := dk_eqc z255 u
        exact ⟨1, (F_i_takeCells_p14 rfl hend rfl h100 a1 a2 rfl q rfl f u).trans ((F_i_takeCells_p10 rfl).trans ((F_i_takeCells_p2 rfl).trans (F_i_takeCells_p1 rfl))), Or.inl ⟨z1, f', ⟨by omega, fun _ => u'⟩⟩⟩
      · have u' := dk_neqc z255 u
        exact ⟨0, (F_i_takeCells_p13 rfl hend rfl h100 a1 a2 rfl q rfl f u).trans (F_i_takeCells_p11.trans ((F_i_takeCells_p10 rfl).trans ((F_i_takeCells_p2 rfl).trans (F_i_takeCells_p1 rfl)))), Or.inr ⟨z0, fun z => u' (z.2.2 (by omega))⟩⟩
  · have d : ¬ c = G 0 2 := fun z => q (Int32.toInt_inj.mp (by rw [hp, hsh, z]))
    by_cases f : zI T1 182 5 = (0 : Int32)
    · exact ⟨0, (F_i_takeCells_p5 rfl hend rfl h100 a1 a2 rfl q rfl f).trans (F_i_takeCells_p4.trans ((F_i_takeCells_p3 rfl).trans ((F_i_takeCells_p2 rfl).trans (F_i_takeCells_p1 rfl)))), Or.inr ⟨z0, fun z => z.1 (dk_eqc z0 f)⟩⟩
    · have f' := dk_neqc z0 f
      by_cases u : y ≤ (9 : Int32)
      · have u' := dk_lec z9 u
        exact ⟨1, (F_i_takeCells_p7 rfl hend rfl h100 a1 a2 rfl q rfl f u).trans (F_i_takeCells_p6.trans ((F_i_takeCells_p3 rfl).trans ((F_i_takeCells_p2 rfl).trans (F_i_takeCells_p1 rfl)))), Or.inl ⟨z1, f', ⟨Or.inl u', fun z => absurd z d⟩⟩⟩
      · have u' := dk_nlec z9 u
        by_cases w : y < (254 : Int32)
        · have w' := dk_ltc z254 w
          exact ⟨0, (F_i_takeCells_p8 rfl hend rfl h100 a1 a2 rfl q rfl f u w).trans (F_i_takeCells_p4.trans ((F_i_takeCells_p3 rfl).trans ((F_i_takeCells_p2 rfl).trans (F_i_takeCells_p1 rfl)))), Or.inr ⟨z0, fun z => by have := z.2.1; omega⟩⟩
        · have w' := dk_nltc z254 w
          exact ⟨1, (F_i_takeCells_p9 rfl hend rfl h100 a1 a2 rfl q rfl f u w).trans (F_i_takeCells_p6.trans ((F_i_takeCells_p3 rfl).trans ((F_i_takeCells_p2 rfl).trans (F_i_takeCells_p1 rfl)))), Or.inl ⟨z1, f', ⟨Or.inr (by omega), fun z => absurd z d⟩⟩⟩
/-- all cells -/
theorem cx_takeCells (hg : cx_g G K S g) (hG : s_gx G) (tp : cx_tp n B S) (hc : ∀ j : Nat, j < 72 → ((S.2.1 11 j).toInt = 100 ↔ ¬ s_in G ((j : Int) - 8))) : ∃ S1, F_i_takeCells o S g 10 = S1 ∧ kp (fun a b => a = 182 ∧ (b = 3 ∨ b = 4 ∨ b = 5)) (fun a => a = 11) S S1 ∧ (∀ j : Nat, j < 72 → ¬ s_in G ((j : Int) - 8) → S1.2.1 11 j = S.2.1 11 j) ∧ cx_go n B (s_cp G 64) (fun p => ∀ d : Nat, d < 64 → s_in G (d : Int) → s_oc G B p d) (fun p => ∀ d : Nat, d < 64 → s_in G (d : Int) → (S1.2.1 11 (d + 8)).toInt = B (p + s_cp G d)) S S1 := by
  have z8 : (8 : Int32).toInt = 8 := by decide +kernel
  have z100 : (100 : Int32).toInt = 100 := by decide +kernel
  have z255 : (255 : Int32).toInt = 255 := by decide +kernel
  have sep := rX_sep hg.1.1
  have hgb := hG.1.1
  have f1 : (zI S g 1).toInt = G 0 1 := hg.2.1.2.1
  have f2 : (zI S g 2).toInt = G 0 2 + 8 := hg.1.2.1
  obtain ⟨R, hR⟩ : ∃ R : Nat, (R : Int) = G 0 1 := ⟨(G 0 1).toNat, by omega⟩
  have eend : ∀ T, kp (fun a b => a = 182 ∧ (b = 3 ∨ b = 4 ∨ b = 5)) (fun a => a = 11) S T → (F_g_endOfPlaces o T g).toInt = 8 * (R : Int) + 8 := fun T t => by
    have e1 : (zI T g 1).toInt = R := by rw [t.I (fun z => by omega), f1, hR]
    exact dk_addT (dk_mulT z8 e1 (by omega) (by omega)) z8 (by omega) (by omega)
  have e64 := s_cp_same (G := G) (c := 8 * R) (64 - 8 * R) (fun j j1 j2 z => by have := z.2.2; omega)
  rw [show 8 * R + (64 - 8 * R) = 64 by omega] at e64
  have V64 : ∀ d : Nat, s_in G (d : Int) → d < 64 → d < 8 * R := fun d h1 h2 => by have := h1.2.2; omega
  rw [F_i_takeCells_p16]
  refine lp_cnt (f := F_i_takeCells_B1 o g 10 S) (z := S) (W := 8 * R + 8) (P := fun pl T => 8 ≤ pl ∧ kp (fun a b => a = 182 ∧ (b = 3 ∨ b = 4 ∨ b = 5)) (fun a => a = 11) S T ∧ (∀ j, pl ≤ j → T.2.1 11 j = S.2.1 11 j) ∧ (∀ j : Nat, j < 72 → ¬ s_in G ((j : Int) - 8) → T.2.1 11 j = S.2.1 11 j) ∧ cx_go n B (s_cp G (pl - 8)) (fun p => ∀ d : Nat, d < pl - 8 → s_in G (d : Int) → s_oc G B p d) (fun p => ∀ d : Nat, d < pl - 8 → s_in G (d : Int) → (T.2.1 11 (d + 8)).toInt = B (p + s_cp G d)) S T) (Q := fun R' => ∃ S1, R' = S1 ∧ kp (fun a b => a = 182 ∧ (b = 3 ∨ b = 4 ∨ b = 5)) (fun a => a = 11) S S1 ∧ (∀ j : Nat, j < 72 → ¬ s_in G ((j : Int) - 8) → S1.2.1 11 j = S.2.1 11 j) ∧ cx_go n B (s_cp G 64) (fun p => ∀ d : Nat, d < 64 → s_in G (d : Int) → s_oc G B p d) (fun p => ∀ d : Nat, d < 64 → s_in G (d : Int) → (S1.2.1 11 (d + 8)).toInt = B (p + s_cp G d)) S S1) (by omega) (fun pl pI T hp hpI hP => ?_) (fun pI T hpI hP => ?_) ((65 - ((8 : Int32)).toInt).toNat + 1) 8 8 S (by rw [z8]; omega) (by omega) z8 ⟨Nat.le_refl 8, kp.rf, fun _ _ => rfl, fun _ _ _ => rfl, fun p hp => Or.inl ⟨⟨hp.2.2.1, fun d hd => absurd hd (Nat.not_lt_zero d)⟩, hp, fun d hd => absurd hd (Nat.not_lt_zero d)⟩, id⟩
  rotate_left
  · obtain ⟨t0, t1, t2, t3, t4⟩ := hP
    rw [show 8 * R + 8 - 8 = 8 * R by omega, ← e64] at t4
    exact ⟨T, F_i_takeCells_p0 rfl (w_le.mpr (by rw [eend T t1]; omega)), T, rfl, t1, t3, t4.im (fun p => ⟨fun w d h1 h2 => w d (by omega) h2, fun w d h1 h2 => w d (V64 d h2 h1) h2⟩) (fun p _ _ w d h1 h2 => w d (V64 d h2 h1) h2)⟩
  obtain ⟨t0, t1, t2, t3, t4⟩ := hP
  have hend : ¬ F_g_endOfPlaces o T g ≤ pI := fun z => by have := w_le.mp z; rw [eend T t1] at this; omega
  have pn : pI.toNatClampNeg = pl := by rw [dk_clN]; omega
  have rv : T.2.1 11 pl = S.2.1 11 pl := t2 pl (Nat.le_refl pl)
  obtain ⟨c, hcc⟩ : ∃ c, c = pl - 8 := ⟨_, rfl⟩
  rw [← hcc] at t4
  rw [show pl + 1 - 8 = c + 1 by omega]
  have hcj := hc pl (by omega)
  rw [show (pl : Int) - 8 = (c : Int) by omega] at hcj
  by_cases q : T.2.1 (10 + 1) pI.toNatClampNeg = (100 : Int32)
  · have d := dk_eqc z100 q
    have d : (T.2.1 11 pI.toNatClampNeg).toInt = 100 := d
    rw [pn, rv] at d
    have nin := hcj.mp d
    refine ⟨T, (F_i_takeCells_p15 rfl hend rfl q).trans (F_i_takeCells_p1 rfl), by omega, t1, fun j hj => t2 j (by omega), t3, ?_⟩
    rw [s_cp_n nin]
    refine t4.im (fun p => ⟨fun w d h1 h2 => w d (by omega) h2, fun w d h1 h2 => ?_⟩) (fun p _ _ w d h1 h2 => ?_)
    · by_cases e : d = c
      · rw [e] at h2
        exact absurd h2 nin
      · exact w d (by omega) h2
    · by_cases e : d = c
      · rw [e] at h2
        exact absurd h2 nin
      · exact w d (by omega) h2
  have hin : s_in G (c : Int) := by
    apply Classical.byContradiction
    intro z
    have := hcj.mpr z
    rw [← rv, ← pn] at this
    exact q (Int32.toInt_inj.mp (this.trans z100.symm))
  obtain ⟨T1, y, e1, k1, g1⟩ := cx_next1 (o := o) (m := 255) (tp.keep t1 (by omega) (by omega)) z255
  obtain ⟨w, ew, hw⟩ := cx_cell1 (o := o) (g := g) (G := G) (S := S) (T := T) (T1 := T1) (y := y) (c := (c : Int)) e1 hend q (by omega) f2
  obtain ⟨T2, e2⟩ : ∃ X, X = dg_uF T1 182 5 (.int w) := ⟨_, rfl⟩
  obtain ⟨T3, e3⟩ : ∃ X, X = dg_uf T2 (10 + 1) (upd (T1.2.1 (10 + 1)) pI.toNatClampNeg y) := ⟨_, rfl⟩
  rw [← e2, ← e3] at ew
  have r1 : T1.2.1 11 = T.2.1 11 := (k1.2 11 id).1
  have row : ∀ j, T3.2.1 11 j = if j = pl then y else T.2.1 11 j := fun j => by
    rw [e3, w_f, if_pos rfl, w_u, pn, show (10 + 1 : Nat) = 11 from rfl, r1]
  have i5 : (zI T3 182 5).toInt = w.toInt := by
    rw [e3]
    show (zI T2 182 5).toInt = w.toInt
    rw [e2, w_I, if_pos ⟨rfl, rfl⟩]
  have i4 : zI T3 182 4 = zI T1 182 4 := by
    rw [e3]
    show zI T2 182 4 = _
    rw [e2, w_I0 (by decide)]
  have i3 : zI T3 182 3 = zI T1 182 3 := by
    rw [e3]
    show zI T2 182 3 = _
    rw [e2, w_I0 (by decide)]
  have t13 : kp (fun a b => a = 182 ∧ (b = 3 ∨ b = 4 ∨ b = 5)) (fun a => a = 11) S T3 := by
    rw [e3, e2]
    exact kp.uf (kp.uF (t1.tr (k1.w (fun a b z => z) (fun a z => z.elim))) ⟨rfl, Or.inr (Or.inr rfl)⟩) rfl
  refine ⟨T3, ew, by omega, t13, fun j hj => ?_, fun j hj hn => ?_, ?_⟩
  · rw [row, if_neg (by omega)]
    exact t2 j (by omega)
  · by_cases e : j = pl
    · rw [e, show (pl : Int) - 8 = (c : Int) by omega] at hn
      exact absurd hin hn
    · rw [row, if_neg e]
      exact t3 j hj hn
  · have gg := t4.tr g1
    rw [s_cp_y hin]
    have bad : cx_bd T1 → cx_bd T3 := fun b => by
      unfold cx_bd at b ⊢
      rw [i5]
      rcases hw with ⟨-, w2, -⟩ | ⟨w1, -⟩
      · exact absurd b w2
      · exact w1
    refine ⟨fun p hp => ?_, fun b => bad (gg.2 b)⟩
    rcases gg.1 p hp with ⟨⟨u1, u2, u3⟩, ⟨v1, v2, v3, v4⟩, ⟨s1, s2⟩⟩ | ⟨u1, u2⟩
    · have s2 : y.toInt = B (p + s_cp G c) := s2
      rcases hw with ⟨w1, -, w3⟩ | ⟨w1, w2⟩
      · rw [s2] at w3
        refine Or.inl ⟨⟨u1, fun d h1 h2 => ?_⟩, ⟨by rw [i5]; exact w1, by rw [i4]; exact v2, v3, by rw [i3]; exact v4⟩, fun d h1 h2 => ?_⟩
        · by_cases e : d = c
          · rw [e]
            exact w3
          · exact u2 d (by omega) h2
        · rw [row]
          by_cases e : d = c
          · rw [if_pos (by omega), e]
            exact s2
          · rw [if_neg (by omega)]
            exact s1 d (by omega) h2
      · refine Or.inr ⟨fun z => w2 ⟨by omega, ?_⟩, ?_⟩
        · rw [s2]
          exact z.2 c (by omega) hin
        · unfold cx_bd
          rw [i5]
          exact w1
    · refine Or.inr ⟨fun z => u1 ⟨z.1, fun d h1 h2 => z.2 d (by omega) h2, ?_⟩, bad u2⟩
      have := (tp.2.2 (p + s_cp G c) (by have := z.1; omega)).2
      exact this.2
end FG
