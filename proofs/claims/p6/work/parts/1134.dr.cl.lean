/-! the reference: a layer is copied -/
/-- a loop that counts -/
theorem lp_cnt {σ ρ : Type} {f : Int32 × σ → (Int32 × σ) ⊕ ρ} {z : ρ} {W : Nat} {P : Nat → σ → Prop} {Q : ρ → Prop} (hW : W < 2000000000) (hs : ∀ (c : Nat) (cI : Int32) (s : σ), c < W → cI.toInt = c → P c s → ∃ s1, f (cI, s) = .inl (cI + 1, s1) ∧ P (c + 1) s1) (he : ∀ (cI : Int32) (s : σ), cI.toInt = W → P W s → ∃ r, f (cI, s) = .inr r ∧ Q r) : ∀ (n c : Nat) (cI : Int32) (s : σ), W + 1 ≤ n + c → c ≤ W → cI.toInt = c → P c s → Q (lp f z n (cI, s)) := by
  intro n
  induction n with
  | zero =>
    intro c cI s h1 h2
    omega
  | succ n ih =>
    intro c cI s h1 h2 h3 h4
    by_cases q : c < W
    · obtain ⟨s1, e1, p1⟩ := hs c cI s q h3 h4
      rw [lp_sl e1]
      refine ih (c + 1) (cI + 1) s1 (by omega) (by omega) ?_ p1
      rw [dk_addT h3 (b := 1) (by decide +kernel) (by omega) (by omega)]
      omega
    · have ec : c = W := by omega
      subst ec
      obtain ⟨r, e1, q1⟩ := he cI s h3 h4
      rw [lp_sr e1]
      exact q1
/-- c places from q on are copied to p -/
def cpl (r : Nat → Int32) (p q c : Nat) : Nat → Int32 := fun j => if p ≤ j ∧ j < p + c then r (q + (j - p)) else r j
theorem cpl_0 {r : Nat → Int32} {p q : Nat} : cpl r p q 0 = r := by
  funext j
  unfold cpl
  rw [if_neg (by omega)]
theorem cpl_s {r : Nat → Int32} {p q c : Nat} (hd : ¬ (p ≤ q + c ∧ q + c < p + c)) : upd (cpl r p q c) (p + c) (cpl r p q c (q + c)) = cpl r p q (c + 1) := by
  funext j
  rw [w_u]
  unfold cpl
  by_cases z : j = p + c
  · rw [if_pos z, if_neg hd, if_pos (by omega), z, show p + c - p = c by omega]
  · rw [if_neg z]
    by_cases y : p ≤ j ∧ j < p + c
    · rw [if_pos y, if_pos (by omega)]
    · rw [if_neg y, if_neg (by omega)]
theorem cpl_in {r : Nat → Int32} {p q c k : Nat} (h : k < c) : cpl r p q c (p + k) = r (q + k) := by
  unfold cpl
  rw [if_pos (by omega), show p + k - p = k by omega]
theorem cpl_out {r : Nat → Int32} {p q c j : Nat} (h : ¬ (p ≤ j ∧ j < p + c)) : cpl r p q c j = r j := by
  unfold cpl
  rw [if_neg h]
/-- place c of a layer's block -/
theorem mx_pl {a b w : Int32} {v c n : Nat} (ha : a.toInt = v) (hv : v ≤ 40) (hb : b.toInt = c) (hc : c < 160) (hw : w.toInt = n) (hn : n ≤ 160) (h : (n : Int) * v ≤ 6400) : (w * a + b).toNatClampNeg = n * v + c := by
  have h0 : 0 ≤ (n : Int) * v := Int.mul_nonneg (by omega) (by omega)
  have e1 : (w * a).toInt = (n : Int) * v := dk_mulT hw ha (by omega) (by omega)
  rw [dk_clN, dk_addT e1 hb (by omega) (by omega)]
  have e2 : ((n * v : Nat) : Int) = (n : Int) * v := Int.natCast_mul n v
  omega
section CP
variable {v u o : Nat} {S S0 S1 T : dg_S} {G A : aR} {L : s_L} {a1 a2 : Int32}
/-- two rows of a block so far -/
def cp2 (x y p q : Nat) (T : dg_S) (c : Nat) (S : dg_S) : Prop := S.2.1 x = cpl (T.2.1 x) p q c ∧ S.2.1 y = cpl (T.2.1 y) p q c ∧ kp (fun _ _ => False) (fun a => a = x ∨ a = y) T S
theorem cp2.zr {x y p q : Nat} : cp2 x y p q T 0 T := ⟨cpl_0.symm, cpl_0.symm, kp.rf⟩
theorem cp2.st {x y p q c : Nat} {i j i' j' : Int32} (h : cp2 x y p q T c S) (hxy : x ≠ y) (hd : ¬ (p ≤ q + c ∧ q + c < p + c)) (hi : i.toNatClampNeg = p + c) (hj : j.toNatClampNeg = q + c) (hi' : i'.toNatClampNeg = p + c) (hj' : j'.toNatClampNeg = q + c) (e1 : S0 = dg_uf S x (upd (S.2.1 x) i.toNatClampNeg (S.2.1 x j.toNatClampNeg))) (e2 : S1 = dg_uf S0 y (upd (S0.2.1 y) i'.toNatClampNeg (S0.2.1 y j'.toNatClampNeg))) : cp2 x y p q T (c + 1) S1 := by
  obtain ⟨h1, h2, h3⟩ := h
  have r0 : S0.2.1 y = S.2.1 y := by rw [e1, w_f, if_neg (fun z => hxy z.symm)]
  refine ⟨?_, ?_, ?_⟩
  · rw [e2, w_f, if_neg hxy, e1, w_f, if_pos rfl, hi, hj, h1]
    exact cpl_s hd
  · rw [e2, w_f, if_pos rfl, r0, hi', hj', h2]
    exact cpl_s hd
  · rw [e2, e1]
    exact kp.uf (kp.uf h3 (Or.inl rfl)) (Or.inr rfl)
def cp1 (x p q : Nat) (T : dg_S) (c : Nat) (S : dg_S) : Prop := S.2.1 x = cpl (T.2.1 x) p q c ∧ kp (fun _ _ => False) (fun a => a = x) T S
theorem cp1.zr {x p q : Nat} : cp1 x p q T 0 T := ⟨cpl_0.symm, kp.rf⟩
theorem cp1.st {x p q c : Nat} {i j : Int32} (h : cp1 x p q T c S) (hd : ¬ (p ≤ q + c ∧ q + c < p + c)) (hi : i.toNatClampNeg = p + c) (hj : j.toNatClampNeg = q + c) (e1 : S1 = dg_uf S x (upd (S.2.1 x) i.toNatClampNeg (S.2.1 x j.toNatClampNeg))) : cp1 x p q T (c + 1) S1 := by
  obtain ⟨h1, h3⟩ := h
  refine ⟨?_, ?_⟩
  · rw [e1, w_f, if_pos rfl, hi, hj, h1]
    exact cpl_s hd
  · rw [e1]
    exact kp.uf h3 rfl
/-- what a copied layer is made of -/
def mx_cp (S S1 : dg_S) (v u n : Nat) : Prop := kp (fun _ _ => False) (fun a => 29 ≤ a ∧ a ≤ 39) S S1 ∧ (∀ a, a = 29 ∨ a = 30 ∨ a = 33 ∨ a = 34 ∨ a = 38 → S1.2.1 a = upd (S.2.1 a) v (S.2.1 a u)) ∧ (∀ a, a = 31 ∨ a = 32 → S1.2.1 a = cpl (S.2.1 a) (64 * v) (64 * u) 64) ∧ (∀ a, a = 35 ∨ a = 36 → S1.2.1 a = cpl (S.2.1 a) (16 * v) (16 * u) 16) ∧ S1.2.1 37 = cpl (S.2.1 37) (10 * v) (10 * u) 10 ∧ S1.2.1 39 = cpl (S.2.1 39) (160 * v) (160 * u) (4 * n)
theorem mx_cp5 (h1 : a1.toInt = v) (h2 : a2.toInt = u) (hv : v ≤ 21) (hu : u ≤ 21) (hne : v ≠ u) {n : Nat} (hn : n ≤ 40) (hc : (S.2.1 38 u).toInt = n) {z : dg_S} : ∃ S1, F_m_copies_J4 S a2 a1 z = S1 ∧ S1.2.1 38 = upd (S.2.1 38) v (S.2.1 38 u) ∧ S1.2.1 39 = cpl (S.2.1 39) (160 * v) (160 * u) (4 * n) ∧ kp (fun _ _ => False) (fun a => a = 38 ∨ a = 39) S S1 := by
  have z0 : (0 : Int32).toInt = 0 := by decide +kernel
  have n1 : a1.toNatClampNeg = v := by rw [dk_clN]; omega
  have n2 : a2.toNatClampNeg = u := by rw [dk_clN]; omega
  have e160 : (160 : Int32).toInt = ((160 : Nat) : Int) := by decide +kernel
  obtain ⟨T, hT⟩ : ∃ T, T = dg_uf S 38 (upd (S.2.1 38) a1.toNatClampNeg (S.2.1 38 a2.toNatClampNeg)) := ⟨_, rfl⟩
  have T38 : T.2.1 38 = upd (S.2.1 38) v (S.2.1 38 u) := by rw [hT, w_f, if_pos rfl, n1, n2]
  have T39 : T.2.1 39 = S.2.1 39 := by rw [hT, w_f, if_neg (by decide)]
  have kT : kp (fun _ _ => False) (fun a => a = 38 ∨ a = 39) S T := by rw [hT]; exact kp.uf kp.rf (Or.inl rfl)
  have Tu : (T.2.1 38 u).toInt = n := by rw [T38, w_u, if_neg (fun y => hne y.symm)]; exact hc
  have lim : ∀ S', kp (fun _ _ => False) (fun a => a = 39) T S' → ((4 : Int32) * S'.2.1 38 a2.toNatClampNeg).toInt = 4 * (n : Int) := fun S' t => by
    rw [n2, (t.2 38 (by decide)).1]
    exact dk_mulT (by decide +kernel) Tu (by omega) (by omega)
  have main := lp_cnt (f := F_m_copies_B5 a2 a1) (z := z) (W := 4 * n) (P := fun c S' => cp1 39 (160 * v) (160 * u) T c S') (Q := fun S1 => cp1 39 (160 * v) (160 * u) T (4 * n) S1) (by omega) (fun c cI S' hcW hcI hP => by
    have l := lim S' hP.2
    refine ⟨_, F_m_copies_p1 rfl rfl (fun q => by have := w_le.mp q; omega) rfl rfl rfl rfl rfl rfl rfl, ?_⟩
    exact hP.st (by omega) (mx_pl h1 (by omega) hcI (by omega) e160 (by omega) (by omega)) (mx_pl h2 (by omega) hcI (by omega) e160 (by omega) (by omega)) rfl) (fun cI S' hcI hP => by
    have l := lim S' hP.2
    exact ⟨S', F_m_copies_p0 rfl rfl (w_le.mpr (by omega)), hP⟩) ((161 - ((0 : Int32)).toInt).toNat + 1) 0 0 T (by rw [z0]; omega) (by omega) z0 cp1.zr
  refine ⟨_, F_m_copies_p2 rfl hT, ?_, ?_, ?_⟩
  · rw [(main.2.2 38 (by decide)).1]
    exact T38
  · rw [main.1, T39]
  · exact kT.tr (main.2.w (fun _ _ y => y) (fun a y => Or.inr y))
theorem mx_cp6 (h1 : a1.toInt = v) (h2 : a2.toInt = u) (hv : v ≤ 21) (hu : u ≤ 21) (hne : v ≠ u) {z : dg_S} : ∃ S1, F_m_copies_J3 a2 a1 z S = F_m_copies_J4 S1 a2 a1 z ∧ cp1 37 (10 * v) (10 * u) S 10 S1 := by
  have z0 : (0 : Int32).toInt = 0 := by decide +kernel
  have e10 : (10 : Int32).toInt = ((10 : Nat) : Int) := by decide +kernel
  rw [F_m_copies_p5]
  refine lp_cnt (f := F_m_copies_B6 a2 a1 z) (z := z) (W := 10) (P := fun c S' => cp1 37 (10 * v) (10 * u) S c S') (Q := fun r => ∃ S1, r = F_m_copies_J4 S1 a2 a1 z ∧ cp1 37 (10 * v) (10 * u) S 10 S1) (by omega) (fun c cI S' hcW hcI hP => ?_) (fun cI S' hcI hP => ?_) ((11 - ((0 : Int32)).toInt).toNat + 1) 0 0 S (by rw [z0]; decide) (by decide) z0 cp1.zr
  · refine ⟨_, F_m_copies_p4 (fun q => by have := dk_gec (k := 10) (by decide +kernel) q; omega) rfl rfl rfl rfl rfl rfl rfl, ?_⟩
    exact hP.st (by omega) (mx_pl h1 (by omega) hcI (by omega) e10 (by omega) (by omega)) (mx_pl h2 (by omega) hcI (by omega) e10 (by omega) (by omega)) rfl
  · exact ⟨_, F_m_copies_p3 (dk_gep (k := 10) (by decide +kernel) (by omega)), S', rfl, hP⟩
theorem mx_cp7 (h1 : a1.toInt = v) (h2 : a2.toInt = u) (hv : v ≤ 21) (hu : u ≤ 21) (hne : v ≠ u) {z : dg_S} : ∃ S1, F_m_copies_J2 a2 a1 z S = F_m_copies_J3 a2 a1 z S1 ∧ cp2 35 36 (16 * v) (16 * u) S 16 S1 := by
  have z0 : (0 : Int32).toInt = 0 := by decide +kernel
  have e16 : (16 : Int32).toInt = ((16 : Nat) : Int) := by decide +kernel
  rw [F_m_copies_p8]
  refine lp_cnt (f := F_m_copies_B7 a2 a1 z) (z := z) (W := 16) (P := fun c S' => cp2 35 36 (16 * v) (16 * u) S c S') (Q := fun r => ∃ S1, r = F_m_copies_J3 a2 a1 z S1 ∧ cp2 35 36 (16 * v) (16 * u) S 16 S1) (by omega) (fun c cI S' hcW hcI hP => ?_) (fun cI S' hcI hP => ?_) ((17 - ((0 : Int32)).toInt).toNat + 1) 0 0 S (by rw [z0]; decide) (by decide) z0 cp2.zr
  · have i1 := mx_pl h1 (w := 16) (by omega) hcI (by omega) e16 (by omega) (by omega)
    have i2 := mx_pl h2 (w := 16) (by omega) hcI (by omega) e16 (by omega) (by omega)
    refine ⟨_, F_m_copies_p7 (fun q => by have := dk_gec (k := 16) (by decide +kernel) q; omega) rfl rfl rfl rfl rfl rfl rfl rfl rfl rfl rfl rfl rfl, ?_⟩
    exact hP.st (by decide) (by omega) i1 i2 i1 i2 rfl rfl
  · exact ⟨_, F_m_copies_p6 (dk_gep (k := 16) (by decide +kernel) (by omega)), S', rfl, hP⟩
theorem mx_cp8 (h1 : a1.toInt = v) (h2 : a2.toInt = u) (hv : v ≤ 21) (hu : u ≤ 21) (hne : v ≠ u) {z : dg_S} : ∃ S1, F_m_copies_J1 a2 a1 z S = F_m_copies_J2 a2 a1 z S1 ∧ cp2 31 32 (64 * v) (64 * u) S 64 S1 := by
  have z0 : (0 : Int32).toInt = 0 := by decide +kernel
  have e64 : (64 : Int32).toInt = ((64 : Nat) : Int) := by decide +kernel
  rw [F_m_copies_p11]
  refine lp_cnt (f := F_m_copies_B8 a2 a1 z) (z := z) (W := 64) (P := fun c S' => cp2 31 32 (64 * v) (64 * u) S c S') (Q := fun r => ∃ S1, r = F_m_copies_J2 a2 a1 z S1 ∧ cp2 31 32 (64 * v) (64 * u) S 64 S1) (by omega) (fun c cI S' hcW hcI hP => ?_) (fun cI S' hcI hP => ?_) ((65 - ((0 : Int32)).toInt).toNat + 1) 0 0 S (by rw [z0]; decide) (by decide) z0 cp2.zr
  · have i1 := mx_pl h1 (w := 64) (by omega) hcI (by omega) e64 (by omega) (by omega)
    have i2 := mx_pl h2 (w := 64) (by omega) hcI (by omega) e64 (by omega) (by omega)
    refine ⟨_, F_m_copies_p10 (fun q => by have := dk_gec (k := 64) (by decide +kernel) q; omega) rfl rfl rfl rfl rfl rfl rfl rfl rfl rfl rfl rfl rfl, ?_⟩
    exact hP.st (by decide) (by omega) i1 i2 i1 i2 rfl rfl
  · exact ⟨_, F_m_copies_p9 (dk_gep (k := 64) (by decide +kernel) (by omega)), S', rfl, hP⟩
theorem mx_copies0 (h1 : a1.toInt = v) (h2 : a2.toInt = u) (hv : v ≤ 21) (hu : u ≤ 21) (hne : v ≠ u) {n : Nat} (hn : n ≤ 40) (hc : (S.2.1 38 u).toInt = n) : ∃ S1, F_m_copies o S a1 a2 = S1 ∧ mx_cp S S1 v u n := by
  have n1 : a1.toNatClampNeg = v := by rw [dk_clN]; omega
  have n2 : a2.toNatClampNeg = u := by rw [dk_clN]; omega
  obtain ⟨S4, h4⟩ : ∃ T, T = dg_uf S 29 (upd (S.2.1 29) a1.toNatClampNeg (S.2.1 29 a2.toNatClampNeg)) := ⟨_, rfl⟩
  obtain ⟨S9, h9⟩ : ∃ T, T = dg_uf S4 30 (upd (S4.2.1 30) a1.toNatClampNeg (S4.2.1 30 a2.toNatClampNeg)) := ⟨_, rfl⟩
  obtain ⟨S13, h13⟩ : ∃ T, T = dg_uf S9 33 (upd (S9.2.1 33) a1.toNatClampNeg (S9.2.1 33 a2.toNatClampNeg)) := ⟨_, rfl⟩
  obtain ⟨S17, h17⟩ : ∃ T, T = dg_uf S13 34 (upd (S13.2.1 34) a1.toNatClampNeg (S13.2.1 34 a2.toNatClampNeg)) := ⟨_, rfl⟩
  have k17 : kp (fun _ _ => False) (fun a => a = 29 ∨ a = 30 ∨ a = 33 ∨ a = 34) S S17 := by
    rw [h17, h13, h9, h4]
    exact kp.uf (kp.uf (kp.uf (kp.uf kp.rf (Or.inl rfl)) (Or.inr (Or.inl rfl))) (Or.inr (Or.inr (Or.inl rfl)))) (Or.inr (Or.inr (Or.inr rfl)))
  have r29 : S17.2.1 29 = upd (S.2.1 29) v (S.2.1 29 u) := by rw [h17, w_f, if_neg (by decide), h13, w_f, if_neg (by decide), h9, w_f, if_neg (by decide), h4, w_f, if_pos rfl, n1, n2]
  have r30 : S17.2.1 30 = upd (S.2.1 30) v (S.2.1 30 u) := by
    have e : S4.2.1 30 = S.2.1 30 := by rw [h4, w_f, if_neg (by decide)]
    rw [h17, w_f, if_neg (by decide), h13, w_f, if_neg (by decide), h9, w_f, if_pos rfl, n1, n2, e]
  have r33 : S17.2.1 33 = upd (S.2.1 33) v (S.2.1 33 u) := by
    have e : S9.2.1 33 = S.2.1 33 := by rw [h9, w_f, if_neg (by decide), h4, w_f, if_neg (by decide)]
    rw [h17, w_f, if_neg (by decide), h13, w_f, if_pos rfl, n1, n2, e]
  have r34 : S17.2.1 34 = upd (S.2.1 34) v (S.2.1 34 u) := by
    have e : S13.2.1 34 = S.2.1 34 := by rw [h13, w_f, if_neg (by decide), h9, w_f, if_neg (by decide), h4, w_f, if_neg (by decide)]
    rw [h17, w_f, if_pos rfl, n1, n2, e]
  obtain ⟨T1, g1, p1⟩ := mx_cp8 (S := S17) (z := S) h1 h2 hv hu hne
  obtain ⟨T2, g2, p2⟩ := mx_cp7 (S := T1) (z := S) h1 h2 hv hu hne
  obtain ⟨T3, g3, p3⟩ := mx_cp6 (S := T2) (z := S) h1 h2 hv hu hne
  have b1 : ∀ a, a ≠ 31 → a ≠ 32 → T1.2.1 a = S17.2.1 a := fun a x y => (p1.2.2.2 a (by omega)).1
  have b2 : ∀ a, a ≠ 35 → a ≠ 36 → T2.2.1 a = T1.2.1 a := fun a x y => (p2.2.2.2 a (by omega)).1
  have b3 : ∀ a, a ≠ 37 → T3.2.1 a = T2.2.1 a := fun a x => (p3.2.2 a x).1
  have b0 : ∀ a, a ≠ 29 → a ≠ 30 → a ≠ 33 → a ≠ 34 → S17.2.1 a = S.2.1 a := fun a x y z w => (k17.2 a (by omega)).1
  have e38 : T3.2.1 38 = S.2.1 38 := by rw [b3 38 (by decide), b2 38 (by decide) (by decide), b1 38 (by decide) (by decide), b0 38 (by decide) (by decide) (by decide) (by decide)]
  have e39 : T3.2.1 39 = S.2.1 39 := by rw [b3 39 (by decide), b2 39 (by decide) (by decide), b1 39 (by decide) (by decide), b0 39 (by decide) (by decide) (by decide) (by decide)]
  obtain ⟨S1, g4, q38, q39, p4⟩ := mx_cp5 (S := T3) (z := S) h1 h2 hv hu hne hn (by rw [e38]; exact hc)
  have b4 : ∀ a, a ≠ 38 → a ≠ 39 → S1.2.1 a = T3.2.1 a := fun a x y => (p4.2 a (by omega)).1
  have W : ∀ {LA : Nat → Prop} {X Y : dg_S}, kp (fun _ _ => False) LA X Y → (∀ a, LA a → 29 ≤ a ∧ a ≤ 39) → kp (fun _ _ => False) (fun a => 29 ≤ a ∧ a ≤ 39) X Y := fun t h => t.w (fun _ _ y => y) h
  refine ⟨S1, ?_, ?_, ?_, ?_, ?_, ?_, ?_⟩
  · rw [F_m_copies_p12 rfl h4 rfl h9 rfl h13 rfl h17, g1, g2, g3]
    exact g4
  · exact ((((W k17 (fun a y => by omega)).tr (W p1.2.2 (fun a y => by omega))).tr (W p2.2.2 (fun a y => by omega))).tr (W p3.2 (fun a y => by omega))).tr (W p4 (fun a y => by omega))
  · intro a ha
    rcases ha with rfl | rfl | rfl | rfl | rfl
    · rw [b4 29 (by decide) (by decide), b3 29 (by decide), b2 29 (by decide) (by decide), b1 29 (by decide) (by decide)]; exact r29
    · rw [b4 30 (by decide) (by decide), b3 30 (by decide), b2 30 (by decide) (by decide), b1 30 (by decide) (by decide)]; exact r30
    · rw [b4 33 (by decide) (by decide), b3 33 (by decide), b2 33 (by decide) (by decide), b1 33 (by decide) (by decide)]; exact r33
    · rw [b4 34 (by decide) (by decide), b3 34 (by decide), b2 34 (by decide) (by decide), b1 34 (by decide) (by decide)]; exact r34
    · rw [q38, e38]
  · intro a ha
    rcases ha with rfl | rfl
    · rw [b4 31 (by decide) (by decide), b3 31 (by decide), b2 31 (by decide) (by decide), p1.1, b0 31 (by decide) (by decide) (by decide) (by decide)]
    · rw [b4 32 (by decide) (by decide), b3 32 (by decide), b2 32 (by decide) (by decide), p1.2.1, b0 32 (by decide) (by decide) (by decide) (by decide)]
  · intro a ha
    rcases ha with rfl | rfl
    · rw [b4 35 (by decide) (by decide), b3 35 (by decide), p2.1, b1 35 (by decide) (by decide), b0 35 (by decide) (by decide) (by decide) (by decide)]
    · rw [b4 36 (by decide) (by decide), b3 36 (by decide), p2.2.1, b1 36 (by decide) (by decide), b0 36 (by decide) (by decide) (by decide) (by decide)]
  · rw [b4 37 (by decide) (by decide), p3.1, b2 37 (by decide) (by decide), b1 37 (by decide) (by decide), b0 37 (by decide) (by decide) (by decide) (by decide)]
  · rw [q39, e39]
/-- A LAYER IS COPIED -/
theorem mx_copies (h1 : a1.toInt = v) (h2 : a2.toInt = u) (hv : v ≤ 21) (hu : u ≤ 21) (hne : v ≠ u) (hl : mx_lay G A L S u) (hb : G 0 6 ≤ 16) : ∃ S1, F_m_copies o S a1 a2 = S1 ∧ k_v v S S1 ∧ mx_lay G A L S1 v := by
  obtain ⟨y1, y2, y3, y4, y5, y6, y7, y8, y9, y10⟩ := hl
  obtain ⟨S1, e, c1, c2, c3, c4, c5, c6⟩ := mx_copies0 (o := o) h1 h2 hv hu hne y9 y8
  have up : ∀ a, a = 29 ∨ a = 30 ∨ a = 33 ∨ a = 34 ∨ a = 38 → S1.2.1 a v = S.2.1 a u := fun a ha => by rw [c2 a ha, w_u, if_pos rfl]
  refine ⟨S1, e, ⟨c1.w (fun _ _ z => z) (fun a z => by omega), fun a a0 a1 j hj => ?_⟩, ?_, ?_, ?_, ?_, fun k hk => ?_, ?_, fun k hk => ?_, ?_, y9, fun i hi => ?_⟩
  · have c : (a = 29 ∨ a = 30 ∨ a = 33 ∨ a = 34 ∨ a = 38) ∨ (a = 31 ∨ a = 32) ∨ (a = 35 ∨ a = 36) ∨ a = 37 ∨ a = 39 := by omega
    rcases c with c | c | c | c | c
    · have w : mx_w a = 1 := by rcases c with rfl | rfl | rfl | rfl | rfl <;> rfl
      rw [w] at hj
      rw [c2 a c, w_u, if_neg (by omega)]
    · have w : mx_w a = 64 := by rcases c with rfl | rfl <;> rfl
      rw [w] at hj
      rw [c3 a c, cpl_out hj]
    · have w : mx_w a = 16 := by rcases c with rfl | rfl <;> rfl
      rw [w] at hj
      rw [c4 a c, cpl_out hj]
    · subst c
      have w : mx_w 37 = 10 := rfl
      rw [w] at hj
      rw [c5, cpl_out hj]
    · subst c
      have w : mx_w 39 = 160 := rfl
      rw [w] at hj
      rw [c6, cpl_out (by omega)]
  · intro c hc
    have hc0 := hc.1
    have ad : ∀ w : Nat, mx_ad w c = 64 * w + c.toNat := fun w => by unfold mx_ad; omega
    have h9 := y1 c hc
    rw [ad] at h9
    rw [ad, c3 31 (Or.inl rfl), c3 32 (Or.inr rfl), cpl_in (by omega), cpl_in (by omega)]
    exact h9
  · rw [up 29 (by decide)]; exact y2
  · rw [up 30 (by decide)]; exact y3
  · rw [up 33 (by decide)]; exact y4
  · rw [c4 35 (Or.inl rfl), c4 36 (Or.inr rfl), cpl_in (by omega), cpl_in (by omega)]
    exact y5 k hk
  · rw [up 34 (by decide)]; exact y6
  · rw [c5, cpl_in (by omega)]
    exact y7 k hk
  · rw [up 38 (by decide)]; exact y8
  · have h9 := y10 i hi
    rw [c6, cpl_in (k := 4 * i) (by omega), show 160 * v + 4 * i + 1 = 160 * v + (4 * i + 1) by omega, show 160 * v + 4 * i + 2 = 160 * v + (4 * i + 2) by omega, show 160 * v + 4 * i + 3 = 160 * v + (4 * i + 3) by omega, cpl_in (k := 4 * i + 1) (by omega), cpl_in (k := 4 * i + 2) (by omega), cpl_in (k := 4 * i + 3) (by omega)]
    exact h9
end CP
