/-! ON: what an image is; the class reads it -/
def s_cb (B : Nat → Int) : Nat → Int
  | 0 => 233
  | i + 1 => (5 * s_cb B i + B i) % 251
theorem s_cb_b {B : Nat → Int} : ∀ i : Nat, 0 ≤ s_cb B i ∧ s_cb B i ≤ 250
  | 0 => ⟨by show (0 : Int) ≤ 233; decide, by show (233 : Int) ≤ 250; decide⟩
  | i + 1 => by
    show 0 ≤ (5 * s_cb B i + B i) % 251 ∧ (5 * s_cb B i + B i) % 251 ≤ 250
    omega
/-- how many cells there are below c -/
noncomputable def s_cp (G : aR) : Nat → Nat
  | 0 => 0
  | c + 1 => s_cp G c + s_if (s_in G (c : Int)) 1 0
theorem s_cp_y {G : aR} {c : Nat} (h : s_in G (c : Int)) : s_cp G (c + 1) = s_cp G c + 1 := by
  show s_cp G c + s_if (s_in G (c : Int)) 1 0 = _
  rw [s_if_y h]
theorem s_cp_n {G : aR} {c : Nat} (h : ¬ s_in G (c : Int)) : s_cp G (c + 1) = s_cp G c := by
  show s_cp G c + s_if (s_in G (c : Int)) 1 0 = _
  rw [s_if_n h]
  rfl
theorem s_cp_same {G : aR} {c : Nat} : ∀ d : Nat, (∀ j : Nat, c ≤ j → j < c + d → ¬ s_in G (j : Int)) → s_cp G (c + d) = s_cp G c
  | 0, _ => rfl
  | d + 1, h => by
    rw [show c + (d + 1) = (c + d) + 1 from rfl, s_cp_n (h (c + d) (by omega) (by omega)), s_cp_same d (fun j h1 h2 => h j h1 (by omega))]
/-- a cell of an image -/
def s_oc (G : aR) (B : Nat → Int) (p c : Nat) : Prop := (B (p + s_cp G c) ≤ 9 ∨ 254 ≤ B (p + s_cp G c)) ∧ ((c : Int) = G 0 2 → B (p + s_cp G c) = 255)
/-- where the class reads: all fits so far, or it doesn't -/
def cx_rd (n : Nat) (B : Nat → Int) (p : Nat) (S : dg_S) : Prop := (zI S 182 5).toInt = 1 ∧ (zI S 182 4).toInt = p ∧ p ≤ n ∧ (zI S 182 3).toInt = s_cb B p
def cx_bd (S : dg_S) : Prop := (zI S 182 5).toInt = 0
/-- reading goes on from S to S1 by q bytes, if V holds -/
def cx_go (n : Nat) (B : Nat → Int) (q : Nat) (V W : Nat → Prop) (S S1 : dg_S) : Prop := (∀ p, cx_rd n B p S → ((p + q ≤ n ∧ V p) ∧ cx_rd n B (p + q) S1 ∧ W p) ∨ (¬ (p + q ≤ n ∧ V p) ∧ cx_bd S1)) ∧ (cx_bd S → cx_bd S1)
def k_rd (S S1 : dg_S) : Prop := kp (fun a b => a = 182 ∧ (b = 3 ∨ b = 4 ∨ b = 5)) (fun _ => False) S S1
section FF
variable {o oX oM g n p q k i N : Nat} {G A A' : aR} {K : Nat → List Int} {B : Nat → Int} {S S0 S1 SX SM T : dg_S} {x x' r c v t m : Int} {a a1 a2 a3 a4 y : Int32}
theorem cx_tp.keep {LF : Nat → Nat → Prop} {LA : Nat → Prop} (h : cx_tp n B S) (t : kp LF LA S S1) (f : ¬ LF 1 1) (l : ¬ LA 2) : cx_tp n B S1 := ⟨by rw [t.I f]; exact h.1, h.2.1, fun i hi => by rw [(t.2 2 l).1]; exact h.2.2 i hi⟩
theorem cx_next (tp : cx_tp n B S) (ha : a1.toInt = m) : ∃ (S1 : dg_S) (y : Int32), F_i_next o S a1 = (S1, y) ∧ k_rd S S1 ∧ (∀ p, cx_rd n B p S → ((p < n ∧ B p ≤ m) ∧ cx_rd n B (p + 1) S1 ∧ y.toInt = B p) ∨ (¬ (p < n ∧ B p ≤ m) ∧ cx_bd S1)) ∧ (cx_bd S → cx_bd S1) := by
  have z0 : (0 : Int32).toInt = 0 := by decide +kernel
  have z1 : (1 : Int32).toInt = 1 := by decide +kernel
  have z5 : (5 : Int32).toInt = 5 := by decide +kernel
  have z251 : (251 : Int32).toInt = 251 := by decide +kernel
  obtain ⟨t1, t2, t3⟩ := tp
  obtain ⟨X0, x0⟩ : ∃ X, X = dg_uF S 182 5 (.int (0 : Int32)) := ⟨_, rfl⟩
  have kx0 : k_rd S X0 := by
    rw [x0]
    exact kp.uF kp.rf ⟨rfl, Or.inr (Or.inr rfl)⟩
  have bx0 : cx_bd X0 := by
    unfold cx_bd
    rw [x0, w_I, if_pos ⟨rfl, rfl⟩]
    exact z0
  by_cases q1 : zI S 1 1 ≤ zI S 182 4
  · have d1 := w_le.mp q1
    exact ⟨X0, 0, F_i_next_p0 rfl rfl q1 x0, kx0, fun p h => Or.inr ⟨fun z => by have := h.2.1; omega, bx0⟩, fun _ => bx0⟩
  have d1 : ¬ (zI S 1 1).toInt ≤ (zI S 182 4).toInt := fun z => q1 (w_le.mpr z)
  by_cases q2 : S.2.1 2 (zI S 182 4).toNatClampNeg ≤ a1
  rotate_left
  · refine ⟨X0, 0, F_i_next_p2 rfl rfl q1 rfl q2 x0, kx0, fun p h => Or.inr ⟨fun z => q2 (w_le.mpr ?_), bx0⟩, fun _ => bx0⟩
    have pn : (zI S 182 4).toNatClampNeg = p := by rw [dk_clN, h.2.1]; omega
    rw [pn, (t3 p z.1).1, ha]
    exact z.2
  have d2 := w_le.mp q2
  obtain ⟨w, hw⟩ : ∃ w : Int32, w = S.2.1 2 (zI S 182 4).toNatClampNeg := ⟨_, rfl⟩
  rw [← hw] at q2 d2
  obtain ⟨X1, x1⟩ : ∃ X, X = dg_uF S 182 4 (.int (zI S 182 4 + (1 : Int32))) := ⟨_, rfl⟩
  obtain ⟨u, hu⟩ : ∃ u : Int32, u = (5 : Int32) * zI X1 182 3 + w := ⟨_, rfl⟩
  obtain ⟨X2, x2⟩ : ∃ X, X = dg_uF X1 182 3 (.int (u - u / (251 : Int32) * (251 : Int32))) := ⟨_, rfl⟩
  have i5 : zI X2 182 5 = zI S 182 5 := by rw [x2, w_I0 (by decide), x1, w_I0 (by decide)]
  refine ⟨X2, w, F_i_next_p1 rfl rfl q1 hw q2 rfl x1 rfl rfl hu rfl x2, ?_, fun p h => Or.inl ?_, fun h => ?_⟩
  · rw [x2, x1]
    exact kp.uF (kp.uF kp.rf ⟨rfl, Or.inr (Or.inl rfl)⟩) ⟨rfl, Or.inl rfl⟩
  · obtain ⟨h1, h2, h3, h4⟩ := h
    have pl : p < n := by omega
    have pn : (zI S 182 4).toNatClampNeg = p := by rw [dk_clN, h2]; omega
    have wv : w.toInt = B p := by rw [hw, pn]; exact (t3 p pl).1
    have bb := (t3 p pl).2
    have cb := s_cb_b (B := B) p
    have i3 : (zI X1 182 3).toInt = s_cb B p := by rw [x1, w_I0 (by decide)]; exact h4
    have e5 : ((5 : Int32) * zI X1 182 3).toInt = 5 * s_cb B p := dk_mulT z5 i3 (by omega) (by omega)
    have eu : u.toInt = 5 * s_cb B p + B p := by rw [hu]; exact dk_addT e5 wv (by omega) (by omega)
    refine ⟨⟨pl, by omega⟩, ⟨by rw [i5]; exact h1, ?_, by omega, ?_⟩, wv⟩
    · rw [x2, w_I0 (by decide), x1, w_I, if_pos ⟨rfl, rfl⟩, dk_addT h2 z1 (by omega) (by omega)]
      omega
    · rw [x2, w_I, if_pos ⟨rfl, rfl⟩, dk_remL (by omega) z251 (by decide), eu]
      rfl
  · unfold cx_bd
    rw [i5]
    exact h
/-- one byte -/
theorem cx_next1 (tp : cx_tp n B S) (ha : a1.toInt = m) : ∃ (S1 : dg_S) (y : Int32), F_i_next o S a1 = (S1, y) ∧ k_rd S S1 ∧ cx_go n B 1 (fun p => B p ≤ m) (fun p => y.toInt = B p) S S1 := by
  obtain ⟨S1, y, e, k, h1, h2⟩ := cx_next (o := o) tp ha
  refine ⟨S1, y, e, k, fun p hp => ?_, h2⟩
  rcases h1 p hp with ⟨⟨w1, w2⟩, w3, w4⟩ | ⟨w1, w2⟩
  · exact Or.inl ⟨⟨by omega, w2⟩, w3, w4⟩
  · exact Or.inr ⟨fun z => w1 ⟨by omega, z.2⟩, w2⟩
/-- one reading behind another -/
theorem cx_go.tr {V W V2 W2 : Nat → Prop} {q2 : Nat} (h : cx_go n B q V W S S0) (h2 : cx_go n B q2 V2 W2 S0 S1) : cx_go n B (q + q2) (fun p => V p ∧ V2 (p + q)) (fun p => W p ∧ W2 (p + q)) S S1 := by
  refine ⟨fun p hp => ?_, fun b => h2.2 (h.2 b)⟩
  rcases h.1 p hp with ⟨⟨w1, w2⟩, w3, w4⟩ | ⟨w1, w2⟩
  · rcases h2.1 _ w3 with ⟨⟨u1, u2⟩, u3, u4⟩ | ⟨u1, u2⟩
    · exact Or.inl ⟨⟨by omega, w2, u2⟩, by rw [← Nat.add_assoc]; exact u3, w4, u4⟩
    · exact Or.inr ⟨fun z => u1 ⟨by omega, z.2.2⟩, u2⟩
  · exact Or.inr ⟨fun z => w1 ⟨by omega, z.2.1⟩, h2.2 w2⟩
/-- what else is written between -/
theorem cx_go.st {V W : Nat → Prop} (h : cx_go n B q V W S S0) (e3 : zI S1 182 3 = zI S0 182 3) (e4 : zI S1 182 4 = zI S0 182 4) (e5 : zI S1 182 5 = zI S0 182 5) : cx_go n B q V W S S1 := by
  refine ⟨fun p hp => ?_, fun b => ?_⟩
  · rcases h.1 p hp with ⟨w1, ⟨u1, u2, u3, u4⟩, w4⟩ | ⟨w1, w2⟩
    · exact Or.inl ⟨w1, ⟨by rw [e5]; exact u1, by rw [e4]; exact u2, u3, by rw [e3]; exact u4⟩, w4⟩
    · refine Or.inr ⟨w1, ?_⟩
      unfold cx_bd at w2 ⊢
      rw [e5]
      exact w2
  · have := h.2 b
    unfold cx_bd at this ⊢
    rw [e5]
    exact this
theorem cx_go.im {V W V2 W2 : Nat → Prop} (h : cx_go n B q V W S S1) (hV : ∀ p, V2 p ↔ V p) (hW : ∀ p, p + q ≤ n → V p → W p → W2 p) : cx_go n B q V2 W2 S S1 := by
  refine ⟨fun p hp => ?_, h.2⟩
  rcases h.1 p hp with ⟨⟨w1, w2⟩, w3, w4⟩ | ⟨w1, w2⟩
  · exact Or.inl ⟨⟨w1, (hV p).mpr w2⟩, w3, hW p w1 w2 w4⟩
  · exact Or.inr ⟨fun z => w1 ⟨z.1, (hV p).mp z.2⟩, w2⟩
def k_on (q : Nat) (S S1 : dg_S) : Prop := kp (fun a b => a = 182 ∧ (b = 3 ∨ b = 4 ∨ b = 5)) (fun a => a = q) S S1
/-- a row is read -/
theorem cx_takeAll {f9 : Int32 × dg_S → (Int32 × dg_S) ⊕ dg_S} {z : dg_S} {M : Nat} (f0 : ∀ (x : Int32) (T : dg_S), a2 ≤ x → f9 (x, T) = .inr T) (f1 : ∀ (x : Int32) (T : dg_S), ¬ a2 ≤ x → f9 (x, T) = .inl (x + 1, dg_uf (F_i_next o T a3).1 q (upd ((F_i_next o T a3).1.2.1 q) x.toNatClampNeg (F_i_next o T a3).2))) (hq : q ≠ 2) (tp : cx_tp n B S) (h2 : a2.toInt = N) (hN : N ≤ 100) (hM : N + 1 ≤ M) (h3 : a3.toInt = m) : ∃ S1, lp f9 z M ((0 : Int32), S) = S1 ∧ k_on q S S1 ∧ (∀ k, N ≤ k → S1.2.1 q k = S.2.1 q k) ∧ cx_go n B N (fun p => ∀ k, k < N → B (p + k) ≤ m) (fun p => ∀ k, k < N → (S1.2.1 q k).toInt = B (p + k)) S S1 := by
  have z0 : (0 : Int32).toInt = 0 := by decide +kernel
  refine lp_cnt (f := f9) (z := z) (W := N) (P := fun i T => k_on q S T ∧ (∀ k, i ≤ k → T.2.1 q k = S.2.1 q k) ∧ cx_go n B i (fun p => ∀ k, k < i → B (p + k) ≤ m) (fun p => ∀ k, k < i → (T.2.1 q k).toInt = B (p + k)) S T) (Q := fun R => ∃ S1, R = S1 ∧ k_on q S S1 ∧ (∀ k, N ≤ k → S1.2.1 q k = S.2.1 q k) ∧ cx_go n B N (fun p => ∀ k, k < N → B (p + k) ≤ m) (fun p => ∀ k, k < N → (S1.2.1 q k).toInt = B (p + k)) S S1) (by omega) (fun i iI T hi hiI hP => ?_) (fun iI T hiI hP => ⟨_, f0 iI T (w_le.mpr (by omega)), T, rfl, hP⟩) M 0 0 S (by omega) (by omega) z0 ⟨kp.rf, fun _ _ => rfl, fun p hp => Or.inl ⟨⟨hp.2.2.1, fun k hk => absurd hk (Nat.not_lt_zero k)⟩, hp, fun k hk => absurd hk (Nat.not_lt_zero k)⟩, id⟩
  obtain ⟨t1, t2, t3⟩ := hP
  have iN : iI.toNatClampNeg = i := by rw [dk_clN]; omega
  obtain ⟨T1, y, e1, k1, g1⟩ := cx_next1 (o := o) (tp.keep t1 (by omega) (by omega)) h3
  obtain ⟨T2, e2⟩ : ∃ X, X = dg_uf T1 q (upd (T1.2.1 q) i y) := ⟨_, rfl⟩
  have ef : f9 (iI, T) = .inl (iI + 1, T2) := by
    rw [f1 iI T (fun z => by have := w_le.mp z; omega), e1, iN, e2]
  have r1 : T1.2.1 q = T.2.1 q := (k1.2 q id).1
  have row : ∀ k, T2.2.1 q k = if k = i then y else T.2.1 q k := fun k => by
    rw [e2, w_f, if_pos rfl, w_u, r1]
  refine ⟨T2, ef, ?_, fun k hk => ?_, ?_⟩
  · rw [e2]
    exact kp.uf (t1.tr (k1.w (fun a b z => z) (fun a z => z.elim))) rfl
  · rw [row, if_neg (by omega)]
    exact t2 k (by omega)
  · have gg := (t3.tr g1).st (S1 := T2) (by rw [e2]; rfl) (by rw [e2]; rfl) (by rw [e2]; rfl)
    refine gg.im (fun p => ⟨fun w => ⟨fun k hk => w k (by omega), w i (by omega)⟩, fun w k hk => ?_⟩) (fun p _ _ w k hk => ?_)
    · by_cases e : k = i
      · rw [e]
        exact w.2
      · exact w.1 k (by omega)
    · rw [row]
      by_cases e : k = i
      · rw [if_pos e, e]
        exact w.2
      · rw [if_neg e]
        exact w.1 k (by omega)
/-- the plan is read -/
theorem cx_takePlan (hg : cx_g G K S g) (hG : s_gx G) (tp : cx_tp n B S) : ∃ S1, F_i_takePlan o S g 10 = S1 ∧ kp (fun a b => a = 182 ∧ (b = 3 ∨ b = 4 ∨ b = 5)) (fun a => a = 13 ∨ a = 14) S S1 ∧ cx_go n B (3 * (G 0 6).toNat) (fun p => ∀ k : Nat, (k : Int) < G 0 6 → B (p + 3 * k) < G 0 5 ∧ B (p + 3 * k + 1) < G 0 0 ∧ B (p + 3 * k + 2) < G 0 1) (fun p => ∀ k : Nat, (k : Int) < G 0 6 → (S1.2.1 13 k).toInt = B (p + 3 * k) ∧ (S1.2.1 14 k).toInt = 8 * B (p + 3 * k + 2) + B (p + 3 * k + 1) + 8) S S1 := by
  have z0 : (0 : Int32).toInt = 0 := by decide +kernel
  have z1 : (1 : Int32).toInt = 1 := by decide +kernel
  have sep := rX_sep hg.1.1
  have h5 := hG.2.2.2.1
  have h6 := hG.1.2.2
  have hgb := hG.1.1
  obtain ⟨P, hP6⟩ : ∃ P : Nat, (P : Int) = G 0 6 := ⟨(G 0 6).toNat, by omega⟩
  have f0 : (zI S g 0).toInt = G 0 0 := hg.2.1.1
  have f1 : (zI S g 1).toInt = G 0 1 := hg.2.1.2.1
  have f6 : (zI S g 6).toInt = G 0 5 := hg.2.1.2.2.2.2.1
  have f8 : (zI S g 8).toInt = G 0 6 := hg.1.2.2.1
  have e5 : (zI S g 6 - (1 : Int32)).toInt = G 0 5 - 1 := dk_subT f6 z1 (by omega) (by omega)
  have e0 : (zI S g 0 - (1 : Int32)).toInt = G 0 0 - 1 := dk_subT f0 z1 (by omega) (by omega)
  have e1 : (zI S g 1 - (1 : Int32)).toInt = G 0 1 - 1 := dk_subT f1 z1 (by omega) (by omega)
  rw [F_i_takePlan_p3 rfl rfl, show (G 0 6).toNat = P by omega, ← hP6]
  refine lp_cnt (f := F_i_takePlan_B1 S g o 10 (zI S g 0) (zI S g 1)) (z := S) (W := P) (P := fun i T => kp (fun a b => a = 182 ∧ (b = 3 ∨ b = 4 ∨ b = 5)) (fun a => a = 13 ∨ a = 14) S T ∧ cx_go n B (3 * i) (fun p => ∀ k : Nat, (k : Int) < i → B (p + 3 * k) < G 0 5 ∧ B (p + 3 * k + 1) < G 0 0 ∧ B (p + 3 * k + 2) < G 0 1) (fun p => ∀ k : Nat, (k : Int) < i → (T.2.1 13 k).toInt = B (p + 3 * k) ∧ (T.2.1 14 k).toInt = 8 * B (p + 3 * k + 2) + B (p + 3 * k + 1) + 8) S T) (Q := fun R => ∃ S1, R = S1 ∧ kp (fun a b => a = 182 ∧ (b = 3 ∨ b = 4 ∨ b = 5)) (fun a => a = 13 ∨ a = 14) S S1 ∧ cx_go n B (3 * P) (fun p => ∀ k : Nat, (k : Int) < P → B (p + 3 * k) < G 0 5 ∧ B (p + 3 * k + 1) < G 0 0 ∧ B (p + 3 * k + 2) < G 0 1) (fun p => ∀ k : Nat, (k : Int) < P → (S1.2.1 13 k).toInt = B (p + 3 * k) ∧ (S1.2.1 14 k).toInt = 8 * B (p + 3 * k + 2) + B (p + 3 * k + 1) + 8) S S1) (by omega) (fun i iI T hi hiI hP => ?_) (fun iI T hiI hP => ⟨_, F_i_takePlan_p0 rfl (w_le.mpr (by rw [f8]; omega)), T, rfl, hP⟩) ((17 - ((0 : Int32)).toInt).toNat + 1) 0 0 S (by rw [z0]; omega) (by omega) z0 ⟨kp.rf, fun p hp => Or.inl ⟨⟨hp.2.2.1, fun k hk => absurd hk (by omega)⟩, hp, fun k hk => absurd hk (by omega)⟩, id⟩
  obtain ⟨t1, t2⟩ := hP
  have iN : iI.toNatClampNeg = i := by rw [dk_clN]; omega
  obtain ⟨T1, y1, x1, k1, g1⟩ := cx_next1 (o := o) (tp.keep t1 (by omega) (by omega)) e5
  obtain ⟨T2, x2⟩ : ∃ X, X = dg_uf T1 (10 + 3) (upd (T1.2.1 (10 + 3)) iI.toNatClampNeg y1) := ⟨_, rfl⟩
  have s2 : kp (fun a b => a = 182 ∧ (b = 3 ∨ b = 4 ∨ b = 5)) (fun a => a = 13 ∨ a = 14) S T2 := by
    rw [x2]
    exact kp.uf (t1.tr (k1.w (fun a b z => z) (fun a z => z.elim))) (Or.inl rfl)
  obtain ⟨T3, y3, x3, k3, g3⟩ := cx_next1 (o := o) (tp.keep s2 (by omega) (by omega)) e0
  have s3 := s2.tr (k3.w (LA' := fun a => a = 13 ∨ a = 14) (fun a b z => z) (fun a z => z.elim))
  obtain ⟨T4, y4, x4, k4, g4⟩ := cx_next1 (o := o) (tp.keep s3 (by omega) (by omega)) e1
  have s4 := s3.tr (k4.w (LA' := fun a => a = 13 ∨ a = 14) (fun a b z => z) (fun a z => z.elim))
  obtain ⟨T5, x5⟩ : ∃ X, X = dg_uf T4 (10 + 4) (upd (T4.2.1 (10 + 4)) iI.toNatClampNeg (F_g_placeOf o T4 g y3 y4)) := ⟨_, rfl⟩
  have hg4 : cx_g G K T4 g := hg.keep (fun j h1 h2 => (s4.2 j (by omega)).1) (fun b => s4.I (by omega))
  refine ⟨T5, (F_i_takePlan_p2 rfl (fun z => by have := w_le.mp z; rw [f8] at this; omega) rfl rfl (show T1 = _ by rw [x1]) (show y1 = _ by rw [x1]) x2 rfl (show T3 = _ by rw [x3]) (show y3 = _ by rw [x3]) rfl (show T4 = _ by rw [x4]) (show y4 = _ by rw [x4])).trans (F_i_takePlan_p1 rfl x5 rfl), ?_, ?_⟩
  · rw [x5]
    exact kp.uf s4 (Or.inr rfl)
  · have w13 : ∀ k, T5.2.1 13 k = if k = i then y1 else T.2.1 13 k := fun k => by
      rw [x5, w_f, if_neg (show ¬ (13 : Nat) = 10 + 4 by decide), (k4.2 13 id).1, (k3.2 13 id).1, x2, w_f, if_pos rfl, w_u, iN, (k1.2 (10 + 3) id).1]
    have w14 : ∀ k, T5.2.1 14 k = if k = i then F_g_placeOf o T4 g y3 y4 else T.2.1 14 k := fun k => by
      rw [x5, w_f, if_pos rfl, w_u, iN, (k4.2 (10 + 4) id).1, (k3.2 (10 + 4) id).1, x2, w_f, if_neg (show ¬ (10 + 4 : Nat) = 10 + 3 by decide), (k1.2 (10 + 4) id).1]
    have ga := (t2.tr g1).st (S1 := T2) (by rw [x2]; rfl) (by rw [x2]; rfl) (by rw [x2]; rfl)
    have gb := ((ga.tr g3).tr g4).st (S1 := T5) (by rw [x5]; rfl) (by rw [x5]; rfl) (by rw [x5]; rfl)
    rw [show 3 * (i + 1) = 3 * i + 1 + 1 + 1 by omega]
    refine gb.im (fun p => ⟨fun w => ⟨⟨⟨fun k hk => w k (by omega), ?_⟩, ?_⟩, ?_⟩, fun w k hk => ?_⟩) (fun p hn wv w k hk => ?_)
    · have := (w i (by omega)).1
      show B (p + 3 * i) ≤ G 0 5 - 1
      omega
    · have := (w i (by omega)).2.1
      show B (p + (3 * i + 1)) ≤ G 0 0 - 1
      rw [show p + (3 * i + 1) = p + 3 * i + 1 by omega]
      omega
    · have := (w i (by omega)).2.2
      show B (p + (3 * i + 1 + 1)) ≤ G 0 1 - 1
      rw [show p + (3 * i + 1 + 1) = p + 3 * i + 2 by omega]
      omega
    · obtain ⟨⟨⟨u1, u2⟩, u3⟩, u4⟩ := w
      have u2 : B (p + 3 * i) ≤ G 0 5 - 1 := u2
      have u3 : B (p + (3 * i + 1)) ≤ G 0 0 - 1 := u3
      have u4 : B (p + (3 * i + 1 + 1)) ≤ G 0 1 - 1 := u4
      rw [show p + (3 * i + 1) = p + 3 * i + 1 by omega] at u3
      rw [show p + (3 * i + 1 + 1) = p + 3 * i + 2 by omega] at u4
      by_cases e : k = i
      · rw [e]
        exact ⟨by omega, by omega, by omega⟩
      · exact u1 k (by omega)
    · obtain ⟨⟨⟨u1, u2⟩, u3⟩, u4⟩ := w
      have u2 : y1.toInt = B (p + 3 * i) := u2
      have u3 : y3.toInt = B (p + (3 * i + 1)) := u3
      have u4 : y4.toInt = B (p + (3 * i + 1 + 1)) := u4
      obtain ⟨⟨⟨v1, v2⟩, v3⟩, v4⟩ := wv
      have v3 : B (p + (3 * i + 1)) ≤ G 0 0 - 1 := v3
      have v4 : B (p + (3 * i + 1 + 1)) ≤ G 0 1 - 1 := v4
      rw [show p + (3 * i + 1) = p + 3 * i + 1 by omega] at u3 v3
      rw [show p + (3 * i + 1 + 1) = p + 3 * i + 2 by omega] at u4 v4
      rw [w13, w14]
      by_cases e : k = i
      · rw [if_pos e, if_pos e, e]
        refine ⟨u2, ?_⟩
        have b3 := (tp.2.2 (p + 3 * i + 1) (by omega)).2
        have b4 := (tp.2.2 (p + 3 * i + 2) (by omega)).2
        rcases cx_place (o := o) (a1 := y3) (a2 := y4) hg4 hgb with ⟨p1, p2, p3, p4⟩ | ⟨p1, p2⟩
        · rw [p3, u3, u4]
        · exact absurd ⟨⟨by omega, by omega⟩, by omega, by omega⟩ p1
      · rw [if_neg e, if_neg e]
        exact u1 k (by omega)
end FF
