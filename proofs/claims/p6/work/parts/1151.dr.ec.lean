/-! to CHANGE: both sides -/
def s_wr (k a b : Nat) : Nat := if k = a then b else if k = b then a else k
/-- two rows of the plan taken for one another -/
def s_wp (A : aR) (a b : Nat) : aR := fun r i => if r = 3 ∨ r = 4 then A r (s_wr i a b) else A r i
theorem s_wp_o {A : aR} {a b r i : Nat} (h3 : r ≠ 3) (h4 : r ≠ 4) : s_wp A a b r i = A r i := by
  unfold s_wp
  rw [if_neg (fun z => by rcases z with z | z <;> omega)]
theorem s_wp_3 {A : aR} {a b i : Nat} : s_wp A a b 3 i = A 3 (s_wr i a b) := by
  unfold s_wp
  rw [if_pos (Or.inl rfl)]
theorem s_wp_4 {A : aR} {a b i : Nat} : s_wp A a b 4 i = A 4 (s_wr i a b) := by
  unfold s_wp
  rw [if_pos (Or.inr rfl)]
theorem s_wr_self {k a : Nat} : s_wr k a a = k := by
  unfold s_wr
  by_cases h : k = a
  · rw [if_pos h, h]
  · rw [if_neg h, if_neg h]
theorem s_wp_self {A : aR} {a : Nat} : s_wp A a a = A := by
  funext r i
  unfold s_wp
  rw [s_wr_self]
  split <;> rfl
theorem s_wr_lt {k a b m : Nat} (hk : k < m) (h : a = b ∨ (a < m ∧ b < m)) : s_wr k a b < m := by
  rcases h with h | h
  · rw [h, s_wr_self]
    exact hk
  · unfold s_wr
    split
    · exact h.2
    · split
      · exact h.1
      · exact hk
/-- a row written at a and at b -/
theorem s_wr_row {r : Nat → Int32} {a b k : Nat} : upd (upd r a (r b)) b (r a) k = r (s_wr k a b) := by
  rw [w_u, w_u]
  unfold s_wr
  by_cases h : k = b
  · rw [if_pos h]
    by_cases h2 : k = a
    · rw [if_pos h2, ← h, ← h2]
    · rw [if_neg h2, if_pos h]
  · rw [if_neg h]
    by_cases h2 : k = a
    · rw [if_pos h2, if_pos h2]
    · rw [if_neg h2, if_neg h2, if_neg h]
abbrev s_T : Type := Int × Int × Int
noncomputable def s_ci (f : Nat → Nat → Int) (a : Nat) (q : s_T) : Nat → s_T
  | 0 => q
  | m + 1 => s_if ((s_ci f a q m).2.2 < f a (a + 1 + m)) ((a : Int), ((a + 1 + m : Nat) : Int), f a (a + 1 + m)) (s_ci f a q m)
noncomputable def s_co (f : Nat → Nat → Int) (pl : Nat) (q : s_T) : Nat → s_T
  | 0 => q
  | a + 1 => s_ci f a (s_co f pl q a) (pl - (a + 1))
theorem s_ci_y {f : Nat → Nat → Int} {a m : Nat} {q : s_T} (h : (s_ci f a q m).2.2 < f a (a + 1 + m)) : s_ci f a q (m + 1) = ((a : Int), ((a + 1 + m : Nat) : Int), f a (a + 1 + m)) := s_if_y h
theorem s_ci_n {f : Nat → Nat → Int} {a m : Nat} {q : s_T} (h : ¬ (s_ci f a q m).2.2 < f a (a + 1 + m)) : s_ci f a q (m + 1) = s_ci f a q m := s_if_n h
/-- grades of all tubs, if two rows were changed -/
noncomputable def s_fg (G : aR) (K : Nat → List Int) (A : aR) (n a b : Nat) : Int := s_tg (s_n G K (G 0 3) n (s_wp A a b)) 10
noncomputable def s_cq (G : aR) (K : Nat → List Int) (A : aR) (n : Nat) : s_T := (-1, -1, s_fg G K A n 0 0)
noncomputable def s_cR (G : aR) (K : Nat → List Int) (A : aR) (n m : Nat) : s_T := s_co (s_fg G K A n) (G 0 6).toNat (s_cq G K A n) m
/-- what change tells -/
def s_cv (q : s_T) (w : Int) : Int := if q.1 = -1 then -1 else if w = 0 then q.1 else if w = 1 then q.2.1 else if w = 2 then q.2.2 else -1
section EC
variable {o oX oM g n p : Nat} {G A A' : aR} {K : Nat → List Int} {L L' : s_L} {U : s_U} {S S0 S1 SX SM : dg_S} {x x' r c v : Int} {a a1 a2 a3 a4 y : Int32} {q : s_T} {i j : Nat}
theorem s_wp_ok (ok : s_ok G K A U) (h : i = j ∨ ((i : Int) < G 0 6 ∧ (j : Int) < G 0 6)) : s_ok G K (s_wp A i j) U := by
  obtain ⟨hG, hK, ⟨⟨w0, w1, w2, w3, w4, w5⟩, hcw⟩, hU⟩ := ok
  have E : ∀ a b, a ≠ 3 → a ≠ 4 → s_wp A i j a b = A a b := fun a b h3 h4 => s_wp_o h3 h4
  have g6 := hG.1.2.2
  refine ⟨hG, hK, ⟨⟨by rw [E _ _ (by decide) (by decide)]; exact w0, by rw [E _ _ (by decide) (by decide)]; exact w1, fun k hk => by rw [E _ _ (by decide) (by decide)]; exact w2 k hk, fun k hk => ?_, fun k hk => by rw [E _ _ (by decide) (by decide)]; exact w4 k hk, fun k hk => by rw [E _ _ (by decide) (by decide)]; exact w5 k hk⟩, fun d hd => ?_, hcw.2.1, ?_⟩, hU⟩
  · rw [s_wp_3, s_wp_4]
    have hl := s_wr_lt (k := k) (a := i) (b := j) (m := (G 0 6).toNat) (by omega) (by omega)
    exact w3 _ (by omega)
  · have := hcw.1 d hd
    unfold s_c at this ⊢
    rw [E _ _ (by decide) (by decide)]
    exact this
  · have := hcw.2.2
    unfold s_c at this ⊢
    rw [E _ _ (by decide) (by decide)]
    exact this
theorem cx_changeRows (hp : pX p) (h : cx_pit G A S p) (hi : a1.toInt = i) (hj : a2.toInt = j) (hij : i = j ∨ ((i : Int) < G 0 6 ∧ (j : Int) < G 0 6)) : ∃ S1, F_p_changeRows o S p a1 a2 = S1 ∧ cx_pit G (s_wp A i j) S1 p ∧ kp (fun _ _ => False) (fun a => a = p + 3 ∨ a = p + 4) S S1 := by
  have ni : a1.toNatClampNeg = i := by rw [dk_clN]; omega
  have nj : a2.toNatClampNeg = j := by rw [dk_clN]; omega
  obtain ⟨S8, h8⟩ : ∃ T, T = dg_uf S (p + 3) (upd (S.2.1 (p + 3)) a1.toNatClampNeg (S.2.1 (p + 3) a2.toNatClampNeg)) := ⟨_, rfl⟩
  obtain ⟨S12, h12⟩ : ∃ T, T = dg_uf S8 (p + 4) (upd (S8.2.1 (p + 4)) a1.toNatClampNeg (S8.2.1 (p + 4) a2.toNatClampNeg)) := ⟨_, rfl⟩
  obtain ⟨S14, h14⟩ : ∃ T, T = dg_uf S12 (p + 3) (upd (S12.2.1 (p + 3)) a2.toNatClampNeg (S.2.1 (p + 3) a1.toNatClampNeg)) := ⟨_, rfl⟩
  obtain ⟨S16, h16⟩ : ∃ T, T = dg_uf S14 (p + 4) (upd (S14.2.1 (p + 4)) a2.toNatClampNeg (S.2.1 (p + 4) a1.toNatClampNeg)) := ⟨_, rfl⟩
  have n34 : ¬ p + 3 = p + 4 := by omega
  have n43 : ¬ p + 4 = p + 3 := by omega
  have r3 : ∀ k, S16.2.1 (p + 3) k = S.2.1 (p + 3) (s_wr k i j) := fun k => by
    rw [h16, w_f, if_neg n34, h14, w_f, if_pos rfl, h12, w_f, if_neg n34, h8, w_f, if_pos rfl, ni, nj]
    exact s_wr_row
  have r4 : ∀ k, S16.2.1 (p + 4) k = S.2.1 (p + 4) (s_wr k i j) := fun k => by
    rw [h16, w_f, if_pos rfl, h14, w_f, if_neg n43, h12, w_f, if_pos rfl, h8, w_f, if_neg n43, ni, nj]
    exact s_wr_row
  have t16 : kp (fun _ _ => False) (fun a => a = p + 3 ∨ a = p + 4) S S16 := by
    rw [h16, h14, h12, h8]
    exact kp.uf (kp.uf (kp.uf (kp.uf kp.rf (Or.inl rfl)) (Or.inr rfl)) (Or.inl rfl)) (Or.inr rfl)
  refine ⟨S16, (F_p_changeRows_p1 rfl rfl rfl h8 rfl h12 h14 h16).trans F_p_changeRows_p0, ?_, t16⟩
  obtain ⟨y1, y2, y3, y4, y5, y6, y7⟩ := h
  have E : ∀ a b, a ≠ 3 → a ≠ 4 → s_wp A i j a b = A a b := fun a b h3 h4 => s_wp_o h3 h4
  have ro : ∀ k, k ≠ p + 3 → k ≠ p + 4 → S16.2.1 k = S.2.1 k := fun k k3 k4 => (t16.2 k (fun z => by rcases z with z | z <;> omega)).1
  have fo : ∀ b, zI S16 p b = zI S p b := fun b => t16.I id
  refine ⟨fun z z0 z1 => ?_, by rw [fo, E _ _ (by decide) (by decide)]; exact y2, by rw [fo, E _ _ (by decide) (by decide)]; exact y3, fun k hk => by rw [ro _ (by omega) (by omega), E _ _ (by decide) (by decide)]; exact y4 k hk, fun k hk => ?_, fun k hk => by rw [ro _ (by omega) (by omega), E _ _ (by decide) (by decide)]; exact y6 k hk, fun k hk => by rw [ro _ (by omega) (by omega), E _ _ (by decide) (by decide)]; exact y7 k hk⟩
  · have h9 := (y1.keep (S1 := S16) (ro _ (by omega) (by omega))) z z0 z1
    unfold s_c at h9 ⊢
    rw [E _ _ (by decide) (by decide)]
    exact h9
  · rw [r3, r4, s_wp_3, s_wp_4]
    have hl := s_wr_lt (k := k) (a := i) (b := j) (m := (G 0 6).toNat) (by omega) (by omega)
    exact y5 _ (by omega)
theorem cx_gradesBehind (ok : s_ok G K A U) (h : RX o g G K A L U x S) (hn : a1.toInt = n) (h40 : n ≤ 999) (hi : a2.toInt = i) (hj : a3.toInt = j) (hij : i = j ∨ ((i : Int) < G 0 6 ∧ (j : Int) < G 0 6)) : ∃ (S1 : dg_S) (y : Int32), F_f_gradesBehind o S g 3 a1 a2 a3 = (S1, y) ∧ y.toInt = s_fg G K A n i j ∧ RX o g G K A L U x S1 ∧ k_sk S S1 := by
  have sep := rX_sep h.2.1.1.1
  have hA := s_wp_ok ok hij
  obtain ⟨S2, e2, r2, p2, k2⟩ := cx_try0 (o := o) ok h
  obtain ⟨S3, e3, p3, t3⟩ := cx_changeRows (o := o) (a1 := a2) (a2 := a3) pX_222 p2 hi hj hij
  have r3 : RX o g G K A L U x S3 := r2.keep t3 id id (fun _ _ _ _ => id) (fun _ => id) (fun _ => id) (fun _ _ _ _ => id) (fun a _ _ => by omega) (fun a _ _ => by omega) (by decide) (fun a _ _ => by omega)
  obtain ⟨S6, S7, e6, e7, r7, t7, k7⟩ := cx_try (o := o) (a1 := a1) (n := n) ok hA h r3 p3 hn h40
  have okn := s_n_okU hA n
  refine ⟨S7, _, (F_f_gradesBehind_p1 e2.symm e3.symm rfl e6.symm e7.symm).trans (F_f_gradesBehind_p0 rfl), cx_tubGrades t7.2.2.2.2.1 okn.2.2.1.1, r7, k2.tr ((t3.sk (fun _ => id) (fun _ => id) (by decide)).tr k7)⟩
def cx_chA (q : s_T) (S : dg_S) : Prop := (zI S 221 6).toInt = q.1 ∧ (zI S 221 7).toInt = q.2.1 ∧ (zI S 221 8).toInt = q.2.2
def cx_cc (G : aR) (K : Nat → List Int) (A : aR) (S : dg_S) : Prop := (zI S 221 3).toInt = 0 ∨ ∃ n : Nat, (zI S 221 3).toInt = n ∧ cx_chA (s_cR G K A n (G 0 6).toNat) S
def k_s5 (S S1 : dg_S) : Prop := (∀ b, b ≠ 3 → b ≠ 6 → b ≠ 7 → b ≠ 8 → zI S1 221 b = zI S 221 b) ∧ (∀ b, zI S1 229 b = zI S 229 b) ∧ S1.2.1 230 = S.2.1 230
/-- within the loops -/
def k_s6 (S S1 : dg_S) : Prop := (∀ b, b ≠ 6 → b ≠ 7 → b ≠ 8 → zI S1 221 b = zI S 221 b) ∧ (∀ b, zI S1 229 b = zI S 229 b) ∧ S1.2.1 230 = S.2.1 230
theorem k_s6.tr (h : k_s6 S S0) (k : k_s6 S0 S1) : k_s6 S S1 := ⟨fun b x y z => (k.1 b x y z).trans (h.1 b x y z), fun b => (k.2.1 b).trans (h.2.1 b), k.2.2.trans h.2.2⟩
theorem k_sk.s6 (h : k_sk S S1) : k_s6 S S1 := ⟨fun b _ _ _ => h.1 b, h.2.1, h.2.2⟩
/-- the rows behind one -/
theorem cx_chin (ok : s_ok G K A U) (hn : a1.toInt = n) (h40 : n ≤ 999) {S9 : dg_S} {x5 iI : Int32} (h5 : x5.toInt = G 0 6) (hi : iI.toInt = i) (hlt : (i : Int) < G 0 6) {z : (Int32 × Int32 × Int32 × dg_S) ⊕ dg_S} {u w : Int32} {fu : Nat} (hf : 17 - (i + 1) + 1 ≤ fu) (h : RX o g G K A L U x S) (hq : cx_chA q S) (hk : k_s6 S9 S) : ∃ (T : dg_S) (u1 w1 : Int32), lp (F_f_seekChange_B4 x5 iI o g 3 a1) z fu (iI + 1, u, w, S) = F_f_seekChange_J3 iI u1 w1 T ∧ RX o g G K A L U x T ∧ cx_chA (s_ci (s_fg G K A n) i q ((G 0 6).toNat - (i + 1))) T ∧ k_s6 S9 T := by
  have g6 := ok.1.1.2.2
  have e1 : (iI + 1).toInt = ((i + 1 : Nat) : Int) := by
    rw [dk_addT hi (b := 1) (by decide +kernel) (by omega) (by omega)]
    omega
  have main := lp_cnt (f := F_f_seekChange_B4 x5 iI o g 3 a1) (z := z) (W := (G 0 6).toNat) (P := fun k s => RX o g G K A L U x s.2.2 ∧ cx_chA (s_ci (s_fg G K A n) i q (k - (i + 1))) s.2.2 ∧ k_s6 S9 s.2.2 ∧ i + 1 ≤ k) (Q := fun r => ∃ (T : dg_S) (u1 w1 : Int32), r = F_f_seekChange_J3 iI u1 w1 T ∧ RX o g G K A L U x T ∧ cx_chA (s_ci (s_fg G K A n) i q ((G 0 6).toNat - (i + 1))) T ∧ k_s6 S9 T) (by omega) (fun k kI s hk hkI hP => by
    obtain ⟨u, w, T⟩ := s
    obtain ⟨t1, t2, t3, t4⟩ := hP
    have q0 : ¬ x5 ≤ kI := fun z => by have := w_le.mp z; omega
    obtain ⟨T1, y, f1, f2, f3, f4⟩ := cx_gradesBehind (o := o) (a1 := a1) (a2 := iI) (a3 := kI) (i := i) (j := k) ok t1 hn h40 hi hkI (Or.inr ⟨hlt, by omega⟩)
    have ek : k + 1 - (i + 1) = (k - (i + 1)) + 1 := by omega
    have ek2 : i + 1 + (k - (i + 1)) = k := by omega
    obtain ⟨v6, v7, v8⟩ := t2
    have i8 : zI T1 221 8 = zI T 221 8 := f4.1 8
    by_cases q8 : y ≤ zI T1 221 8
    · have d8 := w_le.mp q8
      rw [f2, i8] at d8
      refine ⟨(u, w, T1), (F_f_seekChange_p4 q0 (by rw [f1]) (show y = _ by rw [f1]) rfl q8).trans (F_f_seekChange_p3 rfl), f3, ?_, t3.tr f4.s6, by omega⟩
      have v8 : (zI T 221 8).toInt = _ := v8
      rw [ek, s_ci_n (by rw [ek2]; omega)]
      exact ⟨by rw [f4.1]; exact v6, by rw [f4.1]; exact v7, by rw [f4.1]; exact v8⟩
    · have d8 : ¬ y.toInt ≤ (zI T1 221 8).toInt := fun z => q8 (w_le.mpr z)
      rw [f2, i8] at d8
      have v8 : (zI T 221 8).toInt = _ := v8
      obtain ⟨T2, g2⟩ : ∃ X, X = dg_uF T1 221 6 (.int iI) := ⟨_, rfl⟩
      obtain ⟨T3, g3⟩ : ∃ X, X = dg_uF T2 221 7 (.int kI) := ⟨_, rfl⟩
      obtain ⟨T4, g4⟩ : ∃ X, X = dg_uF T3 221 8 (.int y) := ⟨_, rfl⟩
      have k4 : kp (fun a b => a = 221 ∧ (b = 6 ∨ b = 7 ∨ b = 8)) (fun _ => False) T1 T4 := by
        rw [g4, g3, g2]
        exact kp.uF (kp.uF (kp.uF kp.rf ⟨rfl, by decide⟩) ⟨rfl, by decide⟩) ⟨rfl, by decide⟩
      have sep := rX_sep t1.2.1.1.1
      refine ⟨(iI, kI, T4), ((F_f_seekChange_p6 q0 (by rw [f1]) (show y = _ by rw [f1]) rfl q8 g2 g3 g4).trans F_f_seekChange_p5).trans (F_f_seekChange_p3 rfl), f3.keep k4 (by omega) (by omega) (fun a b _ _ => by omega) (fun b => by omega) (fun b => by omega) (fun a b _ _ => by omega) (fun a _ _ => id) (fun a _ _ => id) id (fun a _ _ => id), ?_, t3.tr (f4.s6.tr ⟨fun b b6 b7 b8 => k4.I (fun z => by omega), fun b => k4.I (fun z => by omega), (k4.2 230 id).1⟩), by omega⟩
      rw [ek, s_ci_y (by rw [ek2]; omega), ek2]
      refine ⟨?_, ?_, ?_⟩
      · show (zI T4 221 6).toInt = (i : Int)
        rw [g4, w_I0 (by decide), g3, w_I0 (by decide), g2, w_I, if_pos ⟨rfl, rfl⟩]
        exact hi
      · show (zI T4 221 7).toInt = (k : Int)
        rw [g4, w_I0 (by decide), g3, w_I, if_pos ⟨rfl, rfl⟩]
        exact hkI
      · show (zI T4 221 8).toInt = s_fg G K A n i k
        rw [g4, w_I, if_pos ⟨rfl, rfl⟩]
        exact f2) (fun kI s hkI hP => by
    obtain ⟨u, w, T⟩ := s
    exact ⟨_, F_f_seekChange_p2 (w_le.mpr (by omega)), T, u, w, rfl, hP.1, hP.2.1, hP.2.2.1⟩) fu (i + 1) (iI + 1) (u, w, S) (by omega) (by omega) e1 ⟨h, by rw [Nat.sub_self]; exact hq, hk, Nat.le_refl _⟩
  exact main
theorem cx_seekChange (ok : s_ok G K A U) (h : RX o g G K A L U x S) (hn : a1.toInt = n) (h1 : 1 ≤ n) (h40 : n ≤ 999) (hs : cx_cc G K A S) : ∃ S1, F_f_seekChange o S g 3 a1 = S1 ∧ RX o g G K A L U x S1 ∧ (zI S1 221 3).toInt = n ∧ cx_chA (s_cR G K A n (G 0 6).toNat) S1 ∧ k_s5 S S1 := by
  have z0 : (0 : Int32).toInt = 0 := by decide +kernel
  have m1 : (-1 : Int32).toInt = -1 := by decide +kernel
  have sep := rX_sep h.2.1.1.1
  have g6 := ok.1.1.2.2
  by_cases q : zI S 221 3 = a1
  · rcases hs with hs | ⟨n', e', w'⟩
    · rw [q] at hs
      omega
    · have en : n' = n := by rw [q] at e'; omega
      subst en
      exact ⟨S, F_f_seekChange_p10 rfl q, h, e', w', fun _ _ _ _ _ => rfl, fun _ => rfl, rfl⟩
  obtain ⟨S5, g5⟩ : ∃ T, T = dg_uF S 221 3 (.int a1) := ⟨_, rfl⟩
  obtain ⟨S7, g7⟩ : ∃ T, T = dg_uF S5 221 6 (.int (-1 : Int32)) := ⟨_, rfl⟩
  obtain ⟨S9, g9⟩ : ∃ T, T = dg_uF S7 221 7 (.int (-1 : Int32)) := ⟨_, rfl⟩
  have t9 : kp (fun a b => a = 221 ∧ (b = 3 ∨ b = 6 ∨ b = 7)) (fun _ => False) S S9 := by
    rw [g9, g7, g5]
    exact kp.uF (kp.uF (kp.uF kp.rf ⟨rfl, by decide⟩) ⟨rfl, by decide⟩) ⟨rfl, by decide⟩
  have r9 : RX o g G K A L U x S9 := h.keep t9 (by omega) (by omega) (fun a b _ _ => by omega) (fun b => by omega) (fun b => by omega) (fun a b _ _ => by omega) (fun a _ _ => id) (fun a _ _ => id) id (fun a _ _ => id)
  obtain ⟨S13, x12, f1, f2, f3, f4⟩ := cx_gradesBehind (o := o) (a1 := a1) (a2 := 0) (a3 := 0) (i := 0) (j := 0) ok r9 hn h40 z0 z0 (Or.inl rfl)
  obtain ⟨S14, g14⟩ : ∃ T, T = dg_uF S13 221 8 (.int x12) := ⟨_, rfl⟩
  have k14 : kp (fun a b => a = 221 ∧ b = 8) (fun _ => False) S13 S14 := by
    rw [g14]
    exact kp.uF kp.rf ⟨rfl, rfl⟩
  have r14 : RX o g G K A L U x S14 := f3.keep k14 (by omega) (by omega) (fun a b _ _ => by omega) (fun b => by omega) (fun b => by omega) (fun a b _ _ => by omega) (fun a _ _ => id) (fun a _ _ => id) id (fun a _ _ => id)
  have s14 : cx_chA (s_cq G K A n) S14 := by
    refine ⟨?_, ?_, ?_⟩
    · rw [k14.I (by decide), f4.1, g9, w_I0 (by decide), g7, w_I, if_pos ⟨rfl, rfl⟩]
      exact m1
    · rw [k14.I (by decide), f4.1, g9, w_I, if_pos ⟨rfl, rfl⟩]
      exact m1
    · rw [g14, w_I, if_pos ⟨rfl, rfl⟩]
      exact f2
  have i3 : (zI S14 221 3).toInt = n := by
    rw [k14.I (by decide), f4.1, g9, w_I0 (by decide), g7, w_I0 (by decide), g5, w_I, if_pos ⟨rfl, rfl⟩]
    exact hn
  have h6 : (zI S g 8).toInt = G 0 6 := h.2.1.1.2.2.1
  have main := lp_cnt (f := F_f_seekChange_B2 S g o 3 a1) (z := S) (W := (G 0 6).toNat) (P := fun k s => RX o g G K A L U x s.2.2 ∧ cx_chA (s_cR G K A n k) s.2.2 ∧ k_s6 S14 s.2.2) (Q := fun T => RX o g G K A L U x T ∧ cx_chA (s_cR G K A n (G 0 6).toNat) T ∧ k_s6 S14 T) (by omega) (fun k kI s hk hkI hP => by
    obtain ⟨u, w, T⟩ := s
    obtain ⟨t1, t2, t3⟩ := hP
    have q0 : ¬ zI S g 8 ≤ kI := fun z => by have := w_le.mp z; omega
    have e1 : (kI + (1 : Int32)).toInt = (k : Int) + 1 := dk_addT hkI (by decide +kernel) (by omega) (by omega)
    obtain ⟨T1, u1, w1, l1, l2, l3, l4⟩ := cx_chin (o := o) (a1 := a1) (n := n) (i := k) (x5 := zI S g 8) (iI := kI) (z := Sum.inr S) (u := u) (w := w) (fu := (17 - (kI + (1 : Int32)).toInt).toNat + 1) ok hn h40 h6 hkI (by omega) (by omega) t1 t2 t3
    exact ⟨(u1, w1, T1), ((F_f_seekChange_p7 rfl q0 rfl).trans l1).trans (F_f_seekChange_p1 rfl), l2, l3, l4⟩) (fun kI s hkI hP => by
    obtain ⟨u, w, T⟩ := s
    exact ⟨T, F_f_seekChange_p0 rfl (w_le.mpr (by omega)), hP⟩) ((17 - ((0 : Int32)).toInt).toNat + 1) 0 0 ((-1 : Int32), (-1 : Int32), S14) (by rw [z0]; omega) (by omega) z0 ⟨r14, s14, fun _ _ _ _ => rfl, fun _ => rfl, rfl⟩
  refine ⟨_, (F_f_seekChange_p9 rfl q g5 g7 g9 (by rw [f1]) (show x12 = _ by rw [f1])).trans (F_f_seekChange_p8 g14), main.1, by rw [main.2.2.1 3 (by decide) (by decide) (by decide)]; exact i3, main.2.1, fun b b3 b6 b7 b8 => ?_, fun b => ?_, ?_⟩
  · rw [main.2.2.1 b b6 b7 b8, k14.I (fun z => by omega), f4.1]
    exact t9.I (fun z => by omega)
  · rw [main.2.2.2.1 b, k14.I (fun z => by omega), f4.2.1]
    exact t9.I (fun z => by omega)
  · rw [main.2.2.2.2, (k14.2 230 id).1, f4.2.2]
    exact (t9.2 230 id).1
theorem cx_change (ok : s_ok G K A U) (h : RX o g G K A L U x S) (hs : cx_cc G K A S) : ∃ (S1 : dg_S) (y : Int32), F_d_change o S a1 a2 = (S1, y) ∧ y.toInt = s_if (1 ≤ a1.toInt ∧ a1.toInt ≤ 20 ∧ A 0 0 + a1.toInt ≤ 999) (s_cv (s_cR G K A a1.toInt.toNat (G 0 6).toNat) a2.toInt) (-1) ∧ RX o g G K A L U x S1 ∧ cx_cc G K A S1 ∧ k_s5 S S1 := by
  have z0 : (0 : Int32).toInt = 0 := by decide +kernel
  have z1 : (1 : Int32).toInt = 1 := by decide +kernel
  have z2 : (2 : Int32).toInt = 2 := by decide +kernel
  have z20 : (20 : Int32).toInt = 20 := by decide +kernel
  have m1 : (-1 : Int32).toInt = -1 := by decide +kernel
  have hcm := cx_come (o := o) (a1 := 1) (a2 := a1) (a3 := 20) h.2.1 h.1 ok.1.1 ok.2.2.1.1 h.2.2.1 (by decide +kernel) (by decide +kernel)
  rw [z1, z20] at hcm
  rcases hcm with ⟨e, w⟩ | ⟨e, w⟩
  rotate_left
  · exact ⟨S, -1, F_d_change_p5 rfl e, by rw [s_if_n w]; exact m1, h, hs, fun _ _ _ _ _ => rfl, fun _ => rfl, rfl⟩
  have ne : ¬ F_d_shiftsCome o S (1 : Int32) a1 (20 : Int32) = (0 : Int32) := by rw [e]; decide +kernel
  rw [s_if_y w]
  obtain ⟨m, hm⟩ : ∃ m : Nat, m = a1.toInt.toNat := ⟨_, rfl⟩
  rw [← hm]
  obtain ⟨S5, e5, r5, i3, s5, k5⟩ := cx_seekChange (o := o) (a1 := a1) (n := m) ok h (by omega) (by omega) (by omega) hs
  have c5 : cx_cc G K A S5 := Or.inr ⟨m, i3, s5⟩
  obtain ⟨v6, v7, v8⟩ := s5
  unfold s_cv
  by_cases q : zI S5 221 6 = (-1 : Int32)
  · have d := dk_eqc m1 q
    rw [v6] at d
    refine ⟨S5, -1, F_d_change_p4 rfl ne h.1.symm e5.symm rfl q, ?_, r5, c5, k5⟩
    rw [if_pos d]
    exact m1
  have d := dk_neqc m1 q
  rw [v6] at d
  rw [if_neg d]
  by_cases c0 : a2 = (0 : Int32)
  · have d0 := dk_eqc z0 c0
    refine ⟨S5, _, F_d_change_p1 rfl ne h.1.symm e5.symm rfl q c0, ?_, r5, c5, k5⟩
    rw [if_pos d0]
    exact v6
  have d0 := dk_neqc z0 c0
  rw [if_neg d0]
  by_cases c1 : a2 = (1 : Int32)
  · have d1 := dk_eqc z1 c1
    refine ⟨S5, _, F_d_change_p2 rfl ne h.1.symm e5.symm rfl q c0 c1 rfl, ?_, r5, c5, k5⟩
    rw [if_pos d1]
    exact v7
  have d1 := dk_neqc z1 c1
  rw [if_neg d1]
  by_cases c2 : a2 = (2 : Int32)
  · have d2 := dk_eqc z2 c2
    refine ⟨S5, _, F_d_change_p3 rfl ne h.1.symm e5.symm rfl q c0 c1 c2 rfl, ?_, r5, c5, k5⟩
    rw [if_pos d2]
    exact v8
  have d2 := dk_neqc z2 c2
  rw [if_neg d2]
  exact ⟨S5, -1, F_d_change_p0 rfl ne h.1.symm e5.symm rfl q c0 c1 c2, m1, r5, c5, k5⟩
end EC
