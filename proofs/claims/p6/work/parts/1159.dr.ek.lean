/-! TELLS: what it is; the class -/
/-- bit m of a word -/
theorem w_bt {y b : Int32} {m V : Nat} (hy : y.toInt = V) (hV : V < 2 ^ 31) (hb : b.toInt = m) (hm : m < 21) : (y >>> (b &&& 31)) &&& 1 = 1 ↔ V / 2 ^ m % 2 = 1 := by
  have ks : ∀ n : Nat, n < 21 → ((Int32.ofInt (n : Int) &&& 31).toBitVec.smod 32).toNat = n := by decide +kernel
  have k1 := ks m hm
  rw [← hb, Int32.ofInt_toInt] at k1
  have e : y = nI V := Int32.toInt_inj.mp (by rw [hy, nI_toInt hV])
  have h2 : V / 2 ^ m ≤ V := Nat.div_le_self _ _
  have hV2 : V < 2147483648 := hV
  rw [e, pk_shrN hV _ m k1]
  generalize V / 2 ^ m = Q at h2 ⊢
  rw [pk_andN (n := Q) (m := 1) (by omega) 1 (by decide), show (1 : Int32) = nI 1 from rfl, nI_eq (by omega) (by decide)]
theorem s_rs_bit {G A : aR} {K : Nat → List Int} {F : s_F} : ∀ (r V : Nat), s_rs G K A F r = V → ∀ m, m < r → (V / 2 ^ m % 2 = 1 ↔ s_rc G K A F (m : Int))
  | 0, _, _, m, hm => absurd hm (Nat.not_lt_zero m)
  | r + 1, V, hV, m, hm => by
    have hb := s_rs_b (G := G) (K := K) (A := A) (F := F) r
    obtain ⟨W, hW⟩ : ∃ W : Nat, s_rs G K A F r = W := ⟨(s_rs G K A F r).toNat, by omega⟩
    have ih := s_rs_bit r W hW
    have hV : s_rs G K A F r + s_if (s_rc G K A F (r : Int)) ((2 ^ r : Nat) : Int) 0 = V := hV
    rw [hW] at hV hb
    have pos : 0 < 2 ^ r := Nat.two_pow_pos r
    have lt : W < 2 ^ r := by omega
    by_cases q : s_rc G K A F (r : Int)
    · rw [s_if_y q] at hV
      have eV : V = W + 2 ^ r := by omega
      by_cases e : m = r
      · subst e
        rw [eV, Nat.add_div_right _ pos, Nat.div_eq_of_lt lt]
        exact ⟨fun _ => q, fun _ => rfl⟩
      · have ep : 2 ^ r = 2 ^ m * (2 * 2 ^ (r - m - 1)) := by
          rw [← Nat.pow_succ', ← Nat.pow_add]
          exact congrArg (fun t => 2 ^ t) (by omega)
        rw [eV, ep, Nat.add_mul_div_left _ _ (Nat.two_pow_pos m), ← ih m (by omega)]
        generalize W / 2 ^ m = x
        generalize 2 ^ (r - m - 1) = t
        omega
    · rw [s_if_n q] at hV
      have eV : V = W := by omega
      rw [eV]
      by_cases e : m = r
      · subst e
        rw [Nat.div_eq_of_lt lt]
        exact ⟨fun z => absurd z (by decide), fun z => absurd z q⟩
      · exact ih m (by omega)
/-- of the first m, as many as are alike at most -/
noncomputable def s_most (P : Nat → Prop) (g : Nat → Int) : Nat → Int
  | 0 => 0
  | m + 1 => s_if (P m) (max (s_most P g m) (s_ct (fun i => P i ∧ g i = g m) m + 1)) (s_most P g m)
theorem s_most_b {P : Nat → Prop} {g : Nat → Int} : ∀ m : Nat, 0 ≤ s_most P g m ∧ s_most P g m ≤ m
  | 0 => ⟨Int.le_refl _, Int.le_refl _⟩
  | m + 1 => by
    have ih := s_most_b (P := P) (g := g) m
    have c := s_ct_b (P := fun i => P i ∧ g i = g m) m
    show 0 ≤ s_if (P m) (max (s_most P g m) (s_ct (fun i => P i ∧ g i = g m) m + 1)) (s_most P g m) ∧ s_if (P m) (max (s_most P g m) (s_ct (fun i => P i ∧ g i = g m) m + 1)) (s_most P g m) ≤ ((m + 1 : Nat) : Int)
    by_cases q : P m
    · rw [s_if_y q]
      omega
    · rw [s_if_n q]
      omega
theorem s_most_y {P : Nat → Prop} {g : Nat → Int} {m : Nat} (q : P m) : s_most P g (m + 1) = max (s_most P g m) (s_ct (fun i => P i ∧ g i = g m) m + 1) := s_if_y q
theorem s_most_n {P : Nat → Prop} {g : Nat → Int} {m : Nat} (q : ¬ P m) : s_most P g (m + 1) = s_most P g m := s_if_n q
/-- behind k shifts, by cell c: how many are left at most -/
noncomputable def s_lf (G : aR) (K : Nat → List Int) (A : aR) (F : s_F) (k : Nat) (c : Int) : Int := s_most (fun r : Nat => s_rc G K A F (r : Int)) (fun r : Nat => s_gr9 (s_n G K (r : Int) k A) c) 21
theorem s_lf_b {G A : aR} {K : Nat → List Int} {F : s_F} {k : Nat} {c : Int} : 0 ≤ s_lf G K A F k c ∧ s_lf G K A F k c ≤ 21 := s_most_b 21
def s_tP (G : aR) (i : Nat) : Prop := 64 ≤ i ∧ s_in G ((i % 64 : Nat) : Int)
/-- what is found among the first i: shift and cell as one number; how many -/
noncomputable def s_tl (G : aR) (K : Nat → List Int) (A : aR) (F : s_F) : Nat → Int × Int
  | 0 => (-1, 22)
  | i + 1 => s_if (s_tP G i ∧ s_lf G K A F (i / 64) ((i % 64 : Nat) : Int) < (s_tl G K A F i).2) ((i : Int), s_lf G K A F (i / 64) ((i % 64 : Nat) : Int)) (s_tl G K A F i)
/-- TELLING -/
noncomputable def s_te (G : aR) (K : Nat → List Int) (A : aR) (F : s_F) : Int × Int := s_if (s_rs G K A F 21 = 0) (-1, 22) (s_tl G K A F (64 * (s_W A + 1)))
/-- as the class holds it -/
def cx_tA (b : Int × Int) (S : dg_S) : Prop := (zI S 229 8).toInt = b.2 ∧ (zI S 229 7).toInt = (if b.1 < 0 then -1 else b.1 % 64 + 8) ∧ (0 ≤ b.1 → (zI S 229 6).toInt = b.1 / 64)
def cx_ct (G : aR) (K : Nat → List Int) (A : aR) (F : s_F) (S : dg_S) : Prop := (zI S 229 4).toInt = 0 ∨ cx_tA (s_te G K A F) S
/-- what else was sought stays -/
def k_s8 (S S1 : dg_S) : Prop := (∀ b, zI S1 221 b = zI S 221 b) ∧ (∀ b, b ≠ 4 → b ≠ 6 → b ≠ 7 → b ≠ 8 → zI S1 229 b = zI S 229 b) ∧ S1.2.1 230 = S.2.1 230
/-- the pits of all that are left, behind k shifts -/
def cx_ps (G : aR) (K : Nat → List Int) (A : aR) (F : s_F) (k : Nat) (S : dg_S) : Prop := ∀ r : Nat, r < 21 → s_rc G K A F (r : Int) → cx_pit G (s_n G K (r : Int) k A) S (233 + 7 * r)
def s_ix (v : Int) : Nat := if v = -1 then 10 else v.toNat
theorem s_ix_j {v w : Int} (hv : -1 ≤ v ∧ v ≤ 9) (hw : -1 ≤ w ∧ w ≤ 9) (h : s_ix v = s_ix w) : v = w := by
  unfold s_ix at h
  split at h <;> split at h <;> omega
theorem s_ix_b {v : Int} (hv : -1 ≤ v ∧ v ≤ 9) : s_ix v < 11 := by
  unfold s_ix
  split <;> omega
section EK
variable {o oX oM g n p k : Nat} {G A A' : aR} {K : Nat → List Int} {L L' : s_L} {U : s_U} {F : s_F} {S S0 S1 SX SM T : dg_S} {x x' r c v t : Int} {a a1 a2 a3 a4 y : Int32}
theorem k_s8.rf : k_s8 S S := ⟨fun _ => rfl, fun _ _ _ _ _ => rfl, rfl⟩
theorem k_s8.tr (h : k_s8 S S0) (k : k_s8 S0 S1) : k_s8 S S1 := ⟨fun b => (k.1 b).trans (h.1 b), fun b b4 b6 b7 b8 => (k.2.1 b b4 b6 b7 b8).trans (h.2.1 b b4 b6 b7 b8), k.2.2.trans h.2.2⟩
theorem k_sk.s8 (h : k_sk S S1) : k_s8 S S1 := ⟨h.1, fun b _ _ _ _ => h.2.1 b, h.2.2⟩
theorem cx_tA.keep {b : Int × Int} (h : cx_tA b S) (k : k_sk S S1) : cx_tA b S1 := ⟨by rw [k.2.1]; exact h.1, by rw [k.2.1]; exact h.2.1, fun z => by rw [k.2.1]; exact h.2.2 z⟩
theorem s_tl_b : ∀ i : Nat, s_tl G K A F i = (-1, 22) ∨ (64 ≤ (s_tl G K A F i).1 ∧ (s_tl G K A F i).1 < i ∧ 0 ≤ (s_tl G K A F i).2 ∧ (s_tl G K A F i).2 ≤ 21)
  | 0 => Or.inl rfl
  | i + 1 => by
    have ih := s_tl_b i
    have lb := s_lf_b (G := G) (K := K) (A := A) (F := F) (k := i / 64) (c := ((i % 64 : Nat) : Int))
    by_cases q : s_tP G i ∧ s_lf G K A F (i / 64) ((i % 64 : Nat) : Int) < (s_tl G K A F i).2
    · have e : s_tl G K A F (i + 1) = ((i : Int), s_lf G K A F (i / 64) ((i % 64 : Nat) : Int)) := s_if_y q
      rw [e]
      refine Or.inr ⟨?_, ?_, lb.1, lb.2⟩
      · have := q.1.1
        show (64 : Int) ≤ (i : Int)
        omega
      · show (i : Int) < ((i + 1 : Nat) : Int)
        omega
    · have e : s_tl G K A F (i + 1) = s_tl G K A F i := s_if_n q
      rw [e]
      rcases ih with ih | ⟨h1, h2, h3⟩
      · exact Or.inl ih
      · exact Or.inr ⟨h1, by omega, h3⟩
theorem s_tl_n {i : Nat} (h : ¬ (s_tP G i ∧ s_lf G K A F (i / 64) ((i % 64 : Nat) : Int) < (s_tl G K A F i).2)) : s_tl G K A F (i + 1) = s_tl G K A F i := s_if_n h
theorem s_tl_y {i : Nat} (h1 : s_tP G i) (h2 : s_lf G K A F (i / 64) ((i % 64 : Nat) : Int) < (s_tl G K A F i).2) : s_tl G K A F (i + 1) = ((i : Int), s_lf G K A F (i / 64) ((i % 64 : Nat) : Int)) := s_if_y ⟨h1, h2⟩
theorem s_tl_same {i : Nat} : ∀ d : Nat, (∀ j, i ≤ j → j < i + d → ¬ s_tP G j) → s_tl G K A F (i + d) = s_tl G K A F i
  | 0, _ => rfl
  | d + 1, h => by
    have ih := s_tl_same d (fun j h1 h2 => h j h1 (by omega))
    rw [show i + (d + 1) = (i + d) + 1 from rfl, s_tl_n (fun z => h (i + d) (by omega) (by omega) z.1), ih]
theorem s_tl_64 : s_tl G K A F 64 = (-1, 22) := (s_tl_same (i := 0) 64 (fun j _ h2 z => by have := z.1; omega)).trans rfl
theorem cx_ps.kp {LF : Nat → Nat → Prop} {LA : Nat → Prop} (h : cx_ps G K A F k S) (t : kp LF LA S S1) (f : ∀ a b, 233 ≤ a → ¬ LF a b) (l : ∀ a, 233 ≤ a → ¬ LA a) : cx_ps G K A F k S1 := fun r h1 h2 => (h r h1 h2).keep (fun i _ _ => (t.2 i (l i (by omega))).1) (fun b _ => t.I (f _ b (by omega)))
/-- how many are left at most, by one cell -/
theorem cx_mostLeft (ok : s_ok G K A U) (hp : cx_ps G K A F k S) {V : Nat} (hV : s_rs G K A F 21 = V) (h1 : a1.toInt = V) (hc : s_in G c) (h2 : a2.toInt = c + 8) : ∃ (S1 : dg_S) (y : Int32), F_e_mostLeft o S a1 a2 = (S1, y) ∧ y.toInt = s_lf G K A F k c ∧ kp (fun _ _ => False) (fun a => a = 232) S S1 := by
  have z0 : (0 : Int32).toInt = 0 := by decide +kernel
  have z1 : (1 : Int32).toInt = 1 := by decide +kernel
  have z21 : (21 : Int32).toInt = 21 := by decide +kernel
  have m1 : (-1 : Int32).toInt = -1 := by decide +kernel
  have n10 : (10 : Int32).toNatClampNeg = 10 := by decide +kernel
  have V31 : V < 2 ^ 31 := by
    have := (s_rs_b (G := G) (K := K) (A := A) (F := F) 21).2
    rw [hV] at this
    have : V < 2 ^ 21 := by omega
    exact Nat.lt_trans this (by decide)
  obtain ⟨P, eP⟩ : ∃ P : Nat → Prop, P = fun r : Nat => s_rc G K A F (r : Int) := ⟨_, rfl⟩
  obtain ⟨gg, eg⟩ : ∃ gg : Nat → Int, gg = fun r : Nat => s_gr9 (s_n G K (r : Int) k A) c := ⟨_, rfl⟩
  have hl : s_lf G K A F k c = s_most P gg 21 := by rw [eP, eg]; rfl
  have gb : ∀ r : Nat, -1 ≤ gg r ∧ gg r ≤ 9 := fun r => by
    rw [eg]
    exact s_gr9_b (s_n_ok ok.1.1 ok.2.2.1.1 ok.2.2.1.2 k).2 hc
  obtain ⟨S2, hS2⟩ : ∃ X, X = dg_uf S 232 (dk_fl (S.2.1 232) (0 : Int32) 11) := ⟨_, rfl⟩
  rw [F_e_mostLeft_p6 rfl hS2, hl]
  have main := lp_cnt (f := F_e_mostLeft_B1 a1 o a2) (z := (S, (0 : Int32))) (W := 21) (P := fun m s => s.1.toInt = s_most P gg m ∧ kp (fun _ _ => False) (fun a => a = 232) S s.2 ∧ ∀ v : Int, (-1 ≤ v ∧ v ≤ 9) → (s.2.2.1 232 (s_ix v)).toInt = s_ct (fun i => P i ∧ gg i = v) m) (Q := fun q => q.2.toInt = s_most P gg 21 ∧ kp (fun _ _ => False) (fun a => a = 232) S q.1) (by decide) (fun m mI s hm hmI hP => by
    obtain ⟨u, T⟩ := s
    obtain ⟨t1, t2, t3⟩ := hP
    have t1 : u.toInt = s_most P gg m := t1
    have t2 : kp (fun _ _ => False) (fun a => a = 232) S T := t2
    have t3 : ∀ v : Int, (-1 ≤ v ∧ v ≤ 9) → (T.2.1 232 (s_ix v)).toInt = s_ct (fun i => P i ∧ gg i = v) m := t3
    have q0 : ¬ (21 : Int32) ≤ mI := fun z => by have := dk_gec z21 z; omega
    have hbit : (a1 >>> (mI &&& 31)) &&& 1 = 1 ↔ P m := by
      rw [w_bt h1 V31 hmI hm, s_rs_bit 21 V hV m hm, eP]
    by_cases q : P m
    rotate_left
    · refine ⟨(u, T), (F_e_mostLeft_p2 q0 rfl rfl (fun z => q (hbit.mp z))).trans (F_e_mostLeft_p1 rfl), ?_, t2, fun v hv => ?_⟩
      · show u.toInt = s_most P gg (m + 1)
        rw [s_most_n q]
        exact t1
      · show (T.2.1 232 (s_ix v)).toInt = s_ct (fun i => P i ∧ gg i = v) m + s_b (P m ∧ gg m = v)
        rw [s_b0 (fun z => q z.1), t3 v hv]
        omega
    have mn : mI.toNatClampNeg = m := by rw [dk_clN]; omega
    have rc : s_rc G K A F (m : Int) := by
      have := q
      rw [eP] at this
      exact this
    have pit := (hp m hm rc).keep (S1 := T) (fun i i1 i2 => (t2.2 i (by omega)).1) (fun b _ => t2.I id)
    have eg9 : (F_p_gradeAt o T (233 + 7 * mI.toNatClampNeg) a2).toInt = gg m := by
      rw [mn, cx_gradeAt pit hc h2, eg]
      rfl
    have fin : ∀ w : Int32, w.toNatClampNeg = s_ix (gg m) → F_e_mostLeft_B1 a1 o a2 (mI, u, T) = F_e_mostLeft_J3 T w u mI → ∃ s1, F_e_mostLeft_B1 a1 o a2 (mI, u, T) = .inl (mI + 1, s1) ∧ s1.1.toInt = s_most P gg (m + 1) ∧ kp (fun _ _ => False) (fun a => a = 232) S s1.2 ∧ ∀ v : Int, (-1 ≤ v ∧ v ≤ 9) → (s1.2.2.1 232 (s_ix v)).toInt = s_ct (fun i => P i ∧ gg i = v) (m + 1) := fun w hw e => by
      have cb := s_ct_b (P := fun i => P i ∧ gg i = gg m) m
      have e1 : (T.2.1 232 w.toNatClampNeg + 1).toInt = s_ct (fun i => P i ∧ gg i = gg m) m + 1 := dk_addT (by rw [hw]; exact t3 _ (gb m)) z1 (by omega) (by omega)
      obtain ⟨T1, hT1⟩ : ∃ X, X = dg_uf T 232 (upd (T.2.1 232) w.toNatClampNeg (T.2.1 232 w.toNatClampNeg + 1)) := ⟨_, rfl⟩
      refine ⟨(if u < T.2.1 232 w.toNatClampNeg + 1 then T.2.1 232 w.toNatClampNeg + 1 else u, T1), e.trans ((F_e_mostLeft_p3 rfl rfl hT1 rfl).trans (F_e_mostLeft_p1 rfl)), ?_, by rw [hT1]; exact t2.uf rfl, fun v hv => ?_⟩
      · show (if u < T.2.1 232 w.toNatClampNeg + 1 then T.2.1 232 w.toNatClampNeg + 1 else u).toInt = s_most P gg (m + 1)
        rw [s_most_y q]
        by_cases q3 : u < T.2.1 232 w.toNatClampNeg + 1
        · have d3 := w_lt.mp q3
          rw [if_pos q3, e1]
          rw [e1, t1] at d3
          omega
        · have d3 : ¬ u.toInt < (T.2.1 232 w.toNatClampNeg + 1).toInt := fun z => q3 (w_lt.mpr z)
          rw [if_neg q3, t1]
          rw [e1, t1] at d3
          omega
      · show (T1.2.1 232 (s_ix v)).toInt = s_ct (fun i => P i ∧ gg i = v) m + s_b (P m ∧ gg m = v)
        rw [hT1, w_f, if_pos rfl, w_u, hw]
        by_cases q4 : gg m = v
        · subst q4
          rw [if_pos rfl, s_b1 ⟨q, rfl⟩, ← hw]
          exact e1
        · rw [if_neg (fun z => q4 (s_ix_j (gb m) hv z.symm)), s_b0 (fun z => q4 z.2), t3 v hv]
          omega
    by_cases q5 : F_p_gradeAt o T (233 + 7 * mI.toNatClampNeg) a2 = (-1 : Int32)
    · have d5 := dk_eqc m1 q5
      rw [eg9] at d5
      refine fin 10 ?_ (F_e_mostLeft_p5 q0 rfl rfl (hbit.mpr q) rfl rfl q5)
      rw [n10, d5]
      rfl
    · have d5 := dk_neqc m1 q5
      rw [eg9] at d5
      refine fin _ ?_ (F_e_mostLeft_p4 q0 rfl rfl (hbit.mpr q) rfl rfl q5)
      rw [dk_clN, eg9]
      unfold s_ix
      rw [if_neg d5]) (fun mI s hmI hP => by
    obtain ⟨u, T⟩ := s
    exact ⟨_, F_e_mostLeft_p0 (dk_gep z21 (by omega)), hP.1, hP.2.1⟩) ((22 - ((0 : Int32)).toInt).toNat + 1) 0 0 ((0 : Int32), S2) (by rw [z0]; decide) (by decide) z0 ⟨z0, by rw [hS2]; exact kp.rf.uf rfl, fun v hv => ?_⟩
  · exact ⟨_, _, rfl, main.1, main.2⟩
  · show (S2.2.1 232 (s_ix v)).toInt = 0
    rw [hS2, w_f, if_pos rfl]
    unfold dk_fl
    rw [if_pos (s_ix_b hv)]
    exact z0
/-- all cells, behind k shifts -/
theorem cx_tryAll (ok : s_ok G K A U) (h : RX o g G K A L U x S) (hp : cx_ps G K A F k S) {V : Nat} (hV : s_rs G K A F 21 = V) (h1 : a1.toInt = V) (h2 : a2.toInt = k) (hk1 : 1 ≤ k) (hk30 : k ≤ 30) (ht : cx_tA (s_tl G K A F (64 * k)) S) : ∃ S1, F_e_tryAllCells o S g 3 a1 a2 = S1 ∧ kp (fun a b => a = 229 ∧ (b = 6 ∨ b = 7 ∨ b = 8)) (fun a => a = 232) S S1 ∧ cx_tA (s_tl G K A F (64 * (k + 1))) S1 := by
  have z8 : (8 : Int32).toInt = 8 := by decide +kernel
  have z100 : (100 : Int32).toInt = 100 := by decide +kernel
  have hgb := ok.1.1.1
  have g1 : (zI S g 1).toInt = G 0 1 := h.2.1.2.1.2.1
  have rg : rX g := h.2.1.1.1
  have sep := rX_sep rg
  obtain ⟨R, hR⟩ : ∃ R : Nat, (R : Int) = G 0 1 := ⟨(G 0 1).toNat, by omega⟩
  have eend : ∀ T, kp (fun a b => a = 229 ∧ (b = 6 ∨ b = 7 ∨ b = 8)) (fun a => a = 232) S T → (F_g_endOfPlaces o T g).toInt = 8 * (R : Int) + 8 := fun T t => by
    have e1 : (zI T g 1).toInt = R := by rw [t.I (fun z => by omega), g1, hR]
    exact dk_addT (dk_mulT z8 e1 (by omega) (by omega)) z8 (by omega) (by omega)
  rw [F_e_tryAllCells_p6]
  refine lp_cnt (f := F_e_tryAllCells_B1 o g 3 a2 a1) (z := S) (W := 8 * R + 8) (P := fun p T => 8 ≤ p ∧ kp (fun a b => a = 229 ∧ (b = 6 ∨ b = 7 ∨ b = 8)) (fun a => a = 232) S T ∧ cx_tA (s_tl G K A F (64 * k + (p - 8))) T) (Q := fun T => ∃ S1, T = S1 ∧ kp (fun a b => a = 229 ∧ (b = 6 ∨ b = 7 ∨ b = 8)) (fun a => a = 232) S S1 ∧ cx_tA (s_tl G K A F (64 * (k + 1))) S1) (by omega) (fun p pI T hp9 hpI hP => ?_) (fun pI T hpI hP => ?_) ((65 - ((8 : Int32)).toInt).toNat + 1) 8 8 S (by rw [z8]; omega) (by omega) z8 ⟨Nat.le_refl 8, kp.rf, ht⟩
  rotate_left
  · obtain ⟨t0, t1, t2⟩ := hP
    refine ⟨T, F_e_tryAllCells_p0 rfl (w_le.mpr (by rw [eend T t1]; omega)), T, rfl, t1, ?_⟩
    have e := s_tl_same (G := G) (K := K) (A := A) (F := F) (i := 64 * k + 8 * R) (64 - 8 * R) (fun j j1 j2 z => by
      have := z.2.2.2
      omega)
    rw [show 64 * k + 8 * R + (64 - 8 * R) = 64 * (k + 1) by omega] at e
    rw [e]
    rw [show 64 * k + (8 * R + 8 - 8) = 64 * k + 8 * R by omega] at t2
    exact t2
  obtain ⟨t0, t1, t2⟩ := hP
  have q0 : ¬ F_g_endOfPlaces o T g ≤ pI := fun z => by have := w_le.mp z; rw [eend T t1] at this; omega
  have pn : pI.toNatClampNeg = p := by rw [dk_clN]; omega
  have ce := h.2.2.1.1 (p : Int) (by omega) (by omega)
  have e4 : (T.2.1 (3 + 1) pI.toNatClampNeg).toInt = cx_at S 3 (p : Int) := by
    rw [(t1.2 (3 + 1) (by decide)).1, pn]
    unfold cx_at
    rw [show ((p : Int)).toNat = p by omega]
  obtain ⟨i, hi⟩ : ∃ i, i = 64 * k + (p - 8) := ⟨_, rfl⟩
  have i1 : i / 64 = k := by omega
  have i2 : i % 64 = p - 8 := by omega
  have ei : 64 * k + (p + 1 - 8) = i + 1 := by omega
  rw [ei]
  rw [← hi] at t2
  by_cases q1 : T.2.1 (3 + 1) pI.toNatClampNeg = (100 : Int32)
  · have d1 := dk_eqc z100 q1
    rw [e4] at d1
    have nin : ¬ s_in G ((p : Int) - 8) := fun z => by
      have := ce.1 z
      rw [d1] at this
      unfold cx_en at this
      split at this
      · omega
      · split at this <;> omega
    refine ⟨T, (F_e_tryAllCells_p5 rfl q0 rfl q1 rfl).trans ((F_e_tryAllCells_p2 rfl (w_le.mpr (Int.le_refl _))).trans (F_e_tryAllCells_p1 rfl)), by omega, t1, ?_⟩
    rw [s_tl_n (fun z => nin (by have := z.1.2; rw [i2, show ((p - 8 : Nat) : Int) = (p : Int) - 8 by omega] at this; exact this))]
    exact t2
  have d1 := dk_neqc z100 q1
  rw [e4] at d1
  have hin : s_in G ((p : Int) - 8) := by
    apply Classical.byContradiction
    intro z
    exact d1 (ce.2 z)
  obtain ⟨T1, y, e1, v1, k1⟩ := cx_mostLeft (o := o) (S := T) (a1 := a1) (a2 := pI) (c := (p : Int) - 8) ok (hp.kp t1 (fun a b h z => by omega) (fun a h z => by omega)) hV h1 hin (by omega)
  have Q := F_e_tryAllCells_p4 (o := o) (gr := g) (pt := 3) (a2 := a2) (a1 := a1) (S_124 := T) (x_123 := pI) rfl q0 rfl q1 (show T1 = _ by rw [e1]) (show y = _ by rw [e1])
  have t9 : kp (fun a b => a = 229 ∧ (b = 6 ∨ b = 7 ∨ b = 8)) (fun a => a = 232) S T1 := t1.tr (k1.w (fun a b z => z.elim) (fun a z => z))
  have hP9 : s_tP G i := ⟨by omega, by rw [i2, show ((p - 8 : Nat) : Int) = (p : Int) - 8 by omega]; exact hin⟩
  have el : s_lf G K A F (i / 64) ((i % 64 : Nat) : Int) = s_lf G K A F k ((p : Int) - 8) := by
    rw [i1, i2, show ((p - 8 : Nat) : Int) = (p : Int) - 8 by omega]
  have e8 : (zI T1 229 8).toInt = (s_tl G K A F i).2 := by rw [k1.I id]; exact t2.1
  by_cases q2 : zI T1 229 8 ≤ y
  · have d2 := w_le.mp q2
    rw [e8, v1, ← el] at d2
    refine ⟨T1, Q.trans ((F_e_tryAllCells_p2 rfl q2).trans (F_e_tryAllCells_p1 rfl)), by omega, t9, ?_⟩
    rw [s_tl_n (fun z => by have := z.2; omega)]
    exact ⟨e8, by rw [k1.I id]; exact t2.2.1, fun z => by rw [k1.I id]; exact t2.2.2 z⟩
  · have d2 : ¬ (zI T1 229 8).toInt ≤ y.toInt := fun z => q2 (w_le.mpr z)
    rw [e8, v1, ← el] at d2
    obtain ⟨S2, hS2⟩ : ∃ X, X = dg_uF T1 229 6 (.int a2) := ⟨_, rfl⟩
    obtain ⟨S3, hS3⟩ : ∃ X, X = dg_uF S2 229 7 (.int pI) := ⟨_, rfl⟩
    obtain ⟨S4, hS4⟩ : ∃ X, X = dg_uF S3 229 8 (.int y) := ⟨_, rfl⟩
    refine ⟨S4, Q.trans ((F_e_tryAllCells_p3 rfl q2 hS2 hS3 hS4).trans (F_e_tryAllCells_p1 rfl)), by omega, ?_, ?_⟩
    · rw [hS4, hS3, hS2]
      exact kp.uF (kp.uF (kp.uF t9 ⟨rfl, Or.inl rfl⟩) ⟨rfl, Or.inr (Or.inl rfl)⟩) ⟨rfl, Or.inr (Or.inr rfl)⟩
    · rw [s_tl_y hP9 (by omega), el]
      refine ⟨?_, ?_, fun _ => ?_⟩
      · rw [hS4, w_I, if_pos ⟨rfl, rfl⟩]
        exact v1
      · rw [hS4, w_I0 (by decide), hS3, w_I, if_pos ⟨rfl, rfl⟩]
        show pI.toInt = if (i : Int) < 0 then -1 else (i : Int) % 64 + 8
        rw [if_neg (by omega)]
        omega
      · rw [hS4, w_I0 (by decide), hS3, w_I0 (by decide), hS2, w_I, if_pos ⟨rfl, rfl⟩]
        show a2.toInt = (i : Int) / 64
        omega
/-- all that are left pass one shift -/
theorem cx_passAll (ok : s_ok G K A U) (h : RX o g G K A L U x S) (hp : cx_ps G K A F k S) {V : Nat} (hV : s_rs G K A F 21 = V) (h1 : a1.toInt = V) : ∃ S1, F_e_passAll o S g a1 = S1 ∧ RX o g G K A L U x S1 ∧ cx_ps G K A F (k + 1) S1 ∧ k_sk S S1 := by
  have z0 : (0 : Int32).toInt = 0 := by decide +kernel
  have z1 : (1 : Int32).toInt = 1 := by decide +kernel
  have z21 : (21 : Int32).toInt = 21 := by decide +kernel
  have sep := rX_sep h.2.1.1.1
  have V31 : V < 2 ^ 31 := by
    have := (s_rs_b (G := G) (K := K) (A := A) (F := F) 21).2
    rw [hV] at this
    have : V < 2 ^ 21 := by omega
    exact Nat.lt_trans this (by decide)
  rw [F_e_passAll_p4]
  have main := lp_cnt (f := F_e_passAll_B1 a1 o g) (z := S) (W := 21) (P := fun m T => RX o g G K A L U x T ∧ k_sk S T ∧ (∀ r : Nat, r < m → s_rc G K A F (r : Int) → cx_pit G (s_n G K (r : Int) (k + 1) A) T (233 + 7 * r)) ∧ ∀ r : Nat, m ≤ r → r < 21 → s_rc G K A F (r : Int) → cx_pit G (s_n G K (r : Int) k A) T (233 + 7 * r)) (Q := fun T => RX o g G K A L U x T ∧ k_sk S T ∧ cx_ps G K A F (k + 1) T) (by decide) (fun m mI T hm hmI hP => by
    obtain ⟨t1, t2, t3, t4⟩ := hP
    have q0 : ¬ (21 : Int32) ≤ mI := fun z => by have := dk_gec z21 z; omega
    have hbit : (a1 >>> (mI &&& 31)) &&& 1 = 1 ↔ s_rc G K A F (m : Int) := by
      rw [w_bt h1 V31 hmI hm, s_rs_bit 21 V hV m hm]
    by_cases q : s_rc G K A F (m : Int)
    rotate_left
    · refine ⟨T, (F_e_passAll_p2 q0 rfl rfl (fun z => q (hbit.mp z))).trans (F_e_passAll_p1 rfl), t1, t2, fun r hr hc => ?_, fun r hr h21 hc => t4 r (by omega) h21 hc⟩
      by_cases w : r = m
      · subst w
        exact absurd hc q
      · exact t3 r (by omega) hc
    have mn : mI.toNatClampNeg = m := by rw [dk_clN]; omega
    obtain ⟨d, hd⟩ : ∃ d, d = 233 + 7 * m := ⟨_, rfl⟩
    have pd : pX d := by rw [hd]; exact pX_f hm
    have dd : d = 233 + 7 * mI.toNatClampNeg := by rw [mn]; exact hd
    obtain ⟨S4, e4, f7, f6, f8, f9, k4⟩ := cx_enter (o := o) (S := T) (g := g) (p := d) (a := mI)
    have r4 : RX o g G K A L U x S4 := t1.keep k4 (by decide) (by decide) (fun a b _ _ => by omega) (fun b => by omega) (fun b => by omega) (fun a b _ _ => by omega) (fun a _ _ => id) (fun a _ _ => id) id (fun a _ _ => id)
    have p4 : cx_pit G (s_n G K (m : Int) k A) S4 d := by
      rw [hd]
      exact (t4 m (Nat.le_refl m) hm q).keep (fun i _ _ => (k4.2 i id).1) (fun b _ => k4.I (fun z => by omega))
    have okc := s_n_ok (K := K) (r := (m : Int)) ok.1.1 ok.2.2.1.1 ok.2.2.1.2 k
    obtain ⟨T1, e1, r1, l1, k1⟩ := cx_pass (o := o) (p := d) (a1 := 1) (n := 1) (r := (m : Int)) pd (by omega) ok.1.1 ok.2.1 okc.1 okc.2 ⟨by omega, by omega⟩ r4 ⟨f7, f6, by rw [f8]; exact hmI, r4.2.1.1, p4, Or.inl f9⟩ z1 (by decide)
    have oth : ∀ (r' : Nat) (A9 : aR), r' ≠ m → cx_pit G A9 T (233 + 7 * r') → cx_pit G A9 T1 (233 + 7 * r') := fun r' A9 hr hh => (hh.keep (S1 := S4) (fun i _ _ => (k4.2 i id).1) (fun b _ => k4.I (fun z => by omega))).keep (fun i i1 i2 => (k1.2 i (by omega)).1) (fun b b2 => k1.I (fun z => by omega))
    refine ⟨T1, (F_e_passAll_p3 q0 rfl rfl (hbit.mpr q) dd e4.symm e1.symm).trans (F_e_passAll_p1 rfl), r1, t2.tr ((k4.sk (fun b => by omega) (fun b => by omega) id).tr (k1.sk (fun b => by omega) (fun b => by omega) (by omega))), fun r hr hc => ?_, fun r hr h21 hc => oth r _ (by omega) (t4 r (by omega) h21 hc)⟩
    by_cases w : r = m
    · rw [w, ← hd]
      exact l1.2.2.2.2.1
    · exact oth r _ w (t3 r (by omega) hc)) (fun mI T hmI hP => by
    obtain ⟨t1, t2, t3, t4⟩ := hP
    exact ⟨T, F_e_passAll_p0 (dk_gep z21 (by omega)), t1, t2, t3⟩) ((22 - ((0 : Int32)).toInt).toNat + 1) 0 0 S (by rw [z0]; decide) (by decide) z0 ⟨h, k_sk.rf, fun r hr => absurd hr (Nat.not_lt_zero r), fun r _ h2 h3 => hp r h2 h3⟩
  exact ⟨_, rfl, main.1, main.2.2, main.2.1⟩
end EK
