/-! the reference looks ahead -/
/-- a loop that counts, and may end before -/
theorem lp_cnt2 {σ ρ : Type} {f : Int32 × σ → (Int32 × σ) ⊕ ρ} {z : ρ} {W : Nat} {P : Nat → σ → Prop} {Q : ρ → Prop} (hW : W < 2000000000) (hs : ∀ (c : Nat) (cI : Int32) (s : σ), c < W → cI.toInt = c → P c s → (∃ s1, f (cI, s) = .inl (cI + 1, s1) ∧ P (c + 1) s1) ∨ ∃ r, f (cI, s) = .inr r ∧ Q r) (he : ∀ (cI : Int32) (s : σ), cI.toInt = W → P W s → ∃ r, f (cI, s) = .inr r ∧ Q r) : ∀ (n c : Nat) (cI : Int32) (s : σ), W + 1 ≤ n + c → c ≤ W → cI.toInt = c → P c s → Q (lp f z n (cI, s)) := by
  intro n
  induction n with
  | zero =>
    intro c cI s h1 h2
    omega
  | succ n ih =>
    intro c cI s h1 h2 h3 h4
    by_cases q : c < W
    · rcases hs c cI s q h3 h4 with ⟨s1, e1, p1⟩ | ⟨r, e1, q1⟩
      · rw [lp_sl e1]
        refine ih (c + 1) (cI + 1) s1 (by omega) (by omega) ?_ p1
        rw [dk_addT h3 (b := 1) (by decide +kernel) (by omega) (by omega)]
        omega
      · rw [lp_sr e1]
        exact q1
    · have ec : c = W := by omega
      subst ec
      obtain ⟨r, e1, q1⟩ := he cI s h3 h4
      rw [lp_sr e1]
      exact q1
/-- the pit behind n shifts -/
noncomputable def s_n (G : aR) (K : Nat → List Int) (r : Int) : Nat → aR → aR
  | 0, A => A
  | n + 1, A => s_tk G K r (s_n G K r n A)
/-- grades of all tubs; worth -/
def s_tg (A : aR) : Nat → Int
  | 0 => 0
  | n + 1 => s_tg A n + n * A 6 n
noncomputable def s_ws (G A : aR) : Nat → Int
  | 0 => 0
  | n + 1 => s_ws G A n + s_if (s_so G A n) (s_c A n) 0
noncomputable def s_wo (G A : aR) : Int := s_tg A 10 + s_ws G A 64
/-- behind how many shifts a cell is open -/
def s_fo (P : Nat → Prop) (W : Nat) (y : Int) : Prop := (y = -1 ∧ ∀ m, m ≤ W → ¬ P m) ∨ ∃ n : Nat, y = n ∧ n ≤ W ∧ P n ∧ ∀ m, m < n → ¬ P m
theorem s_fo.uniq {P : Nat → Prop} {W : Nat} {y z : Int} (h : s_fo P W y) (k : s_fo P W z) : y = z := by
  rcases h with ⟨a, b⟩ | ⟨n, a, b, c, d⟩ <;> rcases k with ⟨a', b'⟩ | ⟨m, a', b', c', d'⟩
  · rw [a, a']
  · exact absurd c' (b m b')
  · exact absurd c (b' n b)
  · have h1 : ¬ n < m := fun z => d' n z c
    have h2 : ¬ m < n := fun z => d m z c'
    omega
section DA
variable {o n : Nat} {G A A' : aR} {K : Nat → List Int} {L L' : s_L} {U : s_U} {S S0 S1 : dg_S} {x r c : Int} {a a1 a2 a3 : Int32}
theorem s_n_ok (hG : s_gw G) (hw : s_wf G A) (hcw : s_cw G A) : ∀ n : Nat, s_wf G (s_n G K r n A) ∧ s_cw G (s_n G K r n A)
  | 0 => ⟨hw, hcw⟩
  | n + 1 => by
    have h := s_n_ok hG hw hcw n
    exact ⟨s_tk_wf hG h.1 h.2, s_tk_cw hG h.1 h.2⟩
theorem s_n_00 (h : A 0 0 + (n : Int) ≤ 999) : s_n G K r n A 0 0 = A 0 0 + n := by
  induction n with
  | zero =>
    show A 0 0 = A 0 0 + ((0 : Nat) : Int)
    omega
  | succ n ih =>
    have e := ih (by omega)
    show s_tk G K r (s_n G K r n A) 0 0 = A 0 0 + ((n + 1 : Nat) : Int)
    unfold s_tk
    rw [s_up_at, e]
    omega
/-- a shift of layer 1 -/
theorem mx_tick1 (ok : s_ok G K A U) (h : RM G K A L U x S) (hw : s_wf G A') (hcw : s_cw G A') (hl : mx_lay G A' L' S 1) : ∃ (S1 : dg_S) (y : Int32), F_m_ticks o S (1 : Int32) = (S1, y) ∧ RM G K A L U x S1 ∧ mx_lay G (s_tu G K (G 0 3) A') (s_dL G K (G 0 3) A' L') S1 1 ∧ k_v 1 S S1 := by
  have hr := ok.1.2.1
  have hb := ok.1.1.2.2.2
  obtain ⟨S1, y, e1, k1, l1, y1⟩ := mx_tick (o := o) (v := 1) (a1 := 1) ok.1.1 ok.2.1 hw hcw h.1.1 hl (by decide +kernel) (by decide) h.2.2.2.1 (by omega)
  exact ⟨S1, y, e1, h.v hb k1 (by decide) (k1.lay h.2.1 (by decide) hb), l1, k1⟩
/-- layer 0 is tried on layer 1 -/
theorem mx_try1 (ok : s_ok G K A U) (h : RM G K A L U x S) : ∃ S1, F_m_copies o S (1 : Int32) (0 : Int32) = S1 ∧ RM G K A L U x S1 ∧ mx_lay G A L S1 1 ∧ k_v 1 S S1 := by
  have hb := ok.1.1.2.2.2
  obtain ⟨S1, e1, k1, l1⟩ := mx_copies (o := o) (S := S) (v := 1) (u := 0) (a1 := 1) (a2 := 0) (by decide +kernel) (by decide +kernel) (by decide) (by decide) (by decide) h.2.1 hb
  exact ⟨S1, e1, h.v hb k1 (by decide) (k1.lay h.2.1 (by decide) hb), l1, k1⟩
/-- n shifts of layer 1 -/
theorem mx_runs1 (ok : s_ok G K A U) (h : RM G K A L U x S) (hw : s_wf G A') (hcw : s_cw G A') (hl : mx_lay G A' L' S 1) (hn : a1.toInt = n) (h40 : n ≤ 40) (h9 : A' 0 0 + n ≤ 999) : ∃ (S1 : dg_S) (L1 : s_L), F_m_runsOn o S a1 = S1 ∧ RM G K A L U x S1 ∧ mx_lay G (s_n G K (G 0 3) n A') L1 S1 1 ∧ k_v 1 S S1 := by
  have z0 : (0 : Int32).toInt = 0 := by decide +kernel
  have main := lp_cnt (f := F_m_runsOn_B1 a1 o) (z := S) (W := n) (P := fun c s => (RM G K A L U x s.2 ∧ k_v 1 S s.2) ∧ ∃ L1, mx_lay G (s_n G K (G 0 3) c A') L1 s.2 1) (Q := fun q => (RM G K A L U x q ∧ k_v 1 S q) ∧ ∃ L1, mx_lay G (s_n G K (G 0 3) n A') L1 q 1) (by omega) (fun c cI s hc hcI hP => by
    obtain ⟨w, T⟩ := s
    obtain ⟨⟨p1, p9⟩, L1, p2⟩ := hP
    have okc := s_n_ok (K := K) (r := G 0 3) ok.1.1 hw hcw c
    have e00 := s_n_00 (n := c) (G := G) (K := K) (r := G 0 3) (A := A') (by omega)
    obtain ⟨T1, y, e1, r1, l1, k9⟩ := mx_tick1 (o := o) ok p1 okc.1 okc.2 p2
    rw [s_tu_tk (by rw [e00]; omega)] at l1
    have q0 : ¬ a1 ≤ cI := fun z => by have := w_le.mp z; omega
    exact ⟨(_, T1), F_m_runsOn_p1 q0 (by rw [e1]) rfl rfl, ⟨r1, p9.tr k9⟩, _, l1⟩) (fun cI s hcI hP => by
    obtain ⟨w, T⟩ := s
    exact ⟨T, F_m_runsOn_p0 (w_le.mpr (by omega)), hP⟩) ((41 - ((0 : Int32)).toInt).toNat + 1) 0 0 (S.2.1 29 (1 : Int32).toNatClampNeg, S) (by rw [z0]; omega) (by omega) z0 ⟨⟨h, k_v.rf⟩, L', hl⟩
  rw [F_m_runsOn_p2 rfl]
  exact ⟨_, main.2.choose, rfl, main.1.1, main.2.choose_spec, main.1.2⟩
theorem mx_try (ok : s_ok G K A U) (h : RM G K A L U x S) : ∃ S1, F_m_copies o S (1 : Int32) (0 : Int32) = S1 ∧ RM G K A L U x S1 ∧ mx_lay G A L S1 1 := by
  obtain ⟨S1, e, r, l, -⟩ := mx_try1 (o := o) ok h
  exact ⟨S1, e, r, l⟩
theorem mx_runs (ok : s_ok G K A U) (h : RM G K A L U x S) (hw : s_wf G A') (hcw : s_cw G A') (hl : mx_lay G A' L' S 1) (hn : a1.toInt = n) (h40 : n ≤ 40) (h9 : A' 0 0 + n ≤ 999) : ∃ (S1 : dg_S) (L1 : s_L), F_m_runsOn o S a1 = S1 ∧ RM G K A L U x S1 ∧ mx_lay G (s_n G K (G 0 3) n A') L1 S1 1 := by
  obtain ⟨S1, L1, e, r, l, -⟩ := mx_runs1 (o := o) ok h hw hcw hl hn h40 h9
  exact ⟨S1, L1, e, r, l⟩
theorem mx_grade {v : Nat} (hl : mx_ce G A S v) (hc : s_in G c) {i : Nat} (hi : i = mx_ad v c) : (S.2.1 31 i).toInt = (if s_c A c < 0 then -1 else s_c A c) := by
  rw [hi]
  exact (hl c hc).1
/-- LATER of the reference -/
theorem mx_later (ok : s_ok G K A U) (h : RM G K A L U x S) : (((0 ≤ a1.toInt ∧ a1.toInt < G 0 0) ∧ 0 ≤ a2.toInt ∧ a2.toInt < G 0 1) ∧ (0 ≤ a3.toInt ∧ a3.toInt ≤ 40 ∧ A 0 0 + a3.toInt ≤ 999) ∧ ∃ (S1 : dg_S) (y : Int32), F_m_later o S a1 a2 a3 = (S1, y) ∧ y.toInt = (if s_c (s_n G K (G 0 3) a3.toInt.toNat A) (8 * a2.toInt + a1.toInt) < 0 then -1 else s_c (s_n G K (G 0 3) a3.toInt.toNat A) (8 * a2.toInt + a1.toInt)) ∧ RM G K A L U x S1) ∨ (¬ (((0 ≤ a1.toInt ∧ a1.toInt < G 0 0) ∧ 0 ≤ a2.toInt ∧ a2.toInt < G 0 1) ∧ 0 ≤ a3.toInt ∧ a3.toInt ≤ 40 ∧ A 0 0 + a3.toInt ≤ 999) ∧ F_m_later o S a1 a2 a3 = (S, (-1 : Int32))) := by
  have z0 : (0 : Int32).toInt = 0 := by decide +kernel
  have z40 : (40 : Int32).toInt = 40 := by decide +kernel
  have hg := h.1.1.1
  rcases mx_cellof (o := o) (a1 := a1) (a2 := a2) hg ok.1.1.1 with ⟨p1, p2, p3, p4, p5⟩ | ⟨p1, p2⟩
  rotate_left
  · exact Or.inr ⟨fun z => p1 z.1, F_m_later_p0 rfl p2⟩
  have q0 : ¬ F_m_isCell o S a1 a2 = (0 : Int32) := by rw [p3]; decide +kernel
  have hcm := mx_come (o := o) (a1 := a3) (a2 := 0) (a3 := 40) hg h.2.1 ok.2.2.1.1 (by decide +kernel) (by decide +kernel)
  rw [z0, z40] at hcm
  rcases hcm with ⟨e, w⟩ | ⟨e, w⟩
  rotate_left
  · exact Or.inr ⟨fun z => w ⟨z.2.1, z.2.2.1, z.2.2.2⟩, F_m_later_p2 rfl q0 rfl e⟩
  have ne : ¬ F_m_isAhead o S a3 (0 : Int32) (40 : Int32) = (0 : Int32) := by rw [e]; decide +kernel
  obtain ⟨S2, e2, r2, l2⟩ := mx_try (o := o) ok h
  obtain ⟨S3, L1, e3, r3, l3⟩ := mx_runs (o := o) (a1 := a3) (n := a3.toInt.toNat) ok r2 ok.2.2.1.1 ok.2.2.1.2 l2 (by omega) (by omega) (by omega)
  refine Or.inl ⟨⟨p1, p2⟩, w, S3, _, F_m_later_p1 rfl q0 rfl ne e2.symm e3.symm rfl rfl rfl rfl, ?_, r3⟩
  refine mx_grade l3.1 p5 ?_
  have p50 := p5.1
  have hgb := ok.1.1.1
  have e8 : ((8 : Int32) * a2).toInt = 8 * a2.toInt := dk_mulT (by decide +kernel) rfl (by omega) (by omega)
  have e64 : ((64 : Int32) + (8 : Int32) * a2).toInt = 64 + 8 * a2.toInt := dk_addT (by decide +kernel) e8 (by omega) (by omega)
  rw [dk_clN, dk_addT e64 rfl (by omega) (by omega)]
  unfold mx_ad
  omega
/-- OPENS of the reference -/
theorem mx_opens (ok : s_ok G K A U) (h : RM G K A L U x S) : (((0 ≤ a1.toInt ∧ a1.toInt < G 0 0) ∧ 0 ≤ a2.toInt ∧ a2.toInt < G 0 1) ∧ ∃ (S1 : dg_S) (y : Int32), F_m_opens o S a1 a2 = (S1, y) ∧ s_fo (fun n => s_op G (s_n G K (G 0 3) n A) (8 * a2.toInt + a1.toInt)) (min 40 (999 - A 0 0)).toNat y.toInt ∧ RM G K A L U x S1) ∨ (¬ ((0 ≤ a1.toInt ∧ a1.toInt < G 0 0) ∧ 0 ≤ a2.toInt ∧ a2.toInt < G 0 1) ∧ F_m_opens o S a1 a2 = (S, (-1 : Int32))) := by
  have z0 : (0 : Int32).toInt = 0 := by decide +kernel
  have z1 : (1 : Int32).toInt = 1 := by decide +kernel
  have z40 : (40 : Int32).toInt = 40 := by decide +kernel
  have m1 : (-1 : Int32).toInt = -1 := by decide +kernel
  have hg := h.1.1.1
  have hw0 := ok.2.2.1.1.1
  rcases mx_cellof (o := o) (a1 := a1) (a2 := a2) hg ok.1.1.1 with ⟨p1, p2, p3, p4, p5⟩ | ⟨p1, p2⟩
  rotate_left
  · exact Or.inr ⟨p1, F_m_opens_p4 rfl p2⟩
  have q0 : ¬ F_m_isCell o S a1 a2 = (0 : Int32) := by rw [p3]; decide +kernel
  obtain ⟨c, hc⟩ : ∃ c, c = 8 * a2.toInt + a1.toInt := ⟨_, rfl⟩
  rw [← hc] at p4 p5 ⊢
  obtain ⟨S2, e2, r2, l2⟩ := mx_try (o := o) ok h
  obtain ⟨W, hW⟩ : ∃ W : Nat, W = (min 40 (999 - A 0 0)).toNat := ⟨_, rfl⟩
  rw [← hW]
  -- do so many come
  have come : ∀ (T : dg_S) (k : Nat) (kI : Int32), RM G K A L U x T → kI.toInt = k → (F_m_isAhead o T kI (0 : Int32) (40 : Int32) = 1 ∧ k ≤ W ∨ F_m_isAhead o T kI (0 : Int32) (40 : Int32) = 0 ∧ ¬ k ≤ W) := fun T k kI hT hk => by
    have := mx_come (o := o) (a1 := kI) (a2 := 0) (a3 := 40) hT.1.1.1 hT.2.1 ok.2.2.1.1 (by decide +kernel) (by decide +kernel)
    rw [z0, z40] at this
    rcases this with ⟨e, w⟩ | ⟨e, w⟩
    · exact Or.inl ⟨e, by omega⟩
    · exact Or.inr ⟨e, by omega⟩
  have main := lp_cnt2 (f := F_m_opens_B1 o a2 a1) (z := (S, (0 : Int32))) (W := W + 1) (P := fun k s => RM G K A L U x s.2 ∧ (∀ m, m < k → ¬ s_op G (s_n G K (G 0 3) m A) c) ∧ (k ≤ W → ∃ L1, mx_lay G (s_n G K (G 0 3) k A) L1 s.2 1)) (Q := fun q => s_fo (fun n => s_op G (s_n G K (G 0 3) n A) c) W q.2.toInt ∧ RM G K A L U x q.1) (by omega) (fun k kI s hk hkI hP => by
    obtain ⟨w, T⟩ := s
    obtain ⟨t1, t2, t3⟩ := hP
    have t1 : RM G K A L U x T := t1
    obtain ⟨L1, t3⟩ := t3 (by omega)
    have t3 : mx_lay G (s_n G K (G 0 3) k A) L1 T 1 := t3
    have okc := s_n_ok (K := K) (r := G 0 3) ok.1.1 ok.2.2.1.1 ok.2.2.1.2 k
    rcases come T k kI t1 hkI with ⟨e, -⟩ | ⟨-, e⟩
    rotate_left
    · omega
    have ne : ¬ F_m_isAhead o T kI (0 : Int32) (40 : Int32) = (0 : Int32) := by rw [e]; decide +kernel
    rcases mx_op (o := o) (a := 1) (b := (8 : Int32) * a2 + a1) t3.1 z1 (by decide) (by rw [p4]; exact p5) with ⟨f, v⟩ | ⟨f, v⟩
    · rw [p4] at v
      exact Or.inr ⟨(T, kI), F_m_opens_p2 rfl ne rfl rfl rfl (by rw [f]; decide +kernel), Or.inr ⟨k, hkI, by omega, v, t2⟩, t1⟩
    · rw [p4] at v
      obtain ⟨T1, y, e1, r1, l1, -⟩ := mx_tick1 (o := o) ok t1 okc.1 okc.2 t3
      refine Or.inl ⟨(_, T1), F_m_opens_p1 rfl ne rfl rfl rfl f (by rw [e1]) rfl rfl, r1, fun m hm => ?_, fun hk1 => ?_⟩
      · by_cases u : m = k
        · rw [u]
          exact v
        · exact t2 m (by omega)
      · have e00 := s_n_00 (n := k) (G := G) (K := K) (r := G 0 3) (A := A) (by omega)
        rw [s_tu_tk (by rw [e00]; omega)] at l1
        exact ⟨_, l1⟩) (fun kI s hkI hP => by
    obtain ⟨w, T⟩ := s
    obtain ⟨t1, t2, -⟩ := hP
    rcases come T (W + 1) kI t1 hkI with ⟨-, e⟩ | ⟨e, -⟩
    · omega
    · exact ⟨(T, (-1 : Int32)), F_m_opens_p0 rfl e, Or.inl ⟨m1, fun m hm => t2 m (by omega)⟩, t1⟩) ((42 - ((0 : Int32)).toInt).toNat + 1) 0 0 (S2.2.1 29 (1 : Int32).toNatClampNeg, S2) (by rw [z0]; omega) (by omega) z0 ⟨r2, fun m hm => absurd hm (Nat.not_lt_zero m), fun _ => ⟨L, l2⟩⟩
  refine Or.inl ⟨⟨p1, p2⟩, ?_⟩
  rw [F_m_opens_p3 rfl q0 e2.symm rfl]
  exact ⟨_, _, rfl, main.1, main.2⟩
/-- grades of tubs, and worth -/
theorem s_tg_b (h : ∀ k, k < 10 → 0 ≤ A 6 k ∧ A 6 k ≤ 99) : ∀ n : Nat, n ≤ 10 → 0 ≤ s_tg A n ∧ s_tg A n ≤ 891 * n
  | 0, _ => ⟨Int.le_refl _, by show (0 : Int) ≤ 891 * ((0 : Nat) : Int); omega⟩
  | n + 1, hn => by
    have h1 := s_tg_b h n (by omega)
    have h2 := h n (by omega)
    have h3 : 0 ≤ (n : Int) * A 6 n := Int.mul_nonneg (by omega) h2.1
    have h4 : (n : Int) * A 6 n ≤ 9 * 99 := Int.mul_le_mul (by omega) h2.2 h2.1 (by omega)
    show 0 ≤ s_tg A n + n * A 6 n ∧ s_tg A n + n * A 6 n ≤ 891 * ((n + 1 : Nat) : Int)
    omega
theorem s_ws_b (h : s_cw G A) : ∀ n : Nat, 0 ≤ s_ws G A n ∧ s_ws G A n ≤ 9 * n
  | 0 => ⟨Int.le_refl _, by show (0 : Int) ≤ 9 * ((0 : Nat) : Int); omega⟩
  | n + 1 => by
    have h1 := s_ws_b h n
    show 0 ≤ s_ws G A n + s_if (s_so G A n) (s_c A n) 0 ∧ s_ws G A n + s_if (s_so G A n) (s_c A n) 0 ≤ 9 * ((n + 1 : Nat) : Int)
    by_cases q : s_so G A n
    · rw [s_if_y q]
      have := q.2
      have := (h.1 n q.1).2
      omega
    · rw [s_if_n q]
      omega
theorem mx_tubGrades {v : Nat} (hl : mx_lay G A L S v) (hw : s_wf G A) (ha1 : a1.toInt = v) (hv : v ≤ 40) : (F_m_tubGrades o S a1).toInt = s_tg A 10 := by
  have z0 : (0 : Int32).toInt = 0 := by decide +kernel
  have z10 : (10 : Int32).toInt = 10 := by decide +kernel
  have e10 : (10 : Int32).toInt = ((10 : Nat) : Int) := by decide +kernel
  have w5 := hw.2.2.2.2.2
  obtain ⟨-, -, -, -, -, -, y7, -⟩ := hl
  rw [F_m_tubGrades_p2]
  refine lp_cnt (f := F_m_tubGrades_B1 a1 S) (z := (0 : Int32)) (W := 10) (P := fun c s => s.toInt = s_tg A c) (Q := fun q => q.toInt = s_tg A 10) (by omega) (fun c cI s hc hcI hP => ?_) (fun cI s hcI hP => ?_) ((11 - ((0 : Int32)).toInt).toNat + 1) 0 0 0 (by rw [z0]; decide) (by decide) z0 z0
  · have hP : s.toInt = s_tg A c := hP
    have b := s_tg_b w5 c (by omega)
    have hv' := y7 c hc
    have w5c := w5 c hc
    have pl := mx_pl ha1 hv hcI (by omega) e10 (by omega) (by omega)
    have h3 : 0 ≤ (c : Int) * A 6 c := Int.mul_nonneg (by omega) w5c.1
    have h4 : (c : Int) * A 6 c ≤ 9 * 99 := Int.mul_le_mul (by omega) w5c.2 w5c.1 (by omega)
    refine ⟨_, F_m_tubGrades_p1 (fun q => by have := dk_gec z10 q; omega) rfl rfl rfl rfl rfl rfl, ?_⟩
    rw [pl]
    exact dk_addT hP (dk_mulT hcI hv' (by omega) (by omega)) (by omega) (by omega)
  · exact ⟨s, F_m_tubGrades_p0 (dk_gep z10 (by omega)), hP⟩
theorem mx_worthOf {v : Nat} (hg : mx_gd G S) (hG : s_gb G) (hl : mx_lay G A L S v) (hw : s_wf G A) (hcw : s_cw G A) (ha1 : a1.toInt = v) (hv : v ≤ 40) : (F_m_worthOf o S a1).toInt = s_wo G A := by
  have z0 : (0 : Int32).toInt = 0 := by decide +kernel
  have z64 : (64 : Int32).toInt = 64 := by decide +kernel
  have tg := s_tg_b hw.2.2.2.2.2 10 (by decide)
  rw [F_m_worthOf_p6 rfl]
  unfold s_wo
  refine lp_cnt (f := F_m_worthOf_B1 o S a1) (z := (0 : Int32)) (W := 64) (P := fun c s => s.toInt = s_tg A 10 + s_ws G A c) (Q := fun q => q.toInt = s_tg A 10 + s_ws G A 64) (by omega) (fun c cI s hc hcI hP => ?_) (fun cI s hcI hP => ?_) ((65 - ((0 : Int32)).toInt).toNat + 1) 0 0 (F_m_tubGrades o S a1) (by rw [z0]; decide) (by decide) z0 (by
    show (F_m_tubGrades o S a1).toInt = s_tg A 10 + 0
    rw [mx_tubGrades hl hw ha1 hv]
    omega)
  · have hP : s.toInt = s_tg A 10 + s_ws G A c := hP
    have b := s_ws_b hcw c
    have q0 : ¬ (64 : Int32) ≤ cI := fun q => by have := dk_gec z64 q; omega
    have stay : ¬ s_so G A c → F_m_worthOf_B1 o S a1 (cI, s) = F_m_worthOf_J3 s cI → ∃ s1, F_m_worthOf_B1 o S a1 (cI, s) = .inl (cI + 1, s1) ∧ s1.toInt = s_tg A 10 + s_ws G A (c + 1) := fun hn e => by
      refine ⟨s + (0 : Int32), ?_, ?_⟩
      · rw [e, F_m_worthOf_p2]
        exact F_m_worthOf_p1 rfl rfl
      · show _ = s_tg A 10 + (s_ws G A c + s_if (s_so G A c) (s_c A c) 0)
        rw [s_if_n hn, dk_addT hP z0 (by omega) (by omega)]
        omega
    rcases mx_isCellOf (o := o) (a := cI) hg hG with ⟨e1, y1⟩ | ⟨e1, y1⟩
    rotate_left
    · rw [hcI] at y1
      exact stay (fun z => y1 z.1) (F_m_worthOf_p3 q0 rfl e1)
    have n1 : ¬ F_m_isCellOf o S cI = (0 : Int32) := by rw [e1]; decide +kernel
    rcases mx_op (o := o) (a := a1) (b := cI) hl.1 ha1 hv y1 with ⟨e2, y2⟩ | ⟨e2, y2⟩
    · rw [hcI] at y2
      exact stay (fun z => by have := z.2; have := y2.2; omega) (F_m_worthOf_p4 q0 rfl n1 rfl (by rw [e2]; decide +kernel))
    · have hso := (s_so_n (A := A) y1).mpr y2
      have ad := mx_adr (a := a1) (b := cI) ha1 hv y1.1
      rw [hcI] at hso ad y1
      have v := mx_grade hl.1 y1 (i := mx_ad v c) rfl
      have h2 := hso.2
      rw [if_neg (by omega)] at v
      have cb := (hcw.1 c y1).2
      refine ⟨s + S.2.1 31 ((64 : Int32) * a1 + cI).toNatClampNeg, ?_, ?_⟩
      · rw [F_m_worthOf_p5 q0 rfl n1 rfl e2 rfl rfl rfl]
        exact F_m_worthOf_p1 rfl rfl
      · show _ = s_tg A 10 + (s_ws G A c + s_if (s_so G A c) (s_c A c) 0)
        rw [s_if_y hso, ad, dk_addT hP v (by omega) (by omega)]
        omega
  · exact ⟨s, F_m_worthOf_p0 (dk_gep z64 (by omega)), hP⟩
/-- WORTH of the reference -/
theorem mx_worth (ok : s_ok G K A U) (h : RM G K A L U x S) : ((0 ≤ a1.toInt ∧ a1.toInt ≤ 40 ∧ A 0 0 + a1.toInt ≤ 999) ∧ ∃ (S1 : dg_S) (y : Int32), F_m_worth o S a1 = (S1, y) ∧ y.toInt = s_wo G (s_n G K (G 0 3) a1.toInt.toNat A) ∧ RM G K A L U x S1) ∨ (¬ (0 ≤ a1.toInt ∧ a1.toInt ≤ 40 ∧ A 0 0 + a1.toInt ≤ 999) ∧ F_m_worth o S a1 = (S, (-1 : Int32))) := by
  have z0 : (0 : Int32).toInt = 0 := by decide +kernel
  have z1 : (1 : Int32).toInt = 1 := by decide +kernel
  have z40 : (40 : Int32).toInt = 40 := by decide +kernel
  have hcm := mx_come (o := o) (a1 := a1) (a2 := 0) (a3 := 40) h.1.1.1 h.2.1 ok.2.2.1.1 (by decide +kernel) (by decide +kernel)
  rw [z0, z40] at hcm
  rcases hcm with ⟨e, w⟩ | ⟨e, w⟩
  rotate_left
  · exact Or.inr ⟨w, F_m_worth_p1 rfl e⟩
  have ne : ¬ F_m_isAhead o S a1 (0 : Int32) (40 : Int32) = (0 : Int32) := by rw [e]; decide +kernel
  obtain ⟨S2, e2, r2, l2⟩ := mx_try (o := o) ok h
  obtain ⟨S3, L1, e3, r3, l3⟩ := mx_runs (o := o) (a1 := a1) (n := a1.toInt.toNat) ok r2 ok.2.2.1.1 ok.2.2.1.2 l2 (by omega) (by omega) (by omega)
  have okn := s_n_ok (K := K) (r := G 0 3) ok.1.1 ok.2.2.1.1 ok.2.2.1.2 a1.toInt.toNat
  exact Or.inl ⟨w, S3, _, F_m_worth_p0 rfl ne e2.symm e3.symm rfl, mx_worthOf r3.1.1.1 ok.1.1.1 l3 okn.1 okn.2 z1 (by decide), r3⟩
end DA
