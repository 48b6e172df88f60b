/-! selling: both sides -/
/-- so many tubs from a grade on -/
def s_sz (A : aR) (g : Nat) : Nat → Int
  | 0 => 0
  | c + 1 => s_sz A g c + A 6 (g + c)
/-- tubs are given, the lowest grade first: how many are left to give, and the pit -/
def s_gv (g : Nat) (l : Int) (A : aR) : Nat → Int × aR
  | 0 => (l, A)
  | c + 1 => ((s_gv g l A c).1 - min ((s_gv g l A c).2 6 (g + c)) (s_gv g l A c).1, s_up (s_gv g l A c).2 6 (g + c) ((s_gv g l A c).2 6 (g + c) - min ((s_gv g l A c).2 6 (g + c)) (s_gv g l A c).1))
section CW
variable {o oX oM g n : Nat} {G A A' : aR} {K : Nat → List Int} {L L' : s_L} {U : s_U} {S S0 S1 SX SM : dg_S} {x x' r c v l : Int} {a a1 a2 a3 a4 y : Int32}
theorem s_sm_b (h : ∀ k, k < 10 → 0 ≤ A 6 k ∧ A 6 k ≤ 99) : ∀ c : Nat, n + c ≤ 10 → 0 ≤ s_sz A n c ∧ s_sz A n c ≤ 99 * c
  | 0, _ => ⟨Int.le_refl _, by show (0 : Int) ≤ 99 * ((0 : Nat) : Int); omega⟩
  | c + 1, hc => by
    have h1 := s_sm_b h c (by omega)
    have h2 := h (n + c) (by omega)
    show 0 ≤ s_sz A n c + A 6 (n + c) ∧ s_sz A n c + A 6 (n + c) ≤ 99 * ((c + 1 : Nat) : Int)
    omega
theorem cx_tubsFrom {p : Nat} (hp : cx_pit G A S p) (hw : s_wf G A) (ha : a1.toInt = n) (hn : n ≤ 10) : (F_p_tubsFrom o S p a1).toInt = s_sz A n (10 - n) := by
  have z0 : (0 : Int32).toInt = 0 := by decide +kernel
  have z9 : (9 : Int32).toInt = 9 := by decide +kernel
  have w5 := hw.2.2.2.2.2
  obtain ⟨-, -, -, -, -, -, y7⟩ := hp
  rw [F_p_tubsFrom_p2]
  refine lp_cnt (f := F_p_tubsFrom_B1 S p) (z := (0 : Int32)) (W := 10) (P := fun c s => n ≤ c ∧ s.toInt = s_sz A n (c - n)) (Q := fun q => q.toInt = s_sz A n (10 - n)) (by omega) (fun c cI s hc hcI hP => ?_) (fun cI s hcI hP => ?_) ((11 - (a1 : Int32).toInt).toNat + 1) n a1 0 (by omega) hn ha ⟨Nat.le_refl _, by rw [Nat.sub_self, z0]; rfl⟩
  · obtain ⟨p1, p2⟩ := hP
    have cn : cI.toNatClampNeg = c := by rw [dk_clN]; omega
    have b := s_sm_b (n := n) w5 (c - n) (by omega)
    have hv := y7 c hc
    have w5c := w5 c hc
    refine ⟨_, F_p_tubsFrom_p1 (fun q => by have := dk_gtc z9 q; omega) rfl rfl rfl, by omega, ?_⟩
    rw [cn, dk_addT p2 hv (by omega) (by omega), show c + 1 - n = (c - n) + 1 by omega]
    show _ = s_sz A n (c - n) + A 6 (n + (c - n))
    rw [show n + (c - n) = c by omega]
  · exact ⟨s, F_p_tubsFrom_p0 (dk_gtp z9 (by omega)), hP.2⟩
theorem mx_tubsFrom {v : Nat} (hl : mx_lay G A L S v) (hw : s_wf G A) (ha1 : a1.toInt = v) (hv : v ≤ 40) (ha : a2.toInt = n) (hn : n ≤ 10) : (F_m_tubsFrom o S a1 a2).toInt = s_sz A n (10 - n) := by
  have z0 : (0 : Int32).toInt = 0 := by decide +kernel
  have z10 : (10 : Int32).toInt = 10 := by decide +kernel
  have e10 : (10 : Int32).toInt = ((10 : Nat) : Int) := by decide +kernel
  have w5 := hw.2.2.2.2.2
  obtain ⟨-, -, -, -, -, -, y7, -⟩ := hl
  rw [F_m_tubsFrom_p2]
  refine lp_cnt (f := F_m_tubsFrom_B1 a1 S) (z := (0 : Int32)) (W := 10) (P := fun c s => n ≤ c ∧ s.toInt = s_sz A n (c - n)) (Q := fun q => q.toInt = s_sz A n (10 - n)) (by omega) (fun c cI s hc hcI hP => ?_) (fun cI s hcI hP => ?_) ((10000 - (a2 : Int32).toInt).toNat + 1) n a2 0 (by omega) hn ha ⟨Nat.le_refl _, by rw [Nat.sub_self, z0]; rfl⟩
  · obtain ⟨p1, p2⟩ := hP
    have b := s_sm_b (n := n) w5 (c - n) (by omega)
    have hv' := y7 c hc
    have w5c := w5 c hc
    have pl := mx_pl ha1 hv hcI (by omega) e10 (by omega) (by omega)
    refine ⟨_, F_m_tubsFrom_p1 (fun q => by have := dk_gec z10 q; omega) rfl rfl rfl rfl rfl, by omega, ?_⟩
    rw [pl, dk_addT p2 hv' (by omega) (by omega), show c + 1 - n = (c - n) + 1 by omega]
    show _ = s_sz A n (c - n) + A 6 (n + (c - n))
    rw [show n + (c - n) = c by omega]
  · exact ⟨s, F_m_tubsFrom_p0 (dk_gep z10 (by omega)), hP.2⟩
/-- what giving tubs leaves -/
theorem s_gv_b (h : ∀ k, k < 10 → 0 ≤ A 6 k ∧ A 6 k ≤ 99) (hl : 0 ≤ l ∧ l ≤ 99) : ∀ c : Nat, n + c ≤ 10 → (0 ≤ (s_gv n l A c).1 ∧ (s_gv n l A c).1 ≤ l) ∧ (∀ k, k < 10 → 0 ≤ (s_gv n l A c).2 6 k ∧ (s_gv n l A c).2 6 k ≤ 99) ∧ ∀ i k, i ≠ 6 → (s_gv n l A c).2 i k = A i k
  | 0, _ => ⟨⟨hl.1, Int.le_refl _⟩, h, fun _ _ _ => rfl⟩
  | c + 1, hc => by
    obtain ⟨h1, h2, h3⟩ := s_gv_b h hl c (by omega)
    have h4 := h2 (n + c) (by omega)
    refine ⟨?_, fun k hk => ?_, fun i k hi => ?_⟩
    · show 0 ≤ (s_gv n l A c).1 - min ((s_gv n l A c).2 6 (n + c)) (s_gv n l A c).1 ∧ (s_gv n l A c).1 - min ((s_gv n l A c).2 6 (n + c)) (s_gv n l A c).1 ≤ l
      omega
    · show 0 ≤ s_up (s_gv n l A c).2 6 (n + c) _ 6 k ∧ s_up (s_gv n l A c).2 6 (n + c) _ 6 k ≤ 99
      by_cases z : k = n + c
      · rw [z, s_up_at]
        omega
      · rw [s_up_ne (fun y => z y.2)]
        exact h2 k hk
    · show s_up (s_gv n l A c).2 6 (n + c) _ i k = A i k
      rw [s_up_ne (fun y => hi y.1)]
      exact h3 i k hi
/-- an order is sold -/
noncomputable def s_sl (G A : aR) (k : Nat) : aR := s_up (s_up (s_gv (G 2 k).toNat (G 3 k) A (10 - (G 2 k).toNat)).2 5 k 1) 0 1 (min 99999 (A 0 1 + G 4 k))
def s_cs (G A : aR) (k : Int) : Prop := (0 ≤ k ∧ k < G 0 7) ∧ A 5 k.toNat = 0 ∧ G 3 k.toNat ≤ s_sz A (G 2 k.toNat).toNat (10 - (G 2 k.toNat).toNat)
theorem s_sl_ok (ok : s_ok G K A U) {k : Int} (hk : 0 ≤ k ∧ k < G 0 7) : s_ok G K (s_sl G A k.toNat) U := by
  obtain ⟨hG, hK, ⟨⟨w0, w1, w2, w3, w4, w5⟩, hcw⟩, hU⟩ := ok
  obtain ⟨g2, g3, g4⟩ := hG.2.2.2.2.2.2.2 k.toNat (by omega)
  obtain ⟨b1, b2, b3⟩ := s_gv_b (n := (G 2 k.toNat).toNat) (l := G 3 k.toNat) w5 ⟨by omega, by omega⟩ (10 - (G 2 k.toNat).toNat) (by omega)
  have E : ∀ a b, a ≠ 0 → a ≠ 5 → a ≠ 6 → s_sl G A k.toNat a b = A a b := fun a b i0 i5 i6 => by
    unfold s_sl
    rw [s_up_ne (fun z => i0 z.1), s_up_ne (fun z => i5 z.1), b3 a b i6]
  have e00 : s_sl G A k.toNat 0 0 = A 0 0 := by
    unfold s_sl
    rw [s_up_ne (fun z => absurd z.2 (by decide)), s_up_ne (fun z => absurd z.1 (by decide)), b3 0 0 (by decide)]
  have e01 : s_sl G A k.toNat 0 1 = min 99999 (A 0 1 + G 4 k.toNat) := by
    unfold s_sl
    rw [s_up_at]
  have e5 : ∀ j, s_sl G A k.toNat 5 j = if j = k.toNat then 1 else A 5 j := fun j => by
    unfold s_sl
    rw [s_up_ne (fun z => absurd z.1 (by decide))]
    by_cases z : j = k.toNat
    · rw [if_pos z, z, s_up_at]
    · rw [if_neg z, s_up_ne (fun y => z y.2), b3 5 j (by decide)]
  have e6 : ∀ j, s_sl G A k.toNat 6 j = (s_gv (G 2 k.toNat).toNat (G 3 k.toNat) A (10 - (G 2 k.toNat).toNat)).2 6 j := fun j => by
    unfold s_sl
    rw [s_up_ne (fun z => absurd z.1 (by decide)), s_up_ne (fun z => absurd z.1 (by decide))]
  refine ⟨hG, hK, ⟨⟨by rw [e00]; exact w0, by rw [e01]; omega, fun j hj => by rw [E _ _ (by decide) (by decide) (by decide)]; exact w2 j hj, fun j hj => by rw [E _ _ (by decide) (by decide) (by decide), E _ _ (by decide) (by decide) (by decide)]; exact w3 j hj, fun j hj => ?_, fun j hj => by rw [e6]; exact b2 j hj⟩, fun d hd => ?_, hcw.2.1, ?_⟩, hU⟩
  · rw [e5]
    split
    · exact Or.inr rfl
    · exact w4 j hj
  · show -2 ≤ s_sl G A k.toNat 1 d.toNat ∧ s_sl G A k.toNat 1 d.toNat ≤ 9
    rw [E _ _ (by decide) (by decide) (by decide)]
    exact hcw.1 d hd
  · show s_sl G A k.toNat 1 (G 0 2).toNat = -1
    rw [E _ _ (by decide) (by decide) (by decide)]
    exact hcw.2.2
theorem cx_canSell (ok : s_ok G K A U) (h : RX o g G K A L U x S) (hk : 0 ≤ a1.toInt ∧ a1.toInt < G 0 7) : F_d_canBeSold o S a1 = 1 ∧ s_cs G A a1.toInt ∨ F_d_canBeSold o S a1 = 0 ∧ ¬ s_cs G A a1.toInt := by
  have hG := ok.1
  have z0 : (0 : Int32).toInt = 0 := by decide +kernel
  have h7 := hG.2.2.2.2.1
  have kn : a1.toNatClampNeg = a1.toInt.toNat := rfl
  obtain ⟨g2, g3, g4⟩ := hG.2.2.2.2.2.2.2 a1.toInt.toNat (by omega)
  obtain ⟨o2, o3, o4⟩ := h.2.1.2.2.2.2 a1.toInt.toNat (by omega)
  have s5 : (S.2.1 8 a1.toNatClampNeg).toInt = A 5 a1.toInt.toNat := h.2.2.1.2.2.2.2.2.1 a1.toInt.toNat (by omega)
  have w4 := ok.2.2.1.1.2.2.2.2.1 a1.toInt.toNat (by omega)
  by_cases q1 : S.2.1 8 a1.toNatClampNeg = (0 : Int32)
  rotate_left
  · have d := dk_neqc z0 q1
    exact Or.inr ⟨F_d_canBeSold_p0 rfl q1, fun z => by have := z.2.1; omega⟩
  have d1 := dk_eqc z0 q1
  have et := cx_tubsFrom (o := o) (a1 := S.2.1 (g + 6) a1.toNatClampNeg) (n := (G 2 a1.toInt.toNat).toNat) h.2.2.1 ok.2.2.1.1 (by rw [kn, o2]; omega) (by omega)
  by_cases q2 : F_p_tubsFrom o S 3 (S.2.1 (g + 6) a1.toNatClampNeg) < S.2.1 (g + 7) a1.toNatClampNeg
  · have d2 := w_lt.mp q2
    rw [et, kn, o3] at d2
    exact Or.inr ⟨F_d_canBeSold_p1 rfl q1 h.1.symm rfl rfl rfl q2, fun z => by have := z.2.2; omega⟩
  · have d2 : ¬ (F_p_tubsFrom o S 3 (S.2.1 (g + 6) a1.toNatClampNeg)).toInt < (S.2.1 (g + 7) a1.toNatClampNeg).toInt := fun z => q2 (w_lt.mpr z)
    rw [et, kn, o3] at d2
    exact Or.inl ⟨F_d_canBeSold_p2 rfl q1 h.1.symm rfl rfl rfl q2, hk, by omega, by omega⟩
theorem mx_canSell (ok : s_ok G K A U) (h : RM G K A L U x S) : F_m_canSell o S a1 = 1 ∧ s_cs G A a1.toInt ∨ F_m_canSell o S a1 = 0 ∧ ¬ s_cs G A a1.toInt := by
  have hG := ok.1
  have z0 : (0 : Int32).toInt = 0 := by decide +kernel
  have n0 : (0 : Int32).toNatClampNeg = 0 := by decide +kernel
  have h7 := hG.2.2.2.2.1
  rcases mx_order (o := o) (a1 := a1) h.1 with ⟨e, hk⟩ | ⟨e, hk⟩
  rotate_left
  · exact Or.inr ⟨F_m_canSell_p0 rfl e, fun z => hk z.1⟩
  have ne : ¬ F_m_isOrder o S a1 = (0 : Int32) := by rw [e]; decide +kernel
  obtain ⟨g2, g3, g4⟩ := hG.2.2.2.2.2.2.2 a1.toInt.toNat (by omega)
  obtain ⟨o2, o3, o4⟩ := h.1.2.2.2.2 a1.toInt.toNat (by omega)
  obtain ⟨hb1, hb2⟩ := h.2.1.2.2.2.2.2.1
  have hu := hb2 a1.toInt.toNat (by omega)
  rcases mx_has2 (o := o) (S := S) (a := S.2.1 34 (0 : Int32).toNatClampNeg) (b := a1) (by rw [n0]; exact hb1) (by omega) with ⟨q4, y4⟩ | ⟨q4, y4⟩
  · rw [n0, ← hu] at y4
    exact Or.inr ⟨F_m_canSell_p1 rfl ne rfl rfl (by rw [q4]; decide +kernel), fun z => by have := z.2.1; omega⟩
  rw [n0, ← hu] at y4
  obtain ⟨b, hb1', hbk, -⟩ := h.1.1.2
  have bn : (zI S 0 13).toNatClampNeg = b := by rw [dk_clN]; omega
  rw [bn] at o2 o3
  have e5 : (5 : Int32).toInt = ((5 : Nat) : Int) := by decide +kernel
  have pl : ((5 : Int32) * zI S 0 13 + a1).toNatClampNeg = 5 * b + a1.toInt.toNat := mx_pl (c := a1.toInt.toNat) hbk (by omega) (by omega) (by omega) e5 (by omega) (by omega)
  have et := mx_tubsFrom (o := o) (a1 := 0) (a2 := S.2.1 13 ((5 : Int32) * zI S 0 13 + a1).toNatClampNeg) (n := (G 2 a1.toInt.toNat).toNat) h.2.1 ok.2.2.1.1 z0 (by decide) (by rw [pl, o2]; omega) (by omega)
  by_cases q2 : F_m_tubsFrom o S (0 : Int32) (S.2.1 13 ((5 : Int32) * zI S 0 13 + a1).toNatClampNeg) < S.2.1 14 ((5 : Int32) * zI S 0 13 + a1).toNatClampNeg
  · have d2 := w_lt.mp q2
    rw [et, pl, o3] at d2
    exact Or.inr ⟨F_m_canSell_p2 rfl ne rfl rfl q4 rfl rfl rfl rfl rfl rfl rfl rfl q2, fun z => by have := z.2.2; omega⟩
  · have d2 : ¬ (F_m_tubsFrom o S (0 : Int32) (S.2.1 13 ((5 : Int32) * zI S 0 13 + a1).toNatClampNeg)).toInt < (S.2.1 14 ((5 : Int32) * zI S 0 13 + a1).toNatClampNeg).toInt := fun z => q2 (w_lt.mpr z)
    rw [et, pl, o3] at d2
    exact Or.inl ⟨F_m_canSell_p3 rfl ne rfl rfl q4 rfl rfl rfl rfl rfl rfl rfl rfl q2, hk, by omega, by omega⟩
theorem cx_give {l0 : Int} {A0 : aR} (hw : ∀ k, k < 10 → 0 ≤ A0 6 k ∧ A0 6 k ≤ 99) (hp : ∀ k, k < 10 → (S.2.1 9 k).toInt = A0 6 k) (ha : a1.toInt = n) (hn : n ≤ 10) (hl : a2.toInt = l0) (hl9 : 0 ≤ l0 ∧ l0 ≤ 99) : ∃ S1, F_p_giveTubs o S 3 a1 a2 = S1 ∧ (∀ k, k < 10 → (S1.2.1 9 k).toInt = (s_gv n l0 A0 (10 - n)).2 6 k) ∧ kp (fun _ _ => False) (fun a => a = 9) S S1 := by
  have z9 : (9 : Int32).toInt = 9 := by decide +kernel
  refine ⟨_, rfl, ?_⟩
  rw [F_p_giveTubs_p2]
  refine lp_cnt (f := F_p_giveTubs_B1 3) (z := S) (W := 10) (P := fun c s => n ≤ c ∧ s.1.toInt = (s_gv n l0 A0 (c - n)).1 ∧ (∀ k, k < 10 → (s.2.2.1 9 k).toInt = (s_gv n l0 A0 (c - n)).2 6 k) ∧ kp (fun _ _ => False) (fun a => a = 9) S s.2) (Q := fun q => (∀ k, k < 10 → (q.2.1 9 k).toInt = (s_gv n l0 A0 (10 - n)).2 6 k) ∧ kp (fun _ _ => False) (fun a => a = 9) S q) (by omega) (fun c cI s hc hcI hP => ?_) (fun cI s hcI hP => ?_) ((11 - (a1 : Int32).toInt).toNat + 1) n a1 (a2, S) (by omega) hn ha ⟨Nat.le_refl _, by rw [Nat.sub_self]; exact hl, fun k hk => by rw [Nat.sub_self]; exact hp k hk, kp.rf⟩
  · obtain ⟨m, T⟩ := s
    obtain ⟨p1, p2, p3, p4⟩ := hP
    have p2 : m.toInt = (s_gv n l0 A0 (c - n)).1 := p2
    have p3 : ∀ k, k < 10 → (T.2.1 9 k).toInt = (s_gv n l0 A0 (c - n)).2 6 k := p3
    have cn : cI.toNatClampNeg = c := by rw [dk_clN]; omega
    obtain ⟨b1, b2, -⟩ := s_gv_b (n := n) (l := l0) hw hl9 (c - n) (by omega)
    have v := p3 c hc
    have vb := b2 c hc
    obtain ⟨x31, h31⟩ : ∃ y, y = T.2.1 9 cI.toNatClampNeg := ⟨_, rfl⟩
    have e31 : x31.toInt = (s_gv n l0 A0 (c - n)).2 6 c := by rw [h31, cn]; exact v
    obtain ⟨x32, h32⟩ : ∃ y, y = if x31 < m then x31 else m := ⟨_, rfl⟩
    have e32 : x32.toInt = min ((s_gv n l0 A0 (c - n)).2 6 c) (s_gv n l0 A0 (c - n)).1 := by
      rw [h32]
      by_cases w : x31 < m
      · have := w_lt.mp w
        rw [if_pos w]
        omega
      · have : ¬ x31.toInt < m.toInt := fun z => w (w_lt.mpr z)
        rw [if_neg w]
        omega
    have e35 : (x31 - x32).toInt = (s_gv n l0 A0 (c - n)).2 6 c - min ((s_gv n l0 A0 (c - n)).2 6 c) (s_gv n l0 A0 (c - n)).1 := dk_subT e31 e32 (by omega) (by omega)
    have e38 : (m - x32).toInt = (s_gv n l0 A0 (c - n)).1 - min ((s_gv n l0 A0 (c - n)).2 6 c) (s_gv n l0 A0 (c - n)).1 := dk_subT p2 e32 (by omega) (by omega)
    have es : s_gv n l0 A0 (c + 1 - n) = ((s_gv n l0 A0 (c - n)).1 - min ((s_gv n l0 A0 (c - n)).2 6 c) (s_gv n l0 A0 (c - n)).1, s_up (s_gv n l0 A0 (c - n)).2 6 c ((s_gv n l0 A0 (c - n)).2 6 c - min ((s_gv n l0 A0 (c - n)).2 6 c) (s_gv n l0 A0 (c - n)).1)) := by
      rw [show c + 1 - n = (c - n) + 1 by omega]
      show ((s_gv n l0 A0 (c - n)).1 - min ((s_gv n l0 A0 (c - n)).2 6 (n + (c - n))) (s_gv n l0 A0 (c - n)).1, s_up (s_gv n l0 A0 (c - n)).2 6 (n + (c - n)) ((s_gv n l0 A0 (c - n)).2 6 (n + (c - n)) - min ((s_gv n l0 A0 (c - n)).2 6 (n + (c - n))) (s_gv n l0 A0 (c - n)).1)) = _
      rw [show n + (c - n) = c by omega]
    obtain ⟨T1, hT1⟩ : ∃ X, X = dg_uf T 9 (upd (T.2.1 9) cI.toNatClampNeg (x31 - x32)) := ⟨_, rfl⟩
    refine ⟨(m - x32, T1), F_p_giveTubs_p1 (fun q => by have := dk_gtc z9 q; omega) h31 h32 rfl hT1 rfl rfl, by omega, ?_, fun k hk => ?_, by rw [hT1]; exact kp.uf p4 rfl⟩
    · rw [es]
      exact e38
    · rw [es]
      show (T1.2.1 9 k).toInt = s_up (s_gv n l0 A0 (c - n)).2 6 c _ 6 k
      rw [hT1, w_f, if_pos rfl, w_u, cn]
      by_cases z : k = c
      · rw [if_pos z, z, s_up_at]
        exact e35
      · rw [if_neg z, s_up_ne (fun y => z y.2)]
        exact p3 k hk
  · obtain ⟨m, T⟩ := s
    exact ⟨T, F_p_giveTubs_p0 (dk_gtp z9 (by omega)), hP.2.2.1, hP.2.2.2⟩
theorem cx_sell (ok : s_ok G K A U) (h : RX o g G K A L U x S) : (s_cs G A a1.toInt ∧ ∃ (S1 : dg_S) (y : Int32), F_d_sell o S a1 = (S1, y) ∧ y.toInt = min 99999 (A 0 1 + G 4 a1.toInt.toNat) ∧ RX o g G K (s_sl G A a1.toInt.toNat) L (s_ud U (A, L)) x S1) ∨ (¬ s_cs G A a1.toInt ∧ ∃ S1, S1 = (F_d_none o S (3 : Int32)).1 ∧ F_d_sell o S a1 = (S1, (-1 : Int32)) ∧ RX o g G K A L U x S1) := by
  have hG := ok.1
  have z0 : (0 : Int32).toInt = 0 := by decide +kernel
  have z1 : (1 : Int32).toInt = 1 := by decide +kernel
  have z9 : (99999 : Int32).toInt = 99999 := by decide +kernel
  obtain ⟨SN, -, f1, rN, -⟩ := cx_no (o := o) (a1 := 3) (k := 3) h (by decide +kernel)
  have n1 : SN = (F_d_none o S (3 : Int32)).1 := by rw [f1]
  have n2 : (-1 : Int32) = (F_d_none o S (3 : Int32)).2 := by rw [f1]
  rcases cx_order (o := o) (a1 := a1) h.2.1 with ⟨q3, y3⟩ | ⟨q3, y3⟩
  rotate_left
  · exact Or.inr ⟨fun z => y3 z.1, SN, n1, F_d_sell_p0 h.1.symm rfl q3 n1 n2, rN⟩
  have m3 : ¬ F_g_hasOrder o S g a1 = (0 : Int32) := by rw [q3]; decide +kernel
  rcases cx_canSell (o := o) (a1 := a1) ok h y3 with ⟨q4, y4⟩ | ⟨q4, y4⟩
  rotate_left
  · exact Or.inr ⟨y4, SN, n1, F_d_sell_p3 h.1.symm rfl m3 rfl q4 n1 n2, rN⟩
  have m4 : ¬ F_d_canBeSold o S a1 = (0 : Int32) := by rw [q4]; decide +kernel
  have h7 := hG.2.2.2.2.1
  have kn : a1.toNatClampNeg = a1.toInt.toNat := rfl
  obtain ⟨g2, g3, g4⟩ := hG.2.2.2.2.2.2.2 a1.toInt.toNat (by omega)
  obtain ⟨S13, e13, r13, k13⟩ := cx_act (o := o) hG h
  have hgx := r13.2.1
  have sep := rX_sep hgx.1.1
  obtain ⟨o2, o3, o4⟩ := hgx.2.2.2.2 a1.toInt.toNat (by omega)
  obtain ⟨y1, y2, y3', y4', y5, y6, y7⟩ := r13.2.2.1
  obtain ⟨w0, w1, w2, w3, w4, w5⟩ := ok.2.2.1.1
  obtain ⟨S18, e18, t18, k18⟩ := cx_give (o := o) (S := S13) (a1 := S13.2.1 (g + 6) a1.toNatClampNeg) (a2 := S13.2.1 (g + 7) a1.toNatClampNeg) (n := (G 2 a1.toInt.toNat).toNat) (l0 := G 3 a1.toInt.toNat) (A0 := A) w5 y7 (by rw [kn, o2]; omega) (by omega) (by rw [kn]; exact o3) ⟨by omega, by omega⟩
  obtain ⟨S20, h20⟩ : ∃ T, T = dg_uf S18 8 (upd (S18.2.1 8) a1.toNatClampNeg (1 : Int32)) := ⟨_, rfl⟩
  have t20 : kp (fun _ _ => False) (fun a => a = 9 ∨ a = 8) S13 S20 := by
    rw [h20]
    exact kp.uf (k18.w (fun _ _ z => z) (fun a z => Or.inl z)) (Or.inr rfl)
  have i22 : (zI S20 3 1).toInt = A 0 1 := by rw [t20.I id]; exact y3'
  have i24 : (S20.2.1 (g + 8) a1.toNatClampNeg).toInt = G 4 a1.toInt.toNat := by rw [(t20.2 (g + 8) (by omega)).1, kn]; exact o4
  have e25 : (zI S20 3 1 + S20.2.1 (g + 8) a1.toNatClampNeg).toInt = A 0 1 + G 4 a1.toInt.toNat := dk_addT i22 i24 (by omega) (by omega)
  obtain ⟨x26, h26⟩ : ∃ X, X = if zI S20 3 1 + S20.2.1 (g + 8) a1.toNatClampNeg < (99999 : Int32) then zI S20 3 1 + S20.2.1 (g + 8) a1.toNatClampNeg else (99999 : Int32) := ⟨_, rfl⟩
  have e26 : x26.toInt = min 99999 (A 0 1 + G 4 a1.toInt.toNat) := by
    rw [h26]
    by_cases w : zI S20 3 1 + S20.2.1 (g + 8) a1.toNatClampNeg < (99999 : Int32)
    · have := dk_ltc z9 w
      rw [if_pos w, e25]
      omega
    · have := dk_nltc z9 w
      rw [if_neg w, z9]
      omega
  obtain ⟨S27, h27⟩ : ∃ T, T = dg_uF S20 3 1 (.int x26) := ⟨_, rfl⟩
  have t27 : kp (fun a b => a = 3 ∧ b = 1) (fun a => a = 9 ∨ a = 8) S13 S27 := by
    rw [h27]
    exact kp.uF (t20.w (fun _ _ z => absurd z id) (fun a z => z)) ⟨rfl, rfl⟩
  refine Or.inl ⟨y4, S27, x26, ?_, e26, r13.act t27 ?_ (r13.2.2.2.1.keep (t27.I (by decide)) (t27.2 18 (by decide)).1) (by decide) (by decide) (fun a b _ _ => by omega) (by decide) (fun a b _ _ => by omega) (fun a _ _ => by omega) (fun a _ _ => by omega)⟩
  · rw [F_d_sell_p2 h.1.symm rfl m3 rfl m4 e13.symm rfl rfl e18.symm h20 rfl rfl rfl h26 h27]
    exact F_d_sell_p1
  · obtain ⟨b1, b2, b3⟩ := s_gv_b (n := (G 2 a1.toInt.toNat).toNat) (l := G 3 a1.toInt.toNat) w5 ⟨by omega, by omega⟩ (10 - (G 2 a1.toInt.toNat).toNat) (by omega)
    have E : ∀ a b, a ≠ 0 → a ≠ 5 → a ≠ 6 → s_sl G A a1.toInt.toNat a b = A a b := fun a b i0 i5 i6 => by
      unfold s_sl
      rw [s_up_ne (fun z => i0 z.1), s_up_ne (fun z => i5 z.1), b3 a b i6]
    have ro : ∀ i, i ≠ 8 → i ≠ 9 → S27.2.1 i = S13.2.1 i := fun i i8 i9 => (t27.2 i (by omega)).1
    refine ⟨fun z z0 z1 => ?_, ?_, ?_, fun k hk => by rw [ro _ (by decide) (by decide), E _ _ (by decide) (by decide) (by decide)]; exact y4' k hk, fun k hk => by rw [ro _ (by decide) (by decide), ro _ (by decide) (by decide), E _ _ (by decide) (by decide) (by decide), E _ _ (by decide) (by decide) (by decide)]; exact y5 k hk, fun k hk => ?_, fun k hk => ?_⟩
    · have h9 := (y1.keep (S1 := S27) (ro _ (by decide) (by decide))) z z0 z1
      unfold s_c at h9 ⊢
      rw [E _ _ (by decide) (by decide) (by decide)]
      exact h9
    · rw [t27.I (by decide)]
      unfold s_sl
      rw [s_up_ne (fun z => absurd z.2 (by decide)), s_up_ne (fun z => absurd z.1 (by decide)), b3 0 0 (by decide)]
      exact y2
    · rw [h27, w_I, if_pos ⟨rfl, rfl⟩]
      unfold s_sl
      rw [s_up_at]
      exact e26
    · have r8 : S27.2.1 (3 + 5) = upd (S13.2.1 8) a1.toNatClampNeg (1 : Int32) := by rw [h27, w_Ff, h20, w_f, if_pos rfl, (k18.2 8 (by decide)).1]
      rw [r8, w_u, kn]
      unfold s_sl
      rw [s_up_ne (fun z => absurd z.1 (by decide))]
      by_cases z : k = a1.toInt.toNat
      · rw [if_pos z, z, s_up_at]
        exact z1
      · rw [if_neg z, s_up_ne (fun y => z y.2), b3 5 k (by decide)]
        exact y6 k hk
    · have r9 : S27.2.1 (3 + 6) = S18.2.1 9 := by rw [h27, w_Ff, h20, w_f, if_neg (by decide)]
      rw [r9, t18 k hk]
      unfold s_sl
      rw [s_up_ne (fun z => absurd z.1 (by decide)), s_up_ne (fun z => absurd z.1 (by decide))]
/-- the reference gives tubs -/
theorem mx_give {l0 : Int} {A0 : aR} {b : Int32} (hw : ∀ k, k < 10 → 0 ≤ A0 6 k ∧ A0 6 k ≤ 99) (hp : ∀ k, k < 10 → (S.2.1 37 k).toInt = A0 6 k) (ha : a1.toInt = n) (hn : n ≤ 10) (hl : a2.toInt = l0) (hl9 : 0 ≤ l0 ∧ l0 ≤ 99) {z : dg_S × Int32} : ∃ S1, lp (F_m_sell_B2 a b) z ((10000 - (a1 : Int32).toInt).toNat + 1) (a1, a2, S) = F_m_sell_J1 S1 a b ∧ (∀ k, k < 10 → (S1.2.1 37 k).toInt = (s_gv n l0 A0 (10 - n)).2 6 k) ∧ k_v 0 S S1 ∧ ∀ i, i ≠ 37 → S1.2.1 i = S.2.1 i := by
  have z10 : (10 : Int32).toInt = 10 := by decide +kernel
  have w37 : mx_w 37 = 10 := rfl
  refine lp_cnt (f := F_m_sell_B2 a b) (z := z) (W := 10) (P := fun c s => n ≤ c ∧ s.1.toInt = (s_gv n l0 A0 (c - n)).1 ∧ (∀ k, k < 10 → (s.2.2.1 37 k).toInt = (s_gv n l0 A0 (c - n)).2 6 k) ∧ k_v 0 S s.2 ∧ ∀ i, i ≠ 37 → s.2.2.1 i = S.2.1 i) (Q := fun q => ∃ S1, q = F_m_sell_J1 S1 a b ∧ (∀ k, k < 10 → (S1.2.1 37 k).toInt = (s_gv n l0 A0 (10 - n)).2 6 k) ∧ k_v 0 S S1 ∧ ∀ i, i ≠ 37 → S1.2.1 i = S.2.1 i) (by omega) (fun c cI s hc hcI hP => ?_) (fun cI s hcI hP => ?_) ((10000 - (a1 : Int32).toInt).toNat + 1) n a1 (a2, S) (by omega) hn ha ⟨Nat.le_refl _, by rw [Nat.sub_self]; exact hl, fun k hk => by rw [Nat.sub_self]; exact hp k hk, k_v.rf, fun _ _ => rfl⟩
  · obtain ⟨m, T⟩ := s
    obtain ⟨p1, p2, p3, p4, p5⟩ := hP
    have p2 : m.toInt = (s_gv n l0 A0 (c - n)).1 := p2
    have p3 : ∀ k, k < 10 → (T.2.1 37 k).toInt = (s_gv n l0 A0 (c - n)).2 6 k := p3
    have p5 : ∀ i, i ≠ 37 → T.2.1 i = S.2.1 i := p5
    have cn : cI.toNatClampNeg = c := by rw [dk_clN]; omega
    obtain ⟨b1, b2, -⟩ := s_gv_b (n := n) (l := l0) hw hl9 (c - n) (by omega)
    have v := p3 c hc
    have vb := b2 c hc
    have q10 : ¬ (10 : Int32) ≤ cI := fun q => by have := dk_gec z10 q; omega
    have e31 : (T.2.1 37 cI.toNatClampNeg).toInt = (s_gv n l0 A0 (c - n)).2 6 c := by rw [cn]; exact v
    have es : s_gv n l0 A0 (c + 1 - n) = ((s_gv n l0 A0 (c - n)).1 - min ((s_gv n l0 A0 (c - n)).2 6 c) (s_gv n l0 A0 (c - n)).1, s_up (s_gv n l0 A0 (c - n)).2 6 c ((s_gv n l0 A0 (c - n)).2 6 c - min ((s_gv n l0 A0 (c - n)).2 6 c) (s_gv n l0 A0 (c - n)).1)) := by
      rw [show c + 1 - n = (c - n) + 1 by omega]
      show ((s_gv n l0 A0 (c - n)).1 - min ((s_gv n l0 A0 (c - n)).2 6 (n + (c - n))) (s_gv n l0 A0 (c - n)).1, s_up (s_gv n l0 A0 (c - n)).2 6 (n + (c - n)) ((s_gv n l0 A0 (c - n)).2 6 (n + (c - n)) - min ((s_gv n l0 A0 (c - n)).2 6 (n + (c - n))) (s_gv n l0 A0 (c - n)).1)) = _
      rw [show n + (c - n) = c by omega]
    have go : ∀ x32 : Int32, x32.toInt = min ((s_gv n l0 A0 (c - n)).2 6 c) (s_gv n l0 A0 (c - n)).1 → F_m_sell_B2 a b (cI, m, T) = F_m_sell_J3 (T.2.1 37 cI.toNatClampNeg) x32 T cI m → ∃ s1 : Int32 × dg_S, F_m_sell_B2 a b (cI, m, T) = .inl (cI + 1, s1) ∧ n ≤ c + 1 ∧ s1.1.toInt = (s_gv n l0 A0 (c + 1 - n)).1 ∧ (∀ k, k < 10 → (s1.2.2.1 37 k).toInt = (s_gv n l0 A0 (c + 1 - n)).2 6 k) ∧ k_v 0 S s1.2 ∧ ∀ i, i ≠ 37 → s1.2.2.1 i = S.2.1 i := fun x32 e32 F => by
      have e35 : (T.2.1 37 cI.toNatClampNeg - x32).toInt = (s_gv n l0 A0 (c - n)).2 6 c - min ((s_gv n l0 A0 (c - n)).2 6 c) (s_gv n l0 A0 (c - n)).1 := dk_subT e31 e32 (by omega) (by omega)
      have e38 : (m - x32).toInt = (s_gv n l0 A0 (c - n)).1 - min ((s_gv n l0 A0 (c - n)).2 6 c) (s_gv n l0 A0 (c - n)).1 := dk_subT p2 e32 (by omega) (by omega)
      obtain ⟨T1, hT1⟩ : ∃ X, X = dg_uf T 37 (upd (T.2.1 37) cI.toNatClampNeg (T.2.1 37 cI.toNatClampNeg - x32)) := ⟨_, rfl⟩
      refine ⟨(m - x32, T1), F.trans (F_m_sell_p3 rfl hT1 rfl rfl), by omega, ?_, fun k hk => ?_, ?_, fun i hi => ?_⟩
      · rw [es]
        exact e38
      · rw [es]
        show (T1.2.1 37 k).toInt = s_up (s_gv n l0 A0 (c - n)).2 6 c _ 6 k
        rw [hT1, w_f, if_pos rfl, w_u, cn]
        by_cases z : k = c
        · rw [if_pos z, z, s_up_at]
          rw [cn] at e35
          exact e35
        · rw [if_neg z, s_up_ne (fun y => z y.2)]
          exact p3 k hk
      · show k_v 0 S T1
        rw [hT1, cn]
        exact k_v.uf p4 (by decide) (by decide) ⟨by omega, by omega⟩
      · show T1.2.1 i = S.2.1 i
        rw [hT1, w_f, if_neg hi]
        exact p5 i hi
    by_cases q : m ≤ T.2.1 37 cI.toNatClampNeg
    · have d := w_le.mp q
      exact go m (by omega) (F_m_sell_p4 q10 rfl q)
    · have d : ¬ m.toInt ≤ (T.2.1 37 cI.toNatClampNeg).toInt := fun z => q (w_le.mpr z)
      exact go (T.2.1 37 cI.toNatClampNeg) (by omega) (F_m_sell_p5 q10 rfl q)
  · obtain ⟨m, T⟩ := s
    exact ⟨_, F_m_sell_p2 (dk_gep z10 (by omega)), T, rfl, hP.2.2.1, hP.2.2.2.1, hP.2.2.2.2⟩
theorem mx_sell (ok : s_ok G K A U) (h : RM G K A L U x S) : (s_cs G A a1.toInt ∧ ∃ (S1 : dg_S) (y : Int32), F_m_sell o S a1 = (S1, y) ∧ y.toInt = min 99999 (A 0 1 + G 4 a1.toInt.toNat) ∧ RM G K (s_sl G A a1.toInt.toNat) L (s_ud U (A, L)) x S1) ∨ (¬ s_cs G A a1.toInt ∧ ∃ S1, S1 = (F_m_refuses o S (3 : Int32)).1 ∧ F_m_sell o S a1 = (S1, (-1 : Int32)) ∧ RM G K A L U x S1) := by
  have hG := ok.1
  have hb := hG.1.2.2.2
  have z0 : (0 : Int32).toInt = 0 := by decide +kernel
  have n0 : (0 : Int32).toNatClampNeg = 0 := by decide +kernel
  have z9 : (99999 : Int32).toInt = 99999 := by decide +kernel
  obtain ⟨SN, f1, rN, -⟩ := mx_ref (o := o) (a1 := 3) (k := 3) hb h (by decide +kernel)
  have n1 : SN = (F_m_refuses o S (3 : Int32)).1 := by rw [f1]
  have n2 : (-1 : Int32) = (F_m_refuses o S (3 : Int32)).2 := by rw [f1]
  rcases mx_canSell (o := o) (a1 := a1) ok h with ⟨q4, y4⟩ | ⟨q4, y4⟩
  rotate_left
  · exact Or.inr ⟨y4, SN, n1, F_m_sell_p7 rfl q4 n1 n2, rN⟩
  have m4 : ¬ F_m_canSell o S a1 = (0 : Int32) := by rw [q4]; decide +kernel
  have hk := y4.1
  have h7 := hG.2.2.2.2.1
  obtain ⟨g2, g3, g4⟩ := hG.2.2.2.2.2.2.2 a1.toInt.toNat (by omega)
  obtain ⟨S7, e7, r7, k7⟩ := mx_act (o := o) hG h
  have b13 : zI S7 0 13 = zI S 0 13 := k7.1.I (by decide)
  obtain ⟨o2, o3, o4⟩ := r7.1.2.2.2.2 a1.toInt.toNat (by omega)
  obtain ⟨b, hb1', hbk, -⟩ := h.1.1.2
  have bn : (zI S7 0 13).toNatClampNeg = b := by rw [b13, dk_clN]; omega
  rw [bn] at o2 o3 o4
  have e5 : (5 : Int32).toInt = ((5 : Nat) : Int) := by decide +kernel
  have pl : ((5 : Int32) * zI S 0 13 + a1).toNatClampNeg = 5 * b + a1.toInt.toNat := mx_pl (c := a1.toInt.toNat) hbk (by omega) (by omega) (by omega) e5 (by omega) (by omega)
  obtain ⟨y1, y2, y3', ⟨y4', y4''⟩, y5, ⟨y6, y6'⟩, y7, y8⟩ := r7.2.1
  obtain ⟨w0, w1, w2, w3, w4, w5⟩ := ok.2.2.1.1
  obtain ⟨S11, e11, t11, k11, o11⟩ := mx_give (S := S7) (a := a1) (b := zI S 0 13) (z := (S, (0 : Int32))) (a1 := S7.2.1 13 ((5 : Int32) * zI S 0 13 + a1).toNatClampNeg) (a2 := S7.2.1 14 ((5 : Int32) * zI S 0 13 + a1).toNatClampNeg) (n := (G 2 a1.toInt.toNat).toNat) (l0 := G 3 a1.toInt.toNat) (A0 := A) w5 (fun k hk => by have := y7 k hk; rw [show 10 * 0 + k = k by omega] at this; exact this) (by rw [pl, o2]; omega) (by omega) (by rw [pl]; exact o3) ⟨by omega, by omega⟩
  have F := (F_m_sell_p6 rfl m4 e7.symm rfl rfl rfl rfl rfl rfl rfl).trans e11
  obtain ⟨X, hX⟩ : ∃ X, X = S11.2.1 34 (0 : Int32).toNatClampNeg ||| ((1 : Int32) <<< (a1 &&& 31)) := ⟨_, rfl⟩
  obtain ⟨S18, h18⟩ : ∃ T, T = dg_uf S11 34 (upd (S11.2.1 34) (0 : Int32).toNatClampNeg X) := ⟨_, rfl⟩
  obtain ⟨c1, c2⟩ := mx_setbit (a := S11.2.1 34 (0 : Int32).toNatClampNeg) (b := a1) (by rw [n0, o11 34 (by decide)]; exact y6) (by omega)
  rw [← hX] at c1 c2
  have i21 : (S18.2.1 30 (0 : Int32).toNatClampNeg).toInt = A 0 1 := by rw [n0, h18, w_f, if_neg (by decide), o11 30 (by decide)]; exact y3'
  have i25 : (S18.2.1 15 ((5 : Int32) * zI S 0 13 + a1).toNatClampNeg).toInt = G 4 a1.toInt.toNat := by rw [pl, h18, w_f, if_neg (by decide), o11 15 (by decide)]; exact o4
  have e26 : (S18.2.1 30 (0 : Int32).toNatClampNeg + S18.2.1 15 ((5 : Int32) * zI S 0 13 + a1).toNatClampNeg).toInt = A 0 1 + G 4 a1.toInt.toNat := dk_addT i21 i25 (by omega) (by omega)
  obtain ⟨b1, b2, b3⟩ := s_gv_b (n := (G 2 a1.toInt.toNat).toNat) (l := G 3 a1.toInt.toNat) w5 ⟨by omega, by omega⟩ (10 - (G 2 a1.toInt.toNat).toNat) (by omega)
  have w30 : mx_w 30 = 1 := rfl
  have w34 : mx_w 34 = 1 := rfl
  have fin : ∀ (w : Int32) (S2 : dg_S), w.toInt = min 99999 (A 0 1 + G 4 a1.toInt.toNat) → S2 = dg_uf S18 30 (upd (S18.2.1 30) (0 : Int32).toNatClampNeg w) → RM G K (s_sl G A a1.toInt.toNat) L (s_ud U (A, L)) x S2 := fun w S2 hw h2 => by
    have t : k_v 0 S7 S2 := by
      rw [h2, n0]
      refine k_v.uf ?_ (by decide) (by decide) ⟨by omega, by omega⟩
      rw [h18, n0]
      exact k_v.uf k11 (by decide) (by decide) ⟨by omega, by omega⟩
    refine r7.v hb t (by decide) ?_
    have E : ∀ a b, a ≠ 0 → a ≠ 5 → a ≠ 6 → s_sl G A a1.toInt.toNat a b = A a b := fun a b i0 i5 i6 => by
      unfold s_sl
      rw [s_up_ne (fun z => i0 z.1), s_up_ne (fun z => i5 z.1), b3 a b i6]
    have ro : ∀ i, i ≠ 30 → i ≠ 34 → i ≠ 37 → S2.2.1 i = S7.2.1 i := fun i i0 i4 i7 => by rw [h2, w_f, if_neg i0, h18, w_f, if_neg i4, o11 i i7]
    have r34 : S2.2.1 34 0 = X := by rw [h2, w_f, if_neg (by decide), h18, w_f, if_pos rfl, w_u, n0, if_pos rfl]
    have r30 : S2.2.1 30 0 = w := by rw [h2, w_f, if_pos rfl, w_u, n0, if_pos rfl]
    have r37 : S2.2.1 37 = S11.2.1 37 := by rw [h2, w_f, if_neg (by decide), h18, w_f, if_neg (by decide)]
    refine ⟨?_, ?_, ?_, by rw [ro _ (by decide) (by decide) (by decide)]; exact ⟨y4', fun k hk => by rw [E _ _ (by decide) (by decide) (by decide)]; exact y4'' k hk⟩, fun k hk => by rw [ro _ (by decide) (by decide) (by decide), ro _ (by decide) (by decide) (by decide), E _ _ (by decide) (by decide) (by decide), E _ _ (by decide) (by decide) (by decide)]; exact y5 k hk, ⟨by rw [r34]; exact c1, fun k hk => ?_⟩, fun k hk => ?_, y8.keep (by rw [ro _ (by decide) (by decide) (by decide)]) (fun j _ _ => by rw [ro _ (by decide) (by decide) (by decide)])⟩
    · have h9 := y1.keep (S1 := S2) (ro 31 (by decide) (by decide) (by decide)) (ro 32 (by decide) (by decide) (by decide))
      exact h9.congr (fun d _ => by unfold s_c; rw [E _ _ (by decide) (by decide) (by decide)])
    · rw [ro _ (by decide) (by decide) (by decide)]
      unfold s_sl
      rw [s_up_ne (fun z => absurd z.2 (by decide)), s_up_ne (fun z => absurd z.1 (by decide)), b3 0 0 (by decide)]
      exact y2
    · rw [r30]
      unfold s_sl
      rw [s_up_at]
      exact hw
    · rw [r34, c2 k (by omega)]
      unfold s_sl
      rw [s_up_ne (fun z => absurd z.1 (by decide))]
      by_cases z : k = a1.toInt.toNat
      · rw [if_pos z, z, s_up_at]
      · rw [if_neg z, s_up_ne (fun y => z y.2), b3 5 k (by decide), n0, o11 34 (by decide)]
        exact y6' k hk
    · rw [r37, show 10 * 0 + k = k by omega, t11 k hk]
      unfold s_sl
      rw [s_up_ne (fun z => absurd z.1 (by decide)), s_up_ne (fun z => absurd z.1 (by decide))]
  by_cases q9 : S18.2.1 30 (0 : Int32).toNatClampNeg + S18.2.1 15 ((5 : Int32) * zI S 0 13 + a1).toNatClampNeg ≤ (99999 : Int32)
  · have d := dk_lec z9 q9
    exact Or.inl ⟨y4, _, _, F.trans (F_m_sell_p0 rfl rfl hX h18 rfl rfl rfl rfl rfl q9 rfl), by rw [e26]; omega, fin _ _ (by rw [e26]; omega) rfl⟩
  · have d := dk_nlec z9 q9
    exact Or.inl ⟨y4, _, _, F.trans (F_m_sell_p1 rfl rfl hX h18 rfl rfl rfl rfl rfl q9 rfl), by rw [z9]; omega, fin _ _ (by rw [z9]; omega) rfl⟩
/-- SELL on both sides -/
theorem sim_sell (ok : s_ok G K A U) (hX : RX oX g G K A L U x SX) (hM : RM G K A L U x SM) : ∃ (A' : aR) (U' : s_U), (F_d_sell oX SX a1).2 = (F_m_sell oM SM a1).2 ∧ s_ok G K A' U' ∧ RX oX g G K A' L U' x (F_d_sell oX SX a1).1 ∧ RM G K A' L U' x (F_m_sell oM SM a1).1 := by
  rcases cx_sell (o := oX) (a1 := a1) ok hX with ⟨p, S1, y1, e1, v1, r1⟩ | ⟨p, S1, -, e1, r1⟩ <;> rcases mx_sell (o := oM) (a1 := a1) ok hM with ⟨q, S2, y2, e2, v2, r2⟩ | ⟨q, S2, -, e2, r2⟩
  · rw [e1, e2]
    exact ⟨_, _, Int32.toInt_inj.mp (v1.trans v2.symm), s_sl_ok (s_ud_ok ok) p.1, r1, r2⟩
  · exact absurd p q
  · exact absurd q p
  · rw [e1, e2]
    exact ⟨A, U, rfl, ok, r1, r2⟩
end CW
