/-! HAS: both sides -/
def s_su (f : Nat → Int) : Nat → Int
  | 0 => 0
  | n + 1 => s_su f n + f n
theorem s_su_le {f : Nat → Int} (h : ∀ k, k < 6 → f k = 0 ∨ f k = 1) : ∀ n : Nat, n ≤ 6 → 0 ≤ s_su f n ∧ s_su f n ≤ n
  | 0, _ => ⟨Int.le_refl _, Int.le_refl _⟩
  | n + 1, hn => by
    have ih := s_su_le h n (by omega)
    have := h n (by omega)
    show 0 ≤ s_su f n + f n ∧ s_su f n + f n ≤ ((n + 1 : Nat) : Int)
    omega
theorem s_su_0 {f : Nat → Int} {m : Nat} (h : ∀ k, m ≤ k → k < 6 → f k = 0) : ∀ d : Nat, m + d ≤ 6 → s_su f (m + d) = s_su f m
  | 0, _ => rfl
  | d + 1, hd => by
    show s_su f (m + d) + f (m + d) = s_su f m
    rw [s_su_0 h d (by omega), h (m + d) (by omega) (by omega)]
    omega
/-- places and cells -/
theorem s_ct_8 {Q : Int → Prop} (h : ∀ c, Q c → 0 ≤ c) : ∀ n : Nat, s_ct (fun i => Q ((i : Int) - 8)) (8 + n) = s_ct (fun i => Q (i : Int)) n
  | 0 => by
    have zz : ∀ m : Nat, m ≤ 8 → s_ct (fun i => Q ((i : Int) - 8)) m = 0 := fun m => by
      induction m with
      | zero => intro _; rfl
      | succ m ih =>
        intro hm
        show s_ct (fun i => Q ((i : Int) - 8)) m + s_b (Q ((m : Int) - 8)) = 0
        rw [ih (by omega), s_b0 (fun z => by have := h _ z; omega)]
        rfl
    exact zz 8 (Nat.le_refl 8)
  | n + 1 => by
    show s_ct (fun i => Q ((i : Int) - 8)) (8 + n) + s_b (Q (((8 + n : Nat) : Int) - 8)) = s_ct (fun i => Q (i : Int)) n + s_b (Q (n : Int))
    rw [s_ct_8 h n, show (((8 + n : Nat) : Int) - 8) = (n : Int) by omega]
def s_cu (G A : aR) (c : Int) : Prop := s_in G c ∧ s_c A c = -2
section EM
variable {o oX oM g n p k : Nat} {G A A' : aR} {K : Nat → List Int} {L L' : s_L} {U : s_U} {F : s_F} {S S0 S1 SX SM T : dg_S} {x x' r c v t : Int} {a a1 a2 a3 a4 y : Int32}
theorem cx_flag {P : Prop} (hy : y.toInt = s_b P) : (F_flag o S y).toInt = s_b P := by
  have z0 : (0 : Int32).toInt = 0 := by decide +kernel
  have z1 : (1 : Int32).toInt = 1 := by decide +kernel
  have := s_b01 P
  by_cases w : y = (0 : Int32)
  · rw [F_flag_p0 w, z0, ← hy, w, z0]
  · rw [F_flag_p1 w, z1]
    have := dk_neqc z0 w
    omega
theorem cx_en254 (hv : v ≤ 9) : cx_en v = 254 ↔ v = -2 := by
  unfold cx_en
  by_cases w : v = -1
  · rw [if_pos w]
    exact ⟨fun z => by omega, fun z => by omega⟩
  · rw [if_neg w]
    by_cases u : v = -2
    · rw [if_pos u]
      exact ⟨fun _ => u, fun _ => rfl⟩
    · rw [if_neg u]
      exact ⟨fun z => by omega, fun z => absurd z u⟩
theorem cx_en255 (hv : v ≤ 9) : cx_en v = 255 ↔ v = -1 := by
  unfold cx_en
  by_cases w : v = -1
  · rw [if_pos w]
    exact ⟨fun _ => w, fun _ => rfl⟩
  · rw [if_neg w]
    refine ⟨fun z => ?_, fun z => absurd z w⟩
    split at z <;> omega
theorem cx_countOpen (h : cx_ce G A S 3) : (F_d_countOpen o S).toInt = s_ct (fun i => s_op G A (i : Int)) 64 := by
  have z0 : (0 : Int32).toInt = 0 := by decide +kernel
  have z72 : (72 : Int32).toInt = 72 := by decide +kernel
  rw [F_d_countOpen_p2, ← s_ct_8 (Q := s_op G A) (fun c z => z.1.1.1) 64]
  refine lp_cnt (f := F_d_countOpen_B1 o S) (z := (0 : Int32)) (W := 72) (P := fun p u => u.toInt = s_ct (fun i => s_op G A ((i : Int) - 8)) p) (Q := fun q => q.toInt = s_ct (fun i => s_op G A ((i : Int) - 8)) 72) (by decide) (fun p pI u hp hpI hP => ?_) (fun pI u hpI hP => ⟨_, F_d_countOpen_p0 (dk_gep z72 (by omega)), hP⟩) ((73 - ((0 : Int32)).toInt).toNat + 1) 0 0 0 (by rw [z0]; decide) (by decide) z0 z0
  have hP : u.toInt = s_ct (fun i => s_op G A ((i : Int) - 8)) p := hP
  have cb := s_ct_b (P := fun i => s_op G A ((i : Int) - 8)) p
  have q0 : ¬ (72 : Int32) ≤ pI := fun z => by have := dk_gec z72 z; omega
  have eo := cx_flag (o := o) (S := S) (cx_isOpen (o := o) (a := pI) h (by omega) (by omega))
  rw [hpI] at eo
  have b01 := s_b01 (s_op G A ((p : Int) - 8))
  refine ⟨_, F_d_countOpen_p1 q0 rfl rfl rfl rfl, ?_⟩
  show _ = s_ct (fun i => s_op G A ((i : Int) - 8)) p + s_b (s_op G A ((p : Int) - 8))
  exact dk_addT hP eo (by omega) (by omega)
theorem cx_countCurtains (h : cx_ce G A S 3) : (F_d_countCurtains o S).toInt = s_ct (fun i => s_cu G A (i : Int)) 64 := by
  have z0 : (0 : Int32).toInt = 0 := by decide +kernel
  have z1 : (1 : Int32).toInt = 1 := by decide +kernel
  have z72 : (72 : Int32).toInt = 72 := by decide +kernel
  have z254 : (254 : Int32).toInt = 254 := by decide +kernel
  rw [F_d_countCurtains_p4, ← s_ct_8 (Q := s_cu G A) (fun c z => z.1.1.1) 64]
  refine lp_cnt (f := F_d_countCurtains_B1 S o) (z := (0 : Int32)) (W := 72) (P := fun p u => u.toInt = s_ct (fun i => s_cu G A ((i : Int) - 8)) p) (Q := fun q => q.toInt = s_ct (fun i => s_cu G A ((i : Int) - 8)) 72) (by decide) (fun p pI u hp hpI hP => ?_) (fun pI u hpI hP => ⟨_, F_d_countCurtains_p0 (dk_gep z72 (by omega)), hP⟩) ((73 - ((0 : Int32)).toInt).toNat + 1) 0 0 0 (by rw [z0]; decide) (by decide) z0 z0
  have hP : u.toInt = s_ct (fun i => s_cu G A ((i : Int) - 8)) p := hP
  have cb := s_ct_b (P := fun i => s_cu G A ((i : Int) - 8)) p
  have b01 := s_b01 (s_cu G A ((p : Int) - 8))
  have q0 : ¬ (72 : Int32) ≤ pI := fun z => by have := dk_gec z72 z; omega
  have pn : pI.toNatClampNeg = p := by rw [dk_clN]; omega
  have ce := h (p : Int) (by omega) (by omega)
  have ev : (S.2.1 4 pI.toNatClampNeg).toInt = cx_at S 3 (p : Int) := by
    rw [pn]
    unfold cx_at
    rw [show ((p : Int)).toNat = p by omega]
  have fin : ∀ w : Int32, w.toInt = s_b (s_cu G A ((p : Int) - 8)) → F_d_countCurtains_B1 S o (pI, u) = F_d_countCurtains_J2 o S w u pI → ∃ s1, F_d_countCurtains_B1 S o (pI, u) = .inl (pI + 1, s1) ∧ s1.toInt = s_ct (fun i => s_cu G A ((i : Int) - 8)) (p + 1) := fun w hw e =>
    ⟨_, e.trans (F_d_countCurtains_p1 rfl rfl rfl), show _ = s_ct (fun i => s_cu G A ((i : Int) - 8)) p + s_b (s_cu G A ((p : Int) - 8)) from dk_addT hP (cx_flag hw) (by omega) (by omega)⟩
  by_cases q : S.2.1 4 pI.toNatClampNeg = (254 : Int32)
  · have d := dk_eqc z254 q
    rw [ev] at d
    refine fin 1 ?_ (F_d_countCurtains_p3 q0 rfl q)
    have hin : s_in G ((p : Int) - 8) := by
      apply Classical.byContradiction
      intro z
      have := ce.2 z
      omega
    rw [(ce.1 hin).1] at d
    rw [z1, s_b1 ⟨hin, (cx_en254 (ce.1 hin).2.2).mp d⟩]
  · have d := dk_neqc z254 q
    rw [ev] at d
    refine fin 0 ?_ (F_d_countCurtains_p2 q0 rfl q)
    rw [z0, s_b0 (fun z => d (by rw [(ce.1 z.1).1]; exact (cx_en254 (ce.1 z.1).2.2).mpr z.2))]
theorem cx_isLit (ok : s_ok G K A U) (h : RX o g G K A L U x S) (hi : cx_in o g G K (G 0 3) A L S) (hp : a.toInt = p) (h72 : p < 72) : ∃ (S1 : dg_S) (y : Int32), F_w_isLit o S a = (S1, y) ∧ y.toInt = s_b (s_lit G A (G 0 3) ((p : Int) - 8)) ∧ RX o g G K A L U x S1 ∧ cx_in o g G K (G 0 3) A L S1 := by
  have z0 : (0 : Int32).toInt = 0 := by decide +kernel
  have z1 : (1 : Int32).toInt = 1 := by decide +kernel
  have m1 : (-1 : Int32).toInt = -1 := by decide +kernel
  have z255 : (255 : Int32).toInt = 255 := by decide +kernel
  obtain ⟨SL, eL, lL, rL, l7, l6, l8, kL⟩ := cx_see (o := o) ok h hi
  have iL : cx_in o g G K (G 0 3) A L SL := ⟨l7, l6, l8, rL.2.1.1, rL.2.2.1, rL.2.2.2.1, Or.inr lL⟩
  have pn : a.toNatClampNeg = p := by rw [dk_clN]; omega
  have hfar : (SL.2.1 217 a.toNatClampNeg).toInt = s_fd G A ((p : Int) - 8) := by
    rw [← lL.1 ((p : Int) - 8)]
    unfold cx_far
    rw [if_pos (by omega), pn, show ((p : Int) - 8 + 8).toNat = p by omega]
  have eF : F_w_farOf o S a = (SL, SL.2.1 217 a.toNatClampNeg) := F_w_farOf_p0 eL.symm rfl
  have ce := rL.2.2.1.1 (p : Int) (by omega) (by omega)
  have ev : (SL.2.1 (3 + 1) a.toNatClampNeg).toInt = cx_at SL 3 (p : Int) := by
    rw [pn]
    unfold cx_at
    rw [show ((p : Int)).toNat = p by omega]
  by_cases w1 : SL.2.1 217 a.toNatClampNeg = (-1 : Int32)
  · have v1 := dk_eqc m1 w1
    rw [hfar] at v1
    exact ⟨SL, 0, F_w_isLit_p0 (S_2 := SL) (by rw [eF]) (by rw [eF]) w1, by rw [z0, s_b0 (fun z => z.2.1 v1)], rL, iL⟩
  have v1 := dk_neqc m1 w1
  rw [hfar] at v1
  by_cases w2 : zI S 214 8 < SL.2.1 217 a.toNatClampNeg
  · have v2 := w_lt.mp w2
    rw [hfar, hi.2.2.1] at v2
    exact ⟨SL, 0, F_w_isLit_p1 (S_2 := SL) (by rw [eF]) (by rw [eF]) w1 rfl w2, by rw [z0, s_b0 (fun z => by have := z.2.2; omega)], rL, iL⟩
  have v2 : ¬ (zI S 214 8).toInt < (SL.2.1 217 a.toNatClampNeg).toInt := fun z => w2 (w_lt.mpr z)
  rw [hfar, hi.2.2.1] at v2
  by_cases w3 : SL.2.1 (3 + 1) a.toNatClampNeg = (255 : Int32)
  · have v3 := dk_eqc z255 w3
    rw [ev] at v3
    have hin : s_in G ((p : Int) - 8) := by
      apply Classical.byContradiction
      intro z
      have := ce.2 z
      omega
    rw [(ce.1 hin).1] at v3
    exact ⟨SL, 1, F_w_isLit_p3 (S_2 := SL) (by rw [eF]) (by rw [eF]) w1 rfl w2 hi.1.symm rfl w3, by rw [z1, s_b1 ⟨⟨hin, (cx_en255 (ce.1 hin).2.2).mp v3⟩, v1, by omega⟩], rL, iL⟩
  · have v3 := dk_neqc z255 w3
    rw [ev] at v3
    exact ⟨SL, 0, F_w_isLit_p2 (S_2 := SL) (by rw [eF]) (by rw [eF]) w1 rfl w2 hi.1.symm rfl w3, by rw [z0, s_b0 (fun z => v3 (by rw [(ce.1 z.1.1).1]; exact (cx_en255 (ce.1 z.1.1).2.2).mpr z.1.2))], rL, iL⟩
theorem cx_countLit (ok : s_ok G K A U) (h : RX o g G K A L U x S) : ∃ (S1 : dg_S) (y : Int32), F_d_countLit o S = (S1, y) ∧ y.toInt = s_ct (fun i => s_lit G A (G 0 3) (i : Int)) 64 ∧ RX o g G K A L U x S1 := by
  have z0 : (0 : Int32).toInt = 0 := by decide +kernel
  have z72 : (72 : Int32).toInt = 72 := by decide +kernel
  obtain ⟨S7, e7, r7, i7⟩ := cx_look (o := o) ok h
  rw [F_d_countLit_p2 h.1.symm rfl (cx_hasSeam h ok) rfl e7.symm, ← s_ct_8 (Q := s_lit G A (G 0 3)) (fun c z => z.1.1.1.1) 64]
  have main := lp_cnt (f := F_d_countLit_B1 o) (z := (S, (0 : Int32))) (W := 72) (P := fun p s => s.1.toInt = s_ct (fun i => s_lit G A (G 0 3) ((i : Int) - 8)) p ∧ RX o g G K A L U x s.2 ∧ cx_in o g G K (G 0 3) A L s.2) (Q := fun q => q.2.toInt = s_ct (fun i => s_lit G A (G 0 3) ((i : Int) - 8)) 72 ∧ RX o g G K A L U x q.1) (by decide) (fun p pI s hp hpI hP => by
    obtain ⟨u, T⟩ := s
    obtain ⟨t1, t2, t3⟩ := hP
    have t1 : u.toInt = s_ct (fun i => s_lit G A (G 0 3) ((i : Int) - 8)) p := t1
    have cb := s_ct_b (P := fun i => s_lit G A (G 0 3) ((i : Int) - 8)) p
    have b01 := s_b01 (s_lit G A (G 0 3) ((p : Int) - 8))
    have q0 : ¬ (72 : Int32) ≤ pI := fun z => by have := dk_gec z72 z; omega
    obtain ⟨T1, y, e1, v1, r1, i1⟩ := cx_isLit (o := o) (a := pI) (p := p) ok t2 t3 hpI hp
    exact ⟨(u + F_flag o T1 y, T1), F_d_countLit_p1 q0 (by rw [e1]) (show y = _ by rw [e1]) rfl rfl rfl, show _ = s_ct (fun i => s_lit G A (G 0 3) ((i : Int) - 8)) p + s_b (s_lit G A (G 0 3) ((p : Int) - 8)) from dk_addT t1 (cx_flag v1) (by omega) (by omega), r1, i1⟩) (fun pI s hpI hP => by
    obtain ⟨u, T⟩ := s
    exact ⟨_, F_d_countLit_p0 (dk_gep z72 (by omega)), hP.1, hP.2.1⟩) ((73 - ((0 : Int32)).toInt).toNat + 1) 0 0 ((0 : Int32), S7) (by rw [z0]; decide) (by decide) z0 ⟨z0, r7, i7⟩
  exact ⟨_, _, rfl, main.1, main.2⟩
theorem cx_countHurt (ok : s_ok G K A U) (h : RX o g G K A L U x S) : (F_d_countHurt o S).toInt = s_su (fun k => A 2 k) (G 0 5).toNat := by
  have z0 : (0 : Int32).toInt = 0 := by decide +kernel
  have h5 := ok.1.2.2.2.1
  have hf : (zI S g 6).toInt = G 0 5 := h.2.1.2.1.2.2.2.2.1
  have hA := ok.2.2.1.1.2.2.1
  rw [F_d_countHurt_p2]
  refine lp_cnt (f := F_d_countHurt_B1 o S) (z := (0 : Int32)) (W := (G 0 5).toNat) (P := fun k u => u.toInt = s_su (fun k => A 2 k) k) (Q := fun q => q.toInt = s_su (fun k => A 2 k) (G 0 5).toNat) (by omega) (fun k kI u hk hkI hP => ?_) (fun kI u hkI hP => ⟨_, F_d_countHurt_p0 h.1.symm rfl (w_le.mpr (by omega)), hP⟩) ((7 - ((0 : Int32)).toInt).toNat + 1) 0 0 0 (by rw [z0]; omega) (by omega) z0 z0
  have hP : u.toInt = s_su (fun k => A 2 k) k := hP
  have sb := s_su_le (f := fun k => A 2 k) (fun k hk => by have := hA k hk; show A 2 k = 0 ∨ A 2 k = 1; omega) k (by omega)
  have ak := hA k (by omega)
  have kn : kI.toNatClampNeg = k := by rw [dk_clN]; omega
  have hu : (S.2.1 5 kI.toNatClampNeg).toInt = A 2 k := by rw [kn]; exact h.2.2.1.2.2.2.1 k (by omega)
  exact ⟨_, F_d_countHurt_p1 h.1.symm rfl (fun z => by have := w_le.mp z; omega) rfl rfl rfl, show _ = s_su (fun k => A 2 k) k + A 2 k from dk_addT hP hu (by omega) (by omega)⟩
/-- the reference counts cells -/
theorem mx_countC {f : Int32 × Int32 → (Int32 × Int32) ⊕ (dg_S × Int32)} {z : dg_S × Int32} {Q : Int → Prop} {T : dg_S} (h0 : ∀ (i : Nat) (iI u : Int32), i < 64 → iI.toInt = i → ∃ w : Int32, w.toInt = s_b (Q (i : Int)) ∧ f (iI, u) = .inl (iI + 1, u + w)) (h1 : ∀ (iI u : Int32), iI.toInt = 64 → f (iI, u) = .inr (T, u)) : ∃ y : Int32, lp f z ((65 - ((0 : Int32)).toInt).toNat + 1) ((0 : Int32), (0 : Int32)) = (T, y) ∧ y.toInt = s_ct (fun i => Q (i : Int)) 64 := by
  have z0 : (0 : Int32).toInt = 0 := by decide +kernel
  refine lp_cnt (f := f) (z := z) (W := 64) (P := fun p u => u.toInt = s_ct (fun i => Q (i : Int)) p) (Q := fun q => ∃ y : Int32, q = (T, y) ∧ y.toInt = s_ct (fun i => Q (i : Int)) 64) (by decide) (fun p pI u hp hpI hP => ?_) (fun pI u hpI hP => ⟨_, h1 pI u hpI, u, rfl, hP⟩) ((65 - ((0 : Int32)).toInt).toNat + 1) 0 0 0 (by rw [z0]; decide) (by decide) z0 z0
  have hP : u.toInt = s_ct (fun i => Q (i : Int)) p := hP
  have cb := s_ct_b (P := fun i => Q (i : Int)) p
  have b01 := s_b01 (Q (p : Int))
  obtain ⟨w, hw, e⟩ := h0 p pI u hp hpI
  exact ⟨_, e, show _ = s_ct (fun i => Q (i : Int)) p + s_b (Q (p : Int)) from dk_addT hP hw (by omega) (by omega)⟩
theorem mx_countOpen (ok : s_ok G K A U) (h : RM G K A L U x S) : ∃ y : Int32, lp (F_m_has_B1 S o) (S, (0 : Int32)) ((65 - ((0 : Int32)).toInt).toNat + 1) ((0 : Int32), (0 : Int32)) = (S, y) ∧ y.toInt = s_ct (fun i => s_op G A (i : Int)) 64 := by
  have z0 : (0 : Int32).toInt = 0 := by decide +kernel
  have z1 : (1 : Int32).toInt = 1 := by decide +kernel
  have z64 : (64 : Int32).toInt = 64 := by decide +kernel
  refine mx_countC (Q := s_op G A) (fun i iI u hi hiI => ?_) (fun iI u hiI => F_m_has_p7 (dk_gep z64 (by omega)))
  have q0 : ¬ (64 : Int32) ≤ iI := fun z => by have := dk_gec z64 z; omega
  rcases mx_isCellOf (o := o) (a := iI) h.1.1.1 ok.1.1.1 with ⟨e, hin⟩ | ⟨e, hin⟩
  rotate_left
  · rw [hiI] at hin
    exact ⟨0, by rw [z0, s_b0 (fun z => hin z.1)], (F_m_has_p10 q0 rfl e).trans (F_m_has_p9.trans (F_m_has_p8 rfl rfl))⟩
  have ne : ¬ F_m_isCellOf o S iI = (0 : Int32) := by rw [e]; decide +kernel
  have ho := mx_op (o := o) (a := 0) (b := iI) h.2.1.1 z0 (by decide) hin
  rw [hiI] at ho
  rcases ho with ⟨e2, y⟩ | ⟨e2, y⟩
  · exact ⟨1, by rw [z1, s_b1 y], (F_m_has_p12 q0 rfl ne rfl (by rw [e2]; decide +kernel)).trans (F_m_has_p8 rfl rfl)⟩
  · exact ⟨0, by rw [z0, s_b0 y], (F_m_has_p11 q0 rfl ne rfl e2).trans (F_m_has_p9.trans (F_m_has_p8 rfl rfl))⟩
theorem mx_countLit (ok : s_ok G K A U) (h : RM G K A L U x S) (hf : mx_fr G A S) {z : dg_S × Int32} : ∃ y : Int32, lp (F_m_has_B4 S o) z ((65 - ((0 : Int32)).toInt).toNat + 1) ((0 : Int32), (0 : Int32)) = (S, y) ∧ y.toInt = s_ct (fun i => s_lit G A (G 0 3) (i : Int)) 64 := by
  have z0 : (0 : Int32).toInt = 0 := by decide +kernel
  have z1 : (1 : Int32).toInt = 1 := by decide +kernel
  have z64 : (64 : Int32).toInt = 64 := by decide +kernel
  have h3 := ok.1.2.1
  refine mx_countC (Q := s_lit G A (G 0 3)) (fun i iI u hi hiI => ?_) (fun iI u hiI => F_m_has_p14 (dk_gep z64 (by omega)))
  have q0 : ¬ (64 : Int32) ≤ iI := fun z => by have := dk_gec z64 z; omega
  rcases mx_isCellOf (o := o) (a := iI) h.1.1.1 ok.1.1.1 with ⟨e, hin⟩ | ⟨e, hin⟩
  rotate_left
  · rw [hiI] at hin
    exact ⟨0, by rw [z0, s_b0 (fun z => hin z.1.1)], (F_m_has_p17 q0 rfl e).trans (F_m_has_p16.trans (F_m_has_p15 rfl rfl))⟩
  have ne : ¬ F_m_isCellOf o S iI = (0 : Int32) := by rw [e]; decide +kernel
  have hl := mx_lit (o := o) (a := 0) (b := iI) h.2.1.1 hf z0 (by decide) h.2.2.2.1 (by omega) hin
  rw [hiI] at hl
  rcases hl with ⟨e2, y⟩ | ⟨e2, y⟩
  · exact ⟨1, by rw [z1, s_b1 y], (F_m_has_p19 q0 rfl ne rfl (by rw [e2]; decide +kernel)).trans (F_m_has_p15 rfl rfl)⟩
  · exact ⟨0, by rw [z0, s_b0 y], (F_m_has_p18 q0 rfl ne rfl e2).trans (F_m_has_p16.trans (F_m_has_p15 rfl rfl))⟩
theorem mx_countCurtains (ok : s_ok G K A U) (h : RM G K A L U x S) : ∃ y : Int32, lp (F_m_has_B7 S o) (S, (0 : Int32)) ((65 - ((0 : Int32)).toInt).toNat + 1) ((0 : Int32), (0 : Int32)) = (S, y) ∧ y.toInt = s_ct (fun i => s_cu G A (i : Int)) 64 := by
  have z0 : (0 : Int32).toInt = 0 := by decide +kernel
  have z64 : (64 : Int32).toInt = 64 := by decide +kernel
  refine mx_countC (Q := s_cu G A) (fun i iI u hi hiI => ?_) (fun iI u hiI => F_m_has_p21 (dk_gep z64 (by omega)))
  have q0 : ¬ (64 : Int32) ≤ iI := fun z => by have := dk_gec z64 z; omega
  have iN : iI.toNatClampNeg = i := by rw [dk_clN]; omega
  rcases mx_isCellOf (o := o) (a := iI) h.1.1.1 ok.1.1.1 with ⟨e, hin⟩ | ⟨e, hin⟩
  rotate_left
  · rw [hiI] at hin
    exact ⟨0, by rw [z0, s_b0 (fun z => hin z.1)], (F_m_has_p23 q0 rfl e).trans (F_m_has_p22 rfl rfl)⟩
  have ne : ¬ F_m_isCellOf o S iI = (0 : Int32) := by rw [e]; decide +kernel
  rw [hiI] at hin
  have i32 := (h.2.1.1 (i : Int) hin).2.1
  have adn : mx_ad 0 (i : Int) = i := by unfold mx_ad; omega
  rw [adn] at i32
  refine ⟨S.2.1 32 iI.toNatClampNeg, ?_, (F_m_has_p24 q0 rfl ne rfl).trans (F_m_has_p22 rfl rfl)⟩
  rw [iN, i32]
  unfold mx_cu
  by_cases u9 : s_c A (i : Int) = -2
  · rw [if_pos u9, s_b1 ⟨hin, u9⟩]
  · rw [if_neg u9, s_b0 (fun z => u9 z.2)]
theorem w_pcl6 : ∀ (fuel m : Nat) (a b : Int32) (z : Int32), a.toInt = m → m < 64 → 0 ≤ b.toInt → b.toInt + s_su (mx_bit (m : Int)) 6 ≤ 100 → s_su (mx_bit (m : Int)) 6 < fuel → (lp F_m_bits_B1 z fuel (a, b)).toInt = b.toInt + s_su (mx_bit (m : Int)) 6 := by
  have key : ∀ n : Nat, n < 64 → n ≠ 0 → (Int32.ofInt (n : Int) &&& (Int32.ofInt (n : Int) - 1)).toInt < 64 ∧ 0 ≤ (Int32.ofInt (n : Int) &&& (Int32.ofInt (n : Int) - 1)).toInt ∧ s_su (mx_bit (Int32.ofInt (n : Int) &&& (Int32.ofInt (n : Int) - 1)).toInt) 6 + 1 = s_su (mx_bit (n : Int)) 6 := by decide +kernel
  have z0 : (0 : Int32).toInt = 0 := by decide +kernel
  have pz : s_su (mx_bit ((0 : Nat) : Int)) 6 = 0 := by decide +kernel
  have pb : ∀ n : Nat, n < 64 → 0 ≤ s_su (mx_bit (n : Int)) 6 ∧ s_su (mx_bit (n : Int)) 6 ≤ 6 := by decide +kernel
  intro fuel
  induction fuel with
  | zero =>
    intro m a b z _ hm _ _ h
    have := pb m hm
    omega
  | succ f ih =>
    intro m a b z ha hm hb hb9 hf
    by_cases q : a = (0 : Int32)
    · have d := dk_eqc z0 q
      have em : m = 0 := by omega
      rw [lp_sr (F_m_bits_p0 q), em, pz]
      omega
    · have d := dk_neqc z0 q
      obtain ⟨k1, k2, k3⟩ := key m hm (by omega)
      rw [show ((m : Nat) : Int) = a.toInt by omega, Int32.ofInt_toInt] at k1 k2 k3
      rw [show ((m : Nat) : Int) = a.toInt by omega] at hb9 hf ⊢
      have e1 : (b + 1).toInt = b.toInt + 1 := dk_addT rfl (by decide +kernel) (by have := pb m hm; omega) (by have := (pb m hm).1; rw [show ((m : Nat) : Int) = a.toInt by omega] at this; omega)
      obtain ⟨w, hw⟩ : ∃ w : Nat, w = (a &&& (a - 1)).toInt.toNat := ⟨_, rfl⟩
      have w1 : (a &&& (a - 1)).toInt = (w : Int) := by omega
      rw [w1] at k3
      rw [lp_sl (F_m_bits_p1 q rfl rfl rfl), ih w (a &&& (a - 1)) (b + 1) z w1 (by omega) (by omega) (by omega) (by omega), e1]
      omega
theorem w_bits6 (h : 0 ≤ a.toInt ∧ a.toInt < 64) : (F_m_bits o S a).toInt = s_su (mx_bit a.toInt) 6 := by
  have key : ∀ n : Nat, n < 64 → (Int32.ofInt (n : Int)).toUInt32.toNat = n ∧ (0 ≤ s_su (mx_bit (n : Int)) 6 ∧ s_su (mx_bit (n : Int)) 6 ≤ n) ∧ s_su (mx_bit (n : Int)) 6 ≤ 6 := by decide +kernel
  obtain ⟨e1, e2, e5⟩ := key a.toInt.toNat (by omega)
  rw [show ((a.toInt.toNat : Nat) : Int) = a.toInt by omega] at e1 e2 e5
  rw [Int32.ofInt_toInt] at e1
  have z0 : (0 : Int32).toInt = 0 := by decide +kernel
  have t := w_pcl6 (((((a : Int32)).toUInt32.toNat : Nat) : Int).toNat + 1) a.toInt.toNat a 0 0 (by omega) (by omega) (by decide +kernel) (by rw [z0, show ((a.toInt.toNat : Nat) : Int) = a.toInt by omega]; omega) (by rw [e1, show ((a.toInt.toNat : Nat) : Int) = a.toInt by omega]; omega)
  rw [show ((a.toInt.toNat : Nat) : Int) = a.toInt by omega, z0] at t
  rw [F_m_bits_p2]
  refine t.trans ?_
  omega
theorem mx_sumTubs (h : RM G K A L U x S) (ok : s_ok G K A U) : ∃ y : Int32, lp (F_m_has_B9 S) (S, (0 : Int32)) ((11 - ((0 : Int32)).toInt).toNat + 1) ((0 : Int32), (0 : Int32)) = (S, y) ∧ y.toInt = s_sz A 0 10 := by
  have z0 : (0 : Int32).toInt = 0 := by decide +kernel
  have z10 : (10 : Int32).toInt = 10 := by decide +kernel
  have hA := ok.2.2.1.1.2.2.2.2.2
  have h37 := h.2.1.2.2.2.2.2.2.1
  refine lp_cnt (f := F_m_has_B9 S) (z := (S, (0 : Int32))) (W := 10) (P := fun p u => u.toInt = s_sz A 0 p ∧ 0 ≤ s_sz A 0 p ∧ s_sz A 0 p ≤ 99 * p) (Q := fun q => ∃ y : Int32, q = (S, y) ∧ y.toInt = s_sz A 0 10) (by decide) (fun p pI u hp hpI hP => ?_) (fun pI u hpI hP => ⟨_, F_m_has_p27 (dk_gep z10 (by omega)), u, rfl, hP.1⟩) ((11 - ((0 : Int32)).toInt).toNat + 1) 0 0 0 (by rw [z0]; decide) (by decide) z0 ⟨z0, Int.le_refl _, Int.le_refl _⟩
  obtain ⟨t1, t2, t3⟩ := hP
  have t1 : u.toInt = s_sz A 0 p := t1
  have pn : pI.toNatClampNeg = p := by rw [dk_clN]; omega
  have h6 := hA p hp
  have e6 : (S.2.1 37 pI.toNatClampNeg).toInt = A 6 p := by
    rw [pn]
    have := h37 p hp
    rw [show 10 * 0 + p = p by omega] at this
    exact this
  have es : s_sz A 0 (p + 1) = s_sz A 0 p + A 6 p := by
    show s_sz A 0 p + A 6 (0 + p) = _
    rw [Nat.zero_add]
  refine ⟨_, F_m_has_p28 (fun z => by have := dk_gec z10 z; omega) rfl rfl rfl, ?_, ?_, ?_⟩
  · rw [es]
    exact dk_addT t1 e6 (by omega) (by omega)
  · rw [es]
    omega
  · rw [es]
    omega
/-- HAS on both sides -/
theorem sim_has (ok : s_ok G K A U) (hX : RX oX g G K A L U x SX) (hfX : cx_fe F SX) (hM : RM G K A L U x SM) (hfM : mx_fe F SM) : (F_d_has oX SX a1).2 = (F_m_has oM SM a1).2 ∧ RX oX g G K A L U x (F_d_has oX SX a1).1 ∧ RM G K A L U x (F_m_has oM SM a1).1 := by
  have z0 : (0 : Int32).toInt = 0 := by decide +kernel
  have n0 : (0 : Int32).toNatClampNeg = 0 := by decide +kernel
  have h5 := ok.1.2.2.2.1
  have hb := ok.1.1.2.2.2
  have hA2 := ok.2.2.1.1.2.2.1
  have fin : ∀ (S1 S2 : dg_S) (y1 y2 : Int32) (v : Int), F_d_has oX SX a1 = (S1, y1) → F_m_has oM SM a1 = (S2, y2) → y1.toInt = v → y2.toInt = v → RX oX g G K A L U x S1 → RM G K A L U x S2 → (F_d_has oX SX a1).2 = (F_m_has oM SM a1).2 ∧ RX oX g G K A L U x (F_d_has oX SX a1).1 ∧ RM G K A L U x (F_m_has oM SM a1).1 := fun S1 S2 y1 y2 v e1 e2 v1 v2 r1 r2 => by
    rw [e1, e2]
    exact ⟨Int32.toInt_inj.mp (v1.trans v2.symm), r1, r2⟩
  by_cases c0 : a1 = (0 : Int32)
  · exact fin _ _ _ _ _ (F_d_has_p1  c0 hX.1.symm rfl) (F_m_has_p1  c0 rfl rfl) hX.2.1.2.1.1 hM.1.1.1.2.1 hX hM
  by_cases c1 : a1 = (1 : Int32)
  · exact fin _ _ _ _ _ (F_d_has_p2 c0 c1 hX.1.symm rfl) (F_m_has_p2 c0 c1 rfl rfl) hX.2.1.2.1.2.1 hM.1.1.1.2.2.1 hX hM
  by_cases c2 : a1 = (2 : Int32)
  · exact fin _ _ _ _ _ (F_d_has_p3 c0 c1 c2 hX.1.symm rfl) (F_m_has_p3 c0 c1 c2 rfl rfl) hX.2.1.2.1.2.2.2.2.1 hM.1.2.1.2.2.1 hX hM
  by_cases c3 : a1 = (3 : Int32)
  · exact fin _ _ _ _ _ (F_d_has_p4 c0 c1 c2 c3 hX.1.symm rfl) (F_m_has_p4 c0 c1 c2 c3 rfl rfl) hX.2.1.1.2.2.1 hM.1.1.1.2.2.2.2 hX hM
  by_cases c4 : a1 = (4 : Int32)
  · exact fin _ _ _ _ _ (F_d_has_p5 c0 c1 c2 c3 c4 hX.1.symm rfl) (F_m_has_p5 c0 c1 c2 c3 c4 rfl rfl) hX.2.1.2.1.2.2.2.2.2 hM.1.2.1.2.2.2 hX hM
  by_cases c5 : a1 = (5 : Int32)
  · exact fin _ _ _ _ _ (F_d_has_p6 c0 c1 c2 c3 c4 c5 rfl) (F_m_has_p6 c0 c1 c2 c3 c4 c5 rfl) hX.2.2.1.2.1 (by rw [n0]; exact hM.2.1.2.1) hX hM
  by_cases c6 : a1 = (6 : Int32)
  · obtain ⟨y, e, v⟩ := mx_countOpen (o := oM) ok hM
    exact fin _ _ _ _ _ (F_d_has_p7 c0 c1 c2 c3 c4 c5 c6 rfl) ((F_m_has_p13 c0 c1 c2 c3 c4 c5 c6).trans e) (cx_countOpen hX.2.2.1.1) v hX hM
  by_cases c7 : a1 = (7 : Int32)
  · obtain ⟨S1, y1, e1, v1, r1⟩ := cx_countLit (o := oX) ok hX
    obtain ⟨S2, e2, f2, k2⟩ := mx_measures (o := oM) (a1 := 0) ok.1.1.1 hM.1.1.1 hM.2.1.1 z0 (by decide) ok.2.2.1.2.2
    have r2 := k2.rm hb hM
    obtain ⟨y, e, v⟩ := mx_countLit (o := oM) (z := (SM, (0 : Int32))) ok r2 f2
    exact fin S1 S2 y1 y _ (F_d_has_p8 c0 c1 c2 c3 c4 c5 c6 c7 (by rw [e1]) (show y1 = _ by rw [e1])) ((F_m_has_p20 c0 c1 c2 c3 c4 c5 c6 c7 e2.symm).trans e) v1 v r1 r2
  by_cases c8 : a1 = (8 : Int32)
  · obtain ⟨y, e, v⟩ := mx_countCurtains (o := oM) ok hM
    exact fin _ _ _ _ _ (F_d_has_p9 c0 c1 c2 c3 c4 c5 c6 c7 c8 rfl) ((F_m_has_p25 c0 c1 c2 c3 c4 c5 c6 c7 c8).trans e) (cx_countCurtains hX.2.2.1.1) v hX hM
  by_cases c9 : a1 = (9 : Int32)
  · obtain ⟨b1, b2⟩ := hM.2.1.2.2.2.1
    refine fin _ _ _ _ _ (F_d_has_p10 c0 c1 c2 c3 c4 c5 c6 c7 c8 c9 rfl) (F_m_has_p26 c0 c1 c2 c3 c4 c5 c6 c7 c8 c9 rfl rfl) (cx_countHurt ok hX) ?_ hX hM
    rw [n0, w_bits6 b1]
    have e1 : ∀ m : Nat, m ≤ 6 → s_su (mx_bit (SM.2.1 33 0).toInt) m = s_su (fun k => A 2 k) m := fun m => by
      induction m with
      | zero => intro _; rfl
      | succ m ih =>
        intro hm
        show s_su (mx_bit (SM.2.1 33 0).toInt) m + mx_bit (SM.2.1 33 0).toInt m = s_su (fun k => A 2 k) m + A 2 m
        rw [ih (by omega), b2 m (by omega)]
    rw [e1 6 (Nat.le_refl 6)]
    have := s_su_0 (f := fun k => A 2 k) (m := (G 0 5).toNat) (fun k k1 k2 => by have := hA2 k k2; show A 2 k = 0; omega) (6 - (G 0 5).toNat) (by omega)
    rw [show (G 0 5).toNat + (6 - (G 0 5).toNat) = 6 by omega] at this
    exact this
  by_cases c10 : a1 = (10 : Int32)
  · obtain ⟨y, e, v⟩ := mx_sumTubs hM ok
    exact fin _ _ _ _ _ (F_d_has_p11 c0 c1 c2 c3 c4 c5 c6 c7 c8 c9 c10 rfl) ((F_m_has_p29 c0 c1 c2 c3 c4 c5 c6 c7 c8 c9 c10).trans e) (cx_tubsFrom (n := 0) hX.2.2.1 ok.2.2.1.1 z0 (by decide)) v hX hM
  by_cases c11 : a1 = (11 : Int32)
  · exact fin _ _ _ _ _ (F_d_has_p12 c0 c1 c2 c3 c4 c5 c6 c7 c8 c9 c10 c11 rfl) (F_m_has_p30 c0 c1 c2 c3 c4 c5 c6 c7 c8 c9 c10 c11 rfl) hX.2.2.1.2.2.1 (by rw [n0]; exact hM.2.1.2.2.1) hX hM
  by_cases c12 : a1 = (12 : Int32)
  · exact fin _ _ _ _ _ (F_d_has_p13 c0 c1 c2 c3 c4 c5 c6 c7 c8 c9 c10 c11 c12 rfl) (F_m_has_p31 c0 c1 c2 c3 c4 c5 c6 c7 c8 c9 c10 c11 c12 rfl) (cx_wholeWorth hX.2.2.1 ok.2.2.1.1 ok.2.2.1.2) (mx_worthOf hM.1.1.1 ok.1.1.1 hM.2.1 ok.2.2.1.1 ok.2.2.1.2 z0 (by decide)) hX hM
  by_cases c13 : a1 = (13 : Int32)
  · exact fin _ _ _ _ _ (F_d_has_p14 c0 c1 c2 c3 c4 c5 c6 c7 c8 c9 c10 c11 c12 c13 rfl) (F_m_has_p32 c0 c1 c2 c3 c4 c5 c6 c7 c8 c9 c10 c11 c12 c13 rfl) hX.2.2.2.1.1 (by rw [n0]; exact hM.2.1.2.2.2.2.2.2.2.1) hX hM
  by_cases c14 : a1 = (14 : Int32)
  · exact fin _ _ _ _ _ (F_d_has_p15 c0 c1 c2 c3 c4 c5 c6 c7 c8 c9 c10 c11 c12 c13 c14 rfl) (F_m_has_p33 c0 c1 c2 c3 c4 c5 c6 c7 c8 c9 c10 c11 c12 c13 c14 rfl) hfX.1 hfM.1 hX hM
  by_cases c15 : a1 = (15 : Int32)
  · exact fin _ _ _ _ _ (F_d_has_p16 c0 c1 c2 c3 c4 c5 c6 c7 c8 c9 c10 c11 c12 c13 c14 c15 rfl) (F_m_has_p34 c0 c1 c2 c3 c4 c5 c6 c7 c8 c9 c10 c11 c12 c13 c14 c15 rfl) hX.2.2.2.2.1.1 hM.2.2.1.1 hX hM
  by_cases c16 : a1 = (16 : Int32)
  · have hx : (zI SX 0 12).toInt = x := hX.2.2.2.2.2
    have hl : (zL SM 0 62).toInt = x := hM.2.2.2.2
    have b1 := Int32.le_toInt (zI SX 0 12)
    have b2 := Int32.toInt_lt (zI SX 0 12)
    exact fin _ _ _ _ _ (F_d_has_p17 c0 c1 c2 c3 c4 c5 c6 c7 c8 c9 c10 c11 c12 c13 c14 c15 c16 rfl) (F_m_has_p35 c0 c1 c2 c3 c4 c5 c6 c7 c8 c9 c10 c11 c12 c13 c14 c15 c16 rfl rfl) hx (by rw [cx_l2i (by omega) (by omega)]; exact hl) hX hM
  exact fin _ _ _ _ _ (F_d_has_p0 c0 c1 c2 c3 c4 c5 c6 c7 c8 c9 c10 c11 c12 c13 c14 c15 c16) (F_m_has_p0 c0 c1 c2 c3 c4 c5 c6 c7 c8 c9 c10 c11 c12 c13 c14 c15 c16) rfl rfl hX hM
end EM
