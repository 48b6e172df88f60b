/-! ODDS: both sides -/
/-- whether a cell is open behind a shift -/
noncomputable def s_o1 (G : aR) (K : Nat → List Int) (A : aR) (t : Int) : Int := s_b (s_op G (s_tk G K (G 0 3) A) t)
noncomputable def s_os (G : aR) (K : Nat → List Int) (A : aR) (t : Int) : Nat → Int
  | 0 => 0
  | n + 1 => s_os G K A t n + s_if (s_in G (n : Int)) (s_o1 G K (s_cl G A (n : Int)).1 t * G 0 4) 0
noncomputable def s_od (G : aR) (K : Nat → List Int) (A : aR) (t : Int) : Int := s_o1 G K A t * (G 0 0 * G 0 1) * (100 - G 0 4) + s_os G K A t 64
section EE
variable {o oX oM g n p : Nat} {G A A' : aR} {K : Nat → List Int} {L L' : s_L} {U : s_U} {S S0 S1 SX SM : dg_S} {x x' r c v t : Int} {a a1 a2 a3 a4 y : Int32}
theorem s_o1_01 : s_o1 G K A t = 0 ∨ s_o1 G K A t = 1 := s_b01 _
theorem s_oq_b (hq : 0 ≤ G 0 4 ∧ G 0 4 ≤ 100) : 0 ≤ s_o1 G K A t * G 0 4 ∧ s_o1 G K A t * G 0 4 ≤ 100 := by
  rcases s_o1_01 (G := G) (K := K) (A := A) (t := t) with h | h <;> (rw [h]; omega)
theorem s_os_y {n : Nat} (h : s_in G (n : Int)) : s_os G K A t (n + 1) = s_os G K A t n + s_o1 G K (s_cl G A (n : Int)).1 t * G 0 4 := by
  show s_os G K A t n + s_if (s_in G (n : Int)) _ 0 = _
  rw [s_if_y h]
theorem s_os_n {n : Nat} (h : ¬ s_in G (n : Int)) : s_os G K A t (n + 1) = s_os G K A t n := by
  show s_os G K A t n + s_if (s_in G (n : Int)) _ 0 = _
  rw [s_if_n h]
  omega
theorem s_os_b (hq : 0 ≤ G 0 4 ∧ G 0 4 ≤ 100) : ∀ n : Nat, 0 ≤ s_os G K A t n ∧ s_os G K A t n ≤ 100 * n
  | 0 => ⟨Int.le_refl _, by show (0 : Int) ≤ 100 * ((0 : Nat) : Int); omega⟩
  | n + 1 => by
    have ih := s_os_b hq n
    by_cases h : s_in G (n : Int)
    · rw [s_os_y h]
      have := s_oq_b (G := G) (K := K) (A := (s_cl G A (n : Int)).1) (t := t) hq
      omega
    · rw [s_os_n h]
      omega
theorem s_os_le {m : Nat} (h : 8 * G 0 1 ≤ (m : Int)) : ∀ d : Nat, s_os G K A t (m + d) = s_os G K A t m
  | 0 => rfl
  | d + 1 => by
    rw [show m + (d + 1) = (m + d) + 1 by omega, s_os_n (fun z => by have := z.2.2; omega)]
    exact s_os_le h d
theorem s_cl_okU (ok : s_ok G K A U) : s_ok G K (s_cl G A c).1 U := by
  have h := s_cl_ok (c := c) ok.2.2.1.1 ok.2.2.1.2
  exact ⟨ok.1, ok.2.1, ⟨h.1, h.2.1⟩, ok.2.2.2⟩
theorem s_cl_same (h : ¬ s_op G A c) : (s_cl G A c).1 = A := by
  unfold s_cl
  rw [s_if_n (fun z => h z.1)]
/-- the class: behind a quake, or none -/
theorem cx_openBehind (ok : s_ok G K A U) (h : RX o g G K A L U x S) (ht : s_in G t) (ha2 : a2.toInt = t + 8) (hq : (a1 = (-1 : Int32) ∧ A' = A) ∨ ∃ c, s_in G c ∧ a1.toInt = c + 8 ∧ A' = (s_cl G A c).1) : ∃ (S1 : dg_S) (y : Int32), F_f_openBehind o S g 3 a1 a2 = (S1, y) ∧ y.toInt = s_o1 G K A' t ∧ RX o g G K A L U x S1 ∧ k_sk S S1 := by
  have z0 : (0 : Int32).toInt = 0 := by decide +kernel
  have z1 : (1 : Int32).toInt = 1 := by decide +kernel
  have h3 := ok.1.2.1
  have ht0 := ht.1
  have sep := rX_sep h.2.1.1.1
  obtain ⟨S1, e1, r1, p1, k1⟩ := cx_try0 (o := o) ok h
  obtain ⟨S3, e3, f7, f6, f8, f9, k3⟩ := cx_enter (o := o) (S := S1) (g := g) (p := 222) (a := zI S g 3)
  have q3 : (zI S g 3).toInt = G 0 3 := h.2.1.2.1.2.2.1
  have r3 : RX o g G K A L U x S3 := r1.keep k3 (by decide) (by decide) (fun a b _ _ => by omega) (fun b => by omega) (fun b => by omega) (fun a b _ _ => by omega) (fun a _ _ => id) (fun a _ _ => id) id (fun a _ _ => id)
  have p3 : cx_pit G A S3 222 := p1.keep (fun i _ _ => (k3.2 i id).1) (fun b _ => k3.I (fun z => by omega))
  have l3 : cx_LI G A (G 0 3) S3 := Or.inl f9
  have cl : ∃ (S5 : dg_S) (y5 : Int32), F_w_closeCell o S3 a1 = (S5, y5) ∧ cx_pit G A' S5 222 ∧ cx_LI G A' (G 0 3) S5 ∧ kp (fun a b => a = 214 ∧ b = 9) (fun a => a = 223) S3 S5 ∧ s_ok G K A' U := by
    rcases hq with ⟨q1, q2⟩ | ⟨c, q1, q2, q3⟩
    · subst q2
      exact ⟨S3, 0, F_w_closeCell_p0 q1, p3, l3, kp.rf, ok⟩
    · subst q3
      obtain ⟨S5, y5, c1, -, c3, c4, c5⟩ := cx_close (o := o) (p := 222) (a1 := a1) pX_222 f7 f6 r3.2.1.1 p3 q1 q2 l3
      exact ⟨S5, y5, c1, c3, c4, c5, s_cl_okU ok⟩
  obtain ⟨S5, y5, e5, p5, l5, k5, okA⟩ := cl
  have r5 : RX o g G K A L U x S5 := r3.keep k5 (by decide) (by decide) (fun a b _ _ => by omega) (fun b => by omega) (fun b => by omega) (fun a b _ _ => by omega) (fun a _ _ => by omega) (fun a _ _ => by omega) (by decide) (fun a _ _ => by omega)
  obtain ⟨S6, e6, r6, t6, k6⟩ := cx_pass (o := o) (p := 222) (a1 := 1) (n := 1) (r := G 0 3) pX_222 (by decide) ok.1.1 ok.2.1 okA.2.2.1.1 okA.2.2.1.2 ⟨by omega, by omega⟩ r5 ⟨by rw [k5.R (by decide)]; exact f7, by rw [k5.R (by decide)]; exact f6, by rw [k5.I (by decide), f8]; exact q3, r5.2.1.1, p5, l5⟩ z1 (by decide)
  have ks : k_sk S S6 := k1.tr ((k3.sk (fun b => by omega) (fun b => by omega) id).tr ((k5.sk (fun b => by omega) (fun b => by omega) (by decide)).tr (k6.sk (fun b => by omega) (fun b => by omega) (by omega))))
  have Q : F_f_openBehind o S g 3 a1 a2 = F_f_openBehind_J1 o S6 a2 := F_f_openBehind_p2 e1.symm rfl e3.symm (by rw [e5]) e6.symm
  have eo := cx_isOpen (o := o) (a := a2) t6.2.2.2.2.1.1 (by omega) (by omega)
  rw [ha2, show t + 8 - 8 = t by omega] at eo
  have eo : (F_p_isOpen o S6 222 a2).toInt = s_o1 G K A' t := eo
  by_cases q : F_p_isOpen o S6 222 a2 = (0 : Int32)
  · rw [q, z0] at eo
    exact ⟨S6, 0, Q.trans (F_f_openBehind_p0 rfl q), by rw [z0]; exact eo, r6, ks⟩
  · have d := dk_neqc z0 q
    refine ⟨S6, 1, Q.trans (F_f_openBehind_p1 rfl q), ?_, r6, ks⟩
    rw [z1]
    rcases s_o1_01 (G := G) (K := K) (A := A') (t := t) with w | w <;> omega
theorem cx_oddsOf (ok : s_ok G K A U) (h : RX o g G K A L U x S) (ht : s_in G t) (ha1 : a1.toInt = t + 8) : ∃ (S1 : dg_S) (y : Int32), F_f_oddsOf o S g 3 a1 = (S1, y) ∧ y.toInt = s_od G K A t ∧ RX o g G K A L U x S1 ∧ k_sk S S1 := by
  have z0 : (0 : Int32).toInt = 0 := by decide +kernel
  have z8 : (8 : Int32).toInt = 8 := by decide +kernel
  have z100 : (100 : Int32).toInt = 100 := by decide +kernel
  have hgb := ok.1.1.1
  have hq := ok.1.2.2.1
  obtain ⟨g0, g1, g3, g4, -⟩ := h.2.1.2.1
  obtain ⟨S6, x5, e6, v5, r6, k6⟩ := cx_openBehind (o := o) (a1 := (-1 : Int32)) (a2 := a1) (A' := A) ok h ht ha1 (Or.inl ⟨rfl, rfl⟩)
  obtain ⟨m, hm⟩ : ∃ m, m = G 0 0 * G 0 1 := ⟨_, rfl⟩
  have m0 : 0 ≤ m := by rw [hm]; exact Int.mul_nonneg (by omega) (by omega)
  have m49 : m ≤ 7 * 7 := by rw [hm]; exact Int.mul_le_mul (by omega) (by omega) (by omega) (by omega)
  have e3 : (zI S g 0 * zI S g 1).toInt = m := by rw [dk_mulT g0 g1 (by omega) (by omega), hm]
  have e9 : ((100 : Int32) - zI S g 4).toInt = 100 - G 0 4 := dk_subT z100 g4 (by omega) (by omega)
  have e10 : (x5 * (zI S g 0 * zI S g 1) * ((100 : Int32) - zI S g 4)).toInt = s_o1 G K A t * m * (100 - G 0 4) ∧ 0 ≤ s_o1 G K A t * m * (100 - G 0 4) ∧ s_o1 G K A t * m * (100 - G 0 4) ≤ 4900 := by
    have d0 : 0 ≤ m * (100 - G 0 4) := Int.mul_nonneg m0 (by omega)
    have d1 : m * (100 - G 0 4) ≤ (7 * 7) * 100 := Int.mul_le_mul m49 (by omega) (by omega) (by omega)
    rcases s_o1_01 (G := G) (K := K) (A := A) (t := t) with w | w
    · rw [w] at v5 ⊢
      have e7 : (x5 * (zI S g 0 * zI S g 1)).toInt = 0 * m := dk_mulT v5 e3 (by omega) (by omega)
      refine ⟨dk_mulT e7 e9 ?_ ?_, ?_, ?_⟩ <;> rw [Int.zero_mul, Int.zero_mul] <;> decide
    · rw [w] at v5 ⊢
      have e7 : (x5 * (zI S g 0 * zI S g 1)).toInt = 1 * m := dk_mulT v5 e3 (by omega) (by omega)
      refine ⟨dk_mulT e7 e9 ?_ ?_, ?_, ?_⟩ <;> rw [Int.one_mul] <;> omega
  obtain ⟨b0, hb0⟩ : ∃ b, b = s_o1 G K A t * m * (100 - G 0 4) := ⟨_, rfl⟩
  rw [← hb0] at e10
  have main := lp_cnt (f := F_f_oddsOf_B1 o g 3 x5 (zI S g 4) a1) (z := (S, (0 : Int32))) (W := (8 * G 0 1 + 8).toNat) (P := fun k s => RX o g G K A L U x s.2 ∧ s.1.toInt = b0 + s_os G K A t (k - 8) ∧ 8 ≤ k ∧ k_sk S s.2) (Q := fun q => RX o g G K A L U x q.1 ∧ q.2.toInt = b0 + s_os G K A t (8 * G 0 1).toNat ∧ k_sk S q.1) (by omega) (fun k kI s hk hkI hP => by
    obtain ⟨u, T⟩ := s
    obtain ⟨t1, t2, t3, t4⟩ := hP
    have t1 : RX o g G K A L U x T := t1
    have t2 : u.toInt = b0 + s_os G K A t (k - 8) := t2
    have f1 : (zI T g 1).toInt = G 0 1 := t1.2.1.2.1.2.1
    have ee : ((8 : Int32) * zI T g 1 + (8 : Int32)).toInt = 8 * G 0 1 + 8 := dk_addT (dk_mulT z8 f1 (by omega) (by omega)) z8 (by omega) (by omega)
    have eE : F_g_endOfPlaces o T g = (8 : Int32) * zI T g 1 + (8 : Int32) := F_g_endOfPlaces_p0 rfl rfl rfl
    have q0 : ¬ F_g_endOfPlaces o T g ≤ kI := fun z => by
      have := w_le.mp z
      rw [eE, ee] at this
      omega
    have kn : kI.toNatClampNeg = k := by rw [dk_clN]; omega
    have ek : k + 1 - 8 = (k - 8) + 1 := by omega
    have ek2 : ((k - 8 : Nat) : Int) = (k : Int) - 8 := by omega
    have ce := t1.2.2.1.1 (k : Int) (by omega) (by omega)
    have ev : (T.2.1 (3 + 1) kI.toNatClampNeg).toInt = cx_at T 3 (k : Int) := by
      rw [kn]
      unfold cx_at
      rw [show ((k : Int)).toNat = k by omega]
    have sb := s_os_b (G := G) (K := K) (A := A) (t := t) hq (k - 8)
    by_cases q6 : T.2.1 (3 + 1) kI.toNatClampNeg = (100 : Int32)
    · have d6 := dk_eqc z100 q6
      rw [ev] at d6
      have nin : ¬ s_in G ((k - 8 : Nat) : Int) := fun z => by
        rw [ek2] at z
        obtain ⟨e1, l1, u1⟩ := ce.1 z
        rw [e1] at d6
        unfold cx_en at d6
        split at d6
        · omega
        · split at d6 <;> omega
      refine ⟨(u, T), (F_f_oddsOf_p2 rfl q0 rfl q6).trans (F_f_oddsOf_p1 rfl), t1, ?_, by omega, t4⟩
      rw [ek, s_os_n nin]
      exact t2
    · have d6 := dk_neqc z100 q6
      rw [ev] at d6
      have hin : s_in G ((k : Int) - 8) := by
        apply Classical.byContradiction
        intro z
        exact d6 (ce.2 z)
      have hin' : s_in G ((k - 8 : Nat) : Int) := by rw [ek2]; exact hin
      have go : ∀ (w : Int32) (T1 : dg_S), w.toInt = s_o1 G K (s_cl G A ((k - 8 : Nat) : Int)).1 t → RX o g G K A L U x T1 → k_sk S T1 → F_f_oddsOf_B1 o g 3 x5 (zI S g 4) a1 (kI, u, T) = F_f_oddsOf_J3 w (zI S g 4) u kI T1 → ∃ s1, F_f_oddsOf_B1 o g 3 x5 (zI S g 4) a1 (kI, u, T) = .inl (kI + 1, s1) ∧ RX o g G K A L U x s1.2 ∧ s1.1.toInt = b0 + s_os G K A t (k + 1 - 8) ∧ 8 ≤ k + 1 ∧ k_sk S s1.2 := fun w T1 hw hr hk9 e => by
        have ob := s_oq_b (G := G) (K := K) (A := (s_cl G A ((k - 8 : Nat) : Int)).1) (t := t) hq
        have em : (w * zI S g 4).toInt = s_o1 G K (s_cl G A ((k - 8 : Nat) : Int)).1 t * G 0 4 := dk_mulT hw g4 (by omega) (by omega)
        refine ⟨(u + w * zI S g 4, T1), (e.trans (F_f_oddsOf_p3 rfl rfl)).trans (F_f_oddsOf_p1 rfl), hr, ?_, by omega, hk9⟩
        show (u + w * zI S g 4).toInt = b0 + s_os G K A t (k + 1 - 8)
        rw [ek, s_os_y hin', dk_addT t2 em (by omega) (by omega)]
        omega
      have eo := cx_isOpen (o := o) (a := kI) t1.2.2.1.1 (by omega) (by omega)
      rw [hkI] at eo
      by_cases q7 : F_p_isOpen o T 3 kI = (0 : Int32)
      · rw [q7, z0] at eo
        have nop : ¬ s_op G A ((k : Int) - 8) := fun z => by
          rw [s_b1 z] at eo
          exact absurd eo (by decide)
        refine go x5 T ?_ t1 t4 (F_f_oddsOf_p4 rfl q0 rfl q6 rfl q7)
        rw [ek2, s_cl_same nop]
        exact v5
      · obtain ⟨T1, w, f1, f2, f3, f4⟩ := cx_openBehind (o := o) (a1 := kI) (a2 := a1) (A' := (s_cl G A ((k : Int) - 8)).1) ok t1 ht ha1 (Or.inr ⟨(k : Int) - 8, hin, by omega, rfl⟩)
        exact go w T1 (by rw [ek2]; exact f2) f3 (t4.tr f4) (F_f_oddsOf_p5 rfl q0 rfl q6 rfl q7 (by rw [f1]) (by rw [f1]))) (fun kI s hkI hP => by
    obtain ⟨u, T⟩ := s
    obtain ⟨t1, t2, t3, t4⟩ := hP
    have t1 : RX o g G K A L U x T := t1
    have f1 : (zI T g 1).toInt = G 0 1 := t1.2.1.2.1.2.1
    have ee : ((8 : Int32) * zI T g 1 + (8 : Int32)).toInt = 8 * G 0 1 + 8 := dk_addT (dk_mulT z8 f1 (by omega) (by omega)) z8 (by omega) (by omega)
    have eE : F_g_endOfPlaces o T g = (8 : Int32) * zI T g 1 + (8 : Int32) := F_g_endOfPlaces_p0 rfl rfl rfl
    refine ⟨(T, u), F_f_oddsOf_p0 rfl (w_le.mpr (by rw [eE, ee]; omega)), t1, ?_, t4⟩
    rw [show (8 * G 0 1).toNat = (8 * G 0 1 + 8).toNat - 8 by omega]
    exact t2) ((65 - ((8 : Int32)).toInt).toNat + 1) 8 8 (x5 * (zI S g 0 * zI S g 1) * ((100 : Int32) - zI S g 4), S6) (by rw [z8]; omega) (by omega) z8 ⟨r6, by show _ = b0 + s_os G K A t 0; rw [e10.1]; show b0 = b0 + 0; omega, by decide, k6⟩
  rw [F_f_oddsOf_p6 (x_5 := x5) (S_6 := S6) rfl rfl rfl (by rw [e6]) (by rw [e6]) rfl rfl rfl rfl]
  obtain ⟨n1, n2, n3⟩ := main
  refine ⟨_, _, rfl, n2.trans ?_, n1, n3⟩
  unfold s_od
  rw [hb0, hm]
  have e64 := s_os_le (G := G) (K := K) (A := A) (t := t) (m := (8 * G 0 1).toNat) (by omega) (64 - (8 * G 0 1).toNat)
  rw [show (8 * G 0 1).toNat + (64 - (8 * G 0 1).toNat) = 64 by omega] at e64
  rw [e64]
/-- what odds tells -/
noncomputable def s_oV (G : aR) (K : Nat → List Int) (A : aR) (u w : Int) : Int := if u = -1 then 100 * (G 0 0 * G 0 1) else s_if ((0 ≤ u ∧ u < G 0 0) ∧ 0 ≤ w ∧ w < G 0 1) (s_od G K A (8 * w + u)) (-1)
theorem cx_odds (ok : s_ok G K A U) (h : RX o g G K A L U x S) : ∃ (S1 : dg_S) (y : Int32), F_d_odds o S a1 a2 = (S1, y) ∧ y.toInt = s_if (A 0 0 < 999) (s_oV G K A a1.toInt a2.toInt) (-1) ∧ RX o g G K A L U x S1 ∧ k_sk S S1 := by
  have z1 : (1 : Int32).toInt = 1 := by decide +kernel
  have z100 : (100 : Int32).toInt = 100 := by decide +kernel
  have m1 : (-1 : Int32).toInt = -1 := by decide +kernel
  have hgb := ok.1.1.1
  have hcm := cx_come (o := o) (a1 := 1) (a2 := 1) (a3 := 1) h.2.1 h.1 ok.1.1 ok.2.2.1.1 h.2.2.1 (by decide +kernel) (by decide +kernel)
  rw [z1] at hcm
  rcases hcm with ⟨e, w⟩ | ⟨e, w⟩
  rotate_left
  · exact ⟨S, -1, F_d_odds_p3 rfl e, by rw [s_if_n (by omega)]; exact m1, h, k_sk.rf⟩
  have ne : ¬ F_d_shiftsCome o S (1 : Int32) (1 : Int32) (1 : Int32) = (0 : Int32) := by rw [e]; decide +kernel
  rw [s_if_y (by omega)]
  unfold s_oV
  by_cases c0 : a1 = (-1 : Int32)
  · have d0 := dk_eqc m1 c0
    obtain ⟨g0, g1, -⟩ := h.2.1.2.1
    have m0 : 0 ≤ G 0 0 * G 0 1 := Int.mul_nonneg (by omega) (by omega)
    have m49 : G 0 0 * G 0 1 ≤ 7 * 7 := Int.mul_le_mul (by omega) (by omega) (by omega) (by omega)
    have e1 : ((100 : Int32) * zI S g 0).toInt = 100 * G 0 0 := dk_mulT z100 g0 (by omega) (by omega)
    refine ⟨S, _, F_d_odds_p2 rfl ne c0 h.1.symm rfl rfl rfl rfl, ?_, h, k_sk.rf⟩
    rw [if_pos d0, dk_mulT e1 g1 (by rw [Int.mul_assoc]; omega) (by rw [Int.mul_assoc]; omega), Int.mul_assoc]
  have d0 := dk_neqc m1 c0
  rw [if_neg d0]
  rcases cx_place (o := o) (a1 := a1) (a2 := a2) h.2.1 hgb with ⟨p1, p2, p3, p4⟩ | ⟨p1, p2⟩
  rotate_left
  · exact ⟨S, -1, F_d_odds_p1 rfl ne c0 h.1.symm rfl p2, by rw [s_if_n p1]; exact m1, h, k_sk.rf⟩
  have p40 := p4.1
  have n8 : ¬ F_g_placeOf o S g a1 a2 = (-1 : Int32) := fun z => by have := dk_eqc (k := -1) m1 z; omega
  obtain ⟨S1, y, e1, v1, r1, k1⟩ := cx_oddsOf (o := o) (a1 := F_g_placeOf o S g a1 a2) (t := 8 * a2.toInt + a1.toInt) ok h p4 p3
  refine ⟨S1, y, F_d_odds_p0 rfl ne c0 h.1.symm rfl n8 (by rw [e1]) (by rw [e1]), ?_, r1, k1⟩
  rw [s_if_y ⟨p1, p2⟩]
  exact v1
/-- the reference: behind a quake -/
theorem mx_qb1 (ok : s_ok G K A U) (h : RM G K A L U x S) (h9 : A 0 0 < 999) (hc : s_in G c) (ha : a1.toInt = c) (ht : s_in G t) (ha2 : a2.toInt = t) : ∃ S1 S2 S3, F_m_copies o S (1 : Int32) (0 : Int32) = S1 ∧ (F_m_isSolidBy o S1 (1 : Int32) a1).1 = S2 ∧ (F_m_ticks o S2 (1 : Int32)).1 = S3 ∧ RM G K A L U x S3 ∧ k_v 1 S S3 ∧ (F_m_isOpen o S3 (1 : Int32) a2).toInt = s_o1 G K (s_cl G A c).1 t := by
  have z1 : (1 : Int32).toInt = 1 := by decide +kernel
  have hb := ok.1.1.2.2.2
  obtain ⟨S1, e1, r1, l1, k1⟩ := mx_try1 (o := o) ok h
  obtain ⟨S2, y2, e2, -, l2, k2⟩ := mx_close (o := o) (v := 1) (a1 := 1) (a2 := a1) hb r1.1.1.1 l1 z1 (by decide) hc ha
  have r2 : RM G K A L U x S2 := r1.v hb k2 (by decide) (k2.lay r1.2.1 (by decide) hb)
  have okA := s_cl_okU (c := c) ok
  obtain ⟨S3, y3, e3, r3, l3, k3⟩ := mx_tick1 (o := o) ok r2 okA.2.2.1.1 okA.2.2.1.2 l2
  have a00 : (s_cl G A c).1 0 0 = A 0 0 := (s_cl_ok (c := c) ok.2.2.1.1 ok.2.2.1.2).2.2.1
  rw [s_tu_tk (by rw [a00]; exact h9)] at l3
  refine ⟨S1, S2, S3, e1, by rw [e2], by rw [e3], r3, (k1.tr k2).tr k3, ?_⟩
  have ho := mx_op (o := o) (a := 1) (b := a2) l3.1 z1 (by decide) (by rw [ha2]; exact ht)
  rw [ha2] at ho
  exact s_b_i ho
/-- the reference: behind no quake -/
theorem mx_qb2 (ok : s_ok G K A U) (h : RM G K A L U x S) (h9 : A 0 0 < 999) (ht : s_in G t) (ha2 : a2.toInt = t) : ∃ S1 S3, F_m_copies o S (1 : Int32) (0 : Int32) = S1 ∧ (F_m_ticks o S1 (1 : Int32)).1 = S3 ∧ RM G K A L U x S3 ∧ k_v 1 S S3 ∧ (F_m_isOpen o S3 (1 : Int32) a2).toInt = s_o1 G K A t := by
  have z1 : (1 : Int32).toInt = 1 := by decide +kernel
  obtain ⟨S1, e1, r1, l1, k1⟩ := mx_try1 (o := o) ok h
  obtain ⟨S3, y3, e3, r3, l3, k3⟩ := mx_tick1 (o := o) ok r1 ok.2.2.1.1 ok.2.2.1.2 l1
  rw [s_tu_tk h9] at l3
  refine ⟨S1, S3, e1, by rw [e3], r3, k1.tr k3, ?_⟩
  have ho := mx_op (o := o) (a := 1) (b := a2) l3.1 z1 (by decide) (by rw [ha2]; exact ht)
  rw [ha2] at ho
  exact s_b_i ho
theorem mx_oloop1 (ok : s_ok G K A U) (h : RM G K A L U x S) (h9 : A 0 0 < 999) (ht : s_in G t) {w : Int32} (hw : w.toInt = t) {b0 : Int} (hb0 : 0 ≤ b0 ∧ b0 ≤ 4900) {u : Int32} (hu : u.toInt = b0) {S9 : dg_S} (h6 : (S9.2.1 6 (zI S9 0 13).toNatClampNeg).toInt = G 0 4) (hk9 : k_v 1 S9 S) {z : dg_S × Int32} : ∃ (T : dg_S) (y : Int32), lp (F_m_odds_B1 o w (zI S9 0 13)) z ((65 - ((0 : Int32)).toInt).toNat + 1) ((0 : Int32), u, S) = (T, y) ∧ y.toInt = b0 + s_os G K A t 64 ∧ RM G K A L U x T := by
  have z0 : (0 : Int32).toInt = 0 := by decide +kernel
  have z64 : (64 : Int32).toInt = 64 := by decide +kernel
  have hq := ok.1.2.2.1
  have hgb := ok.1.1.1
  have main := lp_cnt (f := F_m_odds_B1 o w (zI S9 0 13)) (z := z) (W := 64) (P := fun k s => RM G K A L U x s.2 ∧ s.1.toInt = b0 + s_os G K A t k ∧ k_v 1 S9 s.2) (Q := fun q => RM G K A L U x q.1 ∧ q.2.toInt = b0 + s_os G K A t 64) (by decide) (fun k kI s hk hkI hP => by
    obtain ⟨u, T⟩ := s
    obtain ⟨t1, t2, t3⟩ := hP
    have t1 : RM G K A L U x T := t1
    have t2 : u.toInt = b0 + s_os G K A t k := t2
    have q0 : ¬ (64 : Int32) ≤ kI := fun z => by have := dk_gec z64 z; omega
    have sb := s_os_b (G := G) (K := K) (A := A) (t := t) hq k
    rcases mx_isCellOf (o := o) (a := kI) t1.1.1.1 hgb with ⟨e1, y1⟩ | ⟨e1, y1⟩
    rotate_left
    · rw [hkI] at y1
      refine ⟨(u, T), (F_m_odds_p7 q0 rfl e1).trans (F_m_odds_p3 rfl), t1, ?_, t3⟩
      show u.toInt = b0 + s_os G K A t (k + 1)
      rw [s_os_n y1]
      exact t2
    rw [hkI] at y1
    have n1 : ¬ F_m_isCellOf o T kI = (0 : Int32) := by rw [e1]; decide +kernel
    obtain ⟨T1, T2, T3, f1, f2, f3, f4, f5, f6⟩ := mx_qb1 (o := o) (a1 := kI) (a2 := w) (c := (k : Int)) ok t1 h9 y1 hkI ht hw
    have g6 : (T3.2.1 6 (zI S9 0 13).toNatClampNeg).toInt = G 0 4 := by rw [(t3.tr f5).row (by decide)]; exact h6
    have ob := s_oq_b (G := G) (K := K) (A := (s_cl G A (k : Int)).1) (t := t) hq
    have go : ∀ w' : Int32, w'.toInt = s_o1 G K (s_cl G A (k : Int)).1 t * G 0 4 → F_m_odds_B1 o w (zI S9 0 13) (kI, u, T) = F_m_odds_J3 u w' kI T3 → ∃ s1, F_m_odds_B1 o w (zI S9 0 13) (kI, u, T) = .inl (kI + 1, s1) ∧ RM G K A L U x s1.2 ∧ s1.1.toInt = b0 + s_os G K A t (k + 1) ∧ k_v 1 S9 s1.2 := fun w' hw' e => by
      refine ⟨(u + w', T3), (e.trans (F_m_odds_p4 rfl)).trans (F_m_odds_p3 rfl), f4, ?_, t3.tr f5⟩
      show (u + w').toInt = b0 + s_os G K A t (k + 1)
      rw [s_os_y y1, dk_addT t2 hw' (by omega) (by omega)]
      omega
    by_cases q : F_m_isOpen o T3 (1 : Int32) w = (0 : Int32)
    · rw [q, z0] at f6
      exact go 0 (by rw [z0, ← f6, Int.zero_mul]) (F_m_odds_p5 q0 rfl n1 f1.symm f2.symm f3.symm rfl q)
    · have d := dk_neqc z0 q
      have w1 : s_o1 G K (s_cl G A (k : Int)).1 t = 1 := by
        rcases s_o1_01 (G := G) (K := K) (A := (s_cl G A (k : Int)).1) (t := t) with w | w <;> omega
      exact go _ (by rw [w1, Int.one_mul]; exact g6) (F_m_odds_p6 q0 rfl n1 f1.symm f2.symm f3.symm rfl q rfl)) (fun kI s hkI hP => by
    obtain ⟨u, T⟩ := s
    exact ⟨(T, u), F_m_odds_p2 (dk_gep z64 (by omega)), hP.1, hP.2.1⟩) ((65 - ((0 : Int32)).toInt).toNat + 1) 0 0 (u, S) (by rw [z0]; decide) (by decide) z0 ⟨h, by show u.toInt = b0 + 0; omega, hk9⟩
  exact ⟨_, _, rfl, main.2, main.1⟩
theorem mx_oloop4 (ok : s_ok G K A U) (h : RM G K A L U x S) (h9 : A 0 0 < 999) (ht : s_in G t) {w : Int32} (hw : w.toInt = t) {b0 : Int} (hb0 : 0 ≤ b0 ∧ b0 ≤ 4900) {u : Int32} (hu : u.toInt = b0) {S9 : dg_S} (h6 : (S9.2.1 6 (zI S9 0 13).toNatClampNeg).toInt = G 0 4) (hk9 : k_v 1 S9 S) {z : dg_S × Int32} : ∃ (T : dg_S) (y : Int32), lp (F_m_odds_B4 o w (zI S9 0 13)) z ((65 - ((0 : Int32)).toInt).toNat + 1) ((0 : Int32), u, S) = (T, y) ∧ y.toInt = b0 + s_os G K A t 64 ∧ RM G K A L U x T := by
  have z0 : (0 : Int32).toInt = 0 := by decide +kernel
  have z64 : (64 : Int32).toInt = 64 := by decide +kernel
  have hq := ok.1.2.2.1
  have hgb := ok.1.1.1
  have main := lp_cnt (f := F_m_odds_B4 o w (zI S9 0 13)) (z := z) (W := 64) (P := fun k s => RM G K A L U x s.2 ∧ s.1.toInt = b0 + s_os G K A t k ∧ k_v 1 S9 s.2) (Q := fun q => RM G K A L U x q.1 ∧ q.2.toInt = b0 + s_os G K A t 64) (by decide) (fun k kI s hk hkI hP => by
    obtain ⟨u, T⟩ := s
    obtain ⟨t1, t2, t3⟩ := hP
    have t1 : RM G K A L U x T := t1
    have t2 : u.toInt = b0 + s_os G K A t k := t2
    have q0 : ¬ (64 : Int32) ≤ kI := fun z => by have := dk_gec z64 z; omega
    have sb := s_os_b (G := G) (K := K) (A := A) (t := t) hq k
    rcases mx_isCellOf (o := o) (a := kI) t1.1.1.1 hgb with ⟨e1, y1⟩ | ⟨e1, y1⟩
    rotate_left
    · rw [hkI] at y1
      refine ⟨(u, T), (F_m_odds_p14 q0 rfl e1).trans (F_m_odds_p10 rfl), t1, ?_, t3⟩
      show u.toInt = b0 + s_os G K A t (k + 1)
      rw [s_os_n y1]
      exact t2
    rw [hkI] at y1
    have n1 : ¬ F_m_isCellOf o T kI = (0 : Int32) := by rw [e1]; decide +kernel
    obtain ⟨T1, T2, T3, f1, f2, f3, f4, f5, f6⟩ := mx_qb1 (o := o) (a1 := kI) (a2 := w) (c := (k : Int)) ok t1 h9 y1 hkI ht hw
    have g6 : (T3.2.1 6 (zI S9 0 13).toNatClampNeg).toInt = G 0 4 := by rw [(t3.tr f5).row (by decide)]; exact h6
    have ob := s_oq_b (G := G) (K := K) (A := (s_cl G A (k : Int)).1) (t := t) hq
    have go : ∀ w' : Int32, w'.toInt = s_o1 G K (s_cl G A (k : Int)).1 t * G 0 4 → F_m_odds_B4 o w (zI S9 0 13) (kI, u, T) = F_m_odds_J6 u w' kI T3 → ∃ s1, F_m_odds_B4 o w (zI S9 0 13) (kI, u, T) = .inl (kI + 1, s1) ∧ RM G K A L U x s1.2 ∧ s1.1.toInt = b0 + s_os G K A t (k + 1) ∧ k_v 1 S9 s1.2 := fun w' hw' e => by
      refine ⟨(u + w', T3), (e.trans (F_m_odds_p11 rfl)).trans (F_m_odds_p10 rfl), f4, ?_, t3.tr f5⟩
      show (u + w').toInt = b0 + s_os G K A t (k + 1)
      rw [s_os_y y1, dk_addT t2 hw' (by omega) (by omega)]
      omega
    by_cases q : F_m_isOpen o T3 (1 : Int32) w = (0 : Int32)
    · rw [q, z0] at f6
      exact go 0 (by rw [z0, ← f6, Int.zero_mul]) (F_m_odds_p12 q0 rfl n1 f1.symm f2.symm f3.symm rfl q)
    · have d := dk_neqc z0 q
      have w1 : s_o1 G K (s_cl G A (k : Int)).1 t = 1 := by
        rcases s_o1_01 (G := G) (K := K) (A := (s_cl G A (k : Int)).1) (t := t) with w | w <;> omega
      exact go _ (by rw [w1, Int.one_mul]; exact g6) (F_m_odds_p13 q0 rfl n1 f1.symm f2.symm f3.symm rfl q rfl)) (fun kI s hkI hP => by
    obtain ⟨u, T⟩ := s
    exact ⟨(T, u), F_m_odds_p9 (dk_gep z64 (by omega)), hP.1, hP.2.1⟩) ((65 - ((0 : Int32)).toInt).toNat + 1) 0 0 (u, S) (by rw [z0]; decide) (by decide) z0 ⟨h, by show u.toInt = b0 + 0; omega, hk9⟩
  exact ⟨_, _, rfl, main.2, main.1⟩
theorem mx_odds (ok : s_ok G K A U) (h : RM G K A L U x S) : ∃ (S1 : dg_S) (y : Int32), F_m_odds o S a1 a2 = (S1, y) ∧ y.toInt = s_if (A 0 0 < 999) (s_oV G K A a1.toInt a2.toInt) (-1) ∧ RM G K A L U x S1 := by
  have z0 : (0 : Int32).toInt = 0 := by decide +kernel
  have z1 : (1 : Int32).toInt = 1 := by decide +kernel
  have z100 : (100 : Int32).toInt = 100 := by decide +kernel
  have m1 : (-1 : Int32).toInt = -1 := by decide +kernel
  have hgb := ok.1.1.1
  have hq := ok.1.2.2.1
  have hcm := mx_come (o := o) (a1 := 1) (a2 := 1) (a3 := 1) h.1.1.1 h.2.1 ok.2.2.1.1 (by decide +kernel) (by decide +kernel)
  rw [z1] at hcm
  rcases hcm with ⟨e, w⟩ | ⟨e, w⟩
  rotate_left
  · exact ⟨S, -1, F_m_odds_p0 rfl e, by rw [s_if_n (by omega)]; exact m1, h⟩
  have ne : ¬ F_m_isAhead o S (1 : Int32) (1 : Int32) (1 : Int32) = (0 : Int32) := by rw [e]; decide +kernel
  rw [s_if_y (by omega)]
  have h9 : A 0 0 < 999 := by omega
  have f2 : (S.2.1 2 (zI S 0 13).toNatClampNeg).toInt = G 0 0 := h.1.1.1.2.1
  have f3 : (S.2.1 3 (zI S 0 13).toNatClampNeg).toInt = G 0 1 := h.1.1.1.2.2.1
  have f6 : (S.2.1 6 (zI S 0 13).toNatClampNeg).toInt = G 0 4 := h.1.2.1.2.1
  obtain ⟨m, hm⟩ : ∃ m, m = G 0 0 * G 0 1 := ⟨_, rfl⟩
  have m0 : 0 ≤ m := by rw [hm]; exact Int.mul_nonneg (by omega) (by omega)
  have m49 : m ≤ 7 * 7 := by rw [hm]; exact Int.mul_le_mul (by omega) (by omega) (by omega) (by omega)
  have e7 : (S.2.1 2 (zI S 0 13).toNatClampNeg * S.2.1 3 (zI S 0 13).toNatClampNeg).toInt = m := by rw [dk_mulT f2 f3 (by omega) (by omega), hm]
  unfold s_oV
  rw [← hm]
  by_cases c0 : a1 = (-1 : Int32)
  · have d0 := dk_eqc m1 c0
    refine ⟨S, _, F_m_odds_p1 rfl rfl rfl rfl rfl ne c0 rfl, ?_, h⟩
    rw [if_pos d0]
    exact dk_mulT z100 e7 (by omega) (by omega)
  have d0 := dk_neqc m1 c0
  rw [if_neg d0]
  rcases mx_cellof (o := o) (a1 := a1) (a2 := a2) h.1.1.1 hgb with ⟨p1, p2, p3, p4, p5⟩ | ⟨p1, p2⟩
  rotate_left
  · exact ⟨S, -1, F_m_odds_p16 rfl ne c0 rfl p2, by rw [s_if_n p1]; exact m1, h⟩
  have nc : ¬ F_m_isCell o S a1 a2 = (0 : Int32) := by rw [p3]; decide +kernel
  rw [s_if_y ⟨p1, p2⟩]
  obtain ⟨t, htt⟩ : ∃ t, t = 8 * a2.toInt + a1.toInt := ⟨_, rfl⟩
  rw [← htt] at p4 p5 ⊢
  obtain ⟨S1, S3, e1, e3, r3, k3, v3⟩ := mx_qb2 (o := o) (a2 := (8 : Int32) * a2 + a1) ok h h9 p5 p4
  unfold s_od
  rw [← hm]
  by_cases q : F_m_isOpen o S3 (1 : Int32) ((8 : Int32) * a2 + a1) = (0 : Int32)
  · rw [q, z0] at v3
    obtain ⟨T, y, l1, l2, l3⟩ := mx_oloop1 (o := o) (S9 := S) (u := 0) (b0 := 0) (z := (S, (0 : Int32))) ok r3 h9 p5 p4 ⟨by decide, by decide⟩ z0 f6 k3
    refine ⟨T, y, (F_m_odds_p8 rfl rfl ne c0 rfl nc rfl rfl e1.symm e3.symm rfl q).trans l1, ?_, l3⟩
    rw [l2, ← v3, Int.zero_mul, Int.zero_mul]
  · have d := dk_neqc z0 q
    have w1 : s_o1 G K A t = 1 := by
      rcases s_o1_01 (G := G) (K := K) (A := A) (t := t) with w | w <;> omega
    have g6 : (S3.2.1 6 (zI S 0 13).toNatClampNeg).toInt = G 0 4 := by rw [k3.row (by decide)]; exact f6
    have e9 : ((100 : Int32) - S3.2.1 6 (zI S 0 13).toNatClampNeg).toInt = 100 - G 0 4 := dk_subT z100 g6 (by omega) (by omega)
    have d00 : 0 ≤ (100 - G 0 4) * m := Int.mul_nonneg (by omega) m0
    have d01 : (100 - G 0 4) * m ≤ 100 * (7 * 7) := Int.mul_le_mul (by omega) m49 m0 (by omega)
    have e10 : (((100 : Int32) - S3.2.1 6 (zI S 0 13).toNatClampNeg) * (S.2.1 2 (zI S 0 13).toNatClampNeg * S.2.1 3 (zI S 0 13).toNatClampNeg)).toInt = (100 - G 0 4) * m := dk_mulT e9 e7 (by omega) (by omega)
    obtain ⟨T, y, l1, l2, l3⟩ := mx_oloop4 (o := o) (S9 := S) (u := ((100 : Int32) - S3.2.1 6 (zI S 0 13).toNatClampNeg) * (S.2.1 2 (zI S 0 13).toNatClampNeg * S.2.1 3 (zI S 0 13).toNatClampNeg)) (b0 := (100 - G 0 4) * m) (z := (S, (0 : Int32))) ok r3 h9 p5 p4 ⟨by omega, by omega⟩ e10 f6 k3
    refine ⟨T, y, (F_m_odds_p15 rfl rfl rfl rfl rfl ne c0 rfl nc rfl rfl e1.symm e3.symm rfl q rfl rfl rfl).trans l1, ?_, l3⟩
    rw [l2, w1, Int.one_mul, Int.mul_comm]
/-- ODDS on both sides -/
theorem sim_odds (ok : s_ok G K A U) (hX : RX oX g G K A L U x SX) (hM : RM G K A L U x SM) : (F_d_odds oX SX a1 a2).2 = (F_m_odds oM SM a1 a2).2 ∧ RX oX g G K A L U x (F_d_odds oX SX a1 a2).1 ∧ k_sk SX (F_d_odds oX SX a1 a2).1 ∧ RM G K A L U x (F_m_odds oM SM a1 a2).1 := by
  obtain ⟨S1, y1, e1, v1, r1, k1⟩ := cx_odds (o := oX) (a1 := a1) (a2 := a2) ok hX
  obtain ⟨S2, y2, e2, v2, r2⟩ := mx_odds (o := oM) (a1 := a1) (a2 := a2) ok hM
  rw [e1, e2]
  exact ⟨Int32.toInt_inj.mp (v1.trans v2.symm), r1, k1, r2⟩
end EE
