/-! IMAGE: the reference; OCTET; both sides -/
/-- what the reference has written -/
def mx_wl (l : List Int) (S : dg_S) : Prop := ((zI S 0 76).toInt = l.length ∧ l.length ≤ 124) ∧ ∀ i, i < l.length → (S.2.1 50 i).toInt = l.getD i 0 ∧ 0 ≤ l.getD i 0 ∧ l.getD i 0 ≤ 255
def k_in (S S1 : dg_S) : Prop := kp (fun a b => a = 0 ∧ b = 76) (fun a => a = 50) S S1
section EQ
variable {o oX oM g n p k i : Nat} {G A A' : aR} {K : Nat → List Int} {L L' : s_L} {U : s_U} {F : s_F} {l : List Int} {S S0 S1 SX SM T : dg_S} {x x' r c v t : Int} {a a1 a2 a3 a4 y : Int32}
theorem w_255b : 0 ≤ (a &&& 255).toInt ∧ (a &&& 255).toInt ≤ 255 := by
  obtain ⟨j, hj, e⟩ := pk_andE a (m := 255) 8 (by decide)
  have e8 : (2 : Nat) ^ 8 = 256 := by decide
  rw [e8] at hj
  rw [e, nI_toInt (Nat.lt_trans hj (by decide))]
  omega
theorem mx_iput (h : mx_wl l S) (hl : l.length < 124) (ha : (a1 &&& 255).toInt = v) : ∃ S1, F_m_writes o S a1 = S1 ∧ mx_wl (l ++ [v]) S1 ∧ k_in S S1 := by
  have z1 : (1 : Int32).toInt = 1 := by decide +kernel
  obtain ⟨⟨h1, h2⟩, h4⟩ := h
  obtain ⟨S3, e3⟩ : ∃ X, X = dg_uf S 50 (upd (S.2.1 50) (zI S 0 76).toNatClampNeg (a1 &&& 255)) := ⟨_, rfl⟩
  obtain ⟨S5, e5⟩ : ∃ X, X = dg_uF S3 0 76 (.int (zI S 0 76 + (1 : Int32))) := ⟨_, rfl⟩
  have nn : (zI S 0 76).toNatClampNeg = l.length := by rw [dk_clN]; omega
  have len : (l ++ [v]).length = l.length + 1 := by
    rw [List.length_append]
    rfl
  refine ⟨S5, F_m_writes_p0 rfl rfl e3 rfl e5, ⟨⟨?_, by omega⟩, fun i hi => ?_⟩, ?_⟩
  · rw [e5, w_I, if_pos ⟨rfl, rfl⟩, len, dk_addT h1 z1 (by omega) (by omega)]
    omega
  · rw [len] at hi
    rw [getD_ap (by omega), e5]
    show (S3.2.1 50 i).toInt = _ ∧ _
    rw [e3, w_f, if_pos rfl, w_u, nn]
    have vb := w_255b (a := a1)
    by_cases q : i = l.length
    · rw [if_pos q, if_pos q]
      exact ⟨ha, by omega, by omega⟩
    · rw [if_neg q, if_neg q]
      exact h4 i (by omega)
  · rw [e5, e3]
    exact kp.uF (kp.uf kp.rf rfl) ⟨rfl, rfl⟩
theorem k_in.rm (h : RM G K A L U x S) (hb : G 0 6 ≤ 16) (k : k_in S S1) : RM G K A L U x S1 := h.keep hb k (fun b hb => by omega) (fun a _ => by omega) (fun a _ _ => by omega)
theorem w_255s (h : a.toInt = v) (h0 : 0 ≤ v ∧ v ≤ 255) : (a &&& 255).toInt = v := by
  rw [w_255 (by omega), h]
  omega
/-- cells -/
theorem mx_imC (ok : s_ok G K A U) (h : RM G K A L U x S) (hl : mx_wl (s_i0 A) S) (hy : y = zI S 0 76) {S9 : dg_S} : ∃ T, lp (F_m_image_B12 S9 o) (S9, (0 : Int32)) ((65 - ((0 : Int32)).toInt).toNat + 1) ((0 : Int32), y, S) = F_m_image_J2 S9 o (zI T 0 76) T ∧ mx_wl (s_iz G A (s_i0 A) 64) T ∧ k_in S T := by
  have z0 : (0 : Int32).toInt = 0 := by decide +kernel
  have z1 : (1 : Int32).toInt = 1 := by decide +kernel
  have z64 : (64 : Int32).toInt = 64 := by decide +kernel
  have hb := ok.1.1.2.2.2
  have a254 : ((254 : Int32) &&& 255).toInt = 254 := by decide +kernel
  have am1 : ((-1 : Int32) &&& 255).toInt = 255 := by decide +kernel
  have m1 : (-1 : Int32).toInt = -1 := by decide +kernel
  have el : (s_i0 A).length = 5 := rfl
  have main := lp_cnt (f := F_m_image_B12 S9 o) (z := (S9, (0 : Int32))) (W := 64) (P := fun c s => s.1 = zI s.2 0 76 ∧ mx_wl (s_iz G A (s_i0 A) c) s.2 ∧ k_in S s.2) (Q := fun q => ∃ T, q = F_m_image_J2 S9 o (zI T 0 76) T ∧ mx_wl (s_iz G A (s_i0 A) 64) T ∧ k_in S T) (by decide) (fun c cI s hc hcI hP => by
    obtain ⟨u, T⟩ := s
    obtain ⟨t0, t1, t2⟩ := hP
    have t0 : u = zI T 0 76 := t0
    have t1 : mx_wl (s_iz G A (s_i0 A) c) T := t1
    have t2 : k_in S T := t2
    have rT := k_in.rm h hb t2
    have q0 : ¬ (64 : Int32) ≤ cI := fun z => by have := dk_gec z64 z; omega
    have cn : cI.toNatClampNeg = c := by rw [dk_clN]; omega
    have len := s_iz_l (A := A) (l := s_i0 A) ok.1.1.1 c (by omega)
    rcases mx_isCellOf (o := o) (a := cI) rT.1.1.1 ok.1.1.1 with ⟨e, hin⟩ | ⟨e, hin⟩
    rotate_left
    · rw [hcI] at hin
      exact ⟨(u, T), F_m_image_p18 q0 rfl e rfl, t0, by rw [s_iz_n hin]; exact t1, t2⟩
    rw [hcI] at hin
    have ne : ¬ F_m_isCellOf o T cI = (0 : Int32) := by rw [e]; decide +kernel
    obtain ⟨i31, i32, il, iu⟩ := rT.2.1.1 (c : Int) hin
    have adn : mx_ad 0 (c : Int) = c := by unfold mx_ad; omega
    rw [adn] at i31 i32
    have i31 : (T.2.1 31 cI.toNatClampNeg).toInt = mx_en (s_c A (c : Int)) := by rw [cn]; exact i31
    have i32 : (T.2.1 32 cI.toNatClampNeg).toInt = mx_cu (s_c A (c : Int)) := by rw [cn]; exact i32
    by_cases q1 : T.2.1 32 cI.toNatClampNeg = (1 : Int32)
    · have d1 := dk_eqc z1 q1
      rw [i32] at d1
      have v2 : s_c A (c : Int) = -2 := by
        unfold mx_cu at d1
        by_cases w : s_c A (c : Int) = -2
        · exact w
        · rw [if_neg w] at d1
          omega
      obtain ⟨T1, e1, w1, k1⟩ := mx_iput (o := o) t1 (by omega) a254
      refine ⟨(zI T1 0 76, T1), F_m_image_p20 q0 rfl ne rfl q1 e1.symm rfl rfl, rfl, ?_, t2.tr k1⟩
      rw [s_iz_y hin, v2]
      exact w1
    · have d1 := dk_neqc z1 q1
      rw [i32] at d1
      have v2 : s_c A (c : Int) ≠ -2 := fun z => d1 (by unfold mx_cu; rw [if_pos z])
      have hv : (T.2.1 31 cI.toNatClampNeg &&& 255).toInt = cx_en (s_c A (c : Int)) := by
        unfold mx_en at i31
        unfold cx_en
        by_cases w : s_c A (c : Int) = -1
        · rw [if_pos (by omega)] at i31
          have e9 : T.2.1 31 cI.toNatClampNeg = -1 := Int32.toInt_inj.mp (by rw [m1]; exact i31)
          rw [if_pos w, e9]
          exact am1
        · rw [if_neg (by omega)] at i31
          rw [if_neg w, if_neg v2]
          exact w_255s i31 (by omega)
      obtain ⟨T1, e1, w1, k1⟩ := mx_iput (o := o) t1 (by omega) hv
      refine ⟨(zI T1 0 76, T1), F_m_image_p19 q0 rfl ne rfl q1 rfl e1.symm rfl rfl, rfl, ?_, t2.tr k1⟩
      rw [s_iz_y hin]
      exact w1) (fun cI s hcI hP => by
    obtain ⟨u, T⟩ := s
    have t0 : u = zI T 0 76 := hP.1
    refine ⟨_, F_m_image_p17 (dk_gep z64 (by omega)), T, by rw [← t0], hP.2.1, hP.2.2⟩) ((65 - ((0 : Int32)).toInt).toNat + 1) 0 0 (y, S) (by rw [z0]; decide) (by decide) z0 ⟨hy, hl, kp.rf⟩
  exact main
/-- flags of a set of bits -/
theorem mx_imF {f9 : Int32 × Int32 × dg_S → (Int32 × Int32 × dg_S) ⊕ (dg_S × Int32)} {J : Int32 → dg_S → dg_S × Int32} {z : dg_S × Int32} {N q : Nat} {f : Nat → Int} {E : dg_S → Int32} (f0 : ∀ (x u : Int32) (T : dg_S), E T ≤ x → f9 (x, u, T) = .inr (J u T)) (f1 : ∀ (x u : Int32) (T : dg_S), ¬ E T ≤ x → F_m_has2 o T (T.2.1 q (0 : Int32).toNatClampNeg) x = (0 : Int32) → f9 (x, u, T) = .inl (x + 1, zI (F_m_writes o T 0) 0 76, F_m_writes o T 0)) (f2 : ∀ (x u : Int32) (T : dg_S), ¬ E T ≤ x → ¬ F_m_has2 o T (T.2.1 q (0 : Int32).toNatClampNeg) x = (0 : Int32) → f9 (x, u, T) = .inl (x + 1, zI (F_m_writes o T 1) 0 76, F_m_writes o T 1)) (hq : q ≠ 50) (hE : ∀ T, k_in S T → (E T).toInt = n) (hN : n + 1 ≤ N) (hn : n ≤ 6) (h : mx_wl l S) (hy : y = zI S 0 76) (hl : l.length + n ≤ 124) (hr : 0 ≤ (S.2.1 q (0 : Int32).toNatClampNeg).toInt ∧ (S.2.1 q (0 : Int32).toNatClampNeg).toInt < 64) (hf : ∀ i, i < n → f i = mx_bit (S.2.1 q (0 : Int32).toNatClampNeg).toInt i) : ∃ T, lp f9 z N ((0 : Int32), y, S) = J (zI T 0 76) T ∧ mx_wl (s_sg f l n) T ∧ k_in S T := by
  have z0 : (0 : Int32).toInt = 0 := by decide +kernel
  have a0 : ((0 : Int32) &&& 255).toInt = 0 := by decide +kernel
  have a1' : ((1 : Int32) &&& 255).toInt = 1 := by decide +kernel
  refine lp_cnt (f := f9) (z := z) (W := n) (P := fun i s => s.1 = zI s.2 0 76 ∧ mx_wl (s_sg f l i) s.2 ∧ k_in S s.2) (Q := fun q => ∃ T, q = J (zI T 0 76) T ∧ mx_wl (s_sg f l n) T ∧ k_in S T) (by omega) (fun i iI s hi hiI hP => ?_) (fun iI s hiI hP => ?_) N 0 0 (y, S) (by omega) (by omega) z0 ⟨hy, h, kp.rf⟩
  · obtain ⟨u, T⟩ := s
    obtain ⟨t0, t1, t2⟩ := hP
    have t1 : mx_wl (s_sg f l i) T := t1
    have t2 : k_in S T := t2
    have q0 : ¬ E T ≤ iI := fun z => by have := w_le.mp z; have := hE T t2; omega
    have rq : T.2.1 q = S.2.1 q := (t2.2 q hq).1
    have hb := hf i hi
    rcases mx_has2 (o := o) (S := T) (a := T.2.1 q (0 : Int32).toNatClampNeg) (b := iI) (by rw [rq]; exact hr) (by omega) with ⟨e, w⟩ | ⟨e, w⟩
    · rw [rq, hiI, show ((i : Int)).toNat = i by omega, ← hb] at w
      obtain ⟨T1, e1, w1, k1⟩ := mx_iput (o := o) t1 (by rw [s_sg_l]; omega) a1'
      refine ⟨(zI T1 0 76, T1), by rw [f2 iI u T q0 (by rw [e]; decide +kernel), e1], rfl, ?_, t2.tr k1⟩
      show mx_wl (s_sg f l i ++ [f i]) T1
      rw [w]
      exact w1
    · rw [rq, hiI, show ((i : Int)).toNat = i by omega, ← hb] at w
      obtain ⟨T1, e1, w1, k1⟩ := mx_iput (o := o) t1 (by rw [s_sg_l]; omega) a0
      refine ⟨(zI T1 0 76, T1), by rw [f1 iI u T q0 e, e1], rfl, ?_, t2.tr k1⟩
      show mx_wl (s_sg f l i ++ [f i]) T1
      rw [w]
      exact w1
  · obtain ⟨u, T⟩ := s
    have t0 : u = zI T 0 76 := hP.1
    exact ⟨_, f0 iI u T (w_le.mpr (by have := hE T hP.2.2; omega)), T, by rw [← t0], hP.2.1, hP.2.2⟩
/-- the plan -/
theorem mx_imP (ok : s_ok G K A U) (h : RM G K A L U x S) (hl : mx_wl l S) (hl9 : l.length ≤ 60) (hy : y = zI S 0 76) {S9 : dg_S} (h13 : zI S9 0 13 = zI S 0 13) : ∃ T, lp (F_m_image_B10 S9 o) (S9, (0 : Int32)) ((17 - ((0 : Int32)).toInt).toNat + 1) ((0 : Int32), y, S) = F_m_image_J4 S9 o (zI T 0 76) T ∧ mx_wl (s_pl A l (G 0 6).toNat) T ∧ k_in S T := by
  have z0 : (0 : Int32).toInt = 0 := by decide +kernel
  have hb := ok.1.1.2.2.2
  have h6 := ok.1.1.2.2
  have w3 := ok.2.2.1.1.2.2.2.1
  have main := lp_cnt (f := F_m_image_B10 S9 o) (z := (S9, (0 : Int32))) (W := (G 0 6).toNat) (P := fun k s => s.1 = zI s.2 0 76 ∧ mx_wl (s_pl A l k) s.2 ∧ k_in S s.2) (Q := fun q => ∃ T, q = F_m_image_J4 S9 o (zI T 0 76) T ∧ mx_wl (s_pl A l (G 0 6).toNat) T ∧ k_in S T) (by omega) (fun k kI s hk hkI hP => by
    obtain ⟨u, T⟩ := s
    obtain ⟨t0, t1, t2⟩ := hP
    have t1 : mx_wl (s_pl A l k) T := t1
    have t2 : k_in S T := t2
    have rT := k_in.rm h hb t2
    have kn : kI.toNatClampNeg = k := by rw [dk_clN]; omega
    have f9 : (T.2.1 9 (zI S9 0 13).toNatClampNeg).toInt = G 0 6 := by
      rw [h13, ← t2.I (a := 0) (b := 13) (by omega)]
      exact rT.1.1.1.2.2.2.2
    obtain ⟨wm, wc⟩ := w3 k (by omega)
    have wc0 := wc.1
    obtain ⟨mm, mc⟩ := rT.2.1.2.2.2.2.1 k (by omega)
    rw [show 16 * 0 + k = k by omega] at mm mc
    have mm : (T.2.1 35 kI.toNatClampNeg).toInt = A 3 k := by rw [kn]; exact mm
    have mc : (T.2.1 36 kI.toNatClampNeg).toInt = A 4 k := by rw [kn]; exact mc
    have len := s_pl_l (A := A) (l := l) k
    have la : (s_pl A l k ++ [A 3 k]).length = (s_pl A l k).length + 1 := by rw [List.length_append]; rfl
    have lb : ((s_pl A l k ++ [A 3 k]) ++ [A 4 k % 8]).length = (s_pl A l k).length + 2 := by rw [List.length_append, la]; rfl
    obtain ⟨T1, u1, u2, u3⟩ := mx_iput (o := o) t1 (by omega) (w_255s mm (by omega))
    have mc1 : (T1.2.1 36 kI.toNatClampNeg).toInt = A 4 k := by rw [(u3.2 36 (by decide)).1]; exact mc
    have pc : F_m_partOf o T1 (T1.2.1 36 kI.toNatClampNeg) (0 : Int32) = T1.2.1 36 kI.toNatClampNeg - T1.2.1 36 kI.toNatClampNeg / (8 : Int32) * (8 : Int32) := F_m_partOf_p1 rfl rfl
    obtain ⟨T2, x1, x2, x3⟩ := mx_iput (o := o) (a1 := F_m_partOf o T1 (T1.2.1 36 kI.toNatClampNeg) (0 : Int32)) (v := A 4 k % 8) u2 (by omega) (w_255s (by rw [pc, dk_remL (b := 8) (by omega) (by decide +kernel) (by decide), mc1]) (by omega))
    have pr : F_m_partOf o T2 (T1.2.1 36 kI.toNatClampNeg) (1 : Int32) = T1.2.1 36 kI.toNatClampNeg / (8 : Int32) := F_m_partOf_p0 (by decide +kernel) rfl
    obtain ⟨T3, y1, y2, y3⟩ := mx_iput (o := o) (a1 := F_m_partOf o T2 (T1.2.1 36 kI.toNatClampNeg) (1 : Int32)) (v := A 4 k / 8) x2 (by omega) (w_255s (by rw [pr, dk_divL (b := 8) (by omega) (by decide +kernel) (by decide), mc1]) (by omega))
    exact ⟨(zI T3 0 76, T3), F_m_image_p11 rfl rfl (fun z => by have := w_le.mp z; rw [f9] at this; omega) rfl u1.symm rfl rfl x1.symm rfl y1.symm rfl rfl, rfl, y2, ((t2.tr u3).tr x3).tr y3⟩) (fun kI s hkI hP => by
    obtain ⟨u, T⟩ := s
    have t0 : u = zI T 0 76 := hP.1
    have t2 : k_in S T := hP.2.2
    have rT := k_in.rm h hb t2
    have f9 : (T.2.1 9 (zI S9 0 13).toNatClampNeg).toInt = G 0 6 := by
      rw [h13, ← t2.I (a := 0) (b := 13) (by omega)]
      exact rT.1.1.1.2.2.2.2
    exact ⟨_, F_m_image_p10 rfl rfl (w_le.mpr (by rw [f9]; omega)), T, by rw [← t0], hP.2.1, hP.2.2⟩) ((17 - ((0 : Int32)).toInt).toNat + 1) 0 0 (y, S) (by rw [z0]; omega) (by omega) z0 ⟨hy, hl, kp.rf⟩
  exact main
/-- tubs, and the check -/
theorem mx_imT {f : Nat → Int} (h37 : ∀ k, k < 10 → (S.2.1 37 k).toInt = f k ∧ 0 ≤ f k ∧ f k ≤ 255) (hl : mx_wl l S) (hl9 : l.length ≤ 113) (hy : y = zI S 0 76) {S9 : dg_S} : ∃ (T : dg_S), F_m_image_J5 o S9 y S = (T, zI T 0 76) ∧ mx_wl (s_sg f l 10 ++ [s_cn (s_sg f l 10) (l.length + 10)]) T ∧ k_in S T := by
  have z0 : (0 : Int32).toInt = 0 := by decide +kernel
  have z5 : (5 : Int32).toInt = 5 := by decide +kernel
  have z10 : (10 : Int32).toInt = 10 := by decide +kernel
  have z233 : (233 : Int32).toInt = 233 := by decide +kernel
  have z251 : (251 : Int32).toInt = 251 := by decide +kernel
  rw [F_m_image_p5]
  have first := lp_cnt (f := F_m_image_B8 o S9) (z := (S9, (0 : Int32))) (W := 10) (P := fun k s => s.1 = zI s.2 0 76 ∧ mx_wl (s_sg f l k) s.2 ∧ k_in S s.2) (Q := fun q => ∃ T, q = F_m_image_J6 (zI T 0 76) o T S9 ∧ mx_wl (s_sg f l 10) T ∧ k_in S T) (by decide) (fun k kI s hk hkI hP => by
    obtain ⟨u, T⟩ := s
    obtain ⟨t0, t1, t2⟩ := hP
    have t1 : mx_wl (s_sg f l k) T := t1
    have t2 : k_in S T := t2
    have kn : kI.toNatClampNeg = k := by rw [dk_clN]; omega
    obtain ⟨e6, h6⟩ := h37 k hk
    have e6 : (T.2.1 37 kI.toNatClampNeg).toInt = f k := by rw [kn, (t2.2 37 (by decide)).1]; exact e6
    obtain ⟨T1, e1, w1, k1⟩ := mx_iput (o := o) t1 (by rw [s_sg_l]; omega) (w_255s e6 (by omega))
    exact ⟨(zI T1 0 76, T1), F_m_image_p4 (fun z => by have := dk_gec z10 z; omega) rfl e1.symm rfl rfl, rfl, w1, t2.tr k1⟩) (fun kI s hkI hP => by
    obtain ⟨u, T⟩ := s
    have t0 : u = zI T 0 76 := hP.1
    exact ⟨_, F_m_image_p3 (dk_gep z10 (by omega)), T, by rw [← t0], hP.2.1, hP.2.2⟩) ((11 - ((0 : Int32)).toInt).toNat + 1) 0 0 (y, S) (by rw [z0]; decide) (by decide) z0 ⟨hy, hl, kp.rf⟩
  obtain ⟨T, eT, lT, kT⟩ := first
  obtain ⟨l2, hl2⟩ : ∃ l2, l2 = s_sg f l 10 := ⟨_, rfl⟩
  have len : l2.length = l.length + 10 := by rw [hl2, s_sg_l]
  rw [← hl2] at lT ⊢
  rw [eT, F_m_image_p2]
  have hlen : (zI T 0 76).toInt = l2.length := lT.1.1
  have main := lp_cnt (f := F_m_image_B7 (zI T 0 76) o T) (z := (S9, (0 : Int32))) (W := l2.length) (P := fun i u => u.toInt = s_cn l2 i) (Q := fun q => ∃ u : Int32, u.toInt = s_cn l2 l2.length ∧ q = (F_m_writes o T u, zI (F_m_writes o T u) 0 76)) (by omega) (fun i iI u hi hiI hP => by
    have hP : u.toInt = s_cn l2 i := hP
    have cb := s_cn_b (l := l2) i
    have iN : iI.toNatClampNeg = i := by rw [dk_clN]; omega
    have ev : (T.2.1 50 iI.toNatClampNeg).toInt = l2.getD i 0 := by rw [iN]; exact (lT.2 i hi).1
    have bb := (lT.2 i hi).2
    have e5 : ((5 : Int32) * u).toInt = 5 * s_cn l2 i := dk_mulT z5 hP (by omega) (by omega)
    have es : ((5 : Int32) * u + T.2.1 50 iI.toNatClampNeg).toInt = 5 * s_cn l2 i + l2.getD i 0 := dk_addT e5 ev (by omega) (by omega)
    refine ⟨_, F_m_image_p1 (fun z => by have := w_le.mp z; omega) rfl rfl rfl rfl rfl, ?_⟩
    show _ = (5 * s_cn l2 i + l2.getD i 0) % 251
    rw [dk_remL (by omega) z251 (by decide), es]) (fun iI u hiI hP => ⟨_, F_m_image_p0 (w_le.mpr (by omega)) rfl rfl, u, hP, rfl⟩) ((151 - ((0 : Int32)).toInt).toNat + 1) 0 0 (233 : Int32) (by rw [z0]; omega) (by omega) z0 z233
  obtain ⟨u, hu, eu⟩ := main
  have cb := s_cn_b (l := l2) l2.length
  obtain ⟨T1, e1, w1, k1⟩ := mx_iput (o := o) (a1 := u) (v := s_cn l2 l2.length) lT (by omega) (w_255s hu (by omega))
  rw [eu, e1, ← len]
  exact ⟨T1, rfl, w1, kT.tr k1⟩
end EQ
