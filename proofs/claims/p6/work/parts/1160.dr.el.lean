/-! TELLS: the class's answer; the reference; both sides -/
/-- what is told of it -/
def s_tv (b : Int × Int) (w : Int) : Int := if b.1 < 0 then -1 else if w = 0 then b.1 / 64 else if w = 1 then b.1 % 64 else if w = 2 then b.2 else -1
/-- what these looks of the reference leave -/
def k_z (S S1 : dg_S) : Prop := (∀ b, b ≠ 63 → zI S1 0 b = zI S 0 b) ∧ ∀ a, ¬ (29 ≤ a ∧ a ≤ 44) → a ≠ 48 → a ≠ 49 → S1.2.1 a = S.2.1 a
/-- as the reference holds what it has found -/
def mx_tA (b : Int × Int) (u y : Int32) : Prop := u.toInt = (if b.1 < 0 then 100000000 else b.2) ∧ y.toInt = b.1
section EL
variable {o oX oM g n p k : Nat} {G A A' : aR} {K : Nat → List Int} {L L' : s_L} {U : s_U} {F : s_F} {S S0 S1 SX SM T : dg_S} {x x' r c v t : Int} {a a1 a2 a3 a4 y : Int32}
theorem k_z.rf : k_z S S := ⟨fun _ _ => rfl, fun _ _ _ _ => rfl⟩
theorem k_z.tr (h : k_z S S0) (k : k_z S0 S1) : k_z S S1 := ⟨fun b hb => (k.1 b hb).trans (h.1 b hb), fun a h1 h2 h3 => (k.2 a h1 h2 h3).trans (h.2 a h1 h2 h3)⟩
theorem k_y.kz (h : k_y S S1) : k_z S S1 := ⟨h.1, fun a h1 h2 _ => h.2 a h1 h2⟩
theorem s_te_b : s_te G K A F = (-1, 22) ∨ (64 ≤ (s_te G K A F).1 ∧ (s_te G K A F).1 < 64 * ((s_W A : Int) + 1) ∧ 0 ≤ (s_te G K A F).2 ∧ (s_te G K A F).2 ≤ 21) := by
  unfold s_te
  by_cases q : s_rs G K A F 21 = 0
  · rw [s_if_y q]
    exact Or.inl rfl
  · rw [s_if_n q]
    rcases s_tl_b (G := G) (K := K) (A := A) (F := F) (64 * (s_W A + 1)) with h | ⟨h1, h2, h3⟩
    · exact Or.inl h
    · exact Or.inr ⟨h1, by omega, h3⟩
theorem cx_seekTelling (ok : s_ok G K A U) (h : RX o g G K A L U x S) {V : Nat} (hV : s_rs G K A F 21 = V) (h1 : a1.toInt = V) : ∃ S1, F_e_seekTelling o S g 3 a1 = S1 ∧ RX o g G K A L U x S1 ∧ cx_tA (s_te G K A F) S1 ∧ k_s8 S S1 := by
  have z0 : (0 : Int32).toInt = 0 := by decide +kernel
  have z1 : (1 : Int32).toInt = 1 := by decide +kernel
  have z21 : (21 : Int32).toInt = 21 := by decide +kernel
  have z22 : (22 : Int32).toInt = 22 := by decide +kernel
  have z30 : (30 : Int32).toInt = 30 := by decide +kernel
  have z999 : (999 : Int32).toInt = 999 := by decide +kernel
  have m1 : (-1 : Int32).toInt = -1 := by decide +kernel
  have hw0 := ok.2.2.1.1.1
  have sep := rX_sep h.2.1.1.1
  obtain ⟨S2, h2⟩ : ∃ X, X = dg_uF S 229 4 (.int (1 : Int32)) := ⟨_, rfl⟩
  obtain ⟨S4, h4⟩ : ∃ X, X = dg_uF S2 229 7 (.int (-1 : Int32)) := ⟨_, rfl⟩
  obtain ⟨S6, h6⟩ : ∃ X, X = dg_uF S4 229 8 (.int (22 : Int32)) := ⟨_, rfl⟩
  have t6 : kp (fun a b => a = 229 ∧ (b = 4 ∨ b = 7 ∨ b = 8)) (fun _ => False) S S6 := by
    rw [h6, h4, h2]
    exact kp.uF (kp.uF (kp.uF kp.rf ⟨rfl, Or.inl rfl⟩) ⟨rfl, Or.inr (Or.inl rfl)⟩) ⟨rfl, Or.inr (Or.inr rfl)⟩
  have r6 : RX o g G K A L U x S6 := h.keep t6 (by omega) (by omega) (fun a b _ _ => by omega) (fun b => by omega) (fun b => by omega) (fun a b _ _ => by omega) (fun a _ _ => id) (fun a _ _ => id) id (fun a _ _ => id)
  have s6 : k_s8 S S6 := ⟨fun b => t6.I (fun z => by omega), fun b b4 b6 b7 b8 => t6.I (fun z => by omega), (t6.2 230 id).1⟩
  have A6 : cx_tA (-1, 22) S6 := by
    refine ⟨?_, ?_, fun z => absurd z (by decide)⟩
    · rw [h6, w_I, if_pos ⟨rfl, rfl⟩]
      exact z22
    · rw [h6, w_I0 (by decide), h4, w_I, if_pos ⟨rfl, rfl⟩]
      exact m1
  by_cases q : a1 = (0 : Int32)
  · have d := dk_eqc z0 q
    rw [h1] at d
    refine ⟨S6, F_e_seekTelling_p6 h2 h4 h6 q, r6, ?_, s6⟩
    unfold s_te
    rw [s_if_y (by rw [hV]; exact d)]
    exact A6
  have d := dk_neqc z0 q
  rw [h1] at d
  have ete : s_te G K A F = s_tl G K A F (64 * (s_W A + 1)) := s_if_n (by rw [hV]; exact d)
  rw [F_e_seekTelling_p5 h2 h4 h6 q, ete]
  have first := lp_cnt (f := F_e_seekTelling_B3 3 o g a1 S) (z := S) (W := 21) (P := fun m T => RX o g G K A L U x T ∧ k_sk S6 T ∧ ∀ r : Nat, r < m → cx_pit G A T (233 + 7 * r)) (Q := fun q => ∃ T, q = F_e_seekTelling_J1 T 3 o g a1 S ∧ RX o g G K A L U x T ∧ k_sk S6 T ∧ ∀ r : Nat, r < 21 → cx_pit G A T (233 + 7 * r)) (by decide) (fun m mI T hm hmI hP => by
    obtain ⟨t1, t2, t3⟩ := hP
    have q0 : ¬ (21 : Int32) ≤ mI := fun z => by have := dk_gec z21 z; omega
    have mn : mI.toNatClampNeg = m := by rw [dk_clN]; omega
    obtain ⟨d, hd⟩ : ∃ d, d = 233 + 7 * m := ⟨_, rfl⟩
    have pd : pX d := by rw [hd]; exact pX_f hm
    have dd : d = 233 + 7 * mI.toNatClampNeg := by rw [mn]; exact hd
    obtain ⟨S3, e3, k3, p3⟩ := cx_copy (o := o) (S := T) (p := d) (q := 3) pd pX_3' (by omega) t1.2.2.1 ok.1.1.2.2.2
    have r3 : RX o g G K A L U x S3 := t1.keep k3 (by omega) (by omega) (fun a b _ _ => by omega) (fun b => by omega) (fun b => by omega) (fun a b _ _ => by omega) (fun a _ _ => by omega) (fun a _ _ => by omega) (by omega) (fun a _ _ => by omega)
    refine ⟨S3, F_e_seekTelling_p4 q0 dd e3.symm rfl, r3, t2.tr (k3.sk (fun b => by omega) (fun b => by omega) (by omega)), fun r hr => ?_⟩
    by_cases w : r = m
    · rw [w, ← hd]
      exact p3
    · exact (t3 r (by omega)).keep (fun i i1 i2 => (k3.2 i (by omega)).1) (fun b b2 => k3.I (fun z => by omega))) (fun mI T hmI hP => ⟨_, F_e_seekTelling_p3 (dk_gep z21 (by omega)), T, rfl, hP⟩) ((22 - ((0 : Int32)).toInt).toNat + 1) 0 0 S6 (by rw [z0]; decide) (by decide) z0 ⟨r6, k_sk.rf, fun r hr => absurd hr (Nat.not_lt_zero r)⟩
  obtain ⟨T, eT, rT, kT, pT⟩ := first
  rw [eT]
  have p0 : (zI T 3 0).toInt = A 0 0 := rT.2.2.1.2.1
  obtain ⟨w, hw⟩ : ∃ w : Int32, w = (if (999 : Int32) - zI T 3 0 < (30 : Int32) then (999 : Int32) - zI T 3 0 else (30 : Int32)) := ⟨_, rfl⟩
  have es : ((999 : Int32) - zI T 3 0).toInt = 999 - A 0 0 := dk_subT z999 p0 (by omega) (by omega)
  have hwW : w.toInt = s_W A := by
    rw [hw]
    unfold s_W
    by_cases q2 : (999 : Int32) - zI T 3 0 < (30 : Int32)
    · have d2 := dk_ltc z30 q2
      rw [if_pos q2, es]
      omega
    · have d2 : ¬ ((999 : Int32) - zI T 3 0).toInt < (30 : Int32).toInt := fun z => q2 (w_lt.mpr z)
      rw [es, z30] at d2
      rw [if_neg q2, z30]
      omega
  have hW : s_W A ≤ 30 := by unfold s_W; omega
  rw [F_e_seekTelling_p2 rfl rfl hw]
  have main := lp_cnt (f := F_e_seekTelling_B2 w o g a1 3) (z := S) (W := s_W A + 1) (P := fun k T1 => 1 ≤ k ∧ RX o g G K A L U x T1 ∧ cx_ps G K A F (k - 1) T1 ∧ cx_tA (s_tl G K A F (64 * k)) T1 ∧ k_s8 S T1) (Q := fun T1 => RX o g G K A L U x T1 ∧ cx_tA (s_tl G K A F (64 * (s_W A + 1))) T1 ∧ k_s8 S T1) (by omega) (fun k kI T1 hk hkI hP => by
    obtain ⟨t0, t1, t2, t3, t4⟩ := hP
    have q0 : ¬ w < kI := fun z => by have := w_lt.mp z; omega
    obtain ⟨T2, e2, r2, p2, k2⟩ := cx_passAll (o := o) (a1 := a1) ok t1 t2 hV h1
    rw [show k - 1 + 1 = k by omega] at p2
    obtain ⟨T3, e3, k3, v3⟩ := cx_tryAll (o := o) (a1 := a1) (a2 := kI) ok r2 p2 hV h1 hkI t0 (by omega) (t3.keep k2)
    have r3 : RX o g G K A L U x T3 := r2.keep k3 (by omega) (by omega) (fun a b _ _ => by omega) (fun b => by omega) (fun b => by omega) (fun a b _ _ => by omega) (fun a _ _ => by omega) (fun a _ _ => by omega) (by omega) (fun a _ _ => by omega)
    have s3 : k_s8 T2 T3 := ⟨fun b => k3.I (fun z => by omega), fun b b4 b6 b7 b8 => k3.I (fun z => by omega), (k3.2 230 (by decide)).1⟩
    exact ⟨T3, F_e_seekTelling_p1 q0 e2.symm e3.symm rfl, by omega, r3, p2.kp k3 (fun a b h z => by omega) (fun a h z => by omega), v3, t4.tr (k2.s8.tr s3)⟩) (fun kI T1 hkI hP => ⟨T1, F_e_seekTelling_p0 (w_lt.mpr (by omega)), hP.2.1, hP.2.2.2⟩) ((32 - ((1 : Int32)).toInt).toNat + 1) 1 1 T (by rw [z1]; omega) (by omega) z1 ⟨Nat.le_refl 1, rT, fun r h21 _ => pT r h21, by rw [show 64 * 1 = 64 from rfl, s_tl_64]; exact A6.keep kT, s6.tr kT.s8⟩
  exact ⟨_, rfl, main.1, main.2⟩
/-- the answer of the class -/
theorem cx_tellJ {b : Int × Int} (hb : b = (-1, 22) ∨ (64 ≤ b.1 ∧ b.1 < 2000 ∧ 0 ≤ b.2 ∧ b.2 ≤ 21)) (h : cx_tA b S) : ∃ y : Int32, F_d_tells_J1 S a1 = (S, y) ∧ y.toInt = s_tv b a1.toInt := by
  have z0 : (0 : Int32).toInt = 0 := by decide +kernel
  have z1 : (1 : Int32).toInt = 1 := by decide +kernel
  have z2 : (2 : Int32).toInt = 2 := by decide +kernel
  have z8 : (8 : Int32).toInt = 8 := by decide +kernel
  have m1 : (-1 : Int32).toInt = -1 := by decide +kernel
  obtain ⟨h8, h7, h6⟩ := h
  unfold s_tv
  by_cases q : zI S 229 7 = (-1 : Int32)
  · have d := dk_eqc m1 q
    rw [h7] at d
    refine ⟨-1, F_d_tells_p4 rfl q, ?_⟩
    by_cases w : b.1 < 0
    · rw [if_pos w]
      exact m1
    · rw [if_neg w] at d
      omega
  have d := dk_neqc m1 q
  rw [h7] at d
  have w : ¬ b.1 < 0 := fun z => by
    rw [if_pos z] at d
    exact d rfl
  rw [if_neg w] at h7 ⊢
  by_cases q0 : a1 = (0 : Int32)
  · have d0 := dk_eqc z0 q0
    rw [if_pos d0]
    exact ⟨_, F_d_tells_p1 rfl q q0 rfl, h6 (by omega)⟩
  have d0 := dk_neqc z0 q0
  rw [if_neg d0]
  by_cases q1 : a1 = (1 : Int32)
  · have d1 := dk_eqc z1 q1
    rw [if_pos d1]
    refine ⟨_, F_d_tells_p2 rfl q q0 q1 rfl, ?_⟩
    rw [dk_subT h7 z8 (by omega) (by omega)]
    omega
  have d1 := dk_neqc z1 q1
  rw [if_neg d1]
  by_cases q2 : a1 = (2 : Int32)
  · have d2 := dk_eqc z2 q2
    rw [if_pos d2]
    exact ⟨_, F_d_tells_p3 rfl q q0 q1 q2 rfl, h8⟩
  have d2 := dk_neqc z2 q2
  rw [if_neg d2]
  exact ⟨_, F_d_tells_p0 rfl q q0 q1 q2, m1⟩
/-- TELLS of the class -/
theorem cx_tells (ok : s_ok G K A U) (fk : s_fk G F) (h : RX o g G K A L U x S) (hf : cx_fe F S) (hs : cx_ct G K A F S) : ∃ (S1 : dg_S) (y : Int32), F_d_tells o S a1 = (S1, y) ∧ y.toInt = s_if (A 0 0 + 1 ≤ 999) (s_tv (s_te G K A F) a1.toInt) (-1) ∧ RX o g G K A L U x S1 ∧ cx_ct G K A F S1 ∧ k_s8 S S1 := by
  have z0 : (0 : Int32).toInt = 0 := by decide +kernel
  have z1 : (1 : Int32).toInt = 1 := by decide +kernel
  have m1 : (-1 : Int32).toInt = -1 := by decide +kernel
  have hW : s_W A ≤ 30 := by unfold s_W; omega
  have hb : s_te G K A F = (-1, 22) ∨ (64 ≤ (s_te G K A F).1 ∧ (s_te G K A F).1 < 2000 ∧ 0 ≤ (s_te G K A F).2 ∧ (s_te G K A F).2 ≤ 21) := by
    rcases s_te_b (G := G) (K := K) (A := A) (F := F) with h | ⟨h1, h2, h3⟩
    · exact Or.inl h
    · exact Or.inr ⟨h1, by omega, h3⟩
  have hcm := cx_come (o := o) (a1 := 1) (a2 := 1) (a3 := 1) h.2.1 h.1 ok.1.1 ok.2.2.1.1 h.2.2.1 (by decide +kernel) (by decide +kernel)
  rw [z1] at hcm
  rcases hcm with ⟨e, w⟩ | ⟨e, w⟩
  rotate_left
  · exact ⟨S, -1, F_d_tells_p7 rfl e, by rw [s_if_n (fun z => w ⟨by decide, by decide, z⟩)]; exact m1, h, hs, k_s8.rf⟩
  have ne : ¬ F_d_shiftsCome o S (1 : Int32) (1 : Int32) (1 : Int32) = (0 : Int32) := by rw [e]; decide +kernel
  rw [s_if_y w.2.2]
  by_cases q : zI S 229 4 = (0 : Int32)
  · obtain ⟨S1, y1, e1, v1, r1, k1⟩ := cx_reachBits (o := o) ok fk h hf
    have rb := s_rs_b (G := G) (K := K) (A := A) (F := F) 21
    obtain ⟨V, hV⟩ : ∃ V : Nat, s_rs G K A F 21 = V := ⟨(s_rs G K A F 21).toNat, by omega⟩
    obtain ⟨S2, e2, r2, c2, k2⟩ := cx_seekTelling (o := o) (a1 := y1) (F := F) ok r1 hV (by rw [v1, hV])
    obtain ⟨y, e3, v3⟩ := cx_tellJ (a1 := a1) hb c2
    exact ⟨S2, y, (F_d_tells_p6 rfl ne rfl q h.1.symm (show S1 = _ by rw [e1]) (show y1 = _ by rw [e1]) e2.symm).trans e3, v3, r2, Or.inr c2, k1.s8.tr k2⟩
  · have d := dk_neqc z0 q
    rcases hs with hs | hs
    · exact absurd hs d
    · obtain ⟨y, e3, v3⟩ := cx_tellJ (a1 := a1) hb hs
      exact ⟨S, y, (F_d_tells_p5 rfl ne rfl q).trans e3, v3, h, Or.inr hs, k_s8.rf⟩
/-- how many are left at most, by one cell: the reference -/
theorem mx_mostBy (ok : s_ok G K A U) (hg : ∀ m, m < 21 → mx_gb G K A m k S) {V : Nat} (hV : s_rs G K A F 21 = V) (h1 : a1.toInt = V) (h2 : a2.toInt = k) (hk30 : k ≤ 30) (hc : s_in G c) (h3 : a3.toInt = c) : ∃ (S1 : dg_S) (y : Int32), F_m_mostBy o S a1 a2 a3 = (S1, y) ∧ y.toInt = s_lf G K A F k c ∧ kp (fun _ _ => False) (fun a => a = 49) S S1 := by
  have z0 : (0 : Int32).toInt = 0 := by decide +kernel
  have z1 : (1 : Int32).toInt = 1 := by decide +kernel
  have z10 : (10 : Int32).toInt = 10 := by decide +kernel
  have z20 : (20 : Int32).toInt = 20 := by decide +kernel
  have z31 : (31 : Int32).toInt = 31 := by decide +kernel
  have z64 : (64 : Int32).toInt = 64 := by decide +kernel
  have hc0 := hc.1
  have hc1 := hc.2
  have hgb := ok.1.1.1
  have V31 : V < 2 ^ 31 := by
    have := (s_rs_b (G := G) (K := K) (A := A) (F := F) 21).2
    rw [hV] at this
    have : V < 2 ^ 21 := by omega
    exact Nat.lt_trans this (by decide)
  obtain ⟨P, eP⟩ : ∃ P : Nat → Prop, P = fun r : Nat => s_rc G K A F (r : Int) := ⟨_, rfl⟩
  obtain ⟨gg, eg⟩ : ∃ gg : Nat → Int, gg = fun r : Nat => s_gr9 (s_n G K (r : Int) k A) c := ⟨_, rfl⟩
  have hl : s_lf G K A F k c = s_most P gg 21 := by rw [eP, eg]; rfl
  have gb : ∀ r : Nat, -1 ≤ gg r ∧ gg r ≤ 9 := fun r => by
    rw [eg]
    exact s_gr9_b (s_n_ok ok.1.1 ok.2.2.1.1 ok.2.2.1.2 k).2 hc
  rw [F_m_mostBy_p9, hl]
  have first := lp_cnt (f := F_m_mostBy_B5 o a1 a2 a3 S) (z := (S, (0 : Int32))) (W := 11) (P := fun i T => kp (fun _ _ => False) (fun a => a = 49) S T ∧ ∀ j, j < i → (T.2.1 49 j).toInt = 0) (Q := fun q => ∃ T, q = F_m_mostBy_J1 o a1 a2 a3 S T ∧ kp (fun _ _ => False) (fun a => a = 49) S T ∧ ∀ j, j < 11 → (T.2.1 49 j).toInt = 0) (by decide) (fun i iI T hi hiI hP => by
    obtain ⟨t1, t2⟩ := hP
    have q0 : ¬ (10 : Int32) < iI := fun z => by have := dk_gtc z10 z; omega
    have iN : iI.toNatClampNeg = i := by rw [dk_clN]; omega
    obtain ⟨T1, hT1⟩ : ∃ X, X = dg_uf T 49 (upd (T.2.1 49) iI.toNatClampNeg (0 : Int32)) := ⟨_, rfl⟩
    refine ⟨T1, F_m_mostBy_p8 q0 hT1 rfl, by rw [hT1]; exact t1.uf rfl, fun j hj => ?_⟩
    rw [hT1, w_f, if_pos rfl, w_u, iN]
    by_cases w : j = i
    · rw [if_pos w]
      exact z0
    · rw [if_neg w]
      exact t2 j (by omega)) (fun iI T hiI hP => ⟨_, F_m_mostBy_p7 (dk_gtp z10 (by omega)), T, rfl, hP⟩) ((12 - ((0 : Int32)).toInt).toNat + 1) 0 0 S (by rw [z0]; decide) (by decide) z0 ⟨kp.rf, fun j hj => absurd hj (Nat.not_lt_zero j)⟩
  obtain ⟨S2, e2, k2, v2⟩ := first
  rw [e2, F_m_mostBy_p6]
  have main := lp_cnt (f := F_m_mostBy_B2 o a1 a2 a3) (z := (S, (0 : Int32))) (W := 21) (P := fun m s => s.1.toInt = s_most P gg m ∧ kp (fun _ _ => False) (fun a => a = 49) S s.2 ∧ ∀ v : Int, (-1 ≤ v ∧ v ≤ 9) → (s.2.2.1 49 (v + 1).toNat).toInt = s_ct (fun i => P i ∧ gg i = v) m) (Q := fun q => q.2.toInt = s_most P gg 21 ∧ kp (fun _ _ => False) (fun a => a = 49) S q.1) (by decide) (fun m mI s hm hmI hP => by
    obtain ⟨u, T⟩ := s
    obtain ⟨t1, t2, t3⟩ := hP
    have t1 : u.toInt = s_most P gg m := t1
    have t2 : kp (fun _ _ => False) (fun a => a = 49) S T := t2
    have t3 : ∀ v : Int, (-1 ≤ v ∧ v ≤ 9) → (T.2.1 49 (v + 1).toNat).toInt = s_ct (fun i => P i ∧ gg i = v) m := t3
    have q0 : ¬ (20 : Int32) < mI := fun z => by have := dk_gtc z20 z; omega
    have hbit : (a1 >>> (mI &&& 31)) &&& 1 = 1 ↔ P m := by
      rw [w_bt h1 V31 hmI hm, s_rs_bit 21 V hV m hm, eP]
    by_cases q : P m
    rotate_left
    · refine ⟨(u, T), (F_m_mostBy_p5 q0 rfl (F_m_has2_p0 rfl rfl (fun z => q (hbit.mp z)))).trans (F_m_mostBy_p1 rfl), ?_, t2, fun v hv => ?_⟩
      · show u.toInt = s_most P gg (m + 1)
        rw [s_most_n q]
        exact t1
      · show (T.2.1 49 (v + 1).toNat).toInt = s_ct (fun i => P i ∧ gg i = v) m + s_b (P m ∧ gg m = v)
        rw [s_b0 (fun z => q z.1), t3 v hv]
        omega
    have nh : ¬ F_m_has2 o T a1 mI = (0 : Int32) := by
      rw [F_m_has2_p1 rfl rfl (hbit.mpr q)]
      decide +kernel
    have f1 : ((31 : Int32) * mI).toInt = 31 * (m : Int) := dk_mulT z31 hmI (by omega) (by omega)
    have f2 : ((31 : Int32) * mI + a2).toInt = 31 * (m : Int) + k := dk_addT f1 h2 (by omega) (by omega)
    have f3 : ((64 : Int32) * ((31 : Int32) * mI + a2)).toInt = 64 * (31 * (m : Int) + k) := dk_mulT z64 f2 (by omega) (by omega)
    have f4 : ((64 : Int32) * ((31 : Int32) * mI + a2) + a3).toInt = 64 * (31 * (m : Int) + k) + c := dk_addT f3 h3 (by omega) (by omega)
    have n4 : ((64 : Int32) * ((31 : Int32) * mI + a2) + a3).toNatClampNeg = 64 * (31 * m + k) + c.toNat := by rw [dk_clN, f4]; omega
    obtain ⟨w48, hw48⟩ : ∃ w : Int32, w = T.2.1 48 ((64 : Int32) * ((31 : Int32) * mI + a2) + a3).toNatClampNeg := ⟨_, rfl⟩
    have v48 : w48.toInt = gg m := by
      rw [hw48, n4, (t2.2 48 (by decide)).1, hg m hm c hc, eg]
    have gm := gb m
    have f5 : (w48 + 1).toInt = gg m + 1 := dk_addT v48 z1 (by omega) (by omega)
    have n5 : (w48 + 1).toNatClampNeg = (gg m + 1).toNat := by rw [dk_clN, f5]
    have cb := s_ct_b (P := fun i => P i ∧ gg i = gg m) m
    have e1 : (T.2.1 49 (w48 + 1).toNatClampNeg + 1).toInt = s_ct (fun i => P i ∧ gg i = gg m) m + 1 := dk_addT (by rw [n5]; exact t3 _ gm) z1 (by omega) (by omega)
    obtain ⟨T1, hT1⟩ : ∃ X, X = dg_uf T 49 (upd (T.2.1 49) (w48 + 1).toNatClampNeg (T.2.1 49 (w48 + 1).toNatClampNeg + 1)) := ⟨_, rfl⟩
    have k1 : kp (fun _ _ => False) (fun a => a = 49) S T1 := by rw [hT1]; exact t2.uf rfl
    have rows : ∀ v : Int, (-1 ≤ v ∧ v ≤ 9) → (T1.2.1 49 (v + 1).toNat).toInt = s_ct (fun i => P i ∧ gg i = v) (m + 1) := fun v hv => by
      show (T1.2.1 49 (v + 1).toNat).toInt = s_ct (fun i => P i ∧ gg i = v) m + s_b (P m ∧ gg m = v)
      rw [hT1, w_f, if_pos rfl, w_u, n5]
      by_cases q4 : gg m = v
      · rw [← q4, if_pos rfl, s_b1 ⟨q, rfl⟩, ← n5]
        exact e1
      · rw [if_neg (fun z => q4 (by omega)), s_b0 (fun z => q4 z.2), t3 v hv]
        omega
    by_cases q3 : T.2.1 49 (w48 + 1).toNatClampNeg + 1 ≤ u
    · have d3 := w_le.mp q3
      rw [e1, t1] at d3
      refine ⟨(u, T1), (F_m_mostBy_p3 q0 rfl nh rfl rfl rfl rfl hw48 rfl rfl rfl hT1 q3).trans (F_m_mostBy_p2.trans (F_m_mostBy_p1 rfl)), ?_, k1, rows⟩
      show u.toInt = s_most P gg (m + 1)
      rw [s_most_y q, t1]
      omega
    · have d3 : ¬ (T.2.1 49 (w48 + 1).toNatClampNeg + 1).toInt ≤ u.toInt := fun z => q3 (w_le.mpr z)
      rw [e1, t1] at d3
      refine ⟨(T.2.1 49 (w48 + 1).toNatClampNeg + 1, T1), (F_m_mostBy_p4 q0 rfl nh rfl rfl rfl rfl hw48 rfl rfl rfl hT1 q3).trans (F_m_mostBy_p2.trans (F_m_mostBy_p1 rfl)), ?_, k1, rows⟩
      show (T.2.1 49 (w48 + 1).toNatClampNeg + 1).toInt = s_most P gg (m + 1)
      rw [s_most_y q, e1]
      omega) (fun mI s hmI hP => by
    obtain ⟨u, T⟩ := s
    exact ⟨_, F_m_mostBy_p0 (dk_gtp z20 (by omega)), hP.1, hP.2.1⟩) ((22 - ((0 : Int32)).toInt).toNat + 1) 0 0 ((0 : Int32), S2) (by rw [z0]; decide) (by decide) z0 ⟨z0, k2, fun v hv => v2 _ (by omega)⟩
  exact ⟨_, _, rfl, main.1, main.2⟩
/-- row 49 alone -/
theorem RM.row49 (h : RM G K A L U x S) (hb : G 0 6 ≤ 16) (t : kp (fun _ _ => False) (fun a => a = 49) S S1) : RM G K A L U x S1 := h.keep hb t (fun _ _ => id) (fun a a1 => by omega) (fun a a1 a2 => by omega)
theorem mx_gb.row49 {m : Nat} (h : mx_gb G K A m k S) (t : kp (fun _ _ => False) (fun a => a = 49) S S1) : mx_gb G K A m k S1 := h.keep (fun j _ => by rw [(t.2 48 (by decide)).1])
/-- all cells behind k shifts: the reference -/
theorem mx_tell1 (ok : s_ok G K A U) (h : RM G K A L U x S) (hg : ∀ m, m < 21 → mx_gb G K A m k S) {V : Nat} (hV : s_rs G K A F 21 = V) {kI vI uI cI : Int32} (h1 : vI.toInt = V) (h2 : kI.toInt = k) (hk1 : 1 ≤ k) (hk30 : k ≤ 30) {S9 : dg_S} (ht : mx_tA (s_tl G K A F (64 * k)) uI cI) : ∃ (T : dg_S) (u1 c1 : Int32), lp (F_m_tells_B4 kI o vI) (Sum.inr (S9, (0 : Int32))) ((65 - ((0 : Int32)).toInt).toNat + 1) ((0 : Int32), uI, cI, S) = F_m_tells_J3 kI u1 c1 T ∧ kp (fun _ _ => False) (fun a => a = 49) S T ∧ mx_tA (s_tl G K A F (64 * (k + 1))) u1 c1 := by
  have z0 : (0 : Int32).toInt = 0 := by decide +kernel
  have z64 : (64 : Int32).toInt = 64 := by decide +kernel
  have zB : (100000000 : Int32).toInt = 100000000 := by decide +kernel
  have hb := ok.1.1.2.2.2
  have main := lp_cnt (f := F_m_tells_B4 kI o vI) (z := Sum.inr (S9, (0 : Int32))) (W := 64) (P := fun i s => kp (fun _ _ => False) (fun a => a = 49) S s.2.2 ∧ mx_tA (s_tl G K A F (64 * k + i)) s.1 s.2.1) (Q := fun q => ∃ (T : dg_S) (u1 c1 : Int32), q = F_m_tells_J3 kI u1 c1 T ∧ kp (fun _ _ => False) (fun a => a = 49) S T ∧ mx_tA (s_tl G K A F (64 * k + 64)) u1 c1) (by decide) (fun i iI s hi hiI hP => by
    obtain ⟨u, w, T⟩ := s
    obtain ⟨t1, t2⟩ := hP
    have t1 : kp (fun _ _ => False) (fun a => a = 49) S T := t1
    have t2 : mx_tA (s_tl G K A F (64 * k + i)) u w := t2
    have q0 : ¬ (64 : Int32) ≤ iI := fun z => by have := dk_gec z64 z; omega
    have rT := h.row49 hb t1
    obtain ⟨j, hj⟩ : ∃ j, j = 64 * k + i := ⟨_, rfl⟩
    have j1 : j / 64 = k := by omega
    have j2 : j % 64 = i := by omega
    have tb := s_tl_b (G := G) (K := K) (A := A) (F := F) j
    rw [← hj] at t2
    rw [show 64 * k + (i + 1) = j + 1 by omega]
    obtain ⟨u1, u2⟩ := t2
    have ub : u.toInt ≤ 21 ∨ u.toInt = 100000000 := by
      rcases tb with tb | ⟨b1, b2, b3, b4⟩
      · rw [tb] at u1
        exact Or.inr u1
      · rw [if_neg (by omega)] at u1
        omega
    rcases mx_isCellOf (o := o) (a := iI) rT.1.1.1 ok.1.1.1 with ⟨e, hin⟩ | ⟨e, hin⟩
    rotate_left
    · have nq : ¬ (100000000 : Int32) < u := fun z => by have := w_lt.mp z; omega
      refine ⟨(u, w, T), (F_m_tells_p12 q0 rfl e).trans ((F_m_tells_p11 nq).trans (F_m_tells_p9 rfl)), t1, ?_⟩
      rw [s_tl_n (fun z => hin (by have := z.1.2; rw [j2, ← hiI] at this; exact this))]
      exact ⟨u1, u2⟩
    have ne : ¬ F_m_isCellOf o T iI = (0 : Int32) := by rw [e]; decide +kernel
    rw [hiI] at hin
    obtain ⟨T1, y, e1, v1, k1⟩ := mx_mostBy (o := o) (S := T) (a1 := vI) (a2 := kI) (a3 := iI) (c := (i : Int)) ok (fun m hm => (hg m hm).row49 t1) hV h1 h2 hk30 hin hiI
    have t9 : kp (fun _ _ => False) (fun a => a = 49) S T1 := t1.tr k1
    have Q := F_m_tells_p13 (x_1513 := kI) (x_9 := vI) (x_1756 := u) (x_1757 := w) q0 rfl ne (show T1 = (F_m_mostBy o T vI kI iI).1 by rw [e1]) (show y = (F_m_mostBy o T vI kI iI).2 by rw [e1])
    have hP9 : s_tP G j := ⟨by omega, by rw [j2]; exact hin⟩
    have el : s_lf G K A F (j / 64) ((j % 64 : Nat) : Int) = s_lf G K A F k (i : Int) := by rw [j1, j2]
    have lb := s_lf_b (G := G) (K := K) (A := A) (F := F) (k := k) (c := (i : Int))
    have less : y < u ↔ s_lf G K A F (j / 64) ((j % 64 : Nat) : Int) < (s_tl G K A F j).2 := by
      rw [w_lt, v1, u1, el]
      rcases tb with tb | ⟨b1, b2, b3, b4⟩
      · rw [tb]
        show s_lf G K A F k (i : Int) < (if (-1 : Int) < 0 then (100000000 : Int) else 22) ↔ s_lf G K A F k (i : Int) < 22
        rw [if_pos (by decide)]
        omega
      · rw [if_neg (by omega)]
    by_cases q2 : y < u
    · have e5 : ((64 : Int32) * kI).toInt = 64 * (k : Int) := dk_mulT z64 h2 (by omega) (by omega)
      have e6 : ((64 : Int32) * kI + iI).toInt = 64 * (k : Int) + i := dk_addT e5 hiI (by omega) (by omega)
      refine ⟨(y, (64 : Int32) * kI + iI, T1), Q.trans ((F_m_tells_p10 q2 rfl rfl).trans (F_m_tells_p9 rfl)), t9, ?_⟩
      rw [s_tl_y hP9 (less.mp q2), el]
      refine ⟨?_, ?_⟩
      · show y.toInt = if (j : Int) < 0 then 100000000 else s_lf G K A F k (i : Int)
        rw [if_neg (by omega)]
        exact v1
      · show ((64 : Int32) * kI + iI).toInt = (j : Int)
        omega
    · refine ⟨(u, w, T1), Q.trans ((F_m_tells_p11 q2).trans (F_m_tells_p9 rfl)), t9, ?_⟩
      rw [s_tl_n (fun z => q2 (less.mpr z.2))]
      exact ⟨u1, u2⟩) (fun iI s hiI hP => by
    obtain ⟨u, w, T⟩ := s
    exact ⟨_, F_m_tells_p8 (dk_gep z64 (by omega)), T, u, w, rfl, hP.1, hP.2⟩) ((65 - ((0 : Int32)).toInt).toNat + 1) 0 0 (uI, cI, S) (by rw [z0]; decide) (by decide) z0 ⟨kp.rf, ht⟩
  exact main
/-- TELLS of the reference -/
theorem mx_tells (ok : s_ok G K A U) (fk : s_fk G F) (h : RM G K A L U x S) (hf : mx_fe F S) : ∃ (S1 : dg_S) (y : Int32), F_m_tells o S a1 = (S1, y) ∧ y.toInt = s_if (A 0 0 + 1 ≤ 999) (s_tv (s_te G K A F) a1.toInt) (-1) ∧ RM G K A L U x S1 ∧ k_z S S1 := by
  have z0 : (0 : Int32).toInt = 0 := by decide +kernel
  have z1 : (1 : Int32).toInt = 1 := by decide +kernel
  have z2 : (2 : Int32).toInt = 2 := by decide +kernel
  have z30 : (30 : Int32).toInt = 30 := by decide +kernel
  have z64 : (64 : Int32).toInt = 64 := by decide +kernel
  have m1 : (-1 : Int32).toInt = -1 := by decide +kernel
  have zB : (100000000 : Int32).toInt = 100000000 := by decide +kernel
  have hb := ok.1.1.2.2.2
  have hw0 := ok.2.2.1.1.1
  have hW : s_W A ≤ 30 := by unfold s_W; omega
  have n47 : ¬ zI S 0 47 = (0 : Int32) := fun z => h.1.1.1.1 (dk_eqc z0 z)
  have tv1 : ∀ w : Int, s_tv (-1, 22) w = -1 := fun w => rfl
  rcases mx_is (o := o) (S := S) (a := a1) (b := (0 : Int32)) (c := (2 : Int32)) with ⟨e, w0, w2⟩ | ⟨e, w⟩
  rotate_left
  · rw [z0, z2] at w
    refine ⟨S, -1, F_m_tells_p16 rfl n47 rfl e, ?_, h, k_z.rf⟩
    rw [m1]
    by_cases q : A 0 0 + 1 ≤ 999
    · rw [s_if_y q]
      unfold s_tv
      by_cases q1 : (s_te G K A F).1 < 0
      · rw [if_pos q1]
      · rw [if_neg q1, if_neg (by omega), if_neg (by omega), if_neg (by omega)]
    · rw [s_if_n q]
  rw [z0] at w0
  rw [z2] at w2
  have ne : ¬ F_m_is o S a1 (0 : Int32) (2 : Int32) = (0 : Int32) := by rw [e]; decide +kernel
  obtain ⟨S1, y1, e1, v1, r1, k1, g1⟩ := mx_reachBits (o := o) ok fk h hf
  have rb := s_rs_b (G := G) (K := K) (A := A) (F := F) 21
  obtain ⟨V, hV⟩ : ∃ V : Nat, s_rs G K A F 21 = V := ⟨(s_rs G K A F 21).toNat, by omega⟩
  rw [F_m_tells_p15 rfl n47 rfl ne (show S1 = _ by rw [e1]) (show y1 = _ by rw [e1])]
  have come : ∀ (T : dg_S) (k : Nat) (kI : Int32), RM G K A L U x T → kI.toInt = k → 1 ≤ k → (F_m_isAhead o T kI (1 : Int32) (30 : Int32) = 1 ∧ k ≤ s_W A ∨ F_m_isAhead o T kI (1 : Int32) (30 : Int32) = 0 ∧ ¬ k ≤ s_W A) := fun T k kI rT hkI hk => by
    have := mx_come (o := o) (a1 := kI) (a2 := 1) (a3 := 30) rT.1.1.1 rT.2.1 ok.2.2.1.1 (by decide +kernel) (by decide +kernel)
    rw [z1, z30] at this
    unfold s_W
    rcases this with ⟨e, w⟩ | ⟨e, w⟩
    · exact Or.inl ⟨e, by omega⟩
    · exact Or.inr ⟨e, by omega⟩
  have hJ : ∀ (T : dg_S) (u w : Int32) (b : Int × Int), mx_tA b u w → (b = (-1, 22) ∨ (64 ≤ b.1 ∧ b.1 < 2000 ∧ 0 ≤ b.2 ∧ b.2 ≤ 21)) → ∃ y : Int32, F_m_tells_J1 w T a1 u = (T, y) ∧ y.toInt = s_tv b a1.toInt := fun T u w b ht hbb => by
    obtain ⟨h1, h2⟩ := ht
    unfold s_tv
    by_cases q : w = (-1 : Int32)
    · have d := dk_eqc m1 q
      refine ⟨-1, F_m_tells_p4 q, ?_⟩
      rw [if_pos (by omega)]
      exact m1
    have d := dk_neqc m1 q
    have nb : ¬ b.1 < 0 := by
      rcases hbb with hbb | hbb
      · rw [hbb] at h2
        exact absurd h2 d
      · omega
    rw [if_neg nb] at h1 ⊢
    by_cases q0 : a1 = (0 : Int32)
    · have d0 := dk_eqc z0 q0
      rw [if_pos d0]
      exact ⟨_, F_m_tells_p3 q q0 rfl, by rw [dk_divL (by omega) z64 (by decide), h2]⟩
    have d0 := dk_neqc z0 q0
    rw [if_neg d0]
    by_cases q1 : a1 = (1 : Int32)
    · have d1 := dk_eqc z1 q1
      rw [if_pos d1]
      exact ⟨_, F_m_tells_p2 q q0 q1 rfl, by rw [dk_remL (by omega) z64 (by decide), h2]⟩
    have d1 := dk_neqc z1 q1
    rw [if_neg d1, if_pos (by omega)]
    exact ⟨_, F_m_tells_p1 q q0 q1, h1⟩
  by_cases qV : y1 = (0 : Int32)
  · have d := dk_eqc z0 qV
    rw [v1, hV] at d
    have ete : s_te G K A F = (-1, 22) := s_if_y (by rw [hV]; exact d)
    have t0 : mx_tA (-1, 22) (100000000 : Int32) (-1 : Int32) := ⟨zB, m1⟩
    obtain ⟨y, ey, vy⟩ := hJ S1 _ _ _ t0 (Or.inl rfl)
    refine ⟨S1, y, ?_, ?_, r1, k1.kz⟩
    · refine Eq.trans (lp_sr (r := (S1, y)) ?_) rfl
      rcases come S1 1 1 r1 z1 (Nat.le_refl 1) with ⟨e5, -⟩ | ⟨e5, -⟩
      · exact (F_m_tells_p6 rfl (by rw [e5]; decide +kernel) qV).trans (congrArg Sum.inr ey)
      · exact (F_m_tells_p5 rfl e5).trans (congrArg Sum.inr ey)
    · rw [vy, ete, tv1]
      by_cases q : A 0 0 + 1 ≤ 999
      · rw [s_if_y q]
      · rw [s_if_n q]
  have d := dk_neqc z0 qV
  rw [v1, hV] at d
  have ete : s_te G K A F = s_tl G K A F (64 * (s_W A + 1)) := s_if_n (by rw [hV]; exact d)
  have main := lp_cnt2 (f := F_m_tells_B2 o a1 y1 S) (z := (S, (0 : Int32))) (W := s_W A + 1) (P := fun k s => 1 ≤ k ∧ kp (fun _ _ => False) (fun a => a = 49) S1 s.2.2 ∧ mx_tA (s_tl G K A F (64 * k)) s.1 s.2.1) (Q := fun q => ∃ (T : dg_S) (y : Int32), q = (T, y) ∧ y.toInt = s_tv (s_te G K A F) a1.toInt ∧ kp (fun _ _ => False) (fun a => a = 49) S1 T) (by omega) (fun k kI s hk hkI hP => by
    obtain ⟨u, w, T⟩ := s
    obtain ⟨t0, t1, t2⟩ := hP
    have t1 : kp (fun _ _ => False) (fun a => a = 49) S1 T := t1
    have t2 : mx_tA (s_tl G K A F (64 * k)) u w := t2
    have rT := r1.row49 hb t1
    rcases come T k kI rT hkI t0 with ⟨e5, -⟩ | ⟨-, e5⟩
    rotate_left
    · omega
    have ne5 : ¬ F_m_isAhead o T kI (1 : Int32) (30 : Int32) = (0 : Int32) := by rw [e5]; decide +kernel
    obtain ⟨T1, u1, c1, e6, k6, v6⟩ := mx_tell1 (o := o) (S9 := S) (vI := y1) (kI := kI) ok rT (fun m hm => (g1 m hm k (by omega)).row49 t1) hV (by rw [v1, hV]) hkI t0 (by omega) t2
    exact Or.inl ⟨(u1, c1, T1), (F_m_tells_p14 rfl ne5 qV).trans (e6.trans (F_m_tells_p7 rfl)), by omega, t1.tr k6, v6⟩) (fun kI s hkI hP => by
    obtain ⟨u, w, T⟩ := s
    obtain ⟨t0, t1, t2⟩ := hP
    have t1 : kp (fun _ _ => False) (fun a => a = 49) S1 T := t1
    have t2 : mx_tA (s_tl G K A F (64 * (s_W A + 1))) u w := t2
    have rT := r1.row49 hb t1
    rcases come T (s_W A + 1) kI rT (by omega) t0 with ⟨-, e5⟩ | ⟨e5, -⟩
    · omega
    rw [← ete] at t2
    obtain ⟨y, ey, vy⟩ := hJ T u w _ t2 (by
      rcases s_te_b (G := G) (K := K) (A := A) (F := F) with h | ⟨h1, h2, h3⟩
      · exact Or.inl h
      · exact Or.inr ⟨h1, by omega, h3⟩)
    exact ⟨_, F_m_tells_p5 rfl e5, T, y, ey, vy, t1⟩) ((32 - ((1 : Int32)).toInt).toNat + 1) 1 1 ((100000000 : Int32), (-1 : Int32), S1) (by rw [z1]; omega) (by omega) z1 ⟨Nat.le_refl 1, kp.rf, by rw [show 64 * 1 = 64 from rfl, s_tl_64]; exact ⟨zB, m1⟩⟩
  obtain ⟨T, y, e9, v9, k9⟩ := main
  refine ⟨T, y, e9, ?_, r1.row49 hb k9, k1.kz.tr ⟨fun b _ => k9.I id, fun a _ _ h => (k9.2 a h).1⟩⟩
  rw [v9]
  by_cases q : A 0 0 + 1 ≤ 999
  · rw [s_if_y q]
  · rw [s_if_n q]
    have : s_W A = 0 := by unfold s_W; omega
    rw [ete, this, show 64 * (0 + 1) = 64 from rfl, s_tl_64]
    rfl
/-- TELLS on both sides -/
theorem sim_tells (ok : s_ok G K A U) (fk : s_fk G F) (hX : RX oX g G K A L U x SX) (hfX : cx_fe F SX) (hsX : cx_ct G K A F SX) (hM : RM G K A L U x SM) (hfM : mx_fe F SM) : (F_d_tells oX SX a1).2 = (F_m_tells oM SM a1).2 ∧ RX oX g G K A L U x (F_d_tells oX SX a1).1 ∧ cx_ct G K A F (F_d_tells oX SX a1).1 ∧ k_s8 SX (F_d_tells oX SX a1).1 ∧ RM G K A L U x (F_m_tells oM SM a1).1 ∧ k_z SM (F_m_tells oM SM a1).1 := by
  obtain ⟨S1, y1, e1, v1, r1, c1, k1⟩ := cx_tells (o := oX) (a1 := a1) ok fk hX hfX hsX
  obtain ⟨S2, y2, e2, v2, r2, k2⟩ := mx_tells (o := oM) (a1 := a1) ok fk hM hfM
  rw [e1, e2]
  exact ⟨Int32.toInt_inj.mp (v1.trans v2.symm), r1, c1, k1, r2, k2⟩
end EL
