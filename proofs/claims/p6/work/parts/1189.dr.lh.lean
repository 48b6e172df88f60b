/-! what a text has told, as both sides hold it -/
section LH
variable {o oX oM g gD gE n k i : Nat} {WF : List (Nat × Nat)} {WA : List Nat} {S S0 S1 S2 SX SM : dg_S} {G A : aR} {K : Nat → List Int} {d : k_D} {σ : y_S} {C : List Int} {w : Nat}
theorem kc.code (h : kc S g w C) (b : (zI S 209 7).toInt ≤ 1600) : cx_code S g w C := by
  obtain ⟨fr, h0, h1, h2, h3, h4⟩ := h
  exact ⟨fr, h0, by omega, h2, h3, h4⟩
theorem kx.gg (h : kx d S g) (b : (zI S 209 7).toInt ≤ 1600) : cx_g d.1 d.2 S g := by
  obtain ⟨⟨hg, ⟨a0, a1, a3, a4, a6, a8, a11⟩, b1, b2, b3, b4⟩, a2⟩ := h
  refine ⟨⟨hg, a2, a8, fun w hw => (b4 w hw).code b⟩, ⟨a0, a1, a3, a4, a6, a11⟩, fun c hc => ?_, b2, b3⟩
  have h0 := hc.1
  have e := b1 c.toNat (by omega)
  rw [show (c + 8).toNat = c.toNat + 8 by omega]
  exact e
theorem d_2_so {t v s : Int} (e : d_2 t v = s) (ht : (0 ≤ t ∧ t ≤ 6) ∨ (30 ≤ t ∧ t ≤ 44)) (hv : 0 ≤ v) : t = mx_so s ∧ (0 ≤ s → v = s) := by
  unfold d_2 d_st at e
  unfold mx_so
  by_cases q0 : t = 0
  · rw [if_pos q0] at e
    rw [if_pos (by omega)]
    exact ⟨q0, fun _ => e⟩
  rw [if_neg q0] at e
  by_cases q1 : t ≤ 6
  · rw [if_pos q1] at e
    rw [if_neg (by omega), if_pos (by omega)]
    exact ⟨by omega, fun _ => by omega⟩
  rw [if_neg q1] at e
  by_cases q2 : t = 30
  · rw [if_pos q2] at e
    rw [if_neg (by omega), if_neg (by omega), if_pos (by omega)]
    exact ⟨q2, fun _ => by omega⟩
  rw [if_neg q2] at e
  by_cases q3 : t = 43
  · rw [if_pos q3] at e
    rw [if_neg (by omega), if_neg (by omega), if_neg (by omega), if_pos (by omega)]
    exact ⟨q3, fun _ => by omega⟩
  rw [if_neg q3] at e
  by_cases q4 : t = 44
  · rw [if_pos q4] at e
    rw [if_neg (by omega), if_neg (by omega), if_neg (by omega), if_neg (by omega), if_pos (by omega)]
    exact ⟨q4, fun _ => by omega⟩
  rw [if_neg q4] at e
  rw [if_neg (by omega), if_neg (by omega), if_neg (by omega), if_neg (by omega), if_neg (by omega)]
  exact ⟨by omega, fun _ => by omega⟩
theorem dk_ok.sort {f : Nat → Int32} {m : Int} : ∀ {k s : Nat} {n : Int} (_ : dk_ok f k s n m) (i : Nat), i < k → (0 ≤ (f (s + i)).toInt ∧ (f (s + i)).toInt ≤ 6) ∨ (30 ≤ (f (s + i)).toInt ∧ (f (s + i)).toInt ≤ 44)
  | 0, s, n, _, i, hi => absurd hi (Nat.not_lt_zero i)
  | k + 1, s, n, h, i, hi => by
    obtain ⟨n', h1, h2⟩ := h
    by_cases q : i = 0
    · subst q
      unfold dk_st at h1
      rw [Nat.add_zero]
      omega
    · have z := dk_ok.sort h2 (i - 1) (by omega)
      rw [show s + 1 + (i - 1) = s + i by omega] at z
      exact z
theorem kOK.flag (H : kOK σ d) {S : dg_S} {b : Nat} (es : σ = GSv S b) (hw : w < 3) (h : (S.2.1 16 (3 * b + w)).toInt ≠ -1) : d.2 w ≠ [] := by
  subst es
  obtain ⟨-, -, -, -, -, -, -, -, f0, f1, f2⟩ := H
  match w, hw with
  | 0, _ => exact f0.mp (decide_eq_true h)
  | 1, _ => exact f1.mp (decide_eq_true h)
  | 2, _ => exact f2.mp (decide_eq_true h)
/-- the bank that was read into, as a ground -/
theorem km.gf {b9 : Int32} (f13 : S.1 0 13 = .int b9) (f35 : S.1 0 35 = .int b9) (f47 : S.1 0 47 = .int 1) (I : CM o S) (ZW : ZWM S) (es : σ = GSv S b9.toNatClampNeg) (H : kOK σ d) (h : km d S) : mx_gf d.1 d.2 S := by
  have hb := dg_I.intb (lo := 0) (hi := 1) I sM_0 (by decide +kernel) f13
  have z13 := zI_eq f13
  have z47 := zI_eq f47
  have one : (1 : Int32).toInt = 1 := by decide +kernel
  have cb := dk_clN b9
  have hin : vp_in b9 2 := dk_inv hb.1 (by omega)
  have b8 := dk_all_at (dg_I.row (lo := 0) (hi := 6) I sM_8 (by decide +kernel)) hin (rfl : S.2.1 8 b9.toNatClampNeg = _)
  have b9' := dk_all_at (dg_I.row (lo := 0) (hi := 16) I sM_9 (by decide +kernel)) hin (rfl : S.2.1 9 b9.toNatClampNeg = _)
  have b12 := dk_all_at (dg_I.row (lo := 0) (hi := 5) I sM_12 (by decide +kernel)) hin (rfl : S.2.1 12 b9.toNatClampNeg = _)
  have v19 : dk_all 3200 (S.2.1 19) 0 9999 := dg_I.row (lo := 0) (hi := 9999) I sM_19 (by decide +kernel)
  obtain ⟨ii, f, h0, e4, e5, e6, e7, e10, e13, ec⟩ := h
  cases f.symm.trans f35
  obtain ⟨i0, i1, i5, i6, i7⟩ := H.1
  have hx := H.gx.1
  have h6 := hx.1.2.2
  have h7 := hx.2.2.2.2.1
  have i0 : d.1 0 0 = (S.2.1 2 b9.toNatClampNeg).toInt := by rw [i0, es]; rfl
  have i1 : d.1 0 1 = (S.2.1 3 b9.toNatClampNeg).toInt := by rw [i1, es]; rfl
  have i5 : d.1 0 5 = (S.2.1 8 b9.toNatClampNeg).toInt := by
    rw [i5, es]
    show ((m_nm (S.2.2 20) (6 * b9.toNatClampNeg) (S.2.1 8 b9.toNatClampNeg).toNatClampNeg).length : Int) = _
    rw [m_nm_len, dk_clN]
    omega
  have i6 : d.1 0 6 = (S.2.1 9 b9.toNatClampNeg).toInt := by
    rw [i6, es]
    show (((S.2.1 9 b9.toNatClampNeg).toNatClampNeg : Nat) : Int) = _
    rw [dk_clN]
    omega
  have i7 : d.1 0 7 = (S.2.1 12 b9.toNatClampNeg).toInt := by
    rw [i7, es]
    show ((m_nm (S.2.2 21) (5 * b9.toNatClampNeg) (S.2.1 12 b9.toNatClampNeg).toNatClampNeg).length : Int) = _
    rw [m_nm_len, dk_clN]
    omega
  unfold mx_gf mx_g mx_gd
  rw [← z13, ← z47]
  refine ⟨⟨⟨by rw [one]; decide, i0.symm, i1.symm, e4, i6.symm⟩, b9.toNatClampNeg, by omega, by omega, fun w hw => ?_⟩, ⟨e5, e6, i5.symm, i7.symm⟩, fun c hc => ?_, fun k hk => e10 k (by omega) hk, fun k hk => e13 k (by omega) hk⟩
  · rcases ec w hw with ⟨c0, c1⟩ | ⟨fr, cd, c0, f34, hl, e16, e17, el⟩
    · exact Or.inl ⟨c0, c1⟩
    · have hcd := dg_I.intb (lo := 0) (hi := 1600) I sM_0 (by decide +kernel) f34
      have ne := H.flag (w := w) es hw (by rw [e16]; omega)
      refine Or.inr ⟨ne, fr, c0, by omega, e16, e17, fun i hi => ?_⟩
      obtain ⟨-, -, -, m, ok⟩ := ZW b9 f13 w hw (by rw [e16]; omega)
      rw [e16, e17] at ok
      have so := ok.sort i (by omega)
      have av := v19 (1600 * b9.toNatClampNeg + fr.toNat + i) (by omega)
      unfold mx_c1
      rw [show (1600 * ((b9.toNatClampNeg : Nat) : Int) + fr + (i : Int)).toNat = 1600 * b9.toNatClampNeg + fr.toNat + i by omega]
      exact d_2_so (el i hi) so av.1
  · have c0 := hc.1
    exact e7 c.toNat (by omega)
/-- the ground in use stays while the other is read into -/
theorem cx_g.keep1 (h : cx_g G K S g) (e : ∀ j, 1 ≤ j → j ≤ 11 → S1.2.1 (g + j) = S.2.1 (g + j)) (e2 : ∀ b, zI S1 g b = zI S g b) : cx_g G K S1 g := by
  unfold cx_g cx_gt cx_code at h ⊢
  simp only [e2, e 1 (by decide) (by decide), e 3 (by decide) (by decide), e 4 (by decide) (by decide), e 6 (by decide) (by decide), e 7 (by decide) (by decide), e 8 (by decide) (by decide), e 9 (by decide) (by decide), e 10 (by decide) (by decide), e 11 (by decide) (by decide)]
  exact h
theorem GOX.zf (h : GOX S gD S1) (b : Nat) : zI S1 gD b = zI S gD b := by
  unfold zI
  rw [h.2.1 b]
theorem cx_g.go (h : cx_g G K S gD) (go : GOX S gD S1) (g9 : G9X S gD S1) : cx_g G K S1 gD := by
  refine h.keep1 (fun j h1 h2 => ?_) (fun b => go.zf b)
  by_cases q : j = 9
  · rw [q]
    exact g9.2
  · exact go.2.2 j h1 (by omega) q
theorem mx_gf.gb (h : mx_gf G K S) (h6 : G 0 6 ≤ 16) (h7 : G 0 7 ≤ 5) (gb : GBM S S1) (g8 : G8M S S1) : mx_gf G K S1 := by
  obtain ⟨b, f0, f1, f47, hb, R⟩ := gb
  obtain ⟨b', f0', -, -, R8⟩ := g8
  cases f0'.symm.trans f0
  have z0 := zI_eq f0
  have z1 := zI_eq f1
  have z47 : zI S1 0 47 = zI S 0 47 := by
    unfold zI
    rw [f47]
  have cb := dk_clN b
  have r1 : ∀ r, gb_w r = 1 → S1.2.1 r b.toNatClampNeg = S.2.1 r b.toNatClampNeg := fun r hr => by
    have e := (R r 0 (by omega)).1
    rw [hr, Nat.one_mul, Nat.add_zero] at e
    exact e
  have rr : ∀ r w k, gb_w r = w → k < w → S1.2.1 r (w * b.toNatClampNeg + k) = S.2.1 r (w * b.toNatClampNeg + k) := fun r w k hr hk => by
    have e := (R r k (by omega)).1
    rw [hr] at e
    exact e
  unfold mx_gf mx_g mx_gd at h ⊢
  rw [← z0] at h
  rw [← z1, z47]
  obtain ⟨⟨⟨q47, q2, q3, q4, q9⟩, b2, hb2, e2, qc⟩, ⟨q5, q6, q8, q12⟩, q7, q10, q13⟩ := h
  refine ⟨⟨⟨q47, ?_, ?_, ?_, ?_⟩, b2, hb2, e2, fun w hw => ?_⟩, ⟨?_, ?_, ?_, ?_⟩, fun c hc => ?_, fun k hk => ?_, fun k hk => ?_⟩
  · rw [r1 2 (by decide)]; exact q2
  · rw [r1 3 (by decide)]; exact q3
  · rw [r1 4 (by decide)]; exact q4
  · rw [r1 9 (by decide)]; exact q9
  · have eb : b2 = b.toNatClampNeg := by omega
    subst eb
    have h16 := rr 16 3 w (by decide) hw
    have h17 := rr 17 3 w (by decide) hw
    rcases qc w hw with ⟨c0, c1⟩ | ⟨ne, fr, c0, hl, e16, e17, el⟩
    · exact Or.inl ⟨c0, by rw [h16]; exact c1⟩
    · refine Or.inr ⟨ne, fr, c0, hl, by rw [h16]; exact e16, by rw [h17]; exact e17, fun i hi => ?_⟩
      have ei := el i hi
      unfold mx_c1 at ei ⊢
      rw [show (1600 * ((b.toNatClampNeg : Nat) : Int) + fr + (i : Int)).toNat = 1600 * b.toNatClampNeg + (fr.toNat + i) by omega] at ei ⊢
      rw [R8 18 _ (Or.inl rfl) (by omega), R8 19 _ (Or.inr rfl) (by omega)]
      exact ei
  · rw [r1 5 (by decide)]; exact q5
  · rw [r1 6 (by decide)]; exact q6
  · rw [r1 8 (by decide)]; exact q8
  · rw [r1 12 (by decide)]; exact q12
  · have c0 := hc.1
    rw [rr 7 64 c.toNat (by decide) (by omega)]
    exact q7 c hc
  · rw [rr 10 16 k (by decide) (by omega), rr 11 16 k (by decide) (by omega)]
    exact q10 k hk
  · rw [rr 13 5 k (by decide) (by omega), rr 14 5 k (by decide) (by omega), rr 15 5 k (by decide) (by omega)]
    exact q13 k hk
theorem mx_0.gb {x : Int} (h : mx_0 x S) (gb : GBM S S1) (e29 : S1.2.1 29 = S.2.1 29) (e30 : S1.2.1 30 = S.2.1 30) (e33 : S1.2.1 33 = S.2.1 33) (e38 : S1.2.1 38 = S.2.1 38) (e37 : S1.2.1 37 = S.2.1 37) (e61 : zI S1 0 61 = zI S 0 61) (e62 : zL S1 0 62 = zL S 0 62) : mx_0 x S1 := by
  obtain ⟨b, f0, f1, f47, hb, R⟩ := gb
  have z0 := zI_eq f0
  have z1 := zI_eq f1
  have z47 : zI S1 0 47 = zI S 0 47 := by
    unfold zI
    rw [f47]
  have r1 : ∀ r, gb_w r = 1 → S1.2.1 r b.toNatClampNeg = S.2.1 r b.toNatClampNeg := fun r hr => by
    have e := (R r 0 (by omega)).1
    rw [hr, Nat.one_mul, Nat.add_zero] at e
    exact e
  unfold mx_0 at h ⊢
  rw [← z0] at h
  rw [← z1, z47, e29, e30, e33, e38, e37, e61, e62, r1 2 (by decide), r1 3 (by decide), r1 8 (by decide), r1 9 (by decide), r1 12 (by decide)]
  exact h
/-- cells that a reading leaves alone -/
theorem sm_kX (m : dg_sm shX WF WA S S1) (c1 : WF.all (fun p => decide (p.1 = 1 ∨ (p.1 = 0 ∧ (p.2 = 6 ∨ p.2 = 7)) ∨ 19 ≤ p.1)) = true) (c2 : WA.all (fun r => decide (19 ≤ r)) = true) : kp (fun a b => a = 1 ∨ (a = 0 ∧ (b = 6 ∨ b = 7)) ∨ 185 ≤ a) (fun a => 185 ≤ a) S S1 := by
  have hs : ∀ a, a < 185 → (shX[a]?).elim false (fun q => decide (q.2.2.2 ≤ 18 ∧ (q.2.2.2 = 1 → a = 1) ∧ (q.2.2.2 = 0 → a = 0))) = true := by decide +kernel
  refine ⟨fun a b n => ?_, fun a n => ?_⟩
  · have z := hs a (by omega)
    cases e : shX[a]? with
    | none => rw [e] at z; cases z
    | some q =>
      rw [e] at z
      have z := of_decide_eq_true z
      exact m.1 a b q e (fun y => by have := of_decide_eq_true (List.all_eq_true.mp c1 _ y); omega)
  · have z := hs a (by omega)
    cases e : shX[a]? with
    | none => rw [e] at z; cases z
    | some q =>
      rw [e] at z
      have z := of_decide_eq_true z
      exact m.2 a q e (fun y => by have := of_decide_eq_true (List.all_eq_true.mp c2 _ y); omega)
theorem sm_kM (m : dg_sm shM WF WA S S1) (c2 : WA.all (fun r => decide (2 ≤ r ∧ r ≤ 27)) = true) : kp (fun a b => (a, b) ∈ WF ∨ 51 ≤ a) (fun a => (2 ≤ a ∧ a ≤ 27) ∨ 51 ≤ a) S S1 := by
  have hs : ∀ a, a < 51 → (shM[a]?).elim false (fun q => decide (q.2.2.2 = a)) = true := by decide +kernel
  refine ⟨fun a b n => ?_, fun a n => ?_⟩
  · have z := hs a (by omega)
    cases e : shM[a]? with
    | none => rw [e] at z; cases z
    | some q =>
      rw [e] at z
      have z := of_decide_eq_true z
      exact m.1 a b q e (fun y => n (Or.inl (by rw [← z]; exact y)))
  · have z := hs a (by omega)
    cases e : shM[a]? with
    | none => rw [e] at z; cases z
    | some q =>
      rw [e] at z
      have z := of_decide_eq_true z
      exact m.2 a q e (fun y => by have := of_decide_eq_true (List.all_eq_true.mp c2 _ y); omega)
end LH
