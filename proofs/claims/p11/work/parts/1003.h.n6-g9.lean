section
/-! the bank that isn't read into: as it was in S0 -/
/-- of each row how many places a bank has -/
def gb_w (r : Nat) : Nat := ([0, 0, 1, 1, 1, 1, 1, 64, 1, 1, 16, 16, 1, 5, 5, 5, 3, 3, 0, 0, 6, 5] : List Nat).getD r 0
theorem gb_in {r k : Nat} (h : k < gb_w r) : ∃ q, shM[r]? = some q ∧ q.2.2.2 = r ∧ 2 ≤ r ∧ r ≤ 21 ∧ r ≠ 18 ∧ r ≠ 19 := by
  have hr : r < 22 := by
    by_cases q : r < 22
    · exact q
    · exfalso
      have z : gb_w r = 0 := by
        unfold gb_w
        rw [List.getD_eq_getElem?_getD, List.getElem?_eq_none (by show 22 ≤ r; omega)]
        rfl
      omega
  have hs : ∀ r : Nat, r < 22 → (shM[r]?.map fun q => q.2.2.2) = some r := by decide +kernel
  have h2 : ∀ r : Nat, r < 22 → 0 < gb_w r → 2 ≤ r ∧ r ≤ 21 ∧ r ≠ 18 ∧ r ≠ 19 := by decide +kernel
  have h1 := hs r hr
  have c := h2 r hr (by omega)
  cases z : shM[r]? with
  | none => rw [z] at h1; cases h1
  | some q => rw [z] at h1; exact ⟨q, rfl, Option.some.inj h1, c⟩
def gb_nA (WA : List Nat) : Bool := WA.all fun r => decide (r < 2) || decide (r = 18) || decide (r = 19) || decide (21 < r)
theorem gb_A {WA : List Nat} (h : gb_nA WA = true) {r : Nat} (h1 : 2 ≤ r) (h2 : r ≤ 21) (h3 : r ≠ 18) (h4 : r ≠ 19) : r ∉ WA := fun z => by
  have h5 := List.all_eq_true.mp h _ z
  simp only [Bool.or_eq_true, decide_eq_true_eq] at h5
  omega
def GBM (S0 S : dg_S) : Prop := ∃ b : Int32, S0.1 0 13 = .int b ∧ S.1 0 13 = .int b ∧ S.1 0 47 = S0.1 0 47 ∧ (0 ≤ b.toInt ∧ b.toInt ≤ 1) ∧ ∀ r k : Nat, k < gb_w r → S.2.1 r (gb_w r * b.toNatClampNeg + k) = S0.2.1 r (gb_w r * b.toNatClampNeg + k) ∧ S.2.2 r (gb_w r * b.toNatClampNeg + k) = S0.2.2 r (gb_w r * b.toNatClampNeg + k)
section GBs
variable {S0 S S1 : dg_S} {r w : Nat} {WF : List (Nat × Nat)} {WA : List Nat} {v : Int32} {vj : Int64} {ii b x : Int32}
theorem GBM.init (f : S.1 0 13 = .int b) (h : 0 ≤ b.toInt ∧ b.toInt ≤ 1) : GBM S S := ⟨b, f, f, rfl, h, fun _ _ _ => ⟨rfl, rfl⟩⟩
theorem GBM.keep (h : GBM S0 S) (m : dg_sm shM WF WA S S1) (h13 : (0, 13) ∉ WF) (h47 : (0, 47) ∉ WF) (hA : gb_nA WA = true) : GBM S0 S1 := by
  obtain ⟨b, f0, f, f47, hb, e⟩ := h
  refine ⟨b, f0, (m.1 0 13 _ sM_0 h13).trans f, (m.1 0 47 _ sM_0 h47).trans f47, hb, fun r k hk => ?_⟩
  obtain ⟨q, a1, a2, c1, c2, c3, c4⟩ := gb_in hk
  have a3 := m.2 r q a1 (by rw [a2]; exact gb_A hA c1 c2 c3 c4)
  rw [a3.1, a3.2]
  exact e r k hk
theorem gb_far {b ii x : Int32} {w k : Nat} (hb : 0 ≤ b.toInt ∧ b.toInt ≤ 1) (hi : ii.toInt = 1 - b.toInt) (hx : (w : Int) * ii.toInt ≤ x.toInt) (hx2 : x.toInt < (w : Int) * ii.toInt + w) (hk : k < w) : w * b.toNatClampNeg + k ≠ x.toNatClampNeg := by
  have c1 := dk_clN b
  have c2 := dk_clN x
  have hb2 : b.toInt = 0 ∨ b.toInt = 1 := by omega
  rcases hb2 with q | q
  · rw [show ii.toInt = 1 from by omega] at hx hx2
    rw [show b.toNatClampNeg = 0 from by omega]
    omega
  · rw [show ii.toInt = 0 from by omega] at hx hx2
    rw [show b.toNatClampNeg = 1 from by omega]
    omega
theorem GBM.st (h : GBM S0 S) (zk : ZKM S) (fi : S.1 0 35 = .int ii) (w : Nat) (hw : gb_w r = w) {wi : Int} (hwi : (w : Int) = wi) (e : S1 = dg_uf S r (upd (S.2.1 r) x.toNatClampNeg v)) (hx : wi * ii.toInt ≤ x.toInt) (hx2 : x.toInt < wi * ii.toInt + wi) : GBM S0 S1 := by
  obtain ⟨b, f0, f, f47, hb, g⟩ := h
  subst hwi
  have hi := zk b ii f fi
  refine ⟨b, f0, (dg_uf_F e 0 13).trans f, (dg_uf_F e 0 47).trans f47, hb, fun r' k hk => ⟨?_, ?_⟩⟩
  · by_cases q : r' = r
    · rw [q] at hk ⊢
      rw [dg_uf_at e, dg_upd_ne (by rw [hw] at hk ⊢; exact gb_far hb hi hx hx2 hk)]
      exact (g r k hk).1
    · rw [dg_uf_ne e q]
      exact (g r' k hk).1
  · rw [dg_uf_l e]
    exact (g r' k hk).2
theorem GBM.stl (h : GBM S0 S) (zk : ZKM S) (fi : S.1 0 35 = .int ii) (w : Nat) (hw : gb_w r = w) {wi : Int} (hwi : (w : Int) = wi) (e : S1 = dg_ul S r (vp_updL (S.2.2 r) x.toNatClampNeg vj)) (hx : wi * ii.toInt ≤ x.toInt) (hx2 : x.toInt < wi * ii.toInt + wi) : GBM S0 S1 := by
  obtain ⟨b, f0, f, f47, hb, g⟩ := h
  subst hwi
  have hi := zk b ii f fi
  refine ⟨b, f0, (dg_ul_F e 0 13).trans f, (dg_ul_F e 0 47).trans f47, hb, fun r' k hk => ⟨?_, ?_⟩⟩
  · rw [dg_ul_f e]
    exact (g r' k hk).1
  · by_cases q : r' = r
    · rw [q] at hk ⊢
      rw [dg_ul_at e, vpL_ne (by rw [hw] at hk ⊢; exact gb_far hb hi hx hx2 hk)]
      exact (g r k hk).2
    · rw [dg_ul_ne e q]
      exact (g r' k hk).2
/-- what the bank in use holds -/
def GMv (σ : y_S) (S : dg_S) : Prop := ∃ b sm : Int32, S.1 0 13 = .int b ∧ S.1 0 47 = .int sm ∧ (sm.toInt = 1 ↔ 0 < σ.1.1) ∧ (0 ≤ b.toInt ∧ b.toInt ≤ 1) ∧ σ = GSv S b.toNatClampNeg ∧ m_nok (S.2.2 20) (6 * b.toNatClampNeg) (S.2.1 8 b.toNatClampNeg).toNatClampNeg ∧ m_nok (S.2.2 21) (5 * b.toNatClampNeg) (S.2.1 12 b.toNatClampNeg).toNatClampNeg
def GMN (T : Option (Nat × y_S)) (m : Nat) (S : dg_S) : Prop := ∃ σ : y_S, T = some (m, σ) ∧ GSM σ S
variable {σ : y_S} {T : Option (Nat × y_S)} {m : Nat} {o : Nat}
theorem GMv.gb (h : GMv σ S0) (I : CM o S0) (g : GBM S0 S) : GMv σ S := by
  obtain ⟨b, sm, f0, fs, hs, hb, e, o1, o2⟩ := h
  obtain ⟨b', f0', f, f47, -, q⟩ := g
  cases f0.symm.trans f0'
  have c0 := dk_clN b
  have hin : vp_in b 2 := dk_inv hb.1 (by omega)
  obtain ⟨h8, h8'⟩ := dk_all_at (dg_I.row (lo := 0) (hi := 6) I sM_8 (by decide +kernel)) hin (rfl : S0.2.1 8 b.toNatClampNeg = _)
  obtain ⟨h12, h12'⟩ := dk_all_at (dg_I.row (lo := 0) (hi := 5) I sM_12 (by decide +kernel)) hin (rfl : S0.2.1 12 b.toNatClampNeg = _)
  have one : ∀ r : Nat, gb_w r = 1 → S.2.1 r b.toNatClampNeg = S0.2.1 r b.toNatClampNeg := by
    intro r hr
    have h1 := (q r 0 (by rw [hr]; decide)).1
    rw [hr, Nat.one_mul, Nat.add_zero] at h1
    exact h1
  have c8 := dk_clN (S0.2.1 8 b.toNatClampNeg)
  have c12 := dk_clN (S0.2.1 12 b.toNatClampNeg)
  have n20 : ∀ j, j < (S0.2.1 8 b.toNatClampNeg).toNatClampNeg → S.2.2 20 (6 * b.toNatClampNeg + j) = S0.2.2 20 (6 * b.toNatClampNeg + j) := fun j hj => (q 20 j (by show j < 6; omega)).2
  have n21 : ∀ j, j < (S0.2.1 12 b.toNatClampNeg).toNatClampNeg → S.2.2 21 (5 * b.toNatClampNeg + j) = S0.2.2 21 (5 * b.toNatClampNeg + j) := fun j hj => (q 21 j (by show j < 5; omega)).2
  refine ⟨b, sm, f, f47.trans fs, hs, hb, ?_, ?_, ?_⟩
  · rw [e]
    unfold GSv
    have w0 := (q 16 0 (by decide)).1
    have w1 := (q 16 1 (by decide)).1
    have w2 := (q 16 2 (by decide)).1
    rw [show gb_w 16 = 3 from rfl] at w0 w1 w2
    rw [Nat.add_zero] at w0
    rw [one 2 rfl, one 3 rfl, one 8 rfl, one 9 rfl, one 12 rfl, m_nm_congr n20, m_nm_congr n21, w0, w1, w2]
  · rw [one 8 rfl]
    exact fun j hj => by rw [n20 j hj]; exact o1 j hj
  · rw [one 12 rfl]
    exact fun j hj => by rw [n21 j hj]; exact o2 j hj
theorem GMv.keep (h : GMv σ S) (I : CM o S) (m : dg_sm shM WF WA S S1) (h13 : (0, 13) ∉ WF) (h47 : (0, 47) ∉ WF) (hA : gb_nA WA = true) : GMv σ S1 := by
  obtain ⟨b, sm, f0, -, -, hb, r⟩ := id h
  exact h.gb I ((GBM.init f0 hb).keep m h13 h47 hA)
theorem GMN.keep (h : GMN T m S) (q : dg_sm shM WF WA S S1) (h35 : (0, 35) ∉ WF) (hA : gb_nA WA = true) : GMN T m S1 := by
  obtain ⟨σ, e, g⟩ := h
  exact ⟨σ, e, g.keep q h35 (gb_A hA (by decide) (by decide) (by decide) (by decide)) (gb_A hA (by decide) (by decide) (by decide) (by decide)) (gb_A hA (by decide) (by decide) (by decide) (by decide)) (gb_A hA (by decide) (by decide) (by decide) (by decide)) (gb_A hA (by decide) (by decide) (by decide) (by decide)) (gb_A hA (by decide) (by decide) (by decide) (by decide)) (gb_A hA (by decide) (by decide) (by decide) (by decide)) (gb_A hA (by decide) (by decide) (by decide) (by decide))⟩
/-- what was read into becomes the bank in use -/
theorem GMN.use (h : GMN T m S) (fb : ∃ b : Int32, S.1 0 13 = .int b ∧ S.1 0 35 = .int b) (fs : S.1 0 47 = .int 1) (Z : ZBM S) (I : CM o S) : ∃ σ : y_S, T = some (m, σ) ∧ GMv σ S := by
  obtain ⟨σ, eT, g⟩ := h
  obtain ⟨b, fb, fi⟩ := fb
  obtain ⟨-, e1, o1, o2⟩ := g.at fi
  have hb := dg_I.intb (lo := 0) (hi := 1) I sM_0 (by decide +kernel) fb
  have hz := (Z b 1 fb fs).2.2.2 (by decide +kernel)
  refine ⟨σ, eT, b, 1, fb, fs, ?_, hb, e1, o1, o2⟩
  have h1 : σ.1.1 = (S.2.1 2 b.toNatClampNeg).toInt := by rw [e1]; rfl
  rw [h1]
  exact ⟨fun _ => by omega, fun _ => by decide +kernel⟩
theorem GMv.none (f13 : S.1 0 13 = .int 0) (f47 : S.1 0 47 = .int 0) (w2 : S.2.1 2 = fun _ => 0) (w3 : S.2.1 3 = fun _ => 0) (w8 : S.2.1 8 = fun _ => 0) (w9 : S.2.1 9 = fun _ => 0) (w12 : S.2.1 12 = fun _ => 0) (hv : ∀ j, j < 6 → S.2.1 16 j = -1) : GMv y_0 S := by
  have z : (0 : Int32).toNatClampNeg = 0 := by decide +kernel
  refine ⟨0, 0, f13, f47, ⟨fun h => absurd h (by decide +kernel), fun h => absurd h (by decide)⟩, ⟨by decide +kernel, by decide +kernel⟩, ?_, ?_, ?_⟩
  · rw [z]
    unfold GSv
    rw [w2, w3, w8, w9, w12, hv 0 (by decide), hv 1 (by decide), hv 2 (by decide)]
    rfl
  · rw [z, w8]
    exact fun j hj => absurd hj (by show ¬ j < (0 : Int32).toNatClampNeg; rw [z]; exact Nat.not_lt_zero j)
  · rw [z, w12]
    exact fun j hj => absurd hj (by show ¬ j < (0 : Int32).toNatClampNeg; rw [z]; exact Nat.not_lt_zero j)
end GBs
end
section
/-! the steps of the ground that isn't read into: as they were in S0 -/
def G9X (S0 : dg_S) (d : Nat) (S : dg_S) : Prop := rX d ∧ S.2.1 (d + 9) = S0.2.1 (d + 9)
section G9
variable {S0 S S1 : dg_S} {d gd : Nat} {WF : List (Nat × Nat)} {WA : List Nat} {r : Nat → Int32}
theorem G9X.init (h : rX d) : G9X S d S := ⟨h, rfl⟩
theorem G9X.keep (h : G9X S0 d S) (m : dg_sm shX WF WA S S1) (h28 : 28 ∉ WA) : G9X S0 d S1 := ⟨h.1, (m.2 (d + 9) _ (rX_9 d h.1) h28).1.trans h.2⟩
theorem G9X.uf (h : G9X S0 d S) (hg : rX gd) (hd : d ≠ gd) (e : S1 = dg_uf S (gd + 9) r) : G9X S0 d S1 :=
  ⟨h.1, (dg_uf_ne e (gg_apart h.1 hg hd (by decide) (by decide))).trans h.2⟩
end G9
/-! the codes of the bank that isn't read into -/
def G8M (S0 S : dg_S) : Prop := ∃ b : Int32, S0.1 0 13 = .int b ∧ S.1 0 13 = .int b ∧ (0 ≤ b.toInt ∧ b.toInt ≤ 1) ∧ ∀ r k : Nat, (r = 18 ∨ r = 19) → k < 1600 → S.2.1 r (1600 * b.toNatClampNeg + k) = S0.2.1 r (1600 * b.toNatClampNeg + k)
section G8
variable {S0 S S1 : dg_S} {r : Nat} {WF : List (Nat × Nat)} {WA : List Nat} {ii b x v : Int32}
theorem G8M.init (f : S.1 0 13 = .int b) (h : 0 ≤ b.toInt ∧ b.toInt ≤ 1) : G8M S S := ⟨b, f, f, h, fun _ _ _ _ => rfl⟩
theorem G8M.keep (h : G8M S0 S) (m : dg_sm shM WF WA S S1) (h13 : (0, 13) ∉ WF) (k8 : 18 ∉ WA) (k9 : 19 ∉ WA) : G8M S0 S1 := by
  obtain ⟨b, f0, f, hb, e⟩ := h
  refine ⟨b, f0, (m.1 0 13 _ sM_0 h13).trans f, hb, fun r k hr hk => ?_⟩
  rcases hr with q | q
  · rw [q, (m.2 18 _ sM_18 k8).1]
    exact e 18 k (Or.inl rfl) hk
  · rw [q, (m.2 19 _ sM_19 k9).1]
    exact e 19 k (Or.inr rfl) hk
theorem G8M.st (h : G8M S0 S) (zk : ZKM S) (fi : S.1 0 35 = .int ii) (e : S1 = dg_uf S r (upd (S.2.1 r) x.toNatClampNeg v)) (hx : 1600 * ii.toInt ≤ x.toInt) (hx2 : x.toInt < 1600 * ii.toInt + 1600) : G8M S0 S1 := by
  obtain ⟨b, f0, f, hb, g⟩ := h
  have hi := zk b ii f fi
  refine ⟨b, f0, (dg_uf_F e 0 13).trans f, hb, fun r' k hr hk => ?_⟩
  by_cases q : r' = r
  · rw [q, dg_uf_at e, dg_upd_ne (gb_far (w := 1600) hb hi hx hx2 hk)]
    exact g r k (by rw [← q]; exact hr) hk
  · rw [dg_uf_ne e q]
    exact g r' k hr hk
end G8
end
