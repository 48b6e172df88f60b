/-! the reference's bank, while it is told (sizes and counts: see kI and what GSM tells) -/
def mc (S : dg_S) (ii : Int32) (w : Nat) (C : List Int) : Prop := (C = [] ∧ (S.2.1 16 (3 * ii.toNatClampNeg + w)).toInt = -1) ∨ ∃ (fr : Int) (cd : Int32), 0 ≤ fr ∧ S.1 0 34 = .int cd ∧ fr + C.length ≤ cd.toInt ∧ (S.2.1 16 (3 * ii.toNatClampNeg + w)).toInt = fr ∧ (S.2.1 17 (3 * ii.toNatClampNeg + w)).toInt = fr + C.length ∧ ∀ i : Nat, i < C.length → d_2 (S.2.1 18 (1600 * ii.toNatClampNeg + fr.toNat + i)).toInt (S.2.1 19 (1600 * ii.toNatClampNeg + fr.toNat + i)).toInt = C.getD i 0
def km (d : k_D) (S : dg_S) : Prop := ∃ ii : Int32, S.1 0 35 = .int ii ∧ 0 ≤ ii.toInt ∧ (S.2.1 4 ii.toNatClampNeg).toInt = d.1 0 2 ∧ (S.2.1 5 ii.toNatClampNeg).toInt = d.1 0 3 ∧ (S.2.1 6 ii.toNatClampNeg).toInt = d.1 0 4 ∧ (∀ c : Nat, c < 64 → (S.2.1 7 (64 * ii.toNatClampNeg + c)).toInt = d.1 1 c) ∧ (∀ k : Nat, k < 16 → (k : Int) < d.1 0 6 → (S.2.1 10 (16 * ii.toNatClampNeg + k)).toInt = d.1 5 k ∧ (S.2.1 11 (16 * ii.toNatClampNeg + k)).toInt = d.1 6 k) ∧ (∀ k : Nat, k < 5 → (k : Int) < d.1 0 7 → (S.2.1 13 (5 * ii.toNatClampNeg + k)).toInt = d.1 2 k ∧ (S.2.1 14 (5 * ii.toNatClampNeg + k)).toInt = d.1 3 k ∧ (S.2.1 15 (5 * ii.toNatClampNeg + k)).toInt = d.1 4 k) ∧ ∀ w, w < 3 → mc S ii w (d.2 w)
/-- what is told beside it -/
def kI (σ : y_S) (d : k_D) : Prop := d.1 0 0 = σ.1.1 ∧ d.1 0 1 = σ.1.2 ∧ d.1 0 5 = σ.2.1.length ∧ d.1 0 6 = σ.2.2.1 ∧ d.1 0 7 = σ.2.2.2.1.length
section KM
variable {S S1 : dg_S} {G : aR} {K : Nat → List Int} {d : k_D} {ii v v1 v2 v3 cd cd' : Int32} {n : Nat} {C : List Int}
theorem mc.keep {w : Nat} (h : mc S ii w C) (f34 : S1.1 0 34 = S.1 0 34) (e16 : S1.2.1 16 = S.2.1 16) (e17 : S1.2.1 17 = S.2.1 17) (e18 : S1.2.1 18 = S.2.1 18) (e19 : S1.2.1 19 = S.2.1 19) : mc S1 ii w C := by
  unfold mc at h ⊢
  rw [f34, e16, e17, e18, e19]
  exact h
theorem km.same (h : km (G, K) S) (f35 : S1.1 0 35 = S.1 0 35) (f34 : S1.1 0 34 = S.1 0 34) (e4 : S1.2.1 4 = S.2.1 4) (e5 : S1.2.1 5 = S.2.1 5) (e6 : S1.2.1 6 = S.2.1 6) (e7 : S1.2.1 7 = S.2.1 7) (e10 : S1.2.1 10 = S.2.1 10) (e11 : S1.2.1 11 = S.2.1 11) (e13 : S1.2.1 13 = S.2.1 13) (e14 : S1.2.1 14 = S.2.1 14) (e15 : S1.2.1 15 = S.2.1 15) (e16 : S1.2.1 16 = S.2.1 16) (e17 : S1.2.1 17 = S.2.1 17) (e18 : S1.2.1 18 = S.2.1 18) (e19 : S1.2.1 19 = S.2.1 19)  : km (G, K) S1 := by
  obtain ⟨ii0, fi, h0, a4, a5, a6, a7, hp, ho, hk⟩ := h
  have u : ∀ j, True → G 0 j = G 0 j := fun j _ => rfl
  have ur : ∀ r j, True → G r j = G r j := fun r j _ => rfl
  refine ⟨ii0, f35.trans fi, h0, ?_, ?_, ?_, fun c hc => ?_, fun k hk1 hk2 => ?_, fun k hk1 hk2 => ?_, fun w hw => ?_⟩
  · rw [e4]
    exact a4.trans (u 2 trivial).symm
  · rw [e5]
    exact a5.trans (u 3 trivial).symm
  · rw [e6]
    exact a6.trans (u 4 trivial).symm
  · rw [e7]
    exact (a7 c hc).trans (ur 1 c trivial).symm
  · have hk2 : (k : Int) < G 0 6 := by rw [← u 6 trivial]; exact hk2
    rw [e10, e11]
    exact ⟨(hp k hk1 hk2).1.trans (ur 5 k trivial).symm, (hp k hk1 hk2).2.trans (ur 6 k trivial).symm⟩
  · have hk2 : (k : Int) < G 0 7 := by rw [← u 7 trivial]; exact hk2
    rw [e13, e14, e15]
    exact ⟨(ho k hk1 hk2).1.trans (ur 2 k trivial).symm, (ho k hk1 hk2).2.1.trans (ur 3 k trivial).symm, (ho k hk1 hk2).2.2.trans (ur 4 k trivial).symm⟩
  · exact (hk w hw).keep f34 e16 e17 e18 e19
theorem km.shaft (h : km (G, K) S) (f35 : S1.1 0 35 = S.1 0 35) (f34 : S1.1 0 34 = S.1 0 34) (e5 : S1.2.1 5 = S.2.1 5) (e6 : S1.2.1 6 = S.2.1 6) (e7 : S1.2.1 7 = S.2.1 7) (e10 : S1.2.1 10 = S.2.1 10) (e11 : S1.2.1 11 = S.2.1 11) (e13 : S1.2.1 13 = S.2.1 13) (e14 : S1.2.1 14 = S.2.1 14) (e15 : S1.2.1 15 = S.2.1 15) (e16 : S1.2.1 16 = S.2.1 16) (e17 : S1.2.1 17 = S.2.1 17) (e18 : S1.2.1 18 = S.2.1 18) (e19 : S1.2.1 19 = S.2.1 19) (fi2 : S.1 0 35 = .int ii) (q : S1.2.1 4 = upd (S.2.1 4) ii.toNatClampNeg v) : km (s_up G 0 2 v.toInt, K) S1 := by
  obtain ⟨ii0, fi, h0, a4, a5, a6, a7, hp, ho, hk⟩ := h
  cases fi.symm.trans fi2
  have u : ∀ j, j ≠ 2 → (s_up G 0 2 v.toInt) 0 j = G 0 j := fun j hj => s_up_i hj
  have ur : ∀ r j, r ≠ 0 → (s_up G 0 2 v.toInt) r j = G r j := fun r j hr => s_up_r hr
  refine ⟨ii, f35.trans fi, h0, ?_, ?_, ?_, fun c hc => ?_, fun k hk1 hk2 => ?_, fun k hk1 hk2 => ?_, fun w hw => ?_⟩
  · rw [q, dk_upd_s]
    show _ = s_up G 0 2 v.toInt 0 2
    exact s_up_at.symm
  · rw [e5]
    exact a5.trans (u 3 (by decide)).symm
  · rw [e6]
    exact a6.trans (u 4 (by decide)).symm
  · rw [e7]
    exact (a7 c hc).trans (ur 1 c (by decide)).symm
  · have hk2 : (k : Int) < G 0 6 := by rw [← u 6 (by decide)]; exact hk2
    rw [e10, e11]
    exact ⟨(hp k hk1 hk2).1.trans (ur 5 k (by decide)).symm, (hp k hk1 hk2).2.trans (ur 6 k (by decide)).symm⟩
  · have hk2 : (k : Int) < G 0 7 := by rw [← u 7 (by decide)]; exact hk2
    rw [e13, e14, e15]
    exact ⟨(ho k hk1 hk2).1.trans (ur 2 k (by decide)).symm, (ho k hk1 hk2).2.1.trans (ur 3 k (by decide)).symm, (ho k hk1 hk2).2.2.trans (ur 4 k (by decide)).symm⟩
  · exact (hk w hw).keep f34 e16 e17 e18 e19
theorem km.reach (h : km (G, K) S) (f35 : S1.1 0 35 = S.1 0 35) (f34 : S1.1 0 34 = S.1 0 34) (e4 : S1.2.1 4 = S.2.1 4) (e6 : S1.2.1 6 = S.2.1 6) (e7 : S1.2.1 7 = S.2.1 7) (e10 : S1.2.1 10 = S.2.1 10) (e11 : S1.2.1 11 = S.2.1 11) (e13 : S1.2.1 13 = S.2.1 13) (e14 : S1.2.1 14 = S.2.1 14) (e15 : S1.2.1 15 = S.2.1 15) (e16 : S1.2.1 16 = S.2.1 16) (e17 : S1.2.1 17 = S.2.1 17) (e18 : S1.2.1 18 = S.2.1 18) (e19 : S1.2.1 19 = S.2.1 19) (fi2 : S.1 0 35 = .int ii) (q : S1.2.1 5 = upd (S.2.1 5) ii.toNatClampNeg v) : km (s_up G 0 3 v.toInt, K) S1 := by
  obtain ⟨ii0, fi, h0, a4, a5, a6, a7, hp, ho, hk⟩ := h
  cases fi.symm.trans fi2
  have u : ∀ j, j ≠ 3 → (s_up G 0 3 v.toInt) 0 j = G 0 j := fun j hj => s_up_i hj
  have ur : ∀ r j, r ≠ 0 → (s_up G 0 3 v.toInt) r j = G r j := fun r j hr => s_up_r hr
  refine ⟨ii, f35.trans fi, h0, ?_, ?_, ?_, fun c hc => ?_, fun k hk1 hk2 => ?_, fun k hk1 hk2 => ?_, fun w hw => ?_⟩
  · rw [e4]
    exact a4.trans (u 2 (by decide)).symm
  · rw [q, dk_upd_s]
    show _ = s_up G 0 3 v.toInt 0 3
    exact s_up_at.symm
  · rw [e6]
    exact a6.trans (u 4 (by decide)).symm
  · rw [e7]
    exact (a7 c hc).trans (ur 1 c (by decide)).symm
  · have hk2 : (k : Int) < G 0 6 := by rw [← u 6 (by decide)]; exact hk2
    rw [e10, e11]
    exact ⟨(hp k hk1 hk2).1.trans (ur 5 k (by decide)).symm, (hp k hk1 hk2).2.trans (ur 6 k (by decide)).symm⟩
  · have hk2 : (k : Int) < G 0 7 := by rw [← u 7 (by decide)]; exact hk2
    rw [e13, e14, e15]
    exact ⟨(ho k hk1 hk2).1.trans (ur 2 k (by decide)).symm, (ho k hk1 hk2).2.1.trans (ur 3 k (by decide)).symm, (ho k hk1 hk2).2.2.trans (ur 4 k (by decide)).symm⟩
  · exact (hk w hw).keep f34 e16 e17 e18 e19
theorem km.quake (h : km (G, K) S) (f35 : S1.1 0 35 = S.1 0 35) (f34 : S1.1 0 34 = S.1 0 34) (e4 : S1.2.1 4 = S.2.1 4) (e5 : S1.2.1 5 = S.2.1 5) (e7 : S1.2.1 7 = S.2.1 7) (e10 : S1.2.1 10 = S.2.1 10) (e11 : S1.2.1 11 = S.2.1 11) (e13 : S1.2.1 13 = S.2.1 13) (e14 : S1.2.1 14 = S.2.1 14) (e15 : S1.2.1 15 = S.2.1 15) (e16 : S1.2.1 16 = S.2.1 16) (e17 : S1.2.1 17 = S.2.1 17) (e18 : S1.2.1 18 = S.2.1 18) (e19 : S1.2.1 19 = S.2.1 19) (fi2 : S.1 0 35 = .int ii) (q : S1.2.1 6 = upd (S.2.1 6) ii.toNatClampNeg v) : km (s_up G 0 4 v.toInt, K) S1 := by
  obtain ⟨ii0, fi, h0, a4, a5, a6, a7, hp, ho, hk⟩ := h
  cases fi.symm.trans fi2
  have u : ∀ j, j ≠ 4 → (s_up G 0 4 v.toInt) 0 j = G 0 j := fun j hj => s_up_i hj
  have ur : ∀ r j, r ≠ 0 → (s_up G 0 4 v.toInt) r j = G r j := fun r j hr => s_up_r hr
  refine ⟨ii, f35.trans fi, h0, ?_, ?_, ?_, fun c hc => ?_, fun k hk1 hk2 => ?_, fun k hk1 hk2 => ?_, fun w hw => ?_⟩
  · rw [e4]
    exact a4.trans (u 2 (by decide)).symm
  · rw [e5]
    exact a5.trans (u 3 (by decide)).symm
  · rw [q, dk_upd_s]
    show _ = s_up G 0 4 v.toInt 0 4
    exact s_up_at.symm
  · rw [e7]
    exact (a7 c hc).trans (ur 1 c (by decide)).symm
  · have hk2 : (k : Int) < G 0 6 := by rw [← u 6 (by decide)]; exact hk2
    rw [e10, e11]
    exact ⟨(hp k hk1 hk2).1.trans (ur 5 k (by decide)).symm, (hp k hk1 hk2).2.trans (ur 6 k (by decide)).symm⟩
  · have hk2 : (k : Int) < G 0 7 := by rw [← u 7 (by decide)]; exact hk2
    rw [e13, e14, e15]
    exact ⟨(ho k hk1 hk2).1.trans (ur 2 k (by decide)).symm, (ho k hk1 hk2).2.1.trans (ur 3 k (by decide)).symm, (ho k hk1 hk2).2.2.trans (ur 4 k (by decide)).symm⟩
  · exact (hk w hw).keep f34 e16 e17 e18 e19
theorem km.grade (h : km (G, K) S) (f35 : S1.1 0 35 = S.1 0 35) (f34 : S1.1 0 34 = S.1 0 34) (e4 : S1.2.1 4 = S.2.1 4) (e5 : S1.2.1 5 = S.2.1 5) (e6 : S1.2.1 6 = S.2.1 6) (e10 : S1.2.1 10 = S.2.1 10) (e11 : S1.2.1 11 = S.2.1 11) (e13 : S1.2.1 13 = S.2.1 13) (e14 : S1.2.1 14 = S.2.1 14) (e15 : S1.2.1 15 = S.2.1 15) (e16 : S1.2.1 16 = S.2.1 16) (e17 : S1.2.1 17 = S.2.1 17) (e18 : S1.2.1 18 = S.2.1 18) (e19 : S1.2.1 19 = S.2.1 19) (fi2 : S.1 0 35 = .int ii) {i : Nat} (q : S1.2.1 7 = upd (S.2.1 7) i v) (hi : i = 64 * ii.toNatClampNeg + n) : km (s_up G 1 n v.toInt, K) S1 := by
  obtain ⟨ii0, fi, h0, a4, a5, a6, a7, hp, ho, hk⟩ := h
  cases fi.symm.trans fi2
  have u : ∀ j, True → (s_up G 1 n v.toInt) 0 j = G 0 j := fun j _ => s_up_r (by decide)
  have ur : ∀ r j, r ≠ 1 → (s_up G 1 n v.toInt) r j = G r j := fun r j hr => s_up_r hr
  refine ⟨ii, f35.trans fi, h0, ?_, ?_, ?_, fun c hc => ?_, fun k hk1 hk2 => ?_, fun k hk1 hk2 => ?_, fun w hw => ?_⟩
  · rw [e4]
    exact a4.trans (u 2 trivial).symm
  · rw [e5]
    exact a5.trans (u 3 trivial).symm
  · rw [e6]
    exact a6.trans (u 4 trivial).symm
  · show _ = s_up G 1 n v.toInt 1 c
    rw [q]
    by_cases z : c = n
    · rw [z, upd_at hi.symm, s_up_at]
    · rw [dk_upd_o (by omega), s_up_i z]
      exact a7 c hc
  · have hk2 : (k : Int) < G 0 6 := by rw [← u 6 trivial]; exact hk2
    rw [e10, e11]
    exact ⟨(hp k hk1 hk2).1.trans (ur 5 k (by decide)).symm, (hp k hk1 hk2).2.trans (ur 6 k (by decide)).symm⟩
  · have hk2 : (k : Int) < G 0 7 := by rw [← u 7 trivial]; exact hk2
    rw [e13, e14, e15]
    exact ⟨(ho k hk1 hk2).1.trans (ur 2 k (by decide)).symm, (ho k hk1 hk2).2.1.trans (ur 3 k (by decide)).symm, (ho k hk1 hk2).2.2.trans (ur 4 k (by decide)).symm⟩
  · exact (hk w hw).keep f34 e16 e17 e18 e19
theorem km.miner (h : km (G, K) S) (f35 : S1.1 0 35 = S.1 0 35) (f34 : S1.1 0 34 = S.1 0 34) (e4 : S1.2.1 4 = S.2.1 4) (e5 : S1.2.1 5 = S.2.1 5) (e6 : S1.2.1 6 = S.2.1 6) (e7 : S1.2.1 7 = S.2.1 7) (e10 : S1.2.1 10 = S.2.1 10) (e11 : S1.2.1 11 = S.2.1 11) (e13 : S1.2.1 13 = S.2.1 13) (e14 : S1.2.1 14 = S.2.1 14) (e15 : S1.2.1 15 = S.2.1 15) (e16 : S1.2.1 16 = S.2.1 16) (e17 : S1.2.1 17 = S.2.1 17) (e18 : S1.2.1 18 = S.2.1 18) (e19 : S1.2.1 19 = S.2.1 19)  : km (s_up G 0 5 (G 0 5 + 1), K) S1 := by
  obtain ⟨ii0, fi, h0, a4, a5, a6, a7, hp, ho, hk⟩ := h
  have u : ∀ j, j ≠ 5 → (s_up G 0 5 (G 0 5 + 1)) 0 j = G 0 j := fun j hj => s_up_i hj
  have ur : ∀ r j, r ≠ 0 → (s_up G 0 5 (G 0 5 + 1)) r j = G r j := fun r j hr => s_up_r hr
  refine ⟨ii0, f35.trans fi, h0, ?_, ?_, ?_, fun c hc => ?_, fun k hk1 hk2 => ?_, fun k hk1 hk2 => ?_, fun w hw => ?_⟩
  · rw [e4]
    exact a4.trans (u 2 (by decide)).symm
  · rw [e5]
    exact a5.trans (u 3 (by decide)).symm
  · rw [e6]
    exact a6.trans (u 4 (by decide)).symm
  · rw [e7]
    exact (a7 c hc).trans (ur 1 c (by decide)).symm
  · have hk2 : (k : Int) < G 0 6 := by rw [← u 6 (by decide)]; exact hk2
    rw [e10, e11]
    exact ⟨(hp k hk1 hk2).1.trans (ur 5 k (by decide)).symm, (hp k hk1 hk2).2.trans (ur 6 k (by decide)).symm⟩
  · have hk2 : (k : Int) < G 0 7 := by rw [← u 7 (by decide)]; exact hk2
    rw [e13, e14, e15]
    exact ⟨(ho k hk1 hk2).1.trans (ur 2 k (by decide)).symm, (ho k hk1 hk2).2.1.trans (ur 3 k (by decide)).symm, (ho k hk1 hk2).2.2.trans (ur 4 k (by decide)).symm⟩
  · exact (hk w hw).keep f34 e16 e17 e18 e19
theorem km.seam (h : km (G, K) S) (f35 : S1.1 0 35 = S.1 0 35) (f34 : S1.1 0 34 = S.1 0 34) (e4 : S1.2.1 4 = S.2.1 4) (e5 : S1.2.1 5 = S.2.1 5) (e6 : S1.2.1 6 = S.2.1 6) (e7 : S1.2.1 7 = S.2.1 7) (e10 : S1.2.1 10 = S.2.1 10) (e11 : S1.2.1 11 = S.2.1 11) (e13 : S1.2.1 13 = S.2.1 13) (e14 : S1.2.1 14 = S.2.1 14) (e15 : S1.2.1 15 = S.2.1 15) (e16 : S1.2.1 16 = S.2.1 16) (e17 : S1.2.1 17 = S.2.1 17) (e18 : S1.2.1 18 = S.2.1 18) (e19 : S1.2.1 19 = S.2.1 19) (z2 : G 0 2 = 0) : km (s_up (s_up (s_up G 0 0 v.toInt) 0 1 v1.toInt) 0 2 0, K) S1 := by
  obtain ⟨ii0, fi, h0, a4, a5, a6, a7, hp, ho, hk⟩ := h
  have u : ∀ j, j ≠ 0 → j ≠ 1 → (s_up (s_up (s_up G 0 0 v.toInt) 0 1 v1.toInt) 0 2 0) 0 j = G 0 j := fun j h1 h2 => by by_cases q : j = 2; rw [q, s_up_at, z2]; rw [s_up_i q, s_up_i h2, s_up_i h1]
  have ur : ∀ r j, r ≠ 0 → (s_up (s_up (s_up G 0 0 v.toInt) 0 1 v1.toInt) 0 2 0) r j = G r j := fun r j hr => by rw [s_up_r hr, s_up_r hr, s_up_r hr]
  refine ⟨ii0, f35.trans fi, h0, ?_, ?_, ?_, fun c hc => ?_, fun k hk1 hk2 => ?_, fun k hk1 hk2 => ?_, fun w hw => ?_⟩
  · rw [e4]
    exact a4.trans (u 2 (by decide) (by decide)).symm
  · rw [e5]
    exact a5.trans (u 3 (by decide) (by decide)).symm
  · rw [e6]
    exact a6.trans (u 4 (by decide) (by decide)).symm
  · rw [e7]
    exact (a7 c hc).trans (ur 1 c (by decide)).symm
  · have hk2 : (k : Int) < G 0 6 := by rw [← u 6 (by decide) (by decide)]; exact hk2
    rw [e10, e11]
    exact ⟨(hp k hk1 hk2).1.trans (ur 5 k (by decide)).symm, (hp k hk1 hk2).2.trans (ur 6 k (by decide)).symm⟩
  · have hk2 : (k : Int) < G 0 7 := by rw [← u 7 (by decide) (by decide)]; exact hk2
    rw [e13, e14, e15]
    exact ⟨(ho k hk1 hk2).1.trans (ur 2 k (by decide)).symm, (ho k hk1 hk2).2.1.trans (ur 3 k (by decide)).symm, (ho k hk1 hk2).2.2.trans (ur 4 k (by decide)).symm⟩
  · exact (hk w hw).keep f34 e16 e17 e18 e19
theorem km.dig (h : km (G, K) S) (f35 : S1.1 0 35 = S.1 0 35) (f34 : S1.1 0 34 = S.1 0 34) (e4 : S1.2.1 4 = S.2.1 4) (e5 : S1.2.1 5 = S.2.1 5) (e6 : S1.2.1 6 = S.2.1 6) (e7 : S1.2.1 7 = S.2.1 7) (e13 : S1.2.1 13 = S.2.1 13) (e14 : S1.2.1 14 = S.2.1 14) (e15 : S1.2.1 15 = S.2.1 15) (e16 : S1.2.1 16 = S.2.1 16) (e17 : S1.2.1 17 = S.2.1 17) (e18 : S1.2.1 18 = S.2.1 18) (e19 : S1.2.1 19 = S.2.1 19) (fi2 : S.1 0 35 = .int ii) {i : Nat} {x y : Int} (q0 : S1.2.1 10 = upd (S.2.1 10) i v) (q1 : S1.2.1 11 = upd (S.2.1 11) i v1) (hi : i = 16 * ii.toNatClampNeg + n) (hn : G 0 6 = n) (hn2 : n < 16) (hx : v.toInt = x) (hy : v1.toInt = y) : km (s_up (s_up (s_up G 5 (G 0 6).toNat x) 6 (G 0 6).toNat y) 0 6 (G 0 6 + 1), K) S1 := by
  obtain ⟨ii0, fi, h0, a4, a5, a6, a7, hp, ho, hk⟩ := h
  cases fi.symm.trans fi2
  have eN : (G 0 6).toNat = n := by omega
  have u : ∀ j, j ≠ 6 → (s_up (s_up (s_up G 5 (G 0 6).toNat x) 6 (G 0 6).toNat y) 0 6 (G 0 6 + 1)) 0 j = G 0 j := fun j hj => by rw [s_up_i hj, s_up_r (by decide), s_up_r (by decide)]
  have ur : ∀ r j, r ≠ 0 → r ≠ 5 → r ≠ 6 → (s_up (s_up (s_up G 5 (G 0 6).toNat x) 6 (G 0 6).toNat y) 0 6 (G 0 6 + 1)) r j = G r j := fun r j h0 h5 h6 => by rw [s_up_r h0, s_up_r h6, s_up_r h5]
  refine ⟨ii, f35.trans fi, h0, ?_, ?_, ?_, fun c hc => ?_, fun k hk1 hk2 => ?_, fun k hk1 hk2 => ?_, fun w hw => ?_⟩
  · rw [e4]
    exact a4.trans (u 2 (by decide)).symm
  · rw [e5]
    exact a5.trans (u 3 (by decide)).symm
  · rw [e6]
    exact a6.trans (u 4 (by decide)).symm
  · rw [e7]
    exact (a7 c hc).trans (ur 1 c (by decide) (by decide) (by decide)).symm
  · have hk2 : (k : Int) < G 0 6 + 1 := by
      have z : (s_up (s_up (s_up G 5 (G 0 6).toNat x) 6 (G 0 6).toNat y) 0 6 (G 0 6 + 1)) 0 6 = G 0 6 + 1 := s_up_at
      rw [← z]
      exact hk2
    show (S1.2.1 10 (16 * ii.toNatClampNeg + k)).toInt = (s_up (s_up (s_up G 5 (G 0 6).toNat x) 6 (G 0 6).toNat y) 0 6 (G 0 6 + 1)) 5 k ∧ (S1.2.1 11 (16 * ii.toNatClampNeg + k)).toInt = (s_up (s_up (s_up G 5 (G 0 6).toNat x) 6 (G 0 6).toNat y) 0 6 (G 0 6 + 1)) 6 k
    rw [q0, q1, eN]
    by_cases z : k = n
    · rw [upd_at (by omega), upd_at (by omega), s_up_r (by decide), s_up_r (by decide), z, s_up_at, s_up_r (by decide), s_up_at]
      exact ⟨hx, hy⟩
    · rw [dk_upd_o (by omega), dk_upd_o (by omega), s_up_r (by decide), s_up_r (by decide), s_up_i z, s_up_r (by decide), s_up_i z, s_up_r (by decide)]
      exact hp k hk1 (show (k : Int) < G 0 6 by omega)
  · have hk2 : (k : Int) < G 0 7 := by rw [← u 7 (by decide)]; exact hk2
    rw [e13, e14, e15]
    exact ⟨(ho k hk1 hk2).1.trans (ur 2 k (by decide) (by decide) (by decide)).symm, (ho k hk1 hk2).2.1.trans (ur 3 k (by decide) (by decide) (by decide)).symm, (ho k hk1 hk2).2.2.trans (ur 4 k (by decide) (by decide) (by decide)).symm⟩
  · exact (hk w hw).keep f34 e16 e17 e18 e19
theorem km.order (h : km (G, K) S) (f35 : S1.1 0 35 = S.1 0 35) (f34 : S1.1 0 34 = S.1 0 34) (e4 : S1.2.1 4 = S.2.1 4) (e5 : S1.2.1 5 = S.2.1 5) (e6 : S1.2.1 6 = S.2.1 6) (e7 : S1.2.1 7 = S.2.1 7) (e10 : S1.2.1 10 = S.2.1 10) (e11 : S1.2.1 11 = S.2.1 11) (e16 : S1.2.1 16 = S.2.1 16) (e17 : S1.2.1 17 = S.2.1 17) (e18 : S1.2.1 18 = S.2.1 18) (e19 : S1.2.1 19 = S.2.1 19) (fi2 : S.1 0 35 = .int ii) {i : Nat} (q0 : S1.2.1 13 = upd (S.2.1 13) i v) (q1 : S1.2.1 14 = upd (S.2.1 14) i v1) (q2 : S1.2.1 15 = upd (S.2.1 15) i v2) (hi : i = 5 * ii.toNatClampNeg + n) (hn : G 0 7 = n) (hn2 : n < 5) : km (s_up (s_up (s_up (s_up G 2 (G 0 7).toNat v.toInt) 3 (G 0 7).toNat v1.toInt) 4 (G 0 7).toNat v2.toInt) 0 7 (G 0 7 + 1), K) S1 := by
  obtain ⟨ii0, fi, h0, a4, a5, a6, a7, hp, ho, hk⟩ := h
  cases fi.symm.trans fi2
  have eN : (G 0 7).toNat = n := by omega
  have u : ∀ j, j ≠ 7 → (s_up (s_up (s_up (s_up G 2 (G 0 7).toNat v.toInt) 3 (G 0 7).toNat v1.toInt) 4 (G 0 7).toNat v2.toInt) 0 7 (G 0 7 + 1)) 0 j = G 0 j := fun j hj => by rw [s_up_i hj, s_up_r (by decide), s_up_r (by decide), s_up_r (by decide)]
  have ur : ∀ r j, r ≠ 0 → r ≠ 2 → r ≠ 3 → r ≠ 4 → (s_up (s_up (s_up (s_up G 2 (G 0 7).toNat v.toInt) 3 (G 0 7).toNat v1.toInt) 4 (G 0 7).toNat v2.toInt) 0 7 (G 0 7 + 1)) r j = G r j := fun r j h0 h2 h3 h4 => by rw [s_up_r h0, s_up_r h4, s_up_r h3, s_up_r h2]
  refine ⟨ii, f35.trans fi, h0, ?_, ?_, ?_, fun c hc => ?_, fun k hk1 hk2 => ?_, fun k hk1 hk2 => ?_, fun w hw => ?_⟩
  · rw [e4]
    exact a4.trans (u 2 (by decide)).symm
  · rw [e5]
    exact a5.trans (u 3 (by decide)).symm
  · rw [e6]
    exact a6.trans (u 4 (by decide)).symm
  · rw [e7]
    exact (a7 c hc).trans (ur 1 c (by decide) (by decide) (by decide) (by decide)).symm
  · have hk2 : (k : Int) < G 0 6 := by rw [← u 6 (by decide)]; exact hk2
    rw [e10, e11]
    exact ⟨(hp k hk1 hk2).1.trans (ur 5 k (by decide) (by decide) (by decide) (by decide)).symm, (hp k hk1 hk2).2.trans (ur 6 k (by decide) (by decide) (by decide) (by decide)).symm⟩
  · have hk2 : (k : Int) < G 0 7 + 1 := by
      have z : (s_up (s_up (s_up (s_up G 2 (G 0 7).toNat v.toInt) 3 (G 0 7).toNat v1.toInt) 4 (G 0 7).toNat v2.toInt) 0 7 (G 0 7 + 1)) 0 7 = G 0 7 + 1 := s_up_at
      rw [← z]
      exact hk2
    show (S1.2.1 13 (5 * ii.toNatClampNeg + k)).toInt = (s_up (s_up (s_up (s_up G 2 (G 0 7).toNat v.toInt) 3 (G 0 7).toNat v1.toInt) 4 (G 0 7).toNat v2.toInt) 0 7 (G 0 7 + 1)) 2 k ∧ (S1.2.1 14 (5 * ii.toNatClampNeg + k)).toInt = (s_up (s_up (s_up (s_up G 2 (G 0 7).toNat v.toInt) 3 (G 0 7).toNat v1.toInt) 4 (G 0 7).toNat v2.toInt) 0 7 (G 0 7 + 1)) 3 k ∧ (S1.2.1 15 (5 * ii.toNatClampNeg + k)).toInt = (s_up (s_up (s_up (s_up G 2 (G 0 7).toNat v.toInt) 3 (G 0 7).toNat v1.toInt) 4 (G 0 7).toNat v2.toInt) 0 7 (G 0 7 + 1)) 4 k
    rw [q0, q1, q2, eN]
    by_cases z : k = n
    · rw [upd_at (by omega), upd_at (by omega), upd_at (by omega), z, s_up_r (by decide), s_up_r (by decide), s_up_r (by decide), s_up_at, s_up_r (by decide), s_up_r (by decide), s_up_at, s_up_r (by decide), s_up_at]
      exact ⟨rfl, rfl, rfl⟩
    · rw [dk_upd_o (by omega), dk_upd_o (by omega), dk_upd_o (by omega), s_up_r (by decide), s_up_r (by decide), s_up_r (by decide), s_up_i z, s_up_r (by decide), s_up_r (by decide), s_up_i z, s_up_r (by decide), s_up_r (by decide), s_up_i z, s_up_r (by decide), s_up_r (by decide)]
      exact ho k hk1 (show (k : Int) < G 0 7 by omega)
  · exact (hk w hw).keep f34 e16 e17 e18 e19
theorem km.rule (h : km (G, K) S) (f35 : S1.1 0 35 = S.1 0 35) (e4 : S1.2.1 4 = S.2.1 4) (e5 : S1.2.1 5 = S.2.1 5) (e6 : S1.2.1 6 = S.2.1 6) (e7 : S1.2.1 7 = S.2.1 7) (e10 : S1.2.1 10 = S.2.1 10) (e11 : S1.2.1 11 = S.2.1 11) (e13 : S1.2.1 13 = S.2.1 13) (e14 : S1.2.1 14 = S.2.1 14) (e15 : S1.2.1 15 = S.2.1 15) (fi2 : S.1 0 35 = .int ii) (hn : n < 3) (q : q_am S S1 C) (fc : S.1 0 34 = .int cd) (fc' : S1.1 0 34 = .int cd') {i : Nat} (q16 : S1.2.1 16 = upd (S.2.1 16) i cd) (q17 : S1.2.1 17 = upd (S.2.1 17) i cd') (hi : i = 3 * ii.toNatClampNeg + n) {x : Int} (hx : x = n) : km (G, fun j => if (j : Int) = x then C else K j) S1 := by
  obtain ⟨ii0, fi, h0, a4, a5, a6, a7, hp, ho, hk⟩ := h
  cases fi.symm.trans fi2
  obtain ⟨jj, a, b, g5, g5', g4, g4', j0, s0, nb, k1, w1⟩ := q
  cases g5.symm.trans fi
  cases g4.symm.trans fc
  cases g4'.symm.trans fc'
  have ci := dk_clN ii
  refine ⟨ii, f35.trans fi, h0, by rw [e4]; exact a4, by rw [e5]; exact a5, by rw [e6]; exact a6, fun c hc => by rw [e7]; exact a7 c hc, fun k hk1 hk2 => by rw [e10, e11]; exact hp k hk1 hk2, fun k hk1 hk2 => by rw [e13, e14, e15]; exact ho k hk1 hk2, fun w hw => ?_⟩
  show mc S1 ii w (if (w : Int) = x then C else K w)
  by_cases e : w = n
  · rw [if_pos (by omega), e]
    refine Or.inr ⟨cd.toInt, cd', s0, fc', by omega, by rw [q16, upd_at hi.symm], by rw [q17, upd_at hi.symm]; exact nb, fun j hj => ?_⟩
    rw [show 1600 * ii.toNatClampNeg + cd.toInt.toNat + j = (1600 * ii.toInt + cd.toInt).toNat + j by omega]
    exact w1 j hj
  · rw [if_neg (by omega)]
    rcases hk w hw with ⟨c0, c1⟩ | ⟨fr, c2, p0, p1, p2, p3, p4, p5⟩
    · exact Or.inl ⟨c0, by rw [q16, dk_upd_o (by omega)]; exact c1⟩
    · cases p1.symm.trans fc
      have p2 : fr + ((K w).length : Int) ≤ cd.toInt := p2
      refine Or.inr ⟨fr, cd', p0, fc', by omega, by rw [q16, dk_upd_o (by omega)]; exact p3, by rw [q17, dk_upd_o (by omega)]; exact p4, fun j hj => ?_⟩
      obtain ⟨x1, x2⟩ := k1 (1600 * ii.toNatClampNeg + fr.toNat + j) (by have hj : j < (K w).length := hj; omega)
      rw [x1, x2]
      exact p5 j hj
end KM
