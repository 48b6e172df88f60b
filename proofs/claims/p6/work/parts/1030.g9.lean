/-! the steps of the ground that isn't read into: as they were in S0 -/
def G9X (S0 : dg_S) (d : Nat) (S : dg_S) : Prop := rX d ∧ S.2.1 (d + 9) = S0.2.1 (d + 9)
section G9
variable {S0 S S1 : dg_S} {d gd : Nat} {WF : List (Nat × Nat)} {WA : List Nat} {r : Nat → Int32}
theorem G9X.init (h : rX d) : G9X S d S := ⟨h, rfl⟩
theorem G9X.keep (h : G9X S0 d S) (m : dg_sm shX WF WA S S1) (h28 : 28 ∉ WA) : G9X S0 d S1 := ⟨h.1, (m.2 (d + 9) _ (rX_9 d h.1) h28).1.trans h.2⟩
theorem G9X.uf (h : G9X S0 d S) (hg : rX gd) (hd : d ≠ gd) (e : S1 = dg_uf S (gd + 9) r) : G9X S0 d S1 :=
  ⟨h.1, (dg_uf_ne e (gg_apart h.1 hg hd (by decide) (by decide))).trans h.2⟩
end G9
/-! the codes of the bank that isn't read into -/
def G8M (S0 S : dg_S) : Prop := ∃ b : Int32, S0.1 0 13 = .int b ∧ S.1 0 13 = .int b ∧ (0 ≤ b.toInt ∧ b.toInt ≤ 1) ∧ ∀ r k : Nat, (r = 18 ∨ r = 19) → k < 1600 → S.2.1 r (1600 * b.toNatClampNeg + k) = S0.2.1 r (1600 * b.toNatClampNeg + k)
section G8
variable {S0 S S1 : dg_S} {r : Nat} {WF : List (Nat × Nat)} {WA : List Nat} {ii b x v : Int32}
theorem G8M.init (f : S.1 0 13 = .int b) (h : 0 ≤ b.toInt ∧ b.toInt ≤ 1) : G8M S S := ⟨b, f, f, h, fun _ _ _ _ => rfl⟩
theorem G8M.keep (h : G8M S0 S) (m : dg_sm shM WF WA S S1) (h13 : (0, 13) ∉ WF) (k8 : 18 ∉ WA) (k9 : 19 ∉ WA) : G8M S0 S1 := by
  obtain ⟨b, f0, f, hb, e⟩ := h
  refine ⟨b, f0, (m.1 0 13 _ sM_0 h13).trans f, hb, fun r k hr hk => ?_⟩
  rcases hr with q | q
  · rw [q, (m.2 18 _ sM_18 k8).1]
    exact e 18 k (Or.inl rfl) hk
  · rw [q, (m.2 19 _ sM_19 k9).1]
    exact e 19 k (Or.inr rfl) hk
theorem G8M.st (h : G8M S0 S) (zk : ZKM S) (fi : S.1 0 35 = .int ii) (e : S1 = dg_uf S r (upd (S.2.1 r) x.toNatClampNeg v)) (hx : 1600 * ii.toInt ≤ x.toInt) (hx2 : x.toInt < 1600 * ii.toInt + 1600) : G8M S0 S1 := by
  obtain ⟨b, f0, f, hb, g⟩ := h
  have hi := zk b ii f fi
  refine ⟨b, f0, (dg_uf_F e 0 13).trans f, hb, fun r' k hr hk => ?_⟩
  by_cases q : r' = r
  · rw [q, dg_uf_at e, dg_upd_ne (gb_far (w := 1600) hb hi hx hx2 hk)]
    exact g r k (by rw [← q]; exact hr) hk
  · rw [dg_uf_ne e q]
    exact g r' k hr hk
end G8
