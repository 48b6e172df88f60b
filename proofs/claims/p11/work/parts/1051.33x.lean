/-! how far: the reference's own walk (measures) -/
def ZF0 (S : dg_S) (sh c : Int) : Prop := ∀ j : Nat, (j : Int) < c → ((j : Int) ≠ sh → (S.2.1 42 j).toInt = 100000000) ∧ ((j : Int) = sh → (S.2.1 42 j).toInt = 0)
def ZQM (S : dg_S) (m : Int) : Prop := (∀ j : Nat, j < 64 → (S.2.1 42 j).toInt = 100000000 ∨ (0 ≤ (S.2.1 42 j).toInt ∧ (S.2.1 42 j).toInt ≤ 64 - (dk_cnt (S.2.1 42) 100000000 64 : Int))) ∧ (∀ j : Nat, j < 64 → (j : Int) < m → (S.2.1 42 (S.2.1 43 j).toNatClampNeg).toInt ≠ 100000000) ∧ m + (dk_cnt (S.2.1 42) 100000000 64 : Int) ≤ 64
theorem ZF0.step {S S1 : dg_S} {sh : Int} {c v : Int32} (h : ZF0 S sh c.toInt) (hin : vp_in c 64) (e : S1 = dg_uf S 42 (upd (S.2.1 42) c.toNatClampNeg v)) (h1 : c.toInt = sh → v.toInt = 0) (h2 : c.toInt ≠ sh → v.toInt = 100000000) {c' : Int} (hc : c' = c.toInt + 1) : ZF0 S1 sh c' := by
  have e1 := dk_inT hin
  intro j hj
  rw [dg_uf_at e]
  unfold upd
  split
  · rename_i q
    exact ⟨fun z => h2 (by omega), fun z => h1 (by omega)⟩
  · exact h j (by omega)
theorem dk_cnt_one {f : Nat → Int32} {k : Int} {s : Nat} (hs : (f s).toInt ≠ k) : ∀ {n : Nat}, (∀ j, j < n → j ≠ s → (f j).toInt = k) → dk_cnt f k n + (if s < n then 1 else 0) = n
  | 0, _ => by simp [dk_cnt]
  | n + 1, h => by
    have ih := dk_cnt_one (f := f) (k := k) hs (n := n) (fun j hj => h j (by omega))
    unfold dk_cnt
    by_cases q : n = s
    · subst q
      rw [if_neg hs]
      rw [if_neg (by omega)] at ih
      rw [if_pos (by omega)]
      omega
    · rw [if_pos (h n (by omega) q)]
      by_cases z : s < n
      · rw [if_pos z] at ih
        rw [if_pos (by omega)]
        omega
      · rw [if_neg z] at ih
        rw [if_neg (by omega)]
        omega
theorem ZQM.first {S S1 : dg_S} {x : Int32} (h : ZF0 S x.toInt 64) (h0 : 0 ≤ x.toInt ∧ x.toInt ≤ 63) {i : Int32} (hi : i.toNatClampNeg = 0) (e : S1 = dg_uf S 43 (upd (S.2.1 43) i.toNatClampNeg x)) : ZQM S1 1 := by
  have hx : x.toNatClampNeg < 64 ∧ ((x.toNatClampNeg : Nat) : Int) = x.toInt := by rw [dk_clN]; omega
  have hf : S1.2.1 42 = S.2.1 42 := dg_uf_ne e (by decide)
  have hs := (h x.toNatClampNeg (by omega)).2 hx.2
  have hc := dk_cnt_one (f := S.2.1 42) (k := 100000000) (s := x.toNatClampNeg) (by rw [hs]; omega) (n := 64) (fun j hj hne => (h j (by omega)).1 (by omega))
  rw [if_pos hx.1] at hc
  refine ⟨fun j hj => ?_, fun j hj hlt => ?_, ?_⟩
  · rw [hf]
    by_cases q : (j : Int) = x.toInt
    · have := (h j (by omega)).2 q
      right
      omega
    · exact Or.inl ((h j (by omega)).1 q)
  · have hj0 : j = 0 := by omega
    subst hj0
    rw [hf, dg_uf_at e]
    have e2 : upd (S.2.1 43) i.toNatClampNeg x 0 = x := by
      unfold upd
      rw [if_pos hi.symm]
    rw [e2, hs]
    omega
  · rw [hf]
    omega
theorem ZQM.push {S S1 S2 : dg_S} {m w : Int32} {x y vo vc : Int32} (h : ZQM S m.toInt) (hx : vp_in x 64) (hy : vp_in y 64) (hm : vp_in m 64) (ho : vo = S.2.1 42 x.toNatClampNeg) (ho1 : 100000000 ≤ vo.toInt) (hc : vc = S.2.1 42 y.toNatClampNeg) (hc1 : vc.toInt ≠ 100000000) (hw : w.toInt = vc.toInt + 1)
    (e1 : S1 = dg_uf S 42 (upd (S.2.1 42) x.toNatClampNeg w)) (e2 : S2 = dg_uf S1 43 (upd (S1.2.1 43) m.toNatClampNeg x)) : ZQM S2 (m.toInt + 1) := by
  obtain ⟨h1, h2, h3⟩ := h
  have ex := dk_inT hx
  have ey := dk_inT hy
  have em := dk_inT hm
  have hvc := h1 _ ey.2
  rw [← hc] at hvc
  have hvo := h1 _ ex.2
  rw [← ho] at hvo
  have hf : S2.2.1 42 = upd (S.2.1 42) x.toNatClampNeg w := by rw [dg_uf_ne e2 (by decide), dg_uf_at e1]
  have hq : S2.2.1 43 = upd (S.2.1 43) m.toNatClampNeg x := by rw [dg_uf_at e2, dg_uf_ne e1 (by decide)]
  have hcnt := dk_cnt_hit (f := S.2.1 42) (k := 100000000) (n := 64) hx ho (by omega) (show w.toInt ≠ 100000000 by omega) rfl
  rw [← hf] at hcnt
  refine ⟨fun j hj => ?_, fun j hj hlt => ?_, by omega⟩
  · have hj1 := h1 j hj
    have e3 : S2.2.1 42 j = if j = x.toNatClampNeg then w else S.2.1 42 j := by rw [hf]; rfl
    rw [e3]
    split
    · right
      omega
    · omega
  · have e4 : S2.2.1 43 j = if j = m.toNatClampNeg then x else S.2.1 43 j := by rw [hq]; rfl
    rw [e4]
    split
    · rw [hf]
      have e5 : upd (S.2.1 42) x.toNatClampNeg w x.toNatClampNeg = w := by
        unfold upd
        rw [if_pos rfl]
      rw [e5]
      omega
    · rename_i q
      have h5 := h2 j hj (by omega)
      rw [hf]
      unfold upd
      split
      · omega
      · exact h5
theorem ZQM.cf {S S1 S2 : dg_S} {x y w m z : Int32} (hc : (S.2.1 42 y.toNatClampNeg).toInt ≠ 100000000) (hw : w.toInt ≠ 100000000) (e1 : S1 = dg_uf S 42 (upd (S.2.1 42) x.toNatClampNeg w)) (e2 : S2 = dg_uf S1 43 (upd (S1.2.1 43) m.toNatClampNeg z)) : (S2.2.1 42 y.toNatClampNeg).toInt ≠ 100000000 := by
  rw [dg_uf_ne e2 (by decide), dg_uf_at e1]
  unfold upd
  split
  · exact hw
  · exact hc
theorem ZQM.room {S : dg_S} {m : Int} {x vo : Int32} (h : ZQM S m) (hx : vp_in x 64) (ho : vo = S.2.1 42 x.toNatClampNeg) (ho1 : 100000000 ≤ vo.toInt) : m + 1 ≤ 64 := by
  obtain ⟨h1, h2, h3⟩ := h
  have hvo := h1 _ (dk_inT hx).2
  rw [← ho] at hvo
  have h0 : (0 : Int32).toInt = 0 := by decide +kernel
  have hcnt := dk_cnt_hit (f := S.2.1 42) (k := 100000000) (n := 64) (x := 0) hx ho (by omega) (by omega) rfl
  omega
