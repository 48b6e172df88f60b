/-! what holds of several cells together: a ground's shaft, the exposed cells, how far -/
def Z1X (S : dg_S) : Prop := ∀ d, rX d → ∀ c x y : Int32, S.1 d 0 = .int c → S.1 d 2 = .int x → S.1 d 1 = .int y → 0 < c.toInt → 8 ≤ x.toInt ∧ 0 < y.toInt
def Z2X (S : dg_S) : Prop := ∀ c : Int32, S.1 214 4 = .int c → ∀ j : Nat, j < 72 → (j : Int) < c.toInt → 8 ≤ (S.2.1 219 j).toInt
def ZFX (S : dg_S) : Prop := dk_far (S.2.1 217)
theorem Z1X.keep {S S1 : dg_S} {WF : List (Nat × Nat)} {WA : List Nat} (h : Z1X S) (m : dg_sm shX WF WA S S1) (h1 : (19, 0) ∉ WF) (h2 : (19, 2) ∉ WF) (h3 : (19, 1) ∉ WF) : Z1X S1 := by
  intro d hd c x y hc hx hy
  rw [m.1 d 0 _ (rX_0 d hd) h1] at hc
  rw [m.1 d 2 _ (rX_0 d hd) h2] at hx
  rw [m.1 d 1 _ (rX_0 d hd) h3] at hy
  exact h d hd c x y hc hx hy
theorem Z2X.keep {S S1 : dg_S} {WF : List (Nat × Nat)} {WA : List Nat} (h : Z2X S) (m : dg_sm shX WF WA S S1) (h1 : (36, 4) ∉ WF) (h2 : 41 ∉ WA) : Z2X S1 := by
  intro c hc j hj
  rw [m.1 214 4 _ sX_214 h1] at hc
  rw [(m.2 219 _ sX_219 h2).1]
  exact h c hc j hj
theorem ZFX.keep {S S1 : dg_S} {WF : List (Nat × Nat)} {WA : List Nat} (h : ZFX S) (m : dg_sm shX WF WA S S1) (h2 : 39 ∉ WA) : ZFX S1 := by
  unfold ZFX
  rw [(m.2 217 _ sX_217 h2).1]
  exact h
theorem Z2X.zero {S1 : dg_S} (hc : S1.1 214 4 = .int 0) : Z2X S1 := by
  intro c h j _ h2
  rw [hc] at h
  cases h
  have h3 : (0 : Int32).toInt = 0 := by decide +kernel
  omega
theorem Z2X.push {S S1 S2 : dg_S} {c c' x : Int32} (h : Z2X S) (hc : S.1 214 4 = .int c) (h0 : 0 ≤ c.toInt) (e1 : S1 = dg_uf S 219 (upd (S.2.1 219) c.toNatClampNeg x)) (hx : 8 ≤ x.toInt) (e2 : S2 = dg_uF S1 214 4 (.int c')) (hc' : c'.toInt = c.toInt + 1) : Z2X S2 := by
  intro c2 h2 j hj hlt
  rw [dg_uF_at e2] at h2
  cases h2
  rw [dg_uF_f e2, dg_uf_at e1]
  have e3 := dk_clN c
  unfold upd
  split
  · exact hx
  · exact h c hc j hj (by omega)
theorem dk_cnt_cp {f : Nat → Int32} {k : Int} : ∀ {n : Nat}, (∀ j, j < n → (f j).toInt = k) → dk_cnt f k n = n
  | 0, _ => rfl
  | n + 1, h => by
    unfold dk_cnt
    rw [if_pos (h n (Nat.lt_succ_self n)), dk_cnt_cp (fun j hj => h j (Nat.lt_succ_of_lt hj))]
theorem dk_far_cp {f : Nat → Int32} (h : ∀ j, j < 72 → f j = -1) : dk_far f := by
  have h9 : (-1 : Int32).toInt = -1 := by decide +kernel
  intro j hj
  rw [dk_cnt_cp (fun j hj => by rw [h j hj]; exact h9), h j hj, h9]
  omega
theorem dk_far_at {f : Nat → Int32} (h : dk_far f) {i : Int32} (hin : vp_in i 72) {x : Int32} (hx : x = f i.toNatClampNeg) : -1 ≤ x.toInt ∧ x.toInt ≤ 72 - (dk_cnt f (-1) 72 : Int) := dk_all_at h hin hx
