/-! the reference works out a rule, 3 -/
def mx_so (e : Int) : Int := if 0 ≤ e then 0 else if -6 ≤ e then -e else if e = -7 then 30 else if e = -8 then 43 else if e = -9 then 44 else 21 - e
def mx_st (S : dg_S) (q : e_S) : Prop := ∀ i, i < q.2 → (S.2.2 40 i).toInt = q.1 i
def mx_env (S : dg_S) (s : Int) : Int := if -6 ≤ s ∧ s < 0 then (S.2.1 41 (-s).toNat).toInt else 1
def k_rk (S S1 : dg_S) : Prop := kp (fun _ _ => False) (fun a => a = 40) S S1
theorem k_rk.env {S S1 : dg_S} (h : k_rk S S1) : mx_env S1 = mx_env S := by
  funext s
  unfold mx_env
  rw [(h.2 41 (by decide)).1]
/-- one step at k: its code and its value -/
def mx_c1 (S : dg_S) (k : Int) (s : Int) : Prop := (S.2.1 18 k.toNat).toInt = mx_so s ∧ (0 ≤ s → (S.2.1 19 k.toNat).toInt = s)
/-- a rule as its steps lie in a bank -/
def mx_code (S : dg_S) (b w : Nat) (C : List Int) : Prop := (C = [] ∧ (S.2.1 16 (3 * b + w)).toInt = -1) ∨ (C ≠ [] ∧ ∃ fr : Int, 0 ≤ fr ∧ fr + C.length ≤ 1600 ∧ (S.2.1 16 (3 * b + w)).toInt = fr ∧ (S.2.1 17 (3 * b + w)).toInt = fr + C.length ∧ ∀ i : Nat, i < C.length → mx_c1 S (1600 * b + fr + i) (C.getD i 0))
theorem k_rk.row {S S1 : dg_S} (h : k_rk S S1) {i : Nat} (hi : i ≠ 40) : S1.2.1 i = S.2.1 i := (h.2 i hi).1
theorem mx_st_at {S : dg_S} {f : Nat → Int} {n j : Nat} {i : Int32} (h : mx_st S (f, n)) (hi : i.toInt = j) (hj : j < n) : (S.2.2 40 i.toNatClampNeg).toInt = f j := by
  rw [show i.toNatClampNeg = j by rw [dk_clN]; omega]
  exact h j hj
theorem mx_st_up {S S1 : dg_S} {f : Nat → Int} {n j m : Nat} {i : Int32} {x : Int64} {v : Int} (h : mx_st S (f, n)) (hi : i.toInt = j) (hx : x.toInt = v) (hm : m ≤ n ∨ (m = n + 1 ∧ j = n)) (hS : S1 = dg_ul S 40 (vp_updL (S.2.2 40) i.toNatClampNeg x)) : mx_st S1 (e_w f j v, m) ∧ k_rk S S1 := by
  rw [hS]
  refine ⟨fun l hl => ?_, kp.ul kp.rf rfl⟩
  have hl : l < m := hl
  rw [w_l, if_pos rfl, w_uL, show i.toNatClampNeg = j by rw [dk_clN]; omega]
  show _ = (if l = j then v else f l)
  by_cases z : l = j
  · rw [if_pos z, if_pos z]
    exact hx
  · rw [if_neg z, if_neg z]
    exact h l (by omega)
theorem n_s3 (n : Nat) : n + 1 + 1 + 1 - 3 = n := by omega
theorem n_s2 (n : Nat) : n + 1 + 1 + 1 - 2 = n + 1 := by omega
theorem n_s1 (n : Nat) : n + 1 + 1 + 1 - 1 = n + 2 := by omega
theorem n_t2 (n : Nat) : n + 1 + 1 - 2 = n := by omega
theorem n_t1 (n : Nat) : n + 1 + 1 - 1 = n + 1 := by omega
theorem n_u1 (n : Nat) : n + 1 - 1 = n := by omega
