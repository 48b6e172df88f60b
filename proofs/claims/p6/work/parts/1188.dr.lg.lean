/-! what a text tells can be: bounds -/
theorem T_num_b {tb : Nat → Int32} {n k : Nat} (h : (T_kd tb n k).toInt = 3) : 0 ≤ (T_vl tb n k).toInt ∧ (T_vl tb n k).toInt ≤ 9999 := by
  by_cases hs : t_s tb n k < n
  rotate_left
  · rw [T_kd_at (v := 0) (by unfold t_kd; rw [if_neg hs]) (by decide) (by decide)] at h
    omega
  by_cases hl : t_l (tb (t_s tb n k)) = true
  · exfalso
    have e : t_kd tb n k = 5 ∨ t_kd tb n k = 2 ∨ t_kd tb n k = 1 := by
      unfold t_kd t_K
      rw [if_pos hs, if_pos hl]
      split
      · exact Or.inl rfl
      · split
        · exact Or.inr (Or.inl rfl)
        · exact Or.inr (Or.inr rfl)
    rcases e with e | e | e
    · rw [T_kd_at e (by decide) (by decide)] at h
      omega
    · rw [T_kd_at e (by decide) (by decide)] at h
      omega
    · rw [T_kd_at e (by decide) (by decide)] at h
      omega
  by_cases hd : t_d (tb (t_s tb n k)) = true
  rotate_left
  · exfalso
    rw [T_kd_at (v := 4) (by unfold t_kd t_K; rw [if_pos hs, if_neg hl, if_neg hd]) (by decide) (by decide)] at h
    omega
  by_cases q : 4 < t_P tb n (k + 1) - t_s tb n k ∨ t_adj tb (t_s tb n k) = true
  · exfalso
    rw [T_kd_at (v := 5) (by unfold t_kd t_K; rw [if_pos hs, if_neg hl, if_pos hd, if_pos q]) (by decide) (by decide)] at h
    omega
  have eP : t_P tb n (k + 1) = t_run (t_nm tb n) 1600 (t_s tb n k) := by
    show (if t_sk tb n (t_P tb n k) < n then t_en tb n (t_sk tb n (t_P tb n k)) else t_sk tb n (t_P tb n k)) = _
    rw [if_pos (show t_sk tb n (t_P tb n k) < n from hs)]
    show t_en tb n (t_s tb n k) = _
    unfold t_en
    rw [if_neg hl, if_pos hd]
  have b := t_num_b (tb := tb) (s := t_s tb n k) (t_P tb n (k + 1) - t_s tb n k) (fun j h1 h2 => by
    have z := t_run_in 1600 (t_s tb n k) j h1 (by rw [← eP]; omega)
    unfold t_nm at z
    rw [Bool.and_eq_true] at z
    exact z.2)
  have m : t_P tb n (k + 1) - t_s tb n k ≤ 4 := by
    by_cases z : 4 < t_P tb n (k + 1) - t_s tb n k
    · exact absurd (Or.inl z) q
    · omega
  have p : (10 : Int) ^ (t_P tb n (k + 1) - t_s tb n k) ≤ 10 ^ 4 := by
    have h1 : (10 : Nat) ^ (t_P tb n (k + 1) - t_s tb n k) ≤ 10 ^ 4 := Nat.pow_le_pow_right (by decide) m
    exact_mod_cast h1
  have e4 : (10 : Int) ^ 4 = 10000 := by decide
  rw [e4] at p
  have ad : ¬ t_adj tb (t_s tb n k) = true := fun z => q (Or.inr z)
  have ev : t_vl tb n k = t_num tb (t_s tb n k) (t_P tb n (k + 1) - t_s tb n k) := by
    unfold t_vl t_V
    rw [if_pos hs, if_neg hl, if_pos hd, if_neg (by omega), if_neg ad]
  rw [T_vl_at ev (by omega) (by omega)]
  omega
/-- what holds of it behind each STATEMENT -/
def kOK (σ : y_S) (d : k_D) : Prop := kI σ d ∧ ((3 ≤ σ.1.1 ∧ σ.1.1 ≤ 7) ∧ 3 ≤ σ.1.2 ∧ σ.1.2 ≤ 7) ∧ (σ.2.1.length ≤ 6 ∧ σ.2.2.1 ≤ 16 ∧ σ.2.2.2.1.length ≤ 5) ∧ ((0 ≤ d.1 0 2 ∧ d.1 0 2 < σ.1.1) ∧ (0 ≤ d.1 0 3 ∧ d.1 0 3 ≤ 20) ∧ 0 ≤ d.1 0 4 ∧ d.1 0 4 ≤ 100) ∧ (∀ c : Nat, 0 ≤ d.1 1 c ∧ d.1 1 c ≤ 9) ∧ (∀ k : Nat, k < σ.2.2.1 → (0 ≤ d.1 5 k ∧ d.1 5 k < σ.2.1.length) ∧ ∃ x y : Int, (0 ≤ x ∧ x < σ.1.1) ∧ (0 ≤ y ∧ y < σ.1.2) ∧ d.1 6 k = 8 * y + x) ∧ (∀ k : Nat, k < σ.2.2.2.1.length → (0 ≤ d.1 2 k ∧ d.1 2 k ≤ 9) ∧ (1 ≤ d.1 3 k ∧ d.1 3 k ≤ 9) ∧ 0 ≤ d.1 4 k ∧ d.1 4 k ≤ 999) ∧ s_cd d.2 ∧ (σ.2.2.2.2.1 = true ↔ d.2 0 ≠ []) ∧ (σ.2.2.2.2.2.1 = true ↔ d.2 1 ≠ []) ∧ (σ.2.2.2.2.2.2 = true ↔ d.2 2 ≠ [])
section LG
variable {kd vl : Nat → Int32} {σ σ' : y_S} {d : k_D} {k k' i : Nat}
theorem z_ix_lt {v : Int} : ∀ {M : List Int}, M.contains v = true → 0 ≤ z_ix M v ∧ z_ix M v < M.length
  | [], h => by cases h
  | x :: r, h => by
    show 0 ≤ (if x = v then (0 : Int) else z_ix r v + 1) ∧ (if x = v then (0 : Int) else z_ix r v + 1) < ((x :: r).length : Nat)
    rw [List.length_cons]
    by_cases q : x = v
    · rw [if_pos q]
      omega
    · rw [if_neg q]
      have h2 : r.contains v = true := by
        rw [List.contains_iff_mem] at h ⊢
        rcases List.mem_cons.mp h with z | z
        · exact absurd z.symm q
        · exact z
      have ih := z_ix_lt h2
      omega
theorem y_cell_b {q : Int × Int} (h : y_cell kd vl q k = some k') : (0 ≤ (vl k).toInt ∧ (vl k).toInt < q.1) ∧ 0 ≤ (vl (k + 1)).toInt ∧ (vl (k + 1)).toInt < q.2 := by
  unfold y_cell at h
  obtain ⟨k1, h1, h2⟩ := Option.bind_eq_some_iff.mp h
  obtain ⟨-, a1, a2, a3⟩ := y_num_o h1
  obtain ⟨-, b1, b2, -⟩ := y_num_o h2
  rw [a3] at b1 b2
  omega
theorem kOK.first (h : y_one kd vl 0 y_0 k = some (σ', k')) (hk : (vl k).toInt = 0) : kOK σ' (k_st kd vl y_0 k k_0) := by
  have I := kI.step h kI.z
  unfold y_one at h
  rw [if_pos rfl] at h
  obtain ⟨x, hx, e⟩ := Option.map_eq_some_iff.mp h
  cases e
  unfold y_seam at hx
  obtain ⟨k1, h1, hx⟩ := Option.bind_eq_some_iff.mp hx
  obtain ⟨k2, h2, hx⟩ := Option.bind_eq_some_iff.mp hx
  obtain ⟨k3, h3, h4⟩ := Option.bind_eq_some_iff.mp hx
  have e1 := (y_own_o h1).2
  obtain ⟨-, a1, a2, a3⟩ := y_num_o h2
  have e3 := (y_own_o h3).2
  obtain ⟨-, b1, b2, -⟩ := y_num_o h4
  have n3 : k3 = k + 3 := by omega
  rw [e1] at a1 a2
  rw [n3] at b1 b2
  rw [k_st_0 hk] at I ⊢
  have u : ∀ (r j : Nat), r ≠ 0 ∨ (j ≠ 0 ∧ j ≠ 1 ∧ j ≠ 2) → s_up (s_up (s_up k_0.1 0 0 (vl (k + 1)).toInt) 0 1 (vl (k + 3)).toInt) 0 2 0 r j = k_0.1 r j := fun r j q => by
    rw [s_up_ne (by omega), s_up_ne (by omega), s_up_ne (by omega)]
  refine ⟨I, ⟨⟨a1, a2⟩, b1, b2⟩, ⟨show (0 : Nat) ≤ 6 by decide, show (0 : Nat) ≤ 16 by decide, show (0 : Nat) ≤ 5 by decide⟩, ⟨⟨?_, ?_⟩, ⟨?_, ?_⟩, ?_, ?_⟩, fun c => ?_, fun k hk => absurd hk (Nat.not_lt_zero k), fun k hk => absurd hk (Nat.not_lt_zero k), fun w _ z => absurd rfl z, ⟨fun z => (by cases z), fun z => absurd rfl z⟩, ⟨fun z => (by cases z), fun z => absurd rfl z⟩, ⟨fun z => (by cases z), fun z => absurd rfl z⟩⟩
  · show 0 ≤ s_up (s_up (s_up k_0.1 0 0 (vl (k + 1)).toInt) 0 1 (vl (k + 3)).toInt) 0 2 0 0 2
    rw [s_up_at]
    decide
  · show s_up (s_up (s_up k_0.1 0 0 (vl (k + 1)).toInt) 0 1 (vl (k + 3)).toInt) 0 2 0 0 2 < (vl (k + 1)).toInt
    rw [s_up_at]
    omega
  · show 0 ≤ s_up (s_up (s_up k_0.1 0 0 (vl (k + 1)).toInt) 0 1 (vl (k + 3)).toInt) 0 2 0 0 3
    rw [u 0 3 (by decide)]
    decide
  · show s_up (s_up (s_up k_0.1 0 0 (vl (k + 1)).toInt) 0 1 (vl (k + 3)).toInt) 0 2 0 0 3 ≤ 20
    rw [u 0 3 (by decide)]
    decide
  · show 0 ≤ s_up (s_up (s_up k_0.1 0 0 (vl (k + 1)).toInt) 0 1 (vl (k + 3)).toInt) 0 2 0 0 4
    rw [u 0 4 (by decide)]
    decide
  · show s_up (s_up (s_up k_0.1 0 0 (vl (k + 1)).toInt) 0 1 (vl (k + 3)).toInt) 0 2 0 0 4 ≤ 100
    rw [u 0 4 (by decide)]
    decide
  · show 0 ≤ s_up (s_up (s_up k_0.1 0 0 (vl (k + 1)).toInt) 0 1 (vl (k + 3)).toInt) 0 2 0 1 c ∧ s_up (s_up (s_up k_0.1 0 0 (vl (k + 1)).toInt) 0 1 (vl (k + 3)).toInt) 0 2 0 1 c ≤ 9
    rw [u 1 c (Or.inl (by decide))]
    show 0 ≤ (5 : Int) ∧ (5 : Int) ≤ 9
    decide
theorem kOK.num {j : Nat} {v : Int} (h : kOK σ d) (hI : kI σ (s_up d.1 0 j v, d.2)) (hv : (j = 2 ∧ 0 ≤ v ∧ v < σ.1.1) ∨ (j = 3 ∧ 0 ≤ v ∧ v ≤ 20) ∨ (j = 4 ∧ 0 ≤ v ∧ v ≤ 100)) : kOK σ (s_up d.1 0 j v, d.2) := by
  obtain ⟨I, D, C, ⟨⟨n1, n2⟩, ⟨n3, n4⟩, n5, n6⟩, g, p, o, c⟩ := h
  have u : ∀ r b : Nat, r ≠ 0 → s_up d.1 0 j v r b = d.1 r b := fun r b hr => s_up_r hr
  have z : ∀ b : Nat, s_up d.1 0 j v 0 b = if b = j then v else d.1 0 b := fun b => by
    by_cases q : b = j
    · rw [if_pos q, q, s_up_at]
    · rw [if_neg q, s_up_i q]
  refine ⟨hI, D, C, ⟨⟨?_, ?_⟩, ⟨?_, ?_⟩, ?_, ?_⟩, fun x => ?_, fun k hk => ?_, fun k hk => ?_, c⟩
  · show 0 ≤ s_up d.1 0 j v 0 2
    rw [z]
    split <;> omega
  · show s_up d.1 0 j v 0 2 < σ.1.1
    rw [z]
    split <;> omega
  · show 0 ≤ s_up d.1 0 j v 0 3
    rw [z]
    split <;> omega
  · show s_up d.1 0 j v 0 3 ≤ 20
    rw [z]
    split <;> omega
  · show 0 ≤ s_up d.1 0 j v 0 4
    rw [z]
    split <;> omega
  · show s_up d.1 0 j v 0 4 ≤ 100
    rw [z]
    split <;> omega
  · show 0 ≤ s_up d.1 0 j v 1 x ∧ s_up d.1 0 j v 1 x ≤ 9
    rw [u 1 x (by decide)]
    exact g x
  · show (0 ≤ s_up d.1 0 j v 5 k ∧ s_up d.1 0 j v 5 k < σ.2.1.length) ∧ ∃ x y : Int, (0 ≤ x ∧ x < σ.1.1) ∧ (0 ≤ y ∧ y < σ.1.2) ∧ s_up d.1 0 j v 6 k = 8 * y + x
    rw [u 5 k (by decide), u 6 k (by decide)]
    exact p k hk
  · show (0 ≤ s_up d.1 0 j v 2 k ∧ s_up d.1 0 j v 2 k ≤ 9) ∧ (1 ≤ s_up d.1 0 j v 3 k ∧ s_up d.1 0 j v 3 k ≤ 9) ∧ 0 ≤ s_up d.1 0 j v 4 k ∧ s_up d.1 0 j v 4 k ≤ 999
    rw [u 2 k (by decide), u 3 k (by decide), u 4 k (by decide)]
    exact o k hk
theorem kOK.grade {j : Nat} {v : Int} (h : kOK σ d) (hI : kI σ (s_up d.1 1 j v, d.2)) (hv : 0 ≤ v ∧ v ≤ 9) : kOK σ (s_up d.1 1 j v, d.2) := by
  obtain ⟨I, D, C, N, g, p, o, c⟩ := h
  have u : ∀ r b : Nat, r ≠ 1 → s_up d.1 1 j v r b = d.1 r b := fun r b hr => s_up_r hr
  refine ⟨hI, D, C, ?_, fun x => ?_, fun k hk => ?_, fun k hk => ?_, c⟩
  · show (0 ≤ s_up d.1 1 j v 0 2 ∧ s_up d.1 1 j v 0 2 < σ.1.1) ∧ (0 ≤ s_up d.1 1 j v 0 3 ∧ s_up d.1 1 j v 0 3 ≤ 20) ∧ 0 ≤ s_up d.1 1 j v 0 4 ∧ s_up d.1 1 j v 0 4 ≤ 100
    rw [u 0 2 (by decide), u 0 3 (by decide), u 0 4 (by decide)]
    exact N
  · show 0 ≤ s_up d.1 1 j v 1 x ∧ s_up d.1 1 j v 1 x ≤ 9
    by_cases q : x = j
    · rw [q, s_up_at]
      exact hv
    · rw [s_up_i q]
      exact g x
  · show (0 ≤ s_up d.1 1 j v 5 k ∧ s_up d.1 1 j v 5 k < σ.2.1.length) ∧ ∃ x y : Int, (0 ≤ x ∧ x < σ.1.1) ∧ (0 ≤ y ∧ y < σ.1.2) ∧ s_up d.1 1 j v 6 k = 8 * y + x
    rw [u 5 k (by decide), u 6 k (by decide)]
    exact p k hk
  · show (0 ≤ s_up d.1 1 j v 2 k ∧ s_up d.1 1 j v 2 k ≤ 9) ∧ (1 ≤ s_up d.1 1 j v 3 k ∧ s_up d.1 1 j v 3 k ≤ 9) ∧ 0 ≤ s_up d.1 1 j v 4 k ∧ s_up d.1 1 j v 4 k ≤ 999
    rw [u 2 k (by decide), u 3 k (by decide), u 4 k (by decide)]
    exact o k hk
/-- a rule is told -/
theorem s_cd.rule {K : Nat → List Int} {w : Nat} {v : Int} (h : s_cd K) (hw : v = w) (hn : ∀ k, (kd k).toInt = 3 → 0 ≤ (vl k).toInt ∧ (vl k).toInt ≤ 9999) (e : y_rule kd vl v k = some k') : s_cd (fun j : Nat => if (j : Int) = v then d_rule kd vl v k else K j) ∧ d_rule kd vl v k ≠ [] := by
  subst hw
  obtain ⟨t1, t2⟩ := y_rule_T hn e
  have ne : d_rule kd vl (w : Int) k ≠ [] := fun z => by
    rw [z] at t1
    cases t1
  refine ⟨fun j hj hK => ?_, ne⟩
  by_cases q : (j : Int) = (w : Int)
  · have q2 : j = w := by omega
    subst q2
    show e_ty (if (j : Int) = (j : Int) then d_rule kd vl (j : Int) k else K j) [] = some [j == 1] ∧ (j = 0 → -5 ∉ (if (j : Int) = (j : Int) then d_rule kd vl (j : Int) k else K j) ∧ -6 ∉ (if (j : Int) = (j : Int) then d_rule kd vl (j : Int) k else K j)) ∧ (j ≠ 0 → -4 ∉ (if (j : Int) = (j : Int) then d_rule kd vl (j : Int) k else K j))
    rw [if_pos rfl]
    refine ⟨?_, fun z => ⟨fun m => ((t2 _ m).1 (by omega)).1 rfl, fun m => ((t2 _ m).1 (by omega)).2 rfl⟩, fun z m => (t2 _ m).2 (by omega) rfl⟩
    rw [t1]
    by_cases q1 : j = 1
    · subst q1
      rfl
    · rw [show ((j : Int) == 1) = false from by simp; omega, show (j == 1) = false from by simpa using q1]
  · show e_ty (if (j : Int) = (w : Int) then d_rule kd vl (w : Int) k else K j) [] = some [j == 1] ∧ (j = 0 → -5 ∉ (if (j : Int) = (w : Int) then d_rule kd vl (w : Int) k else K j) ∧ -6 ∉ (if (j : Int) = (w : Int) then d_rule kd vl (w : Int) k else K j)) ∧ (j ≠ 0 → -4 ∉ (if (j : Int) = (w : Int) then d_rule kd vl (w : Int) k else K j))
    rw [if_neg q]
    exact h j hj (fun z => hK (by show (if (j : Int) = (w : Int) then d_rule kd vl (w : Int) k else K j) = []; rw [if_neg q]; exact z))
set_option maxHeartbeats 1000000 in
theorem kOK.step (hn : ∀ k, (kd k).toInt = 3 → 0 ≤ (vl k).toInt ∧ (vl k).toInt ≤ 9999) (h : y_st kd vl σ k = some (σ', k')) (H : kOK σ d) : kOK σ' (k_st kd vl σ k d) := by
  have I' := kI.step (i := 1) (by rw [y_one_n (by decide)]; exact h) H.1
  obtain ⟨q0, M, P, O, r0, r1, r2⟩ := σ
  obtain ⟨I, D, C, N, g, p, o, c, f0, f1, f2⟩ := id H
  have j5 : d.1 0 5 = M.length := I.2.2.1
  have j6 : d.1 0 6 = P := I.2.2.2.1
  have j7 : d.1 0 7 = O.length := I.2.2.2.2
  have C : M.length ≤ 6 ∧ P ≤ 16 ∧ O.length ≤ 5 := C
  by_cases hk : (kd k).toInt = 1
  rotate_left
  · rw [y_st_no (Or.inl hk)] at h
    cases h
  by_cases w2 : (vl k).toInt = 2
  · rw [y_st_2 hk w2] at h
    obtain ⟨x, hx, e⟩ := Option.map_eq_some_iff.mp h
    cases e
    rw [k_st_2 w2] at I' ⊢
    obtain ⟨-, a1, a2, -⟩ := y_num_o hx
    exact H.num I' (Or.inl ⟨rfl, a1, by show _ < q0.1; omega⟩)
  by_cases w3 : (vl k).toInt = 3
  · rw [y_st_3 hk w3] at h
    obtain ⟨x, hx, e⟩ := Option.map_eq_some_iff.mp h
    cases e
    rw [k_st_3 w3] at I' ⊢
    obtain ⟨-, a1, a2, -⟩ := y_num_o hx
    exact H.num I' (Or.inr (Or.inl ⟨rfl, a1, a2⟩))
  by_cases w4 : (vl k).toInt = 4
  · rw [y_st_4 hk w4] at h
    obtain ⟨x, hx, e⟩ := Option.map_eq_some_iff.mp h
    cases e
    rw [k_st_4 w4] at I' ⊢
    obtain ⟨-, a1, a2, -⟩ := y_num_o hx
    exact H.num I' (Or.inr (Or.inr ⟨rfl, a1, a2⟩))
  by_cases w5 : (vl k).toInt = 5
  · rw [y_st_5 hk w5] at h
    obtain ⟨x, hx, e⟩ := Option.map_eq_some_iff.mp h
    cases e
    rw [k_st_5 w5] at I' ⊢
    obtain ⟨k1, b1, b2⟩ := Option.bind_eq_some_iff.mp hx
    have e1 := y_cell_k b1
    obtain ⟨-, a1, a2, -⟩ := y_num_o b2
    rw [show k1 = k + 3 by omega] at a1 a2
    exact H.grade I' ⟨a1, a2⟩
  by_cases w6 : (vl k).toInt = 6
  · rw [y_st_6 hk w6] at h
    by_cases z : M.length = 6
    · rw [if_pos z] at h
      cases h
    rw [if_neg z] at h
    obtain ⟨x, -, e⟩ := Option.map_eq_some_iff.mp h
    cases e
    rw [k_st_6 w6] at I' ⊢
    have l : (M ++ [(vl (k + 1)).toInt]).length = M.length + 1 := by rw [List.length_append]; rfl
    have u : ∀ r b : Nat, r ≠ 0 ∨ b ≠ 5 → s_up d.1 0 5 (d.1 0 5 + 1) r b = d.1 r b := fun r b hr => s_up_ne (by omega)
    refine ⟨I', D, ⟨by show (M ++ [(vl (k + 1)).toInt]).length ≤ 6; omega, C.2.1, C.2.2⟩, ?_, fun x => ?_, fun i hi => ?_, fun i hi => ?_, c, f0, f1, f2⟩
    · show (0 ≤ s_up d.1 0 5 (d.1 0 5 + 1) 0 2 ∧ s_up d.1 0 5 (d.1 0 5 + 1) 0 2 < q0.1) ∧ (0 ≤ s_up d.1 0 5 (d.1 0 5 + 1) 0 3 ∧ s_up d.1 0 5 (d.1 0 5 + 1) 0 3 ≤ 20) ∧ 0 ≤ s_up d.1 0 5 (d.1 0 5 + 1) 0 4 ∧ s_up d.1 0 5 (d.1 0 5 + 1) 0 4 ≤ 100
      rw [u 0 2 (by decide), u 0 3 (by decide), u 0 4 (by decide)]
      exact N
    · show 0 ≤ s_up d.1 0 5 (d.1 0 5 + 1) 1 x ∧ s_up d.1 0 5 (d.1 0 5 + 1) 1 x ≤ 9
      rw [u 1 x (Or.inl (by decide))]
      exact g x
    · show (0 ≤ s_up d.1 0 5 (d.1 0 5 + 1) 5 i ∧ s_up d.1 0 5 (d.1 0 5 + 1) 5 i < (M ++ [(vl (k + 1)).toInt]).length) ∧ ∃ x y : Int, (0 ≤ x ∧ x < q0.1) ∧ (0 ≤ y ∧ y < q0.2) ∧ s_up d.1 0 5 (d.1 0 5 + 1) 6 i = 8 * y + x
      rw [u 5 i (Or.inl (by decide)), u 6 i (Or.inl (by decide)), l]
      obtain ⟨⟨p1, p2⟩, p3⟩ := p i hi
      have p2 : d.1 5 i < M.length := p2
      exact ⟨⟨p1, by omega⟩, p3⟩
    · show (0 ≤ s_up d.1 0 5 (d.1 0 5 + 1) 2 i ∧ s_up d.1 0 5 (d.1 0 5 + 1) 2 i ≤ 9) ∧ (1 ≤ s_up d.1 0 5 (d.1 0 5 + 1) 3 i ∧ s_up d.1 0 5 (d.1 0 5 + 1) 3 i ≤ 9) ∧ 0 ≤ s_up d.1 0 5 (d.1 0 5 + 1) 4 i ∧ s_up d.1 0 5 (d.1 0 5 + 1) 4 i ≤ 999
      rw [u 2 i (Or.inl (by decide)), u 3 i (Or.inl (by decide)), u 4 i (Or.inl (by decide))]
      exact o i hi
  by_cases w7 : (vl k).toInt = 7
  · rw [y_st_7 hk w7] at h
    by_cases z : P = 16
    · rw [if_pos z] at h
      cases h
    rw [if_neg z] at h
    obtain ⟨x, hx, e⟩ := Option.map_eq_some_iff.mp h
    cases e
    rw [k_st_7 w7] at I' ⊢
    obtain ⟨k1, b1, hx⟩ := Option.bind_eq_some_iff.mp hx
    obtain ⟨k2, b2, b3⟩ := Option.bind_eq_some_iff.mp hx
    have e1 := y_old_k b1
    have e2 := (y_own_o b2).2
    have hM : M.contains (vl (k + 1)).toInt = true := by
      unfold y_old at b1
      split at b1
      · rename_i qq
        rw [Bool.and_eq_true] at qq
        exact qq.2
      · cases b1
    have zx := z_ix_lt hM
    have cb := y_cell_b b3
    rw [show k2 = k + 3 by omega] at cb
    have eP : (d.1 0 6).toNat = P := by omega
    obtain ⟨E, hE⟩ : ∃ E, E = s_up (s_up (s_up d.1 5 (d.1 0 6).toNat (z_ix M (vl (k + 1)).toInt)) 6 (d.1 0 6).toNat (8 * (vl (k + 4)).toInt + (vl (k + 3)).toInt)) 0 6 (d.1 0 6 + 1) := ⟨_, rfl⟩
    have u : ∀ r b : Nat, r ≠ 5 → r ≠ 6 → (r ≠ 0 ∨ b ≠ 6) → E r b = d.1 r b := fun r b h5 h6 h0 => by rw [hE, s_up_ne (by omega), s_up_r h6, s_up_r h5]
    have v5 : ∀ b : Nat, E 5 b = if b = P then z_ix M (vl (k + 1)).toInt else d.1 5 b := fun b => by
      rw [hE, s_up_ne (by omega), s_up_ne (by omega), eP]
      by_cases q : b = P
      · rw [if_pos q, q, s_up_at]
      · rw [if_neg q, s_up_i q]
    have v6 : ∀ b : Nat, E 6 b = if b = P then 8 * (vl (k + 4)).toInt + (vl (k + 3)).toInt else d.1 6 b := fun b => by
      rw [hE, s_up_ne (by omega), eP]
      by_cases q : b = P
      · rw [if_pos q, q, s_up_at]
      · rw [if_neg q, s_up_i q, s_up_ne (by omega)]
    have I' : kI (q0, M, P + 1, O, r0, r1, r2) (E, d.2) := by rw [hE]; exact I'
    show kOK (q0, M, P + 1, O, r0, r1, r2) (s_up (s_up (s_up d.1 5 (d.1 0 6).toNat (z_ix M (vl (k + 1)).toInt)) 6 (d.1 0 6).toNat (8 * (vl (k + 4)).toInt + (vl (k + 3)).toInt)) 0 6 (d.1 0 6 + 1), d.2)
    rw [← hE]
    refine ⟨I', D, ⟨C.1, by show P + 1 ≤ 16; omega, C.2.2⟩, ?_, fun x => ?_, fun i hi => ?_, fun i hi => ?_, c, f0, f1, f2⟩
    · show (0 ≤ E 0 2 ∧ E 0 2 < q0.1) ∧ (0 ≤ E 0 3 ∧ E 0 3 ≤ 20) ∧ 0 ≤ E 0 4 ∧ E 0 4 ≤ 100
      rw [u 0 2 (by decide) (by decide) (by decide), u 0 3 (by decide) (by decide) (by decide), u 0 4 (by decide) (by decide) (by decide)]
      exact N
    · show 0 ≤ E 1 x ∧ E 1 x ≤ 9
      rw [u 1 x (by decide) (by decide) (Or.inl (by decide))]
      exact g x
    · have hi : i < P + 1 := hi
      show (0 ≤ E 5 i ∧ E 5 i < M.length) ∧ ∃ x y : Int, (0 ≤ x ∧ x < q0.1) ∧ (0 ≤ y ∧ y < q0.2) ∧ E 6 i = 8 * y + x
      rw [v5, v6]
      by_cases q : i = P
      · rw [if_pos q, if_pos q]
        exact ⟨zx, (vl (k + 3)).toInt, (vl (k + 4)).toInt, cb.1, cb.2, rfl⟩
      · rw [if_neg q, if_neg q]
        exact p i (show i < P by omega)
    · show (0 ≤ E 2 i ∧ E 2 i ≤ 9) ∧ (1 ≤ E 3 i ∧ E 3 i ≤ 9) ∧ 0 ≤ E 4 i ∧ E 4 i ≤ 999
      rw [u 2 i (by decide) (by decide) (Or.inl (by decide)), u 3 i (by decide) (by decide) (Or.inl (by decide)), u 4 i (by decide) (by decide) (Or.inl (by decide))]
      exact o i hi
  by_cases w9 : (vl k).toInt = 9
  · rw [y_st_9 hk w9] at h
    by_cases z : O.length = 5
    · rw [if_pos z] at h
      cases h
    rw [if_neg z] at h
    obtain ⟨x, hx, e⟩ := Option.map_eq_some_iff.mp h
    cases e
    rw [k_st_9 w9] at I' ⊢
    obtain ⟨k1, b1, hx⟩ := Option.bind_eq_some_iff.mp hx
    obtain ⟨k2, b2, hx⟩ := Option.bind_eq_some_iff.mp hx
    obtain ⟨k3, b3, hx⟩ := Option.bind_eq_some_iff.mp hx
    obtain ⟨k4, b4, hx⟩ := Option.bind_eq_some_iff.mp hx
    obtain ⟨k5, b5, hx⟩ := Option.bind_eq_some_iff.mp hx
    obtain ⟨k6, b6, b7⟩ := Option.bind_eq_some_iff.mp hx
    have e1 := (y_new_o b1).2
    have e2 := (y_own_o b2).2
    obtain ⟨-, a1, a2, e3⟩ := y_num_o b3
    have e4 := (y_own_o b4).2
    obtain ⟨-, a3, a4, e5⟩ := y_num_o b5
    have e6 := (y_own_o b6).2
    obtain ⟨-, a5, a6, -⟩ := y_num_o b7
    rw [show k2 = k + 3 by omega] at a1 a2
    rw [show k4 = k + 5 by omega] at a3 a4
    rw [show k6 = k + 7 by omega] at a5 a6
    have eO : (d.1 0 7).toNat = O.length := by omega
    have l : (O ++ [(vl (k + 1)).toInt]).length = O.length + 1 := by rw [List.length_append]; rfl
    obtain ⟨E, hE⟩ : ∃ E, E = s_up (s_up (s_up (s_up d.1 2 (d.1 0 7).toNat (vl (k + 3)).toInt) 3 (d.1 0 7).toNat (vl (k + 5)).toInt) 4 (d.1 0 7).toNat (vl (k + 7)).toInt) 0 7 (d.1 0 7 + 1) := ⟨_, rfl⟩
    have u : ∀ r b : Nat, r ≠ 2 → r ≠ 3 → r ≠ 4 → (r ≠ 0 ∨ b ≠ 7) → E r b = d.1 r b := fun r b h2 h3 h4 h0 => by rw [hE, s_up_ne (by omega), s_up_r h4, s_up_r h3, s_up_r h2]
    have v2 : ∀ b : Nat, E 2 b = if b = O.length then (vl (k + 3)).toInt else d.1 2 b := fun b => by
      rw [hE, s_up_ne (by omega), s_up_ne (by omega), s_up_ne (by omega), eO]
      by_cases q : b = O.length
      · rw [if_pos q, q, s_up_at]
      · rw [if_neg q, s_up_i q]
    have v3 : ∀ b : Nat, E 3 b = if b = O.length then (vl (k + 5)).toInt else d.1 3 b := fun b => by
      rw [hE, s_up_ne (by omega), s_up_ne (by omega), eO]
      by_cases q : b = O.length
      · rw [if_pos q, q, s_up_at]
      · rw [if_neg q, s_up_i q, s_up_ne (by omega)]
    have v4 : ∀ b : Nat, E 4 b = if b = O.length then (vl (k + 7)).toInt else d.1 4 b := fun b => by
      rw [hE, s_up_ne (by omega), eO]
      by_cases q : b = O.length
      · rw [if_pos q, q, s_up_at]
      · rw [if_neg q, s_up_i q, s_up_ne (by omega), s_up_ne (by omega)]
    have I' : kI (q0, M, P, O ++ [(vl (k + 1)).toInt], r0, r1, r2) (E, d.2) := by rw [hE]; exact I'
    show kOK (q0, M, P, O ++ [(vl (k + 1)).toInt], r0, r1, r2) (s_up (s_up (s_up (s_up d.1 2 (d.1 0 7).toNat (vl (k + 3)).toInt) 3 (d.1 0 7).toNat (vl (k + 5)).toInt) 4 (d.1 0 7).toNat (vl (k + 7)).toInt) 0 7 (d.1 0 7 + 1), d.2)
    rw [← hE]
    refine ⟨I', D, ⟨C.1, C.2.1, by show (O ++ [(vl (k + 1)).toInt]).length ≤ 5; omega⟩, ?_, fun x => ?_, fun i hi => ?_, fun i hi => ?_, c, f0, f1, f2⟩
    · show (0 ≤ E 0 2 ∧ E 0 2 < q0.1) ∧ (0 ≤ E 0 3 ∧ E 0 3 ≤ 20) ∧ 0 ≤ E 0 4 ∧ E 0 4 ≤ 100
      rw [u 0 2 (by decide) (by decide) (by decide) (by decide), u 0 3 (by decide) (by decide) (by decide) (by decide), u 0 4 (by decide) (by decide) (by decide) (by decide)]
      exact N
    · show 0 ≤ E 1 x ∧ E 1 x ≤ 9
      rw [u 1 x (by decide) (by decide) (by decide) (Or.inl (by decide))]
      exact g x
    · show (0 ≤ E 5 i ∧ E 5 i < M.length) ∧ ∃ x y : Int, (0 ≤ x ∧ x < q0.1) ∧ (0 ≤ y ∧ y < q0.2) ∧ E 6 i = 8 * y + x
      rw [u 5 i (by decide) (by decide) (by decide) (Or.inl (by decide)), u 6 i (by decide) (by decide) (by decide) (Or.inl (by decide))]
      exact p i hi
    · have hi : i < (O ++ [(vl (k + 1)).toInt]).length := hi
      show (0 ≤ E 2 i ∧ E 2 i ≤ 9) ∧ (1 ≤ E 3 i ∧ E 3 i ≤ 9) ∧ 0 ≤ E 4 i ∧ E 4 i ≤ 999
      rw [v2, v3, v4]
      by_cases q : i = O.length
      · rw [if_pos q, if_pos q, if_pos q]
        exact ⟨⟨a1, a2⟩, ⟨a3, a4⟩, a5, a6⟩
      · rw [if_neg q, if_neg q, if_neg q]
        exact o i (show i < O.length by omega)
  by_cases w12 : (vl k).toInt = 12
  · rw [y_st_12 hk w12] at h
    cases r0 with
    | true => cases h
    | false =>
      obtain ⟨x, hx, e⟩ := Option.map_eq_some_iff.mp h
      cases e
      rw [k_st_r (by omega)] at I' ⊢
      rw [show (vl k).toInt - 12 = 0 by omega] at I' ⊢
      obtain ⟨s1, s2⟩ := s_cd.rule (w := 0) c rfl hn hx
      exact ⟨I', D, C, N, g, p, o, s1, ⟨fun _ => s2, fun _ => rfl⟩, f1, f2⟩
  by_cases w13 : (vl k).toInt = 13
  · rw [y_st_13 hk w13] at h
    cases r1 with
    | true => cases h
    | false =>
      obtain ⟨x, hx, e⟩ := Option.map_eq_some_iff.mp h
      cases e
      rw [k_st_r (by omega)] at I' ⊢
      rw [show (vl k).toInt - 12 = 1 by omega] at I' ⊢
      obtain ⟨s1, s2⟩ := s_cd.rule (w := 1) c rfl hn hx
      exact ⟨I', D, C, N, g, p, o, s1, f0, ⟨fun _ => s2, fun _ => rfl⟩, f2⟩
  by_cases w14 : (vl k).toInt = 14
  · rw [y_st_14 hk w14] at h
    cases r2 with
    | true => cases h
    | false =>
      obtain ⟨x, hx, e⟩ := Option.map_eq_some_iff.mp h
      cases e
      rw [k_st_r (by omega)] at I' ⊢
      rw [show (vl k).toInt - 12 = 2 by omega] at I' ⊢
      obtain ⟨s1, s2⟩ := s_cd.rule (w := 2) c rfl hn hx
      exact ⟨I', D, C, N, g, p, o, s1, f0, f1, ⟨fun _ => s2, fun _ => rfl⟩⟩
  rw [y_st_no (Or.inr ⟨w2, w3, w4, w5, w6, w7, w9, w12, w13, w14⟩)] at h
  cases h
/-- of a whole text -/
theorem kOK.go (hn : ∀ k, (kd k).toInt = 3 → 0 ≤ (vl k).toInt ∧ (vl k).toInt ≤ 9999) {m : Nat} {σe : y_S} : ∀ (f i : Nat) (σ : y_S) (d : k_D) (k : Nat), (i = 0 ∧ σ = y_0 ∧ d = k_0) ∨ (i ≠ 0 ∧ kOK σ d) → y_go kd vl f i σ k = some (m, σe) → kOK σe (z_go kd vl (k_st kd vl) f i σ d k)
  | 0, i, σ, d, k, H, e => by
    unfold y_go at e
    by_cases q : i ≠ 0 ∧ (kd k).toInt = 0
    · rw [if_pos q] at e
      cases e
      rcases H with ⟨h0, -, -⟩ | H
      · exact absurd h0 q.1
      · exact H.2
    · rw [if_neg q] at e
      cases e
  | f + 1, i, σ, d, k, H, e => by
    unfold y_go at e
    by_cases q : i ≠ 0 ∧ (kd k).toInt = 0
    · rw [if_pos q] at e
      cases e
      show kOK σe (if m ≠ 0 ∧ (kd k).toInt = 0 then d else _)
      rw [if_pos q]
      rcases H with ⟨h0, -, -⟩ | H
      · exact absurd h0 q.1
      · exact H.2
    · rw [if_neg q] at e
      obtain ⟨⟨σ', yk⟩, e1, e⟩ := Option.bind_eq_some_iff.mp e
      obtain ⟨k', e2, e⟩ := Option.bind_eq_some_iff.mp e
      show kOK σe (if i ≠ 0 ∧ (kd k).toInt = 0 then d else _)
      rw [if_neg q, e1]
      show kOK σe (match g_tk kd vl 59 yk with | none => d | some k' => z_go kd vl (k_st kd vl) f (i + 1) σ' (k_st kd vl σ k d) k')
      have e2 : g_tk kd vl 59 yk = some k' := e2
      rw [e2]
      refine kOK.go hn f (i + 1) σ' (k_st kd vl σ k d) k' (Or.inr ⟨Nat.succ_ne_zero i, ?_⟩) e
      rcases H with ⟨h0, h1, h2⟩ | H
      · rw [h0] at e1
        rw [h1] at e1 ⊢
        rw [h2]
        refine kOK.first e1 ?_
        unfold y_one at e1
        rw [if_pos rfl] at e1
        obtain ⟨x, hx, -⟩ := Option.map_eq_some_iff.mp e1
        unfold y_seam at hx
        obtain ⟨k1, h1, -⟩ := Option.bind_eq_some_iff.mp hx
        exact (g_o_iff.mp (y_own_o h1).1).2
      · rw [y_one_n H.1] at e1
        exact kOK.step hn e1 H.2
theorem kOK.all {tb : Nat → Int32} {n m : Nat} (e : y_mine (T_kd tb n) (T_vl tb n) = some (m, σ)) : kOK σ (z_all (T_kd tb n) (T_vl tb n) (k_st (T_kd tb n) (T_vl tb n)) k_0) := kOK.go (fun k => T_num_b) 80 0 y_0 k_0 0 (Or.inl ⟨rfl, rfl, rfl⟩) e
/-- bounds as the mine wants them -/
theorem kOK.gx (h : kOK σ d) : s_gx d.1 ∧ s_cd d.2 := by
  obtain ⟨⟨i0, i1, i5, i6, i7⟩, ⟨⟨a1, a2⟩, a3, a4⟩, ⟨c1, c2, c3⟩, ⟨⟨n1, n2⟩, n3, n4⟩, g, p, o, c, -⟩ := h
  refine ⟨⟨⟨⟨⟨by omega, by omega⟩, by omega, by omega⟩, ⟨n1, by omega⟩, by omega, by omega⟩, n3, n4, ⟨by omega, by omega⟩, ⟨by omega, by omega⟩, fun x hx => g x.toNat, fun k hk => ?_, fun k hk => o k (by omega)⟩, c⟩
  obtain ⟨⟨p1, p2⟩, x, y, p3, p4, p5⟩ := p k (by omega)
  refine ⟨⟨p1, by omega⟩, ?_⟩
  rw [p5]
  refine ⟨⟨?_, ?_⟩, ?_, ?_⟩ <;> omega
end LG
