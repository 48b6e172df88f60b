/-! names as a MINE tells them -/
def PN (v : Int) : Prop := ∃ c0 c1 c2 c3 c4 c5 : Int, (1 ≤ c0 ∧ c0 ≤ 26) ∧ (0 ≤ c1 ∧ c1 ≤ 26) ∧ (0 ≤ c2 ∧ c2 ≤ 26) ∧ (0 ≤ c3 ∧ c3 ≤ 26) ∧ (0 ≤ c4 ∧ c4 ≤ 26) ∧ (0 ≤ c5 ∧ c5 ≤ 26) ∧ (c1 = 0 → c2 = 0) ∧ (c2 = 0 → c3 = 0) ∧ (c3 = 0 → c4 = 0) ∧ (c4 = 0 → c5 = 0) ∧ v = m_f27 c0 c1 c2 c3 c4 c5
section PNS
variable {tb : Nat → Int32} {n k m : Nat} {v : Int32} {w : Int64} {r1 r2 kk : Int32} {kd vl : Nat → Int32} {σ σ' : y_S}
theorem t_kd_b {k : Nat} : 0 ≤ t_kd tb n k ∧ t_kd tb n k ≤ 5 := by
  unfold t_kd t_K
  repeat' split
  all_goals omega
theorem T_kd_v {k : Nat} : (T_kd tb n k).toInt = t_kd tb n k := T_kd_at rfl (t_kd_b).1 (t_kd_b).2
theorem PN.tok {k : Nat} (h : (T_kd tb n k).toInt = 2) : PN (T_vl tb n k).toInt := by
  rw [T_kd_v] at h
  have hs : t_s tb n k < n := by
    by_cases q : t_s tb n k < n
    · exact q
    · unfold t_kd at h
      rw [if_neg q] at h
      omega
  have e1 : t_K tb (t_s tb n k) (t_P tb n (k + 1)) (t_adj tb (t_s tb n k)) = 2 := by
    unfold t_kd at h
    rw [if_pos hs] at h
    exact h
  have hl : t_l (tb (t_s tb n k)) = true := by
    cases q : t_l (tb (t_s tb n k)) with
    | true => rfl
    | false =>
      unfold t_K at e1
      rw [if_neg (by rw [q]; decide)] at e1
      exfalso
      revert e1
      repeat' split
      all_goals omega
  unfold t_K at e1
  rw [if_pos hl] at e1
  have h6 : ¬ (6 < t_P tb n (k + 1) - t_s tb n k ∨ t_adj tb (t_s tb n k) = true) := fun q => by
    rw [if_pos q] at e1
    omega
  rw [if_neg h6] at e1
  have ho : t_own tb (t_s tb n k) (t_P tb n (k + 1)) = -1 := by
    by_cases q : t_own tb (t_s tb n k) (t_P tb n (k + 1)) = -1
    · exact q
    · rw [if_neg q] at e1
      omega
  have eP : t_P tb n (k + 1) = t_run (t_wd tb n) 1600 (t_s tb n k) := by
    rw [t_P_s hs]
    unfold t_en
    rw [if_pos hl]
  have hgt : t_s tb n k < t_P tb n (k + 1) := by
    rw [t_P_s hs]
    exact t_en_gt hs
  have hall : ∀ j : Nat, t_s tb n k ≤ j → j < t_P tb n (k + 1) → t_l (tb j) = true := fun j h1 h2 => by
    rw [eP] at h2
    have h3 := t_run_in 1600 _ j h1 h2
    unfold t_wd at h3
    simp only [Bool.and_eq_true] at h3
    exact h3.2
  have eV : t_vl tb n k = t_let tb (t_s tb n k) (t_P tb n (k + 1)) 6 := by
    unfold t_vl t_V
    rw [if_pos hs, if_pos hl, if_neg (fun q => h6 (Or.inl q)), if_neg (fun q => h6 (Or.inr q)), if_pos ho]
  have b := t_let_b (tb := tb) hall 6
  have c6 : (27 : Int) ^ 6 = 387420489 := by decide
  have e2 : (T_vl tb n k).toInt = t_let tb (t_s tb n k) (t_P tb n (k + 1)) 6 := T_vl_at eV (by omega) (by omega)
  rw [e2, m_let27]
  obtain ⟨s, hsd⟩ : ∃ s, s = t_s tb n k := ⟨_, rfl⟩
  obtain ⟨e, hed⟩ : ∃ e, e = t_P tb n (k + 1) := ⟨_, rfl⟩
  rw [← hsd, ← hed] at hall ⊢
  rw [← hsd, ← hed] at hgt
  have z : ∀ i : Nat, m_wc tb s e i = 0 → m_wc tb s e (i + 1) = 0 := fun i hi => by
    by_cases q : s + i < e
    · have h3 := m_wc_in hall q
      omega
    · exact m_wc_out (by omega)
  have h0 := m_wc_in hall (i := 0) (by omega)
  have b0 := m_wc_b hall 0
  exact ⟨_, _, _, _, _, _, ⟨by omega, b0.2⟩, m_wc_b hall 1, m_wc_b hall 2, m_wc_b hall 3, m_wc_b hall 4, m_wc_b hall 5, z 1, z 2, z 3, z 4, rfl⟩
theorem PN.lat {c0 c1 c2 c3 c4 c5 : Int} (b0 : 1 ≤ c0 ∧ c0 ≤ 26) (b1 : 0 ≤ c1 ∧ c1 ≤ 26) (b2 : 0 ≤ c2 ∧ c2 ≤ 26) (b3 : 0 ≤ c3 ∧ c3 ≤ 26) (b4 : 0 ≤ c4 ∧ c4 ≤ 26) (b5 : 0 ≤ c5 ∧ c5 ≤ 26) : l_at (m_f27 c0 c1 c2 c3 c4 c5) 0 = c0 ∧ l_at (m_f27 c0 c1 c2 c3 c4 c5) 1 = c1 ∧ l_at (m_f27 c0 c1 c2 c3 c4 c5) 2 = c2 ∧ l_at (m_f27 c0 c1 c2 c3 c4 c5) 3 = c3 ∧ l_at (m_f27 c0 c1 c2 c3 c4 c5) 4 = c4 ∧ l_at (m_f27 c0 c1 c2 c3 c4 c5) 5 = c5 := by
  unfold l_at l_dv m_f27
  rw [show (27 : Int) ^ ((5 : Int) - 0).toNat = 14348907 from by decide, show (27 : Int) ^ ((5 : Int) - 1).toNat = 531441 from by decide, show (27 : Int) ^ ((5 : Int) - 2).toNat = 19683 from by decide, show (27 : Int) ^ ((5 : Int) - 3).toNat = 729 from by decide, show (27 : Int) ^ ((5 : Int) - 4).toNat = 27 from by decide, show (27 : Int) ^ ((5 : Int) - 5).toNat = 1 from by decide]
  refine ⟨?_, ?_, ?_, ?_, ?_, ?_⟩ <;> omega
theorem m_ap_y {p d : Int} (h : d ≠ 0) : m_ap p d = 256 * p + (d + 96) := by
  unfold m_ap
  rw [if_neg h]
/-- both answer the same letter -/
theorem LT_tie (hp : PN v.toInt) (hw : w.toInt = m_WF v.toInt) (h1 : LTX v kk r1) (h2 : LTR w kk r2) (h0 : 0 ≤ kk.toInt) (h5 : kk.toInt < 6) : r1.toInt = r2.toInt := by
  obtain ⟨c0, c1, c2, c3, c4, c5, b0, b1, b2, b3, b4, b5, z1, z2, z3, z4, e⟩ := hp
  have hv : 0 ≤ v.toInt := by
    rw [e]
    unfold m_f27
    omega
  have a := h1.2 hv h0 h5
  obtain ⟨n, hn, hz, hy⟩ := h2
  obtain ⟨d0, d1, d2, d3, d4, d5⟩ := PN.lat b0 b1 b2 b3 b4 b5
  rw [e] at a hw
  rw [m_dig ⟨by omega, b0.2⟩ b1 b2 b3 b4 b5] at hw
  have hnum := hn.num
  have p0 := m_ap_y (p := 0) (d := c0) (by omega)
  have hk : kk.toInt = 0 ∨ kk.toInt = 1 ∨ kk.toInt = 2 ∨ kk.toInt = 3 ∨ kk.toInt = 4 ∨ kk.toInt = 5 := by omega
  have P0 : (256 : Int) ^ (0 : Int).toNat = 1 := by decide
  have P1 : (256 : Int) ^ (1 : Int).toNat = 256 := by decide
  have P2 : (256 : Int) ^ (2 : Int).toNat = 65536 := by decide
  have P3 : (256 : Int) ^ (3 : Int).toNat = 16777216 := by decide
  have P4 : (256 : Int) ^ (4 : Int).toNat = 4294967296 := by decide
  have P5 : (256 : Int) ^ (5 : Int).toNat = 1099511627776 := by decide
  -- what is told of one place: the reference's letter there
  have at_ : ∀ i : Int, i = n.toInt - 1 - kk.toInt → 0 ≤ i → r2.toInt = w.toInt / (256 : Int) ^ i.toNat % 256 - 96 := fun i hi h3 => by
    rw [hi]
    exact hy (by omega)
  by_cases q1 : c1 = 0
  · have q2 := z1 q1
    have q3 := z2 q2
    have q4 := z3 q3
    have q5 := z4 q4
    rw [m_ap_0 q5, m_ap_0 q4, m_ap_0 q3, m_ap_0 q2, m_ap_0 q1, p0] at hw
    have hn1 : n.toInt = 1 := by omega
    rcases hk with k | k | k | k | k | k <;> rw [k] at a
    · have t := at_ 0 (by omega) (by omega)
      rw [P0] at t
      omega
    all_goals have t := hz (by omega)
    all_goals omega
  have p1 := m_ap_y (p := m_ap 0 c0) (d := c1) q1
  by_cases q2 : c2 = 0
  · have q3 := z2 q2
    have q4 := z3 q3
    have q5 := z4 q4
    rw [m_ap_0 q5, m_ap_0 q4, m_ap_0 q3, m_ap_0 q2] at hw
    have hn1 : n.toInt = 2 := by omega
    rcases hk with k | k | k | k | k | k <;> rw [k] at a
    · have t := at_ 1 (by omega) (by omega)
      rw [P1] at t
      omega
    · have t := at_ 0 (by omega) (by omega)
      rw [P0] at t
      omega
    all_goals have t := hz (by omega)
    all_goals omega
  have p2 := m_ap_y (p := m_ap (m_ap 0 c0) c1) (d := c2) q2
  by_cases q3 : c3 = 0
  · have q4 := z3 q3
    have q5 := z4 q4
    rw [m_ap_0 q5, m_ap_0 q4, m_ap_0 q3] at hw
    have hn1 : n.toInt = 3 := by omega
    rcases hk with k | k | k | k | k | k <;> rw [k] at a
    · have t := at_ 2 (by omega) (by omega)
      rw [P2] at t
      omega
    · have t := at_ 1 (by omega) (by omega)
      rw [P1] at t
      omega
    · have t := at_ 0 (by omega) (by omega)
      rw [P0] at t
      omega
    all_goals have t := hz (by omega)
    all_goals omega
  have p3 := m_ap_y (p := m_ap (m_ap (m_ap 0 c0) c1) c2) (d := c3) q3
  by_cases q4 : c4 = 0
  · have q5 := z4 q4
    rw [m_ap_0 q5, m_ap_0 q4] at hw
    have hn1 : n.toInt = 4 := by omega
    rcases hk with k | k | k | k | k | k <;> rw [k] at a
    · have t := at_ 3 (by omega) (by omega)
      rw [P3] at t
      omega
    · have t := at_ 2 (by omega) (by omega)
      rw [P2] at t
      omega
    · have t := at_ 1 (by omega) (by omega)
      rw [P1] at t
      omega
    · have t := at_ 0 (by omega) (by omega)
      rw [P0] at t
      omega
    all_goals have t := hz (by omega)
    all_goals omega
  have p4 := m_ap_y (p := m_ap (m_ap (m_ap (m_ap 0 c0) c1) c2) c3) (d := c4) q4
  by_cases q5 : c5 = 0
  · rw [m_ap_0 q5] at hw
    have hn1 : n.toInt = 5 := by omega
    rcases hk with k | k | k | k | k | k <;> rw [k] at a
    · have t := at_ 4 (by omega) (by omega)
      rw [P4] at t
      omega
    · have t := at_ 3 (by omega) (by omega)
      rw [P3] at t
      omega
    · have t := at_ 2 (by omega) (by omega)
      rw [P2] at t
      omega
    · have t := at_ 1 (by omega) (by omega)
      rw [P1] at t
      omega
    · have t := at_ 0 (by omega) (by omega)
      rw [P0] at t
      omega
    · have t := hz (by omega)
      omega
  · have p5 := m_ap_y (p := m_ap (m_ap (m_ap (m_ap (m_ap 0 c0) c1) c2) c3) c4) (d := c5) q5
    have hn1 : n.toInt = 6 := by omega
    rcases hk with k | k | k | k | k | k <;> rw [k] at a
    · have t := at_ 5 (by omega) (by omega)
      rw [P5] at t
      omega
    · have t := at_ 4 (by omega) (by omega)
      rw [P4] at t
      omega
    · have t := at_ 3 (by omega) (by omega)
      rw [P3] at t
      omega
    · have t := at_ 2 (by omega) (by omega)
      rw [P2] at t
      omega
    · have t := at_ 1 (by omega) (by omega)
      rw [P1] at t
      omega
    · have t := at_ 0 (by omega) (by omega)
      rw [P0] at t
      omega
/-! all names that a MINE tells are words of its text -/
def NMS (kd vl : Nat → Int32) (σ : y_S) : Prop := (∀ v ∈ σ.2.1, ∃ k : Nat, (kd k).toInt = 2 ∧ v = (vl k).toInt) ∧ ∀ v ∈ σ.2.2.2.1, ∃ k : Nat, (kd k).toInt = 2 ∧ v = (vl k).toInt
theorem NMS.add {L : List Int} (h : ∀ v ∈ L, ∃ k : Nat, (kd k).toInt = 2 ∧ v = (vl k).toInt) {j : Nat} (hj : (kd j).toInt = 2) : ∀ v ∈ L ++ [(vl j).toInt], ∃ k : Nat, (kd k).toInt = 2 ∧ v = (vl k).toInt := fun v hv => by
  rcases List.mem_append.mp hv with q | q
  · exact h v q
  · rw [List.mem_singleton] at q
    exact ⟨j, hj, q⟩
theorem NMS.st (h : NMS kd vl σ) {k' : Nat} (e : y_st kd vl σ k = some (σ', k')) : NMS kd vl σ' := by
  obtain ⟨q, M, P, O, r0, r1, r2⟩ := σ
  have same : ∀ (σ1 : y_S) (E : Option Nat), E.map (fun k' => (σ1, k')) = some (σ', k') → σ' = σ1 := fun σ1 E z => by
    obtain ⟨x, -, y⟩ := Option.map_eq_some_iff.mp z
    exact (congrArg Prod.fst y).symm
  have e0 := e
  unfold y_st at e0
  have cc : ∀ {a b : Option (y_S × Nat)} {c : Bool} {r : Option (y_S × Nat)}, (if c = true then a else b) = r → (c = true ∧ a = r) ∨ b = r := fun {a b c r} z => by
    cases c with
    | true => exact Or.inl ⟨rfl, z⟩
    | false => exact Or.inr z
  rcases cc e0 with ⟨-, z⟩ | e1
  · rw [same _ _ z]; exact h
  rcases cc e1 with ⟨-, z⟩ | e2
  · rw [same _ _ z]; exact h
  rcases cc e2 with ⟨-, z⟩ | e3
  · rw [same _ _ z]; exact h
  rcases cc e3 with ⟨-, z⟩ | e4
  · rw [same _ _ z]; exact h
  rcases cc e4 with ⟨-, z⟩ | e5
  · by_cases c : M.length = 6
    · rw [if_pos c] at z; cases z
    · rw [if_neg c] at z
      obtain ⟨x, hx, -⟩ := Option.map_eq_some_iff.mp z
      rw [same _ _ z]
      exact ⟨NMS.add h.1 (y_new_o hx).1, h.2⟩
  rcases cc e5 with ⟨-, z⟩ | e6
  · by_cases c : P = 16
    · rw [if_pos c] at z; cases z
    · rw [if_neg c] at z
      rw [same _ _ z]; exact h
  rcases cc e6 with ⟨-, z⟩ | e7
  · by_cases c : O.length = 5
    · rw [if_pos c] at z; cases z
    · rw [if_neg c] at z
      obtain ⟨x, hx, -⟩ := Option.map_eq_some_iff.mp z
      obtain ⟨k1, hk1, -⟩ := Option.bind_eq_some_iff.mp hx
      rw [same _ _ z]
      exact ⟨h.1, NMS.add h.2 (y_new_o hk1).1⟩
  rcases cc e7 with ⟨-, z⟩ | e8
  · rcases cc z with ⟨-, z2⟩ | z2
    · cases z2
    · rw [same _ _ z2]; exact h
  rcases cc e8 with ⟨-, z⟩ | e9
  · rcases cc z with ⟨-, z2⟩ | z2
    · cases z2
    · rw [same _ _ z2]; exact h
  rcases cc e9 with ⟨-, z⟩ | e10
  · rcases cc z with ⟨-, z2⟩ | z2
    · cases z2
    · rw [same _ _ z2]; exact h
  · cases e10
theorem NMS.go : ∀ (f i : Nat) (σ : y_S) (k : Nat), NMS kd vl σ → y_go kd vl f i σ k = some (m, σ') → NMS kd vl σ'
  | 0, i, σ, k, h, e => by
    unfold y_go at e
    split at e
    · cases e; exact h
    · cases e
  | f + 1, i, σ, k, h, e => by
    unfold y_go at e
    split at e
    · cases e; exact h
    · obtain ⟨⟨σ1, k1⟩, h1, e1⟩ := Option.bind_eq_some_iff.mp e
      obtain ⟨k2, -, e2⟩ := Option.bind_eq_some_iff.mp e1
      refine NMS.go f (i + 1) σ1 k2 ?_ e2
      unfold y_one at h1
      split at h1
      · obtain ⟨x, -, y⟩ := Option.map_eq_some_iff.mp h1
        have e9 : ((((vl (k + 1)).toInt, (vl (k + 3)).toInt), σ.2) : y_S) = σ1 := congrArg Prod.fst y
        rw [← e9]
        exact h
      · exact h.st h1
theorem y_mine_names (e : y_mine (T_kd tb n) (T_vl tb n) = some (m, σ)) : (∀ v ∈ σ.2.1, PN v) ∧ ∀ v ∈ σ.2.2.2.1, PN v := by
  have h0 : NMS (T_kd tb n) (T_vl tb n) y_0 := ⟨fun v hv => absurd hv List.not_mem_nil, fun v hv => absurd hv List.not_mem_nil⟩
  have h := NMS.go 80 0 y_0 0 h0 e
  refine ⟨fun v hv => ?_, fun v hv => ?_⟩
  · obtain ⟨k, h1, h2⟩ := h.1 v hv
    rw [h2]
    exact PN.tok h1
  · obtain ⟨k, h1, h2⟩ := h.2 v hv
    rw [h2]
    exact PN.tok h1
end PNS
