/-! the reference's STATEMENTS: what they tell (over zm) -/
theorem m_nm_get {row : Nat → Int64} {off m i : Nat} (h : i < m) : (m_nm row off m)[i]? = some (m_WG (row (off + i)).toInt) := by
  unfold m_nm
  rw [List.getElem?_map, List.getElem?_range h]
  rfl
section ZN
variable {σ σ' : y_S} {S S1 S2 : dg_S} {WF : List (Nat × Nat)} {WA : List Nat} {ii mi fk f1 f2 a1 a2 cnt : Int32} {tb : Nat → Int32} {n k k' i : Nat} {kd vl : Nat → Int32} {d : k_D} {T : Option (y_S × Nat)}
theorem GSM.ix (h : GSM σ S) (fi : S.1 0 35 = .int ii) (fm : S.2.1 8 ii.toNatClampNeg = mi) {p v : Int} (hp : p = m_WF v) (hv : m_WG p = v) {r : Nat} (hr : r < mi.toNatClampNeg) (e : (S.2.2 20 (6 * ii.toNatClampNeg + r)).toInt = p) (ne : ∀ j : Nat, j < r → (S.2.2 20 (6 * ii.toNatClampNeg + j)).toInt ≠ p) : z_ix σ.2.1 v = r := by
  obtain ⟨-, es, o1, -⟩ := h.at fi
  rw [es]
  unfold GSv
  rw [fm] at o1 ⊢
  show z_ix (m_nm (S.2.2 20) (6 * ii.toNatClampNeg) mi.toNatClampNeg) v = _
  refine z_ix_of _ r (by rw [m_nm_get hr, e, hv]) (fun j hj z => ?_)
  rw [m_nm_get (by omega)] at z
  have z1 := Option.some.inj z
  have z2 := o1 j (by omega)
  rw [z1, ← hp] at z2
  exact ne j hj z2.symm
/-- what a STATEMENT does to the bank -/
def KMT (kd vl : Nat → Int32) (σ : y_S) (k : Nat) (S S1 : dg_S) : Prop := ∀ d : k_D, kI σ d → km d S → km (k_st kd vl σ k d) S1
theorem kI.mk {G : aR} {K : Nat → List Int} (h : G 0 0 = σ.1.1 ∧ G 0 1 = σ.1.2 ∧ G 0 5 = σ.2.1.length ∧ G 0 6 = σ.2.2.1 ∧ G 0 7 = σ.2.2.2.1.length) : kI σ (G, K) := h
theorem kI.z : kI y_0 k_0 := ⟨rfl, rfl, rfl, rfl, rfl⟩
theorem zn_u {G : aR} {j b : Nat} {v : Int} (h : b ≠ j) : s_up G 0 j v 0 b = G 0 b := s_up_i h
/-- numbers of what has been told, and what the bank holds, side by side -/
theorem kI.step (h : y_one kd vl i σ k = some (σ', k')) (hI : kI σ d) : kI σ' (k_st kd vl σ k d) := by
  obtain ⟨j0, j1, j5, j6, j7⟩ := hI
  unfold y_one at h
  by_cases q : i = 0
  · rw [if_pos q] at h
    obtain ⟨x, hx, e⟩ := Option.map_eq_some_iff.mp h
    cases e
    unfold y_seam at hx
    obtain ⟨k1, h1, -⟩ := Option.bind_eq_some_iff.mp hx
    have hv := (g_o_iff.mp (y_own_o h1).1).2
    rw [k_st_0 hv]
    refine ⟨?_, ?_, ?_, ?_, ?_⟩
    · show s_up (s_up (s_up d.1 0 0 (vl (k + 1)).toInt) 0 1 (vl (k + 3)).toInt) 0 2 0 0 0 = (vl (k + 1)).toInt
      rw [s_up_i (show (0 : Nat) ≠ 2 by decide), s_up_i (show (0 : Nat) ≠ 1 by decide), s_up_at]
    · show s_up (s_up (s_up d.1 0 0 (vl (k + 1)).toInt) 0 1 (vl (k + 3)).toInt) 0 2 0 0 1 = (vl (k + 3)).toInt
      rw [s_up_i (show (1 : Nat) ≠ 2 by decide), s_up_at]
    · show s_up (s_up (s_up d.1 0 0 (vl (k + 1)).toInt) 0 1 (vl (k + 3)).toInt) 0 2 0 0 5 = _
      rw [s_up_i (show (5 : Nat) ≠ 2 by decide), s_up_i (show (5 : Nat) ≠ 1 by decide), s_up_i (show (5 : Nat) ≠ 0 by decide)]
      exact j5
    · show s_up (s_up (s_up d.1 0 0 (vl (k + 1)).toInt) 0 1 (vl (k + 3)).toInt) 0 2 0 0 6 = _
      rw [s_up_i (show (6 : Nat) ≠ 2 by decide), s_up_i (show (6 : Nat) ≠ 1 by decide), s_up_i (show (6 : Nat) ≠ 0 by decide)]
      exact j6
    · show s_up (s_up (s_up d.1 0 0 (vl (k + 1)).toInt) 0 1 (vl (k + 3)).toInt) 0 2 0 0 7 = _
      rw [s_up_i (show (7 : Nat) ≠ 2 by decide), s_up_i (show (7 : Nat) ≠ 1 by decide), s_up_i (show (7 : Nat) ≠ 0 by decide)]
      exact j7
  · rw [if_neg q] at h
    obtain ⟨q0, M, P, O, r0, r1, r2⟩ := σ
    by_cases hk : (kd k).toInt = 1
    rotate_left
    · rw [y_st_no (Or.inl hk)] at h
      cases h
    by_cases w2 : (vl k).toInt = 2
    · rw [y_st_2 hk w2] at h
      obtain ⟨x, -, e⟩ := Option.map_eq_some_iff.mp h
      cases e
      rw [k_st_2 w2]
      refine ⟨?_, ?_, ?_, ?_, ?_⟩
      · show s_up d.1 0 2 (vl (k + 1)).toInt 0 0 = _
        rw [s_up_i (show (0 : Nat) ≠ 2 by decide)]
        exact j0
      · show s_up d.1 0 2 (vl (k + 1)).toInt 0 1 = _
        rw [s_up_i (show (1 : Nat) ≠ 2 by decide)]
        exact j1
      · show s_up d.1 0 2 (vl (k + 1)).toInt 0 5 = _
        rw [s_up_i (show (5 : Nat) ≠ 2 by decide)]
        exact j5
      · show s_up d.1 0 2 (vl (k + 1)).toInt 0 6 = _
        rw [s_up_i (show (6 : Nat) ≠ 2 by decide)]
        exact j6
      · show s_up d.1 0 2 (vl (k + 1)).toInt 0 7 = _
        rw [s_up_i (show (7 : Nat) ≠ 2 by decide)]
        exact j7
    by_cases w3 : (vl k).toInt = 3
    · rw [y_st_3 hk w3] at h
      obtain ⟨x, -, e⟩ := Option.map_eq_some_iff.mp h
      cases e
      rw [k_st_3 w3]
      refine ⟨?_, ?_, ?_, ?_, ?_⟩
      · show s_up d.1 0 3 (vl (k + 1)).toInt 0 0 = _
        rw [s_up_i (show (0 : Nat) ≠ 3 by decide)]
        exact j0
      · show s_up d.1 0 3 (vl (k + 1)).toInt 0 1 = _
        rw [s_up_i (show (1 : Nat) ≠ 3 by decide)]
        exact j1
      · show s_up d.1 0 3 (vl (k + 1)).toInt 0 5 = _
        rw [s_up_i (show (5 : Nat) ≠ 3 by decide)]
        exact j5
      · show s_up d.1 0 3 (vl (k + 1)).toInt 0 6 = _
        rw [s_up_i (show (6 : Nat) ≠ 3 by decide)]
        exact j6
      · show s_up d.1 0 3 (vl (k + 1)).toInt 0 7 = _
        rw [s_up_i (show (7 : Nat) ≠ 3 by decide)]
        exact j7
    by_cases w4 : (vl k).toInt = 4
    · rw [y_st_4 hk w4] at h
      obtain ⟨x, -, e⟩ := Option.map_eq_some_iff.mp h
      cases e
      rw [k_st_4 w4]
      refine ⟨?_, ?_, ?_, ?_, ?_⟩
      · show s_up d.1 0 4 (vl (k + 1)).toInt 0 0 = _
        rw [s_up_i (show (0 : Nat) ≠ 4 by decide)]
        exact j0
      · show s_up d.1 0 4 (vl (k + 1)).toInt 0 1 = _
        rw [s_up_i (show (1 : Nat) ≠ 4 by decide)]
        exact j1
      · show s_up d.1 0 4 (vl (k + 1)).toInt 0 5 = _
        rw [s_up_i (show (5 : Nat) ≠ 4 by decide)]
        exact j5
      · show s_up d.1 0 4 (vl (k + 1)).toInt 0 6 = _
        rw [s_up_i (show (6 : Nat) ≠ 4 by decide)]
        exact j6
      · show s_up d.1 0 4 (vl (k + 1)).toInt 0 7 = _
        rw [s_up_i (show (7 : Nat) ≠ 4 by decide)]
        exact j7
    by_cases w5 : (vl k).toInt = 5
    · rw [y_st_5 hk w5] at h
      obtain ⟨x, -, e⟩ := Option.map_eq_some_iff.mp h
      cases e
      rw [k_st_5 w5]
      have u : ∀ (n : Nat) (x : Int) (b : Nat), s_up d.1 1 n x 0 b = d.1 0 b := fun n x b => s_up_r (show (0 : Nat) ≠ 1 by decide)
      exact kI.mk ⟨(u _ _ 0).trans j0, (u _ _ 1).trans j1, (u _ _ 5).trans j5, (u _ _ 6).trans j6, (u _ _ 7).trans j7⟩
    by_cases w6 : (vl k).toInt = 6
    · rw [y_st_6 hk w6] at h
      by_cases z : M.length = 6
      · rw [if_pos z] at h
        cases h
      rw [if_neg z] at h
      obtain ⟨x, -, e⟩ := Option.map_eq_some_iff.mp h
      cases e
      rw [k_st_6 w6]
      refine ⟨?_, ?_, ?_, ?_, ?_⟩
      · show s_up d.1 0 5 (d.1 0 5 + 1) 0 0 = _
        rw [s_up_i (show (0 : Nat) ≠ 5 by decide)]
        exact j0
      · show s_up d.1 0 5 (d.1 0 5 + 1) 0 1 = _
        rw [s_up_i (show (1 : Nat) ≠ 5 by decide)]
        exact j1
      · show s_up d.1 0 5 (d.1 0 5 + 1) 0 5 = (((M ++ [(vl (k + 1)).toInt]).length : Nat) : Int)
        rw [s_up_at, j5, List.length_append]
        rfl
      · show s_up d.1 0 5 (d.1 0 5 + 1) 0 6 = _
        rw [s_up_i (show (6 : Nat) ≠ 5 by decide)]
        exact j6
      · show s_up d.1 0 5 (d.1 0 5 + 1) 0 7 = _
        rw [s_up_i (show (7 : Nat) ≠ 5 by decide)]
        exact j7
    by_cases w7 : (vl k).toInt = 7
    · rw [y_st_7 hk w7] at h
      by_cases z : P = 16
      · rw [if_pos z] at h
        cases h
      rw [if_neg z] at h
      obtain ⟨x, -, e⟩ := Option.map_eq_some_iff.mp h
      cases e
      rw [k_st_7 w7]
      have u : ∀ j, j ≠ 6 → ∀ (a b : Int) (m : Nat), (s_up (s_up (s_up d.1 5 m a) 6 m b) 0 6 (d.1 0 6 + 1)) 0 j = d.1 0 j := fun j hj a b m => by rw [s_up_i hj, s_up_r (show (0 : Nat) ≠ 6 by decide), s_up_r (show (0 : Nat) ≠ 5 by decide)]
      refine kI.mk ⟨(u 0 (by decide) _ _ _).trans j0, (u 1 (by decide) _ _ _).trans j1, (u 5 (by decide) _ _ _).trans j5, ?_, (u 7 (by decide) _ _ _).trans j7⟩
      refine Eq.trans s_up_at ?_
      rw [j6]
      rfl
    by_cases w9 : (vl k).toInt = 9
    · rw [y_st_9 hk w9] at h
      by_cases z : O.length = 5
      · rw [if_pos z] at h
        cases h
      rw [if_neg z] at h
      obtain ⟨x, -, e⟩ := Option.map_eq_some_iff.mp h
      cases e
      rw [k_st_9 w9]
      have u : ∀ j, j ≠ 7 → ∀ (a b c : Int) (m : Nat), (s_up (s_up (s_up (s_up d.1 2 m a) 3 m b) 4 m c) 0 7 (d.1 0 7 + 1)) 0 j = d.1 0 j := fun j hj a b c m => by rw [s_up_i hj, s_up_r (show (0 : Nat) ≠ 4 by decide), s_up_r (show (0 : Nat) ≠ 3 by decide), s_up_r (show (0 : Nat) ≠ 2 by decide)]
      refine kI.mk ⟨(u 0 (by decide) _ _ _ _).trans j0, (u 1 (by decide) _ _ _ _).trans j1, (u 5 (by decide) _ _ _ _).trans j5, (u 6 (by decide) _ _ _ _).trans j6, ?_⟩
      refine Eq.trans s_up_at ?_
      rw [j7]
      show ((O.length : Nat) : Int) + 1 = (((O ++ [(vl (k + 1)).toInt]).length : Nat) : Int)
      rw [List.length_append]
      rfl
    by_cases w12 : (vl k).toInt = 12
    · rw [y_st_12 hk w12] at h
      cases r0 with
      | true => cases h
      | false =>
        obtain ⟨x, -, e⟩ := Option.map_eq_some_iff.mp h
        cases e
        rw [k_st_r (by omega)]
        exact ⟨j0, j1, j5, j6, j7⟩
    by_cases w13 : (vl k).toInt = 13
    · rw [y_st_13 hk w13] at h
      cases r1 with
      | true => cases h
      | false =>
        obtain ⟨x, -, e⟩ := Option.map_eq_some_iff.mp h
        cases e
        rw [k_st_r (by omega)]
        exact ⟨j0, j1, j5, j6, j7⟩
    by_cases w14 : (vl k).toInt = 14
    · rw [y_st_14 hk w14] at h
      cases r2 with
      | true => cases h
      | false =>
        obtain ⟨x, -, e⟩ := Option.map_eq_some_iff.mp h
        cases e
        rw [k_st_r (by omega)]
        exact ⟨j0, j1, j5, j6, j7⟩
    rw [y_st_no (Or.inr ⟨w2, w3, w4, w5, w6, w7, w9, w12, w13, w14⟩)] at h
    cases h
/-- nothing of it is written -/
theorem km.keep (h : km d S) (m : dg_sm shM WF WA S S1) (h35 : (0, 35) ∉ WF) (h34 : (0, 34) ∉ WF) (hA : ∀ r, 4 ≤ r → r ≤ 19 → r ≠ 8 → r ≠ 9 → r ≠ 12 → r ∉ WA) : km d S1 :=
  km.same (G := d.1) (K := d.2) h (m.1 0 35 _ sM_0 h35) (m.1 0 34 _ sM_0 h34) (m.2 4 _ sM_4 (hA 4 (by decide) (by decide) (by decide) (by decide) (by decide))).1 (m.2 5 _ sM_5 (hA 5 (by decide) (by decide) (by decide) (by decide) (by decide))).1 (m.2 6 _ sM_6 (hA 6 (by decide) (by decide) (by decide) (by decide) (by decide))).1 (m.2 7 _ sM_7 (hA 7 (by decide) (by decide) (by decide) (by decide) (by decide))).1 (m.2 10 _ sM_10 (hA 10 (by decide) (by decide) (by decide) (by decide) (by decide))).1 (m.2 11 _ sM_11 (hA 11 (by decide) (by decide) (by decide) (by decide) (by decide))).1 (m.2 13 _ sM_13 (hA 13 (by decide) (by decide) (by decide) (by decide) (by decide))).1 (m.2 14 _ sM_14 (hA 14 (by decide) (by decide) (by decide) (by decide) (by decide))).1 (m.2 15 _ sM_15 (hA 15 (by decide) (by decide) (by decide) (by decide) (by decide))).1 (m.2 16 _ sM_16 (hA 16 (by decide) (by decide) (by decide) (by decide) (by decide))).1 (m.2 17 _ sM_17 (hA 17 (by decide) (by decide) (by decide) (by decide) (by decide))).1 (m.2 18 _ sM_18 (hA 18 (by decide) (by decide) (by decide) (by decide) (by decide))).1 (m.2 19 _ sM_19 (hA 19 (by decide) (by decide) (by decide) (by decide) (by decide))).1
/-- before the first STATEMENT -/
theorem km.start {w : Value} (f35 : S.1 0 35 = .int ii) (h0 : 0 ≤ ii.toInt) (r4 : (S.2.1 4 ii.toNatClampNeg).toInt = 0) (r5 : (S.2.1 5 ii.toNatClampNeg).toInt = 3) (r6 : (S.2.1 6 ii.toNatClampNeg).toInt = 0) (r7 : ∀ c : Nat, c < 64 → (S.2.1 7 (64 * ii.toNatClampNeg + c)).toInt = 5) (r16 : ∀ w : Nat, w < 3 → (S.2.1 16 (3 * ii.toNatClampNeg + w)).toInt = -1) (e : S1 = dg_uF S 0 34 w) : km k_0 S1 := by
  subst e
  exact ⟨ii, (dg_uF_ne rfl (fun z => absurd z.2 (by decide))).trans f35, h0, r4, r5, r6, r7, fun k _ hk => absurd hk (by show ¬ ((k : Int) < 0); omega), fun k _ hk => absurd hk (by show ¬ ((k : Int) < 0); omega), fun w hw => Or.inl ⟨rfl, r16 w hw⟩⟩
/-- grades, before any is told -/
def GTM (S : dg_S) (ii : Int32) (m : Int) : Prop := ∀ j : Nat, (j : Int) < m → (S.2.1 7 (64 * ii.toNatClampNeg + j)).toInt = 5
theorem GTM.z {m : Int} (h : m = 0) : GTM S ii m := fun j hj => absurd hj (by omega)
theorem GTM.to {m m' : Int} (h : GTM S ii m) (e : m' = m) : GTM S ii m' := by rw [e]; exact h
theorem GTM.all (h : GTM S ii 64) : ∀ c : Nat, c < 64 → (S.2.1 7 (64 * ii.toNatClampNeg + c)).toInt = 5 := fun c hc => h c (by omega)
theorem GTM.keep {m : Int} (h : GTM S ii m) (M : dg_sm shM WF WA S S1) (h7 : 7 ∉ WA) : GTM S1 ii m := fun j hj => by rw [(M.2 7 _ sM_7 h7).1]; exact h j hj
theorem GTM.step {m m' : Int} {x v : Int32} (h : GTM S ii m) (e : S1 = dg_uf S 7 (upd (S.2.1 7) x.toNatClampNeg v)) (hx : x.toInt = 64 * ii.toInt + m) (h0 : 0 ≤ ii.toInt ∧ 0 ≤ m) (hv : v.toInt = 5) (hm : m' = m + 1) : GTM S1 ii m' := by
  intro j hj
  have cx := dk_clN x
  have ci := dk_clN ii
  rw [dg_uf_at e]
  by_cases z : j = m.toNat
  · rw [upd_at (by omega)]
    exact hv
  · rw [dk_upd_o (by omega)]
    exact h j (by omega)
theorem y_seam_0 {f : Nat → y_S × Nat} {p : y_S × Nat} (h : (y_seam kd vl k).map f = some p) (hk : k = 0) : (vl 0).toInt = 0 := by
  subst hk
  obtain ⟨x, hx, -⟩ := Option.map_eq_some_iff.mp h
  unfold y_seam at hx
  obtain ⟨k1, h1, -⟩ := Option.bind_eq_some_iff.mp hx
  exact (g_o_iff.mp (y_own_o h1).1).2
/-- what is told of sizes stays -/
theorem GSv.same9 {i : Nat} (h : kI (GSv S i) d) (e2 : S1.2.1 2 = S.2.1 2) (e3 : S1.2.1 3 = S.2.1 3) (e8 : S1.2.1 8 = S.2.1 8) (e9 : S1.2.1 9 = S.2.1 9) (e12 : S1.2.1 12 = S.2.1 12) (e16 : S1.2.1 16 = S.2.1 16) (e20 : S1.2.2 20 = S.2.2 20) (e21 : S1.2.2 21 = S.2.2 21) : kI (GSv S1 i) d := by
  have e : GSv S1 i = GSv S i := by
    unfold GSv
    rw [e2, e3, e8, e9, e12, e16, e20, e21]
  rw [e]
  exact h
/-- what has been told, STATEMENT by STATEMENT -/
def KMN (tb : Nat → Int32) (n : Nat) (cnt f a ii : Int32) (S : dg_S) : Prop := f.toInt = 0 → ∃ d : k_D, z_at (T_kd tb n) (T_vl tb n) (k_st (T_kd tb n) (T_vl tb n)) k_0 cnt.toNatClampNeg (GSv S ii.toNatClampNeg) d (t_ix tb n a.toNatClampNeg) ∧ kI (GSv S ii.toNatClampNeg) d ∧ km d S
theorem KMN.stp (h0 : z_at (T_kd tb n) (T_vl tb n) (k_st (T_kd tb n) (T_vl tb n)) k_0 i σ d k) (hI : kI σ d) (hz : ¬ (i ≠ 0 ∧ (T_kd tb n k).toInt = 0)) (hi : i ≠ 80) (e : y_one (T_kd tb n) (T_vl tb n) i σ k = T) (hS : SOK tb n fk T S1) (hf0 : fk.toInt = 0) (p8 : S1.1 0 8 = .int f1) (p4 : S1.1 0 4 = .int a1) (hc : (cnt.toNatClampNeg : Int) = (i : Int) + 1) (F : f1.toInt = 0 → (f2.toInt = 0 → g_tk (T_kd tb n) (T_vl tb n) 59 (t_ix tb n a1.toNatClampNeg) = some (t_ix tb n a2.toNatClampNeg) ∧ (cnt.toInt = 80 → (T_kd tb n (t_ix tb n a2.toNatClampNeg)).toInt = 0)) ∧ (f2.toInt ≠ 0 → g_tk (T_kd tb n) (T_vl tb n) 59 (t_ix tb n a1.toNatClampNeg) = none ∨ (cnt.toInt = 80 ∧ ∃ k9 : Nat, g_tk (T_kd tb n) (T_vl tb n) 59 (t_ix tb n a1.toNatClampNeg) = some k9 ∧ (T_kd tb n k9).toInt ≠ 0))) (hff : f1.toInt ≠ 0 → f2.toInt ≠ 0) (m : dg_sm shM WF WA S1 S2) (h35 : (0, 35) ∉ WF) (h34 : (0, 34) ∉ WF) (hA : ∀ r, 2 ≤ r → r ≤ 21 → r ∉ WA) (fi : S2.1 0 35 = .int ii) (hd : f1.toInt = 0 → ∀ p, T = some p → km (k_st (T_kd tb n) (T_vl tb n) σ k d) S1) : KMN tb n cnt f2 a2 ii S2 := by
  intro q2
  have q1 : f1.toInt = 0 := by
    by_cases q1 : f1.toInt = 0
    · exact q1
    · exact absurd q2 (hff q1)
  obtain ⟨σ', g, h⟩ := (hS hf0 f1 a1 p8 p4).1 q1
  have a := ((F q1).1 q2).1
  have hB : ∀ r, 2 ≤ r → r ≤ 21 → r ∉ WA := hA
  have g2 := ((g.keep m h35 (hB 2 (by decide) (by decide)) (hB 3 (by decide) (by decide)) (hB 8 (by decide) (by decide)) (hB 9 (by decide) (by decide)) (hB 12 (by decide) (by decide)) (hB 16 (by decide) (by decide)) (hB 20 (by decide) (by decide)) (hB 21 (by decide) (by decide))).at fi).2.1
  refine ⟨_, ?_, ?_, (hd q1 _ h).keep m h35 h34 (fun r h1 h2 _ _ _ => hB r (by omega) (by omega))⟩
  · rw [← g2]
    exact h0.next hi hz (by rw [e, h]) a (by omega)
  · rw [← g2]
    exact kI.step (e.trans h) hI
theorem KMN.done (h : KMN tb n cnt f1 a1 ii S) (hf : f1.toInt = 0) (hc : 1 ≤ cnt.toInt) (hz : (T_kd tb n (t_ix tb n a1.toNatClampNeg)).toInt = 0) : kI (GSv S ii.toNatClampNeg) (z_all (T_kd tb n) (T_vl tb n) (k_st (T_kd tb n) (T_vl tb n)) k_0) ∧ km (z_all (T_kd tb n) (T_vl tb n) (k_st (T_kd tb n) (T_vl tb n)) k_0) S := by
  obtain ⟨d, h1, h2, h3⟩ := h hf
  rw [h1.done (by have h9 := dk_clN cnt; omega) hz]
  exact ⟨h2, h3⟩
end ZN
