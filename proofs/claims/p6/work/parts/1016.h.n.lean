/-! the reference's next sign, as it lies in its fields -/
def TKA (tb : Nat → Int32) (n k : Nat) (S : dg_S) : Prop := (∀ j : Nat, j < k → t_s tb n j < n) ∧ ∃ (sg sa se va lx : Int32) (wd : Int64), S.1 0 3 = .int sg ∧ S.1 0 4 = .int sa ∧ S.1 0 5 = .int se ∧ S.1 0 6 = .int va ∧ S.1 0 7 = .long wd ∧ S.1 0 12 = .int lx ∧ sa.toNatClampNeg = t_s tb n k ∧ se.toNatClampNeg = t_P tb n (k + 1) ∧ k_tok (T_kd tb n) (T_vl tb n) k sg va lx wd
/-- the text and how long it is -/
def TZM (tb : Nat → Int32) (n : Nat) (S : dg_S) : Prop := S.2.1 1 = tb ∧ n ≤ 1600 ∧ ∃ sl : Int32, S.1 0 2 = .int sl ∧ sl.toNatClampNeg = n
def TKM (tb : Nat → Int32) (n : Nat) (S : dg_S) : Prop := TZM tb n S ∧ ∃ k, TKA tb n k S
/-- kept from arithmetic's eyes -/
def m_hid (P : Prop) : Prop := P
theorem m_hid.mk {P : Prop} (h : P) : m_hid P := h
theorem m_hid.out {P : Prop} (h : m_hid P) : P := h
section TKS
variable {tb : Nat → Int32} {n k : Nat} {S S1 : dg_S} {WF : List (Nat × Nat)} {WA : List Nat} {sg sa se va lx sl : Int32} {wd : Int64}
theorem TZM.keep (h : TZM tb n S) (m : dg_sm shM WF WA S S1) (h2 : (0, 2) ∉ WF) (k1 : 1 ∉ WA) : TZM tb n S1 := by
  obtain ⟨a, b, sl, f, e⟩ := h
  exact ⟨(m.2 1 _ sM_1 k1).1.trans a, b, sl, (m.1 0 2 _ sM_0 h2).trans f, e⟩
theorem TZM.siz (h : TZM tb n S) (f : S.1 0 2 = .int sl) : sl.toNatClampNeg = n := by
  obtain ⟨-, -, sl', f', e⟩ := h
  cases f.symm.trans f'
  exact e
theorem TKA.keep (h : TKA tb n k S) (m : dg_sm shM WF WA S S1) (h3 : (0, 3) ∉ WF) (h4 : (0, 4) ∉ WF) (h5 : (0, 5) ∉ WF) (h6 : (0, 6) ∉ WF) (h7 : (0, 7) ∉ WF) (h12 : (0, 12) ∉ WF) : TKA tb n k S1 := by
  obtain ⟨a, sg, sa, se, va, lx, wd, f3, f4, f5, f6, f7, f12, e⟩ := h
  exact ⟨a, sg, sa, se, va, lx, wd, (m.1 0 3 _ sM_0 h3).trans f3, (m.1 0 4 _ sM_0 h4).trans f4, (m.1 0 5 _ sM_0 h5).trans f5, (m.1 0 6 _ sM_0 h6).trans f6, (m.1 0 7 _ sM_0 h7).trans f7, (m.1 0 12 _ sM_0 h12).trans f12, e⟩
theorem TKM.keep (h : TKM tb n S) (m : dg_sm shM WF WA S S1) (h2 : (0, 2) ∉ WF) (h3 : (0, 3) ∉ WF) (h4 : (0, 4) ∉ WF) (h5 : (0, 5) ∉ WF) (h6 : (0, 6) ∉ WF) (h7 : (0, 7) ∉ WF) (h12 : (0, 12) ∉ WF) (k1 : 1 ∉ WA) : TKM tb n S1 := by
  obtain ⟨a, k, b⟩ := h
  exact ⟨a.keep m h2 k1, k, b.keep m h3 h4 h5 h6 h7 h12⟩
/-- what is known of the next sign -/
theorem TKM.tok (h : TKM tb n S) (f3 : S.1 0 3 = .int sg) (f4 : S.1 0 4 = .int sa) (f6 : S.1 0 6 = .int va) (f7 : S.1 0 7 = .long wd) (f12 : S.1 0 12 = .int lx) : k_tok (T_kd tb n) (T_vl tb n) (t_ix tb n sa.toNatClampNeg) sg va lx wd := by
  obtain ⟨-, k, a, sg', sa', se', va', lx', wd', g3, g4, g5, g6, g7, g12, e1, e2, e3⟩ := h
  cases f3.symm.trans g3
  cases f4.symm.trans g4
  cases f6.symm.trans g6
  cases f7.symm.trans g7
  cases f12.symm.trans g12
  rw [t_ix_eq a e1.symm]
  exact e3
theorem TKM.ex (h : TKM tb n S) (f3 : S.1 0 3 = .int sg) (f4 : S.1 0 4 = .int sa) (f6 : S.1 0 6 = .int va) : ∃ (wd : Int64) (lx : Int32), S.1 0 7 = .long wd ∧ S.1 0 12 = .int lx ∧ k_tok (T_kd tb n) (T_vl tb n) (t_ix tb n sa.toNatClampNeg) sg va lx wd := by
  have h0 := h
  obtain ⟨-, k, a, sg', sa', se', va', lx', wd', g3, g4, g5, g6, g7, g12, e1, e2, e3⟩ := h
  exact ⟨wd', lx', g7, g12, h0.tok f3 f4 f6 g7 g12⟩
theorem TKM.lex (h : TKM tb n S) (f4 : S.1 0 4 = .int sa) (f12 : S.1 0 12 = .int lx) : lx.toInt = -1 ↔ (T_kd tb n (t_ix tb n sa.toNatClampNeg)).toInt ≠ 5 := by
  have h0 := h
  obtain ⟨-, k, a, sg', sa', se', va', lx', wd', g3, g4, g5, g6, g7, g12, e1, e2, e3⟩ := h
  exact (h0.tok g3 f4 g6 g7 f12).1
theorem TKM.zero (h : TKM tb n S) (f3 : S.1 0 3 = .int sg) (f4 : S.1 0 4 = .int sa) : sg.toInt = 0 ↔ (T_kd tb n (t_ix tb n sa.toNatClampNeg)).toInt = 0 := by
  have h0 := h
  obtain ⟨-, k, a, sg', sa', se', va', lx', wd', g3, g4, g5, g6, g7, g12, e1, e2, e3⟩ := h
  exact (h0.tok f3 f4 g6 g7 g12).2.1
theorem TKM.sgn (h : TKM tb n S) (f3 : S.1 0 3 = .int sg) (f4 : S.1 0 4 = .int sa) (f6 : S.1 0 6 = .int va) (h5 : (T_kd tb n (t_ix tb n sa.toNatClampNeg)).toInt ≠ 5) {c : Int} : g_s (T_kd tb n) (T_vl tb n) c (t_ix tb n sa.toNatClampNeg) = true ↔ sg.toInt = 3 ∧ va.toInt = c := by
  obtain ⟨wd, lx, f7, f12, e⟩ := h.ex f3 f4 f6
  obtain ⟨-, -, e⟩ := e
  obtain ⟨e3, e2, e1, ev, eo, en⟩ := e h5
  rw [g_s_iff]
  constructor
  · rintro ⟨a, b⟩
    exact ⟨e3.mpr a, by rw [ev (Or.inr a), b]⟩
  · rintro ⟨a, b⟩
    have a2 := e3.mp a
    exact ⟨a2, by rw [← ev (Or.inr a2), b]⟩
theorem TKM.num (h : TKM tb n S) (f3 : S.1 0 3 = .int sg) (f4 : S.1 0 4 = .int sa) (f6 : S.1 0 6 = .int va) (h5 : (T_kd tb n (t_ix tb n sa.toNatClampNeg)).toInt ≠ 5) : ((T_kd tb n (t_ix tb n sa.toNatClampNeg)).toInt = 3 ↔ sg.toInt = 2) ∧ (sg.toInt = 2 → va.toInt = (T_vl tb n (t_ix tb n sa.toNatClampNeg)).toInt) := by
  obtain ⟨wd, lx, f7, f12, e⟩ := h.ex f3 f4 f6
  obtain ⟨-, -, e⟩ := e
  obtain ⟨e3, e2, e1, ev, eo, en⟩ := e h5
  exact ⟨e2.symm, fun a => ev (Or.inl (e2.mp a))⟩
theorem TKM.wrd (h : TKM tb n S) (f3 : S.1 0 3 = .int sg) (f4 : S.1 0 4 = .int sa) (f7 : S.1 0 7 = .long wd) (h5 : (T_kd tb n (t_ix tb n sa.toNatClampNeg)).toInt ≠ 5) {j : Nat} (hj : j < 27) : g_o (T_kd tb n) (T_vl tb n) (j : Int) (t_ix tb n sa.toNatClampNeg) = true ↔ sg.toInt = 1 ∧ wd.toInt = m_WF (m_WL j) := by
  have h0 := h
  obtain ⟨-, k, a, sg', sa', se', va', lx', wd', g3, g4, g5, g6, g7, g12, e1, e2, e3⟩ := h
  obtain ⟨-, -, e⟩ := h0.tok f3 f4 g6 f7 g12
  obtain ⟨e3, e2, e1, ev, eo, en⟩ := e h5
  rw [g_o_iff]
  constructor
  · rintro ⟨a, b⟩
    have c := (eo a).2.2
    rw [b] at c
    exact ⟨e1.mpr (Or.inl a), by rw [c]; unfold m_cw; rw [Int.toNat_natCast]⟩
  · rintro ⟨a, b⟩
    rcases e1.mp a with q | q
    · obtain ⟨q1, q2, q3⟩ := eo q
      refine ⟨q, ?_⟩
      have q4 := m_cw_inj j hj (T_vl tb n (t_ix tb n sa.toNatClampNeg)).toInt.toNat (by omega) (by rw [← b, q3]; rfl)
      omega
    · exact absurd b ((en q).2.2 j hj)
theorem TKM.nam (h : TKM tb n S) (f3 : S.1 0 3 = .int sg) (f4 : S.1 0 4 = .int sa) (f7 : S.1 0 7 = .long wd) (h5 : (T_kd tb n (t_ix tb n sa.toNatClampNeg)).toInt ≠ 5) : ((T_kd tb n (t_ix tb n sa.toNatClampNeg)).toInt = 2 ↔ sg.toInt = 1 ∧ ∀ j : Nat, j < 27 → wd.toInt ≠ m_WF (m_WL j)) ∧ ((T_kd tb n (t_ix tb n sa.toNatClampNeg)).toInt = 2 → wd.toInt = m_WF (T_vl tb n (t_ix tb n sa.toNatClampNeg)).toInt ∧ m_WG wd.toInt = (T_vl tb n (t_ix tb n sa.toNatClampNeg)).toInt) := by
  have h0 := h
  obtain ⟨-, k, a, sg', sa', se', va', lx', wd', g3, g4, g5, g6, g7, g12, e1, e2, e3⟩ := h
  obtain ⟨-, -, e⟩ := h0.tok f3 f4 g6 f7 g12
  obtain ⟨e3, e2, e1, ev, eo, en⟩ := e h5
  refine ⟨⟨fun q => ⟨e1.mpr (Or.inr q), (en q).2.2⟩, fun q => ?_⟩, fun q => ⟨(en q).1, (en q).2.1⟩⟩
  rcases e1.mp q.1 with z | z
  · obtain ⟨q1, q2, q3⟩ := eo z
    exact absurd (by rw [q3]; rfl) (q.2 (T_vl tb n (t_ix tb n sa.toNatClampNeg)).toInt.toNat (by omega))
  · exact z
theorem TKM.w1 (h : TKM tb n S) (f3 : S.1 0 3 = .int sg) (f4 : S.1 0 4 = .int sa) (h5 : (T_kd tb n (t_ix tb n sa.toNatClampNeg)).toInt ≠ 5) : sg.toInt = 1 ↔ ((T_kd tb n (t_ix tb n sa.toNatClampNeg)).toInt = 1 ∨ (T_kd tb n (t_ix tb n sa.toNatClampNeg)).toInt = 2) := by
  have h0 := h
  obtain ⟨-, k, a, sg', sa', se', va', lx', wd', g3, g4, g5, g6, g7, g12, e1, e2, e3⟩ := h
  exact ((h0.tok f3 f4 g6 g7 g12).2.2 h5).2.2.1
/-- the sign behind -/
def TNX (tb : Nat → Int32) (n : Nat) (se : Int32) (S' : dg_S) : Prop := ∀ k : Nat, (∀ j : Nat, j < k → t_s tb n j < n) → t_sk tb n se.toNatClampNeg = t_s tb n k → TKA tb n k S'
theorem TKM.nx {sa' : Int32} (h : TKM tb n S) (f4 : S.1 0 4 = .int sa) (f5 : S.1 0 5 = .int se) (hn : TNX tb n se S1) (m : dg_sm shM WF WA S S1) (h2 : (0, 2) ∉ WF) (k1 : 1 ∉ WA) (f4' : S1.1 0 4 = .int sa') : TKM tb n S1 ∧ ((T_kd tb n (t_ix tb n sa.toNatClampNeg)).toInt ≠ 0 → t_ix tb n sa'.toNatClampNeg = t_ix tb n sa.toNatClampNeg + 1) ∧ ((T_kd tb n (t_ix tb n sa.toNatClampNeg)).toInt = 0 → t_ix tb n sa'.toNatClampNeg = t_ix tb n sa.toNatClampNeg) := by
  obtain ⟨z, k, a, sg', s4, s5, va', lx', wd', g3, g4, g5, g6, g7, g12, e1, e2, e3⟩ := h
  cases f4.symm.trans g4
  cases f5.symm.trans g5
  have ek := t_ix_eq a e1.symm
  have z1 := z.keep m h2 k1
  have hz : (T_kd tb n k).toInt = 0 ↔ ¬ t_s tb n k < n := by
    constructor
    · intro q r
      have q2 := e3.2.1
      unfold T_kd t_kd at q
      rw [if_pos r] at q
      unfold t_K at q
      split at q
      · split at q
        · exact absurd q (by decide +kernel)
        · split at q <;> exact absurd q (by decide +kernel)
      · split at q
        · split at q <;> exact absurd q (by decide +kernel)
        · exact absurd q (by decide +kernel)
    · intro q
      unfold T_kd t_kd
      rw [if_neg q]
      decide +kernel
  rw [ek]
  by_cases q : t_s tb n k < n
  · have a' : ∀ j : Nat, j < k + 1 → t_s tb n j < n := fun j hj => by
      by_cases w : j = k
      · rw [w]; exact q
      · exact a j (by omega)
    have t := hn (k + 1) a' (by rw [e2]; rfl)
    obtain ⟨b1, sg2, sa2, se2, va2, lx2, wd2, k3, k4, k5, k6, k7, k12, d1, d2, d3⟩ := id t
    cases f4'.symm.trans k4
    refine ⟨⟨z1, k + 1, t⟩, fun _ => t_ix_eq b1 d1.symm, fun w => absurd (hz.mp w) (by simpa using q)⟩
  · have e5 : t_s tb n k = n := by
      have := t_sk_le (b := tb) (t_P_le (b := tb) (n := n) k)
      have := t_s_def (b := tb) (n := n) (k := k)
      omega
    have t := hn k a (by
      rw [e2, t_P_e q, e5]
      exact t_sk_no (by unfold t_bk; simp))
    obtain ⟨b1, sg2, sa2, se2, va2, lx2, wd2, k3, k4, k5, k6, k7, k12, d1, d2, d3⟩ := id t
    cases f4'.symm.trans k4
    exact ⟨⟨z1, k, t⟩, fun w => absurd (hz.mpr q) w, fun _ => t_ix_eq b1 d1.symm⟩
/-- the first sign -/
theorem TZM.first {sa' : Int32} (h : TZM tb n S) (h0 : se.toInt = 0) (hn : TNX tb n se S1) (m : dg_sm shM WF WA S S1) (h2 : (0, 2) ∉ WF) (k1 : 1 ∉ WA) (f4' : S1.1 0 4 = .int sa') : TKM tb n S1 ∧ t_ix tb n sa'.toNatClampNeg = 0 := by
  have e0 := dk_clN se
  have t := hn 0 (fun j hj => absurd hj (Nat.not_lt_zero j)) (by rw [show se.toNatClampNeg = 0 by omega]; rfl)
  obtain ⟨b1, sg2, sa2, se2, va2, lx2, wd2, k3, k4, k5, k6, k7, k12, d1, d2, d3⟩ := id t
  cases f4'.symm.trans k4
  exact ⟨⟨h.keep m h2 k1, 0, t⟩, t_ix_eq b1 d1.symm⟩
/-! what the search for it knows -/
theorem t_sk_nx {a a' : Int32} (hn : n ≤ 1600) (ha : a.toNatClampNeg < n) (hb : t_b (tb a.toNatClampNeg) = true) (hj : a'.toInt = a.toInt + 1) (h0 : 0 ≤ a.toInt) : t_sk tb n a.toNatClampNeg = t_sk tb n a'.toNatClampNeg := by
  have e1 := dk_clN a
  have e2 := dk_clN a'
  rw [show a'.toNatClampNeg = a.toNatClampNeg + 1 by omega]
  exact (t_sk_yes hn (by unfold t_bk; rw [decide_eq_true ha, hb]; rfl)).symm
theorem t_sk_stay {a : Nat} (hb : t_b (tb a) = false) : t_sk tb n a = a := t_sk_no (by unfold t_bk; rw [hb]; simp)
theorem t_sk_over {a : Nat} (h : n ≤ a) : t_sk tb n a = a := t_sk_no (by unfold t_bk; rw [decide_eq_false (by omega)]; rfl)
theorem t_adj_y {a a1 v : Int32} (ha : 0 < a.toInt) (h1 : a1.toInt = a.toInt - 1) (kx : tb a1.toNatClampNeg = v) : t_adj tb a.toNatClampNeg = (t_l v || t_d v) := by
  have e1 := dk_clN a
  have e2 := dk_clN a1
  unfold t_adj
  rw [decide_eq_true (by omega), show a.toNatClampNeg - 1 = a1.toNatClampNeg by omega, kx]
  rfl
theorem t_lx_y {a a1 v lt dg x : Int32} (hf : lt.toInt = 1 ∨ dg.toInt = 1) (ha : 0 < a.toInt) (h1 : a1.toInt = a.toInt - 1) (kx : tb a1.toNatClampNeg = v) (hv : (97 ≤ v.toInt ∧ v.toInt ≤ 122) ∨ (48 ≤ v.toInt ∧ v.toInt ≤ 57)) (hx : x.toInt ≠ -1) : x.toInt ≠ -1 ↔ ((lt.toInt = 1 ∨ dg.toInt = 1) ∧ t_adj tb a.toNatClampNeg = true) := by
  refine ⟨fun _ => ⟨hf, ?_⟩, fun _ => hx⟩
  rw [t_adj_y ha h1 kx]
  rcases hv with q | q
  · rw [t_l_iff.mpr q]; rfl
  · rw [t_d_iff.mpr q]; simp
theorem t_lx_n {a a1 v lt dg x : Int32} (ha : 0 < a.toInt) (h1 : a1.toInt = a.toInt - 1) (kx : tb a1.toNatClampNeg = v) (hv : ¬ (97 ≤ v.toInt ∧ v.toInt ≤ 122)) (hv2 : ¬ (48 ≤ v.toInt ∧ v.toInt ≤ 57)) (hx : x.toInt = -1) : x.toInt ≠ -1 ↔ ((lt.toInt = 1 ∨ dg.toInt = 1) ∧ t_adj tb a.toNatClampNeg = true) := by
  refine ⟨fun q => absurd hx q, fun q => ?_⟩
  rw [t_adj_y ha h1 kx, t_l_f hv, t_d_f hv2] at q
  exact absurd q.2 (by decide)
theorem t_lx_z {a lt dg x : Int32} (h : ¬ (lt.toInt = 1 ∨ dg.toInt = 1) ∨ a.toInt ≤ 0) (hx : x.toInt = -1) : x.toInt ≠ -1 ↔ ((lt.toInt = 1 ∨ dg.toInt = 1) ∧ t_adj tb a.toNatClampNeg = true) := by
  refine ⟨fun q => absurd hx q, fun q => ?_⟩
  rcases h with h | h
  · exact absurd q.1 h
  · have e1 := dk_clN a
    have q2 := q.2
    unfold t_adj at q2
    rw [decide_eq_false (by omega)] at q2
    exact absurd q2 (by simp)
theorem t_lx0 {P : Prop} {lt dg x mo m : Int32} (h : x.toInt ≠ -1 ↔ ((lt.toInt = 1 ∨ dg.toInt = 1) ∧ P)) (hf : lt.toInt = 1 ∨ dg.toInt = 1) (hm : ¬ mo.toInt < m.toInt) : x.toInt ≠ -1 ↔ (P ∨ mo.toInt < m.toInt) :=
  ⟨fun q => Or.inl (h.mp q).2, fun q => h.mpr ⟨hf, q.resolve_right hm⟩⟩
theorem t_lx_i {P F : Prop} {x : Int32} (h : x.toInt ≠ -1 ↔ (F ∧ P)) (hf : ¬ F) : x.toInt = -1 := by
  by_cases q : x.toInt = -1
  · exact q
  · exact absurd (h.mp q).1 hf
theorem t_lx1 {P : Prop} {x mo m m' : Int32} (h : x.toInt ≠ -1 ↔ (P ∨ mo.toInt < m.toInt)) (e : mo.toInt < m.toInt ↔ mo.toInt < m'.toInt) : x.toInt ≠ -1 ↔ (P ∨ mo.toInt < m'.toInt) := by
  rw [← e]
  exact h
theorem t_lx2 {P : Prop} {x mo m' : Int32} (h : x.toInt ≠ -1) (e : mo.toInt < m'.toInt) : x.toInt ≠ -1 ↔ (P ∨ mo.toInt < m'.toInt) := ⟨fun _ => Or.inr e, fun _ => h⟩
theorem m_pk_b {s e : Nat} (h : ∀ j : Nat, s ≤ j → j < e → t_l (tb j) = true) : ∀ i : Nat, s + i ≤ e → 0 ≤ m_pk tb s i ∧ m_pk tb s i + 1 ≤ 256 ^ i
  | 0, _ => ⟨Int.le_refl 0, by show (0 : Int) + 1 ≤ 256 ^ 0; decide⟩
  | i + 1, hi => by
    have ih := m_pk_b h i (by omega)
    have := t_l_iff.mp (h (s + i) (Nat.le_add_right s i) (by omega))
    show 0 ≤ 256 * m_pk tb s i + (tb (s + i)).toInt ∧ 256 * m_pk tb s i + (tb (s + i)).toInt + 1 ≤ 256 ^ i * 256
    omega
theorem m_pk_z {s m : Int32} {w : Int64} (hm : m.toInt = 0) (hw : w.toInt = 0) : w.toInt = m_pk tb s.toNatClampNeg (min 6 m.toNatClampNeg) := by
  have e1 := dk_clN m
  rw [show min 6 m.toNatClampNeg = 0 by omega, hw]
  rfl
theorem m_pk_up {s a m m' x : Int32} {w w' y z : Int64} (h : w.toInt = m_pk tb s.toNatClampNeg (min 6 m.toNatClampNeg)) (hl : ∀ j : Nat, s.toNatClampNeg ≤ j → j < a.toNatClampNeg → t_l (tb j) = true) (kx : tb a.toNatClampNeg = x) (ha : a.toInt = s.toInt + m.toInt) (h0 : 0 ≤ s.toInt ∧ 0 ≤ m.toInt ∧ m.toInt ≤ 5) (hx : 0 ≤ x.toInt ∧ x.toInt ≤ 255) (ey : y = w <<< ((8 : Int32).toInt64 &&& 63)) (ez : x.toInt64 = z) (e : w' = y ||| z) (hm : m'.toInt = m.toInt + 1) : w'.toInt = m_pk tb s.toNatClampNeg (min 6 m'.toNatClampNeg) := by
  have e1 := dk_clN m
  have e2 := dk_clN m'
  have e3 := dk_clN s
  have e4 := dk_clN a
  rw [show min 6 m.toNatClampNeg = m.toNatClampNeg by omega] at h
  rw [show min 6 m'.toNatClampNeg = m.toNatClampNeg + 1 by omega]
  have b := m_pk_b (tb := tb) hl m.toNatClampNeg (by omega)
  have p : ∀ i : Nat, i ≤ 5 → (256 : Int) ^ i ≤ 1099511627776 := by decide
  have p1 := p m.toNatClampNeg (by omega)
  rw [e, ey, ← ez, m_lor (by omega) (by omega) hx, h]
  show _ = 256 * m_pk tb s.toNatClampNeg m.toNatClampNeg + (tb (s.toNatClampNeg + m.toNatClampNeg)).toInt
  rw [show s.toNatClampNeg + m.toNatClampNeg = a.toNatClampNeg by omega, kx]
theorem m_pk_st {s m m' : Int32} {w : Int64} (h : w.toInt = m_pk tb s.toNatClampNeg (min 6 m.toNatClampNeg)) (h6 : 6 ≤ m.toInt) (hm : m'.toInt = m.toInt + 1) : w.toInt = m_pk tb s.toNatClampNeg (min 6 m'.toNatClampNeg) := by
  have e1 := dk_clN m
  have e2 := dk_clN m'
  rw [h, show min 6 m.toNatClampNeg = 6 by omega, show min 6 m'.toNatClampNeg = 6 by omega]
theorem m_nu_z {s m v : Int32} (hm : m.toInt = 0) (hv : v.toInt = 0) : v.toInt = t_num tb s.toNatClampNeg (min 4 m.toNatClampNeg) := by
  have e1 := dk_clN m
  rw [show min 4 m.toNatClampNeg = 0 by omega, hv]
  rfl
theorem m_nu_up {s a m m' x v v' : Int32} (h : v.toInt = t_num tb s.toNatClampNeg (min 4 m.toNatClampNeg)) (kx : tb a.toNatClampNeg = x) (ha : a.toInt = s.toInt + m.toInt) (h0 : 0 ≤ s.toInt ∧ 0 ≤ m.toInt ∧ m.toInt ≤ 3) (e : v'.toInt = 10 * v.toInt + x.toInt - 48) (hm : m'.toInt = m.toInt + 1) : v'.toInt = t_num tb s.toNatClampNeg (min 4 m'.toNatClampNeg) := by
  have e1 := dk_clN m
  have e2 := dk_clN m'
  have e3 := dk_clN s
  have e4 := dk_clN a
  rw [show min 4 m.toNatClampNeg = m.toNatClampNeg by omega] at h
  rw [show min 4 m'.toNatClampNeg = m.toNatClampNeg + 1 by omega]
  show _ = 10 * t_num tb s.toNatClampNeg m.toNatClampNeg + ((tb (s.toNatClampNeg + m.toNatClampNeg)).toInt - 48)
  rw [show s.toNatClampNeg + m.toNatClampNeg = a.toNatClampNeg by omega, kx, ← h]
  omega
theorem m_nu_b {s a m v : Int32} (h : v.toInt = t_num tb s.toNatClampNeg (min 4 m.toNatClampNeg)) (hd : ∀ j : Nat, s.toNatClampNeg ≤ j → j < a.toNatClampNeg → t_d (tb j) = true) (ha : a.toInt = s.toInt + m.toInt) (h0 : 0 ≤ s.toInt ∧ 0 ≤ m.toInt ∧ m.toInt ≤ 3) : 0 ≤ v.toInt ∧ v.toInt ≤ 999 := by
  have e1 := dk_clN m
  have e3 := dk_clN s
  have e4 := dk_clN a
  rw [show min 4 m.toNatClampNeg = m.toNatClampNeg by omega] at h
  have b := t_num_b (tb := tb) (s := s.toNatClampNeg) m.toNatClampNeg fun j g1 g2 => hd j g1 (by omega)
  have p : ∀ i : Nat, i ≤ 3 → (10 : Int) ^ i ≤ 1000 := by decide
  have := p m.toNatClampNeg (by omega)
  omega
theorem m_nu_st {s m m' v : Int32} (h : v.toInt = t_num tb s.toNatClampNeg (min 4 m.toNatClampNeg)) (h4 : 4 ≤ m.toInt) (hm : m'.toInt = m.toInt + 1) : v.toInt = t_num tb s.toNatClampNeg (min 4 m'.toNatClampNeg) := by
  have e1 := dk_clN m
  have e2 := dk_clN m'
  rw [h, show min 4 m.toNatClampNeg = 4 by omega, show min 4 m'.toNatClampNeg = 4 by omega]
/-! at the end: what was found -/
theorem TNX.eod {at9 : Int32} (hs : t_sk tb n se.toNatClampNeg = at9.toNatClampNeg) (hn : n ≤ at9.toNatClampNeg) (f3 : S1.1 0 3 = .int sg) (f4 : S1.1 0 4 = .int at9) (f5 : S1.1 0 5 = .int at9) (f6 : S1.1 0 6 = .int va) (f7 : S1.1 0 7 = .long wd) (f12 : S1.1 0 12 = .int lx) (h3 : sg.toInt = 0) (h12 : lx.toInt = -1) : TNX tb n se S1 := fun k h1 h2 => by
  have e : t_s tb n k = at9.toNatClampNeg := h2.symm.trans hs
  have hq : ¬ t_s tb n k < n := by omega
  exact ⟨h1, sg, at9, at9, va, lx, wd, f3, f4, f5, f6, f7, f12, e.symm, by rw [t_P_e hq, e], k_tok.eod hq h3 h12⟩
theorem TNX.sgn {at9 se9 : Int32} (hs : t_sk tb n se.toNatClampNeg = at9.toNatClampNeg) (hn : at9.toNatClampNeg < n) (f3 : S1.1 0 3 = .int sg) (f4 : S1.1 0 4 = .int at9) (f5 : S1.1 0 5 = .int se9) (f6 : S1.1 0 6 = .int va) (f7 : S1.1 0 7 = .long wd) (f12 : S1.1 0 12 = .int lx) (h3 : sg.toInt = 3) (h12 : lx.toInt = -1) (h5 : se9.toInt = at9.toInt + 1) (h0 : 0 ≤ at9.toInt) (kx : tb at9.toNatClampNeg = va) (hl : ¬ (97 ≤ va.toInt ∧ va.toInt ≤ 122)) (hd : ¬ (48 ≤ va.toInt ∧ va.toInt ≤ 57)) : TNX tb n se S1 := fun k h1 h2 => by
  have e : t_s tb n k = at9.toNatClampNeg := h2.symm.trans hs
  have e1 := dk_clN at9
  have e2 := dk_clN se9
  have hq : t_s tb n k < n := by omega
  exact ⟨h1, sg, at9, se9, va, lx, wd, f3, f4, f5, f6, f7, f12, e.symm, by rw [t_P_s hq, e, t_en_sign (by rw [kx]; exact t_l_f hl) (by rw [kx]; exact t_d_f hd)]; omega, k_tok.sgn hq h3 h12 (by rw [e]; exact kx) (t_l_f hl) (t_d_f hd)⟩
theorem TNX.wrd {at9 se9 m mo : Int32} (hn16 : n ≤ 1600) (hs : t_sk tb n se.toNatClampNeg = at9.toNatClampNeg) (hn : at9.toNatClampNeg < n) (f3 : S1.1 0 3 = .int sg) (f4 : S1.1 0 4 = .int at9) (f5 : S1.1 0 5 = .int se9) (f6 : S1.1 0 6 = .int va) (f7 : S1.1 0 7 = .long wd) (f12 : S1.1 0 12 = .int lx) (h3 : sg.toInt = 1) (h5 : at9.toInt < se9.toInt) (h5n : se9.toNatClampNeg ≤ n) (h0 : 0 ≤ at9.toInt) (hm : se9.toInt = at9.toInt + m.toInt) (hl : ∀ j : Nat, at9.toNatClampNeg ≤ j → j < se9.toNatClampNeg → t_l (tb j) = true) (he : t_wd tb n se9.toNatClampNeg = false) (hx : lx.toInt ≠ -1 ↔ (t_adj tb at9.toNatClampNeg = true ∨ mo.toInt < m.toInt)) (hmo : mo.toInt = 6) (hw : wd.toInt = m_pk tb at9.toNatClampNeg (min 6 m.toNatClampNeg)) : TNX tb n se S1 := fun k h1 h2 => by
  have e : t_s tb n k = at9.toNatClampNeg := h2.symm.trans hs
  have e1 := dk_clN at9
  have e2 := dk_clN se9
  have e3 := dk_clN m
  have hq : t_s tb n k < n := by omega
  have hP : t_P tb n (k + 1) = se9.toNatClampNeg := by rw [t_P_s hq, e, t_en_word hn16 (by omega) h5n hl he]
  refine ⟨h1, sg, at9, se9, va, lx, wd, f3, f4, f5, f6, f7, f12, e.symm, hP.symm, k_tok.wrd (m := m.toNatClampNeg) hq h3 (by omega) (by rw [e, hP]; exact hl) (by omega) ?_ (fun q => ?_)⟩
  · rw [e, hx]
    constructor
    · rintro (a | a)
      · exact Or.inl a
      · exact Or.inr (by omega)
    · rintro (a | a)
      · exact Or.inl a
      · exact Or.inr (by omega)
  · rw [e, hw, show min 6 m.toNatClampNeg = m.toNatClampNeg by omega]
theorem TNX.num {at9 se9 m mo : Int32} (hn16 : n ≤ 1600) (hs : t_sk tb n se.toNatClampNeg = at9.toNatClampNeg) (hn : at9.toNatClampNeg < n) (f3 : S1.1 0 3 = .int sg) (f4 : S1.1 0 4 = .int at9) (f5 : S1.1 0 5 = .int se9) (f6 : S1.1 0 6 = .int va) (f7 : S1.1 0 7 = .long wd) (f12 : S1.1 0 12 = .int lx) (h3 : sg.toInt = 2) (h5 : at9.toInt < se9.toInt) (h5n : se9.toNatClampNeg ≤ n) (h0 : 0 ≤ at9.toInt) (hm : se9.toInt = at9.toInt + m.toInt) (hl : ∀ j : Nat, at9.toNatClampNeg ≤ j → j < se9.toNatClampNeg → t_d (tb j) = true) (he : t_nm tb n se9.toNatClampNeg = false) (hx : lx.toInt ≠ -1 ↔ (t_adj tb at9.toNatClampNeg = true ∨ mo.toInt < m.toInt)) (hmo : mo.toInt = 4) (hw : va.toInt = t_num tb at9.toNatClampNeg (min 4 m.toNatClampNeg)) : TNX tb n se S1 := fun k h1 h2 => by
  have e : t_s tb n k = at9.toNatClampNeg := h2.symm.trans hs
  have e1 := dk_clN at9
  have e2 := dk_clN se9
  have e3 := dk_clN m
  have hq : t_s tb n k < n := by omega
  have hP : t_P tb n (k + 1) = se9.toNatClampNeg := by rw [t_P_s hq, e, t_en_numb hn16 (by omega) h5n hl he]
  refine ⟨h1, sg, at9, se9, va, lx, wd, f3, f4, f5, f6, f7, f12, e.symm, hP.symm, k_tok.num (m := m.toNatClampNeg) hq h3 (by rw [e]; exact hl _ (Nat.le_refl _) (by omega)) (by omega) ?_ (fun q => ?_)⟩
  · rw [e, hx]
    constructor
    · rintro (a | a)
      · exact Or.inl a
      · exact Or.inr (by omega)
    · rintro (a | a)
      · exact Or.inl a
      · exact Or.inr (by omega)
  · rw [e, hw, show min 4 m.toNatClampNeg = m.toNatClampNeg by omega]
end TKS
