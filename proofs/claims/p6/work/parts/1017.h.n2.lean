/-! the reference's fault, as an answer: none where it is 0 -/
def m_an (f : Int32) (E : Option Nat) (k' : Nat) : Prop := (f.toInt = 0 → E = some k') ∧ (f.toInt ≠ 0 → E = none)
section MU9
variable {tb : Nat → Int32} {n k k' : Nat} {S : dg_S} {kd vl : Nat → Int32} {sg sa se va lx fk r : Int32} {c lo hi : Int} {E : Option Nat}
theorem m_an.y (h : fk.toInt = 0) (e : E = some k') : m_an fk E k' := ⟨fun _ => e, fun q => absurd h q⟩
theorem m_an.no (h : fk.toInt ≠ 0) (e : E = none) : m_an fk E k' := ⟨fun q => absurd q h, fun _ => e⟩
theorem MU.y {P : Prop} (hs : g_s kd vl c k = true ↔ P) (h : P) (h8 : fk.toInt = 0) (hK : k' = k + 1) : m_an fk (g_tk kd vl c k) k' :=
  m_an.y h8 (by unfold g_tk; rw [if_pos (hs.mpr h), hK])
theorem g_s_5 (h : (kd k).toInt = 5) : g_s kd vl c k = false := by
  cases q : g_s kd vl c k with
  | false => rfl
  | true => exact absurd (g_s_iff.mp q).1 (by omega)
theorem g_o_5 (h : (kd k).toInt = 5) : g_o kd vl c k = false := by
  cases q : g_o kd vl c k with
  | false => rfl
  | true => exact absurd (g_o_iff.mp q).1 (by omega)
theorem MU.no {P : Prop} (hs : (kd k).toInt ≠ 5 → (g_s kd vl c k = true ↔ P)) (h : (kd k).toInt ≠ 5 → ¬ P) (h8 : fk.toInt ≠ 0) : m_an fk (g_tk kd vl c k) k' := by
  refine m_an.no h8 ?_
  unfold g_tk
  by_cases q : (kd k).toInt = 5
  · rw [g_s_5 q]; rfl
  · rw [if_neg (fun z => h q ((hs q).mp z))]
theorem MW9.y {P : Prop} (hs : P ↔ g_o kd vl c k = true) (h : P) (h8 : fk.toInt = 0) (hK : k' = k + 1) : m_an fk (y_own kd vl c k) k' :=
  m_an.y h8 (by unfold y_own; rw [if_pos (hs.mp h), hK])
theorem MW9.no {P : Prop} (hs : (kd k).toInt ≠ 5 → (P ↔ g_o kd vl c k = true)) (h : (kd k).toInt ≠ 5 → ¬ P) (h8 : fk.toInt ≠ 0) : m_an fk (y_own kd vl c k) k' := by
  refine m_an.no h8 ?_
  unfold y_own
  by_cases q : (kd k).toInt = 5
  · rw [g_o_5 q]; rfl
  · rw [if_neg (fun z => h q ((hs q).mpr z))]
theorem NU.y {P : Prop} (hs : ((kd k).toInt = 3 ↔ P) ∧ (P → va.toInt = (vl k).toInt)) (h : P) (h1 : lo ≤ va.toInt) (h2 : va.toInt ≤ hi) (h8 : fk.toInt = 0) (hK : k' = k + 1) (hr : r.toInt = va.toInt) : m_an fk (y_num kd vl lo hi k) k' ∧ (fk.toInt = 0 → r.toInt = (vl k).toInt) := by
  have e := hs.2 h
  exact ⟨m_an.y h8 (by rw [hK]; exact y_num_t (hs.1.mpr h) (by omega) (by omega)), fun _ => by omega⟩
theorem NU.no {P : Prop} (hs : (kd k).toInt ≠ 5 → ((kd k).toInt = 3 ↔ P) ∧ (P → va.toInt = (vl k).toInt)) (h : (kd k).toInt ≠ 5 → ¬ (P ∧ lo ≤ va.toInt ∧ va.toInt ≤ hi)) (h8 : fk.toInt ≠ 0) : m_an fk (y_num kd vl lo hi k) k' ∧ (fk.toInt = 0 → r.toInt = (vl k).toInt) := by
  refine ⟨m_an.no h8 (y_num_f ?_), fun q => absurd q h8⟩
  by_cases q : (kd k).toInt = 5
  · exact Or.inl (by omega)
  · obtain ⟨a, b⟩ := hs q
    have h9 := h q
    by_cases z : P
    · have e := b z
      refine Or.inr ?_
      by_cases w : (vl k).toInt < lo
      · exact Or.inl w
      · refine Or.inr ?_
        by_cases w2 : hi < (vl k).toInt
        · exact w2
        · exact absurd ⟨z, by omega, by omega⟩ h9
    · exact Or.inl fun w => z (a.mp w)
/-- isWord's answer, isSign's -/
theorem TKM.isw (h : TKM tb n S) (f3 : S.1 0 3 = .int sg) (f4 : S.1 0 4 = .int sa) (h5 : (T_kd tb n (t_ix tb n sa.toNatClampNeg)).toInt ≠ 5) {j : Int} {C : Int64} (hj : 0 ≤ j ∧ j ≤ 26) (hC : C.toInt = m_cw j) (hr : ∀ w9 : Int64, S.1 0 7 = .long w9 → (r.toInt = 1 ↔ (sg.toInt = 1 ∧ w9.toInt = C.toInt))) : r.toInt = 1 ↔ g_o (T_kd tb n) (T_vl tb n) j (t_ix tb n sa.toNatClampNeg) = true := by
  have h0 := h
  obtain ⟨-, k, a, sg', sa', se', va', lx', wd', g3, g4, g5, g6, g7, g12, e1, e2, e3⟩ := h
  have w := h0.wrd f3 f4 g7 h5 (j := j.toNat) (by omega)
  rw [hr wd' g7, hC]
  unfold m_cw
  rw [← w, show ((j.toNat : Nat) : Int) = j by omega]
theorem TKM.iss (h : TKM tb n S) (f3 : S.1 0 3 = .int sg) (f4 : S.1 0 4 = .int sa) (f6 : S.1 0 6 = .int va) (h5 : (T_kd tb n (t_ix tb n sa.toNatClampNeg)).toInt ≠ 5) (hr : r.toInt = 1 ↔ (sg.toInt = 3 ∧ va.toInt = c)) : r.toInt = 1 ↔ g_s (T_kd tb n) (T_vl tb n) c (t_ix tb n sa.toNatClampNeg) = true := hr.trans (h.sgn f3 f4 f6 h5).symm
/-! OWN WORDS, all of them -/
def m_ow (v : Int) : Bool := (List.range 27).any (fun j => decide (v = m_WF (m_WL j)))
theorem m_ow_ex {v : Int} : m_ow v = true ↔ ∃ j : Nat, j < 27 ∧ v = m_WF (m_WL j) := by
  unfold m_ow
  rw [List.any_eq_true]
  constructor
  · rintro ⟨j, hj, e⟩
    exact ⟨j, List.mem_range.mp hj, of_decide_eq_true e⟩
  · rintro ⟨j, hj, e⟩
    exact ⟨j, List.mem_range.mpr hj, decide_eq_true e⟩
def m_tab : List Int := (List.range 27).map fun j => m_WF (m_WL j)
theorem m_ow_tab {v : Int} : m_ow v = true ↔ v ∈ m_tab := by
  rw [m_ow_ex]
  unfold m_tab
  rw [List.mem_map]
  constructor
  · rintro ⟨j, hj, e⟩
    exact ⟨j, List.mem_range.mpr hj, e.symm⟩
  · rintro ⟨j, hj, e⟩
    exact ⟨j, List.mem_range.mp hj, e.symm⟩
theorem m_tab_eq : m_tab = [1936023917, 25209, 495672452724, 491327153000, 487300623205, 444300616805, 469920277874, 6580583, 24948, 478660552050, 1953849971, 1885436275, 126926742711411, 439721159795, 1734702195, 431198598248, 495672977012, 6709618, 1869636974, 7104884, 26982, 28530, 6385252, 7237492, 6384748, 7170414, 7168376] := by decide +kernel
/-! names in rows -/
def m_nm (row : Nat → Int64) (off m : Nat) : List Int := (List.range m).map fun j => m_WG (row (off + j)).toInt
def m_nok (row : Nat → Int64) (off m : Nat) : Prop := ∀ j : Nat, j < m → m_WF (m_WG (row (off + j)).toInt) = (row (off + j)).toInt
theorem m_nm_has {row : Nat → Int64} {off m : Nat} {p v : Int} (hk : m_nok row off m) (hp : p = m_WF v) (hv : m_WG p = v) : (m_nm row off m).contains v = true ↔ ∃ j : Nat, j < m ∧ (row (off + j)).toInt = p := by
  unfold m_nm
  rw [List.contains_iff_mem, List.mem_map]
  constructor
  · rintro ⟨j, hj, e⟩
    have hj := List.mem_range.mp hj
    exact ⟨j, hj, by rw [← hk j hj, e, hp]⟩
  · rintro ⟨j, hj, e⟩
    exact ⟨j, List.mem_range.mpr hj, by rw [e, hv]⟩
theorem nm_stp (row : Nat → Int64) {o : Nat} {v : Int} {k k' : Int32} (h : ∀ j : Nat, j < k.toNatClampNeg → (row (o + j)).toInt ≠ v) (hk : (row (o + k.toNatClampNeg)).toInt ≠ v) (e : k'.toInt = k.toInt + 1) (h0 : 0 ≤ k.toInt) : ∀ j : Nat, j < k'.toNatClampNeg → (row (o + j)).toInt ≠ v := fun j hj => by
  have e1 := dk_clN k
  have e2 := dk_clN k'
  by_cases q : j = k.toNatClampNeg
  · rw [q]
    exact hk
  · exact h j (by omega)
theorem m_nm_len {row : Nat → Int64} {off m : Nat} : (m_nm row off m).length = m := by
  unfold m_nm
  rw [List.length_map, List.length_range]
theorem m_nm_congr {row row' : Nat → Int64} {off m : Nat} (h : ∀ j, j < m → row' (off + j) = row (off + j)) : m_nm row' off m = m_nm row off m := by
  unfold m_nm
  exact List.map_congr_left fun j hj => by rw [h j (List.mem_range.mp hj)]
theorem m_nm_add {row row' : Nat → Int64} {off m : Nat} {v : Int64} (h : ∀ j, j < m → row' (off + j) = row (off + j)) (e : row' (off + m) = v) : m_nm row' off (m + 1) = m_nm row off m ++ [m_WG v.toInt] := by
  have e1 := m_nm_congr h
  unfold m_nm at e1 ⊢
  rw [List.range_succ, List.map_append, e1]
  show _ ++ [m_WG (row' (off + m)).toInt] = _
  rw [e]
end MU9
