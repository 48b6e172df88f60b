/-! STATEMENTS: what is told so far (columns, rows, MINERS' names, rows of the PLAN, ORDERS' names, which rules), and the next token -/
abbrev y_S : Type := (Int × Int) × List Int × Nat × List Int × (Bool × Bool × Bool)
def y_num (kd vl : Nat → Int32) (lo hi : Int) (k : Nat) : Option Nat := if g_n kd k && (decide (lo ≤ (vl k).toInt) && decide ((vl k).toInt ≤ hi)) then some (k + 1) else none
def y_own (kd vl : Nat → Int32) (c : Int) (k : Nat) : Option Nat := if g_o kd vl c k then some (k + 1) else none
def y_cell (kd vl : Nat → Int32) (q : Int × Int) (k : Nat) : Option Nat := (y_num kd vl 0 (q.1 - 1) k).bind (y_num kd vl 0 (q.2 - 1))
def y_isn (kd : Nat → Int32) (k : Nat) : Bool := decide ((kd k).toInt = 2)
def y_new (kd vl : Nat → Int32) (M O : List Int) (k : Nat) : Option Nat := if y_isn kd k && !(M.contains (vl k).toInt || O.contains (vl k).toInt) then some (k + 1) else none
def y_old (kd vl : Nat → Int32) (M : List Int) (k : Nat) : Option Nat := if y_isn kd k && M.contains (vl k).toInt then some (k + 1) else none
def y_rule (kd vl : Nat → Int32) (w : Int) (k : Nat) : Option Nat := if w = 1 then (x_lv kd vl w 8).2.1 k else (x_lv kd vl w 8).1 k
/-- the first STATEMENT; its columns and rows -/
def y_seam (kd vl : Nat → Int32) (k : Nat) : Option Nat := (y_own kd vl 0 k).bind fun k1 => (y_num kd vl 3 7 k1).bind fun k2 => (y_own kd vl 1 k2).bind (y_num kd vl 3 7)
/-- what a STATEMENT takes, and what it tells -/
def y_st (kd vl : Nat → Int32) (σ : y_S) (k : Nat) : Option (y_S × Nat) :=
  match σ with
  | (q, M, P, O, r0, r1, r2) =>
    if g_o kd vl 2 k then (y_num kd vl 0 (q.1 - 1) (k + 1)).map fun k' => (σ, k')
    else if g_o kd vl 3 k then (y_num kd vl 0 20 (k + 1)).map fun k' => (σ, k')
    else if g_o kd vl 4 k then (y_num kd vl 0 100 (k + 1)).map fun k' => (σ, k')
    else if g_o kd vl 5 k then ((y_cell kd vl q (k + 1)).bind (y_num kd vl 0 9)).map fun k' => (σ, k')
    else if g_o kd vl 6 k then (if M.length = 6 then none else (y_new kd vl M O (k + 1)).map fun k' => ((q, M ++ [(vl (k + 1)).toInt], P, O, r0, r1, r2), k'))
    else if g_o kd vl 7 k then (if P = 16 then none else ((y_old kd vl M (k + 1)).bind fun k1 => (y_own kd vl 8 k1).bind (y_cell kd vl q)).map fun k' => ((q, M, P + 1, O, r0, r1, r2), k'))
    else if g_o kd vl 9 k then (if O.length = 5 then none else ((y_new kd vl M O (k + 1)).bind fun k1 => (y_own kd vl 5 k1).bind fun k2 => (y_num kd vl 0 9 k2).bind fun k3 => (y_own kd vl 10 k3).bind fun k4 => (y_num kd vl 1 9 k4).bind fun k5 => (y_own kd vl 11 k5).bind (y_num kd vl 0 999)).map fun k' => ((q, M, P, O ++ [(vl (k + 1)).toInt], r0, r1, r2), k'))
    else if g_o kd vl 12 k then (if r0 then none else (y_rule kd vl 0 (k + 1)).map fun k' => ((q, M, P, O, true, r1, r2), k'))
    else if g_o kd vl 13 k then (if r1 then none else (y_rule kd vl 1 (k + 1)).map fun k' => ((q, M, P, O, r0, true, r2), k'))
    else if g_o kd vl 14 k then (if r2 then none else (y_rule kd vl 2 (k + 1)).map fun k' => ((q, M, P, O, r0, r1, true), k'))
    else none
/-- STATEMENT i -/
def y_one (kd vl : Nat → Int32) (i : Nat) (σ : y_S) (k : Nat) : Option (y_S × Nat) := if i = 0 then (y_seam kd vl k).map fun k' => ((((vl (k + 1)).toInt, (vl (k + 3)).toInt), σ.2), k') else y_st kd vl σ k
/-- STATEMENTS from the i-th on; f more may come -/
def y_go (kd vl : Nat → Int32) : Nat → Nat → y_S → Nat → Option (Nat × y_S)
  | 0, i, σ, k => if i ≠ 0 ∧ (kd k).toInt = 0 then some (i, σ) else none
  | f + 1, i, σ, k => if i ≠ 0 ∧ (kd k).toInt = 0 then some (i, σ) else (y_one kd vl i σ k).bind fun p => (g_tk kd vl 59 p.2).bind fun k' => y_go kd vl f (i + 1) p.1 k'
def y_0 : y_S := ((0, 0), [], 0, [], false, false, false)
/-- a MINE -/
def y_mine (kd vl : Nat → Int32) : Option (Nat × y_S) := y_go kd vl 80 0 y_0 0
/-! names as they lie in a row -/
def y_nm (f : Nat → Int32) (m : Nat) : List Int := (List.range m).map fun j => (f j).toInt
theorem y_nm_len {f : Nat → Int32} {m : Nat} : (y_nm f m).length = m := by
  unfold y_nm
  rw [List.length_map, List.length_range]
theorem y_nm_has {f : Nat → Int32} {m : Nat} {v : Int} : (y_nm f m).contains v = true ↔ ∃ j, j < m ∧ (f j).toInt = v := by
  unfold y_nm
  rw [List.contains_iff_mem, List.mem_map]
  constructor
  · rintro ⟨j, hj, e⟩
    exact ⟨j, List.mem_range.mp hj, e⟩
  · rintro ⟨j, hj, e⟩
    exact ⟨j, List.mem_range.mpr hj, e⟩
theorem y_nm_congr {f f' : Nat → Int32} {m : Nat} (h : ∀ j, j < m → f' j = f j) : y_nm f' m = y_nm f m := by
  unfold y_nm
  exact List.map_congr_left fun j hj => by rw [h j (List.mem_range.mp hj)]
theorem y_nm_add {f : Nat → Int32} {m : Nat} {v : Int32} : y_nm (upd f m v) (m + 1) = y_nm f m ++ [v.toInt] := by
  have e : y_nm (upd f m v) m = y_nm f m := y_nm_congr fun j hj => by
    unfold upd
    rw [if_neg (by omega)]
  have e2 : upd f m v m = v := by
    unfold upd
    rw [if_pos rfl]
  show (List.range (m + 1)).map (fun j => (upd f m v j).toInt) = _
  rw [List.range_succ, List.map_append]
  show y_nm (upd f m v) m ++ [(upd f m v m).toInt] = _
  rw [e, e2]
/-- no name like it up to k -/
theorem y_lt0 {P : Nat → Prop} : ∀ j : Nat, j < (0 : Int32).toNatClampNeg → P j := fun j h => by
  rw [show (0 : Int32).toNatClampNeg = 0 from by decide +kernel] at h
  omega
theorem y_stp {f : Nat → Int32} {k k' : Int32} {v : Int} (h : ∀ j : Nat, j < k.toNatClampNeg → (f j).toInt ≠ v) (hk : (f k.toNatClampNeg).toInt ≠ v) (e : k'.toInt = k.toInt + 1) (h0 : 0 ≤ k.toInt) : ∀ j : Nat, j < k'.toNatClampNeg → (f j).toInt ≠ v := by
  intro j hj
  have a : k'.toNatClampNeg = k.toNatClampNeg + 1 := by
    unfold Int32.toNatClampNeg
    omega
  by_cases z : j = k.toNatClampNeg
  · rw [z]
    exact hk
  · exact h j (by omega)
theorem y_hasnt {f : Nat → Int32} {k m : Int32} {v : Int} (h : ∀ j : Nat, j < k.toNatClampNeg → (f j).toInt ≠ v) (e : m.toInt ≤ k.toInt) : (y_nm f m.toNatClampNeg).contains v = false := by
  cases q : (y_nm f m.toNatClampNeg).contains v with
  | false => rfl
  | true =>
    obtain ⟨j, hj, ej⟩ := y_nm_has.mp q
    have a : m.toNatClampNeg ≤ k.toNatClampNeg := by
      unfold Int32.toNatClampNeg
      omega
    exact absurd ej (h j (by omega))
theorem y_has {f : Nat → Int32} {k m : Int32} {v : Int} (h : (f k.toNatClampNeg).toInt = v) (h0 : 0 ≤ k.toInt) (e : k.toInt < m.toInt) : (y_nm f m.toNatClampNeg).contains v = true := by
  refine y_nm_has.mpr ⟨k.toNatClampNeg, ?_, h⟩
  unfold Int32.toNatClampNeg
  omega
/-! what is taken by one method -/
theorem y_num_t {kd vl : Nat → Int32} {lo hi : Int} {k : Nat} (h : (kd k).toInt = 3) (h1 : lo ≤ (vl k).toInt) (h2 : (vl k).toInt ≤ hi) : y_num kd vl lo hi k = some (k + 1) := by
  unfold y_num
  rw [if_pos (by rw [g_n_iff.mpr h, decide_eq_true h1, decide_eq_true h2]; rfl)]
theorem y_num_f {kd vl : Nat → Int32} {lo hi : Int} {k : Nat} (h : (kd k).toInt ≠ 3 ∨ (vl k).toInt < lo ∨ hi < (vl k).toInt) : y_num kd vl lo hi k = none := by
  unfold y_num
  rw [if_neg]
  intro q
  simp only [Bool.and_eq_true, decide_eq_true_eq] at q
  have q1 := g_n_iff.mp q.1
  omega
theorem y_num_o {kd vl : Nat → Int32} {lo hi : Int} {k k' : Nat} (h : y_num kd vl lo hi k = some k') : (kd k).toInt = 3 ∧ lo ≤ (vl k).toInt ∧ (vl k).toInt ≤ hi ∧ k' = k + 1 := by
  unfold y_num at h
  split at h
  · rename_i q
    cases h
    simp only [Bool.and_eq_true, decide_eq_true_eq] at q
    exact ⟨g_n_iff.mp q.1, q.2.1, q.2.2, rfl⟩
  · cases h
theorem y_own_o {kd vl : Nat → Int32} {c : Int} {k k' : Nat} (h : y_own kd vl c k = some k') : g_o kd vl c k = true ∧ k' = k + 1 := by
  unfold y_own at h
  split at h
  · rename_i q
    cases h
    exact ⟨q, rfl⟩
  · cases h
theorem y_new_t {kd vl : Nat → Int32} {M O : List Int} {k : Nat} {v : Int} (h : (kd k).toInt = 2) (hv : (vl k).toInt = v) (h2 : (M.contains v || O.contains v) = false) : y_new kd vl M O k = some (k + 1) := by
  unfold y_new y_isn
  rw [hv, h2, decide_eq_true h]
  rfl
theorem y_new_f {kd vl : Nat → Int32} {M O : List Int} {k : Nat} (h : (kd k).toInt ≠ 2) : y_new kd vl M O k = none := by
  unfold y_new y_isn
  rw [decide_eq_false h]
  rfl
theorem y_new_f2 {kd vl : Nat → Int32} {M O : List Int} {k : Nat} {v : Int} (hv : (vl k).toInt = v) (h2 : (M.contains v || O.contains v) = true) : y_new kd vl M O k = none := by
  unfold y_new
  rw [hv, h2]
  cases y_isn kd k <;> rfl
theorem y_new_o {kd vl : Nat → Int32} {M O : List Int} {k k' : Nat} (h : y_new kd vl M O k = some k') : (kd k).toInt = 2 ∧ k' = k + 1 := by
  unfold y_new at h
  split at h
  · rename_i q
    cases h
    unfold y_isn at q
    simp only [Bool.and_eq_true, decide_eq_true_eq] at q
    exact ⟨q.1, rfl⟩
  · cases h
theorem y_old_t {kd vl : Nat → Int32} {M : List Int} {k : Nat} {v : Int} (h : (kd k).toInt = 2) (hv : (vl k).toInt = v) (h2 : M.contains v = true) : y_old kd vl M k = some (k + 1) := by
  unfold y_old y_isn
  rw [hv, h2, decide_eq_true h]
  rfl
theorem y_old_f {kd vl : Nat → Int32} {M : List Int} {k : Nat} (h : (kd k).toInt ≠ 2) : y_old kd vl M k = none := by
  unfold y_old y_isn
  rw [decide_eq_false h]
  rfl
theorem y_old_f2 {kd vl : Nat → Int32} {M : List Int} {k : Nat} {v : Int} (hv : (vl k).toInt = v) (h2 : M.contains v = false) : y_old kd vl M k = none := by
  unfold y_old
  rw [hv, h2]
  cases y_isn kd k <;> rfl
/-- as g_ans, of a number that is NONE where nothing is taken -/
def g_an2 (r : Int32) (E : Option Nat) (y : Nat) : Prop := (r.toInt ≠ -1 → E = some y) ∧ (r.toInt = -1 → E = none)
theorem g_an2.y {r : Int32} {E : Option Nat} {y : Nat} (hr : r.toInt ≠ -1) (h : E = some y) : g_an2 r E y := ⟨fun _ => h, fun q => absurd q hr⟩
theorem g_an2.n {r : Int32} {E : Option Nat} {y : Nat} (hr : r.toInt = -1) (h : E = none) : g_an2 r E y := ⟨fun q => absurd hr q, fun _ => h⟩
/-! a STATEMENT by its word -/
theorem g_o_at {kd vl : Nat → Int32} {c : Int} {k : Nat} (hk : (kd k).toInt = 1) : g_o kd vl c k = decide ((vl k).toInt = c) := by
  unfold g_o
  rw [decide_eq_true hk, Bool.true_and]
section YST
variable {kd vl : Nat → Int32} {k : Nat} {q : Int × Int} {M O : List Int} {P : Nat} {r0 r1 r2 : Bool}
theorem y_st_2 (hk : (kd k).toInt = 1) (hv : (vl k).toInt = 2) : y_st kd vl (q, M, P, O, r0, r1, r2) k = (y_num kd vl 0 (q.1 - 1) (k + 1)).map fun k' => ((q, M, P, O, r0, r1, r2), k') := by
  unfold y_st
  simp [g_o_at hk, hv]
theorem y_st_3 (hk : (kd k).toInt = 1) (hv : (vl k).toInt = 3) : y_st kd vl (q, M, P, O, r0, r1, r2) k = (y_num kd vl 0 20 (k + 1)).map fun k' => ((q, M, P, O, r0, r1, r2), k') := by
  unfold y_st
  simp [g_o_at hk, hv]
theorem y_st_4 (hk : (kd k).toInt = 1) (hv : (vl k).toInt = 4) : y_st kd vl (q, M, P, O, r0, r1, r2) k = (y_num kd vl 0 100 (k + 1)).map fun k' => ((q, M, P, O, r0, r1, r2), k') := by
  unfold y_st
  simp [g_o_at hk, hv]
theorem y_st_5 (hk : (kd k).toInt = 1) (hv : (vl k).toInt = 5) : y_st kd vl (q, M, P, O, r0, r1, r2) k = ((y_cell kd vl q (k + 1)).bind (y_num kd vl 0 9)).map fun k' => ((q, M, P, O, r0, r1, r2), k') := by
  unfold y_st
  simp [g_o_at hk, hv]
theorem y_st_6 (hk : (kd k).toInt = 1) (hv : (vl k).toInt = 6) : y_st kd vl (q, M, P, O, r0, r1, r2) k = if M.length = 6 then none else (y_new kd vl M O (k + 1)).map fun k' => ((q, M ++ [(vl (k + 1)).toInt], P, O, r0, r1, r2), k') := by
  unfold y_st
  simp [g_o_at hk, hv]
theorem y_st_7 (hk : (kd k).toInt = 1) (hv : (vl k).toInt = 7) : y_st kd vl (q, M, P, O, r0, r1, r2) k = if P = 16 then none else ((y_old kd vl M (k + 1)).bind fun k1 => (y_own kd vl 8 k1).bind (y_cell kd vl q)).map fun k' => ((q, M, P + 1, O, r0, r1, r2), k') := by
  unfold y_st
  simp [g_o_at hk, hv]
theorem y_st_9 (hk : (kd k).toInt = 1) (hv : (vl k).toInt = 9) : y_st kd vl (q, M, P, O, r0, r1, r2) k = if O.length = 5 then none else ((y_new kd vl M O (k + 1)).bind fun k1 => (y_own kd vl 5 k1).bind fun k2 => (y_num kd vl 0 9 k2).bind fun k3 => (y_own kd vl 10 k3).bind fun k4 => (y_num kd vl 1 9 k4).bind fun k5 => (y_own kd vl 11 k5).bind (y_num kd vl 0 999)).map fun k' => ((q, M, P, O ++ [(vl (k + 1)).toInt], r0, r1, r2), k') := by
  unfold y_st
  simp [g_o_at hk, hv]
theorem y_st_12 (hk : (kd k).toInt = 1) (hv : (vl k).toInt = 12) : y_st kd vl (q, M, P, O, r0, r1, r2) k = if r0 then none else (y_rule kd vl 0 (k + 1)).map fun k' => ((q, M, P, O, true, r1, r2), k') := by
  unfold y_st
  simp [g_o_at hk, hv]
theorem y_st_13 (hk : (kd k).toInt = 1) (hv : (vl k).toInt = 13) : y_st kd vl (q, M, P, O, r0, r1, r2) k = if r1 then none else (y_rule kd vl 1 (k + 1)).map fun k' => ((q, M, P, O, r0, true, r2), k') := by
  unfold y_st
  simp [g_o_at hk, hv]
theorem y_st_14 (hk : (kd k).toInt = 1) (hv : (vl k).toInt = 14) : y_st kd vl (q, M, P, O, r0, r1, r2) k = if r2 then none else (y_rule kd vl 2 (k + 1)).map fun k' => ((q, M, P, O, r0, r1, true), k') := by
  unfold y_st
  simp [g_o_at hk, hv]
theorem y_st_no (h : (kd k).toInt ≠ 1 ∨ ((vl k).toInt ≠ 2 ∧ (vl k).toInt ≠ 3 ∧ (vl k).toInt ≠ 4 ∧ (vl k).toInt ≠ 5 ∧ (vl k).toInt ≠ 6 ∧ (vl k).toInt ≠ 7 ∧ (vl k).toInt ≠ 9 ∧ (vl k).toInt ≠ 12 ∧ (vl k).toInt ≠ 13 ∧ (vl k).toInt ≠ 14)) : y_st kd vl (q, M, P, O, r0, r1, r2) k = none := by
  have e : ∀ c : Int, (c = 2 ∨ c = 3 ∨ c = 4 ∨ c = 5 ∨ c = 6 ∨ c = 7 ∨ c = 9 ∨ c = 12 ∨ c = 13 ∨ c = 14) → g_o kd vl c k = false := fun c hc => by
    cases z : g_o kd vl c k with
    | false => rfl
    | true =>
      have z1 := g_o_iff.mp z
      exact absurd h (by omega)
  unfold y_st
  simp [e]
end YST
