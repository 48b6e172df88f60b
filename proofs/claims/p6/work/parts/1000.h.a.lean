/-! the language of a rule: two rows of tokens (kinds, values); what is taken from a token on -/
def g_s (kd vl : Nat → Int32) (c : Int) (k : Nat) : Bool := decide ((kd k).toInt = 4) && decide ((vl k).toInt = c)
def g_o (kd vl : Nat → Int32) (c : Int) (k : Nat) : Bool := decide ((kd k).toInt = 1) && decide ((vl k).toInt = c)
def g_n (kd : Nat → Int32) (k : Nat) : Bool := decide ((kd k).toInt = 3)
def g_so (kd vl : Nat → Int32) (k : Nat) : Bool := g_s kd vl 43 k || g_s kd vl 45 k
def g_po (kd vl : Nat → Int32) (k : Nat) : Bool := g_s kd vl 42 k || g_s kd vl 47 k || g_s kd vl 37 k
def g_co (kd vl : Nat → Int32) (k : Nat) : Bool := g_s kd vl 60 k || g_s kd vl 62 k || g_s kd vl 61 k
def g_fw (kd vl : Nat → Int32) (w : Int) (k : Nat) : Bool := g_o kd vl 5 k || g_o kd vl 15 k || g_o kd vl 16 k || (g_o kd vl 17 k && decide (w = 0)) || ((g_o kd vl 18 k || g_o kd vl 19 k) && !decide (w = 0))
def g_tk (kd vl : Nat → Int32) (c : Int) (k : Nat) : Option Nat := if g_s kd vl c k then some (k + 1) else none
/-- one thing, then more of them behind signs -/
def x_loop (op : Nat → Bool) (p : Nat → Option Nat) : Nat → Nat → Option Nat
  | 0, k => some k
  | f + 1, k => if op k then (p (k + 1)).bind (x_loop op p f) else some k
def x_pair (kd vl : Nat → Int32) (s : Nat → Option Nat) (k : Nat) : Option Nat := (s k).bind fun k1 => (g_tk kd vl 44 k1).bind fun k2 => (s k2).bind (g_tk kd vl 41)
/-- what stands behind if, behind min and max -/
def x_choice (kd vl : Nat → Int32) (s t : Nat → Option Nat) (k : Nat) : Option Nat := if g_s kd vl 40 (k + 1) then (t (k + 2)).bind fun k1 => (g_tk kd vl 44 k1).bind (x_pair kd vl s) else none
def x_prs (kd vl : Nat → Int32) (s : Nat → Option Nat) (k : Nat) : Option Nat := if g_s kd vl 40 (k + 1) then x_pair kd vl s (k + 2) else none
/-- a PART; s, t: what may stand in brackets there -/
def x_part (kd vl : Nat → Int32) (w : Int) (s t : Nat → Option Nat) (k : Nat) : Option Nat :=
  if g_s kd vl 40 k then (s (k + 1)).bind (g_tk kd vl 41)
  else if g_o kd vl 20 k then x_choice kd vl s t k
  else if g_o kd vl 25 k || g_o kd vl 26 k then x_prs kd vl s k
  else if g_n kd k || g_fw kd vl w k then some (k + 1) else none
def x_prod (kd vl : Nat → Int32) (p : Nat → Option Nat) (k : Nat) : Option Nat := (p k).bind (x_loop (g_po kd vl) p 1600)
def x_sum (kd vl : Nat → Int32) (p : Nat → Option Nat) (k : Nat) : Option Nat := (x_prod kd vl p k).bind (x_loop (g_so kd vl) (x_prod kd vl p) 1600)
def x_comp (kd vl : Nat → Int32) (s : Nat → Option Nat) (k : Nat) : Option Nat := (s k).bind fun k1 => if g_co kd vl k1 then s (k1 + 1) else none
/-- a FACT; f1, t1: FACT and TEST one bracket further in; s: a SUM here -/
def x_fact (kd vl : Nat → Int32) (f1 t1 s : Nat → Option Nat) (k : Nat) : Option Nat :=
  if g_o kd vl 23 k then f1 (k + 1)
  else if g_s kd vl 91 k then (t1 (k + 1)).bind (g_tk kd vl 93)
  else if g_o kd vl 24 k then some (k + 1)
  else x_comp kd vl s k
def x_both (kd vl : Nat → Int32) (f : Nat → Option Nat) (k : Nat) : Option Nat := (f k).bind (x_loop (g_o kd vl 22) f 1600)
def x_test (kd vl : Nat → Int32) (f : Nat → Option Nat) (k : Nat) : Option Nat := (x_both kd vl f k).bind (x_loop (g_o kd vl 21) (x_both kd vl f) 1600)
/-- SUM, TEST and FACT where e brackets may still be opened, less one -/
def x_lv (kd vl : Nat → Int32) (w : Int) : Nat → (Nat → Option Nat) × (Nat → Option Nat) × (Nat → Option Nat)
  | 0 => (fun _ => none, fun _ => none, fun _ => none)
  | e + 1 => (x_sum kd vl (x_part kd vl w (x_lv kd vl w e).1 (x_lv kd vl w e).2.1), x_test kd vl (x_fact kd vl (x_lv kd vl w e).2.2 (x_lv kd vl w e).2.1 (x_sum kd vl (x_part kd vl w (x_lv kd vl w e).1 (x_lv kd vl w e).2.1))), x_fact kd vl (x_lv kd vl w e).2.2 (x_lv kd vl w e).2.1 (x_sum kd vl (x_part kd vl w (x_lv kd vl w e).1 (x_lv kd vl w e).2.1)))
/-! what it takes ends further on, and loops end where no sign of theirs stands -/
theorem g_s_lt {kd vl : Nat → Int32} {N : Nat} (hN : ∀ k, N ≤ k → (kd k).toInt = 0) {c : Int} {k : Nat} (h : g_s kd vl c k = true) : k < N := by
  unfold g_s at h
  simp only [Bool.and_eq_true, decide_eq_true_eq] at h
  have h1 := hN k
  omega
theorem g_o_lt {kd vl : Nat → Int32} {N : Nat} (hN : ∀ k, N ≤ k → (kd k).toInt = 0) {c : Int} {k : Nat} (h : g_o kd vl c k = true) : k < N := by
  unfold g_o at h
  simp only [Bool.and_eq_true, decide_eq_true_eq] at h
  have h1 := hN k
  omega
theorem g_so_lt {kd vl : Nat → Int32} {N : Nat} (hN : ∀ k, N ≤ k → (kd k).toInt = 0) {k : Nat} (h : g_so kd vl k = true) : k < N := by
  unfold g_so at h
  simp only [Bool.or_eq_true] at h
  rcases h with h | h <;> exact g_s_lt hN h
theorem g_po_lt {kd vl : Nat → Int32} {N : Nat} (hN : ∀ k, N ≤ k → (kd k).toInt = 0) {k : Nat} (h : g_po kd vl k = true) : k < N := by
  unfold g_po at h
  simp only [Bool.or_eq_true] at h
  rcases h with (h | h) | h <;> exact g_s_lt hN h
theorem x_loop_in {op : Nat → Bool} {p : Nat → Option Nat} {f k k' : Nat} (h : x_loop op p (f + 1) k = some k') (ho : op k = true) : ∃ j, p (k + 1) = some j ∧ x_loop op p f j = some k' := by
  unfold x_loop at h
  rw [if_pos ho] at h
  cases hp : p (k + 1) with
  | none => rw [hp] at h; exact absurd h (by simp)
  | some j => rw [hp] at h; exact ⟨j, rfl, h⟩
theorem x_loop_out {op : Nat → Bool} {p : Nat → Option Nat} {f k : Nat} (ho : op k = false) : x_loop op p f k = some k := by
  cases f with
  | zero => rfl
  | succ f => unfold x_loop; rw [if_neg (by rw [ho]; decide)]
theorem x_loop_ex {op : Nat → Bool} {p : Nat → Option Nat} {N : Nat} {I : Nat → Prop} (hop : ∀ j, op j = true → j < N) (hp : ∀ j j', p j = some j' → j < j' ∧ I j') : ∀ (f k k' : Nat), N ≤ f + k → I k → x_loop op p f k = some k' → k ≤ k' ∧ op k' = false ∧ I k'
  | 0, k, k', hf, hI, h => by
    cases h
    refine ⟨Nat.le_refl _, ?_, hI⟩
    cases ho : op k with
    | false => rfl
    | true => exact absurd (hop k ho) (by omega)
  | f + 1, k, k', hf, hI, h => by
    cases ho : op k with
    | false =>
      rw [x_loop_out ho] at h
      cases h
      exact ⟨Nat.le_refl _, ho, hI⟩
    | true =>
      obtain ⟨j, h1, h2⟩ := x_loop_in h ho
      have h3 := hp _ _ h1
      have h4 := x_loop_ex hop hp f j k' (by omega) h3.2 h2
      exact ⟨by omega, h4.2⟩
theorem g_bind {a : Option Nat} {f : Nat → Option Nat} {k' : Nat} (h : a.bind f = some k') : ∃ j, a = some j ∧ f j = some k' := by
  cases a with
  | none => exact absurd h (by simp)
  | some j => exact ⟨j, rfl, h⟩
theorem g_tk_some {kd vl : Nat → Int32} {c : Int} {k k' : Nat} (h : g_tk kd vl c k = some k') : g_s kd vl c k = true ∧ k' = k + 1 := by
  unfold g_tk at h
  by_cases q : g_s kd vl c k = true
  · rw [if_pos q] at h
    cases h
    exact ⟨q, rfl⟩
  · rw [if_neg q] at h
    cases h
theorem g_tk_none {kd vl : Nat → Int32} {c : Int} {k : Nat} (h : g_tk kd vl c k = none) : g_s kd vl c k = false := by
  unfold g_tk at h
  cases q : g_s kd vl c k with
  | false => rfl
  | true => rw [if_pos q] at h; cases h
theorem x_pair_lt {kd vl : Nat → Int32} {s : Nat → Option Nat} (hs : ∀ j j', s j = some j' → j < j') {k k' : Nat} (h : x_pair kd vl s k = some k') : k < k' := by
  unfold x_pair at h
  obtain ⟨k1, h1, h⟩ := g_bind h
  obtain ⟨k2, h2, h⟩ := g_bind h
  obtain ⟨k3, h3, h⟩ := g_bind h
  have a1 := hs _ _ h1
  have a2 := (g_tk_some h2).2
  have a3 := hs _ _ h3
  have a4 := (g_tk_some h).2
  omega
theorem x_part_lt {kd vl : Nat → Int32} {w : Int} {s t : Nat → Option Nat} (hs : ∀ j j', s j = some j' → j < j') (ht : ∀ j j', t j = some j' → j < j') {k k' : Nat} (h : x_part kd vl w s t k = some k') : k < k' := by
  unfold x_part x_choice x_prs at h
  split at h
  · obtain ⟨k1, h1, h⟩ := g_bind h
    have a1 := hs _ _ h1
    have a2 := (g_tk_some h).2
    omega
  · split at h
    · split at h
      · obtain ⟨k1, h1, h⟩ := g_bind h
        obtain ⟨k2, h2, h⟩ := g_bind h
        have a1 := ht _ _ h1
        have a2 := (g_tk_some h2).2
        have a3 := x_pair_lt hs h
        omega
      · cases h
    · split at h
      · split at h
        · have a1 := x_pair_lt hs h
          omega
        · cases h
      · split at h
        · cases h
          omega
        · cases h
theorem x_prod_ex {kd vl : Nat → Int32} {N : Nat} (hN : ∀ k, N ≤ k → (kd k).toInt = 0) (hN2 : N ≤ 1600) {p : Nat → Option Nat} (hp : ∀ j j', p j = some j' → j < j') {k k' : Nat} (h : x_prod kd vl p k = some k') : k < k' ∧ g_po kd vl k' = false := by
  unfold x_prod at h
  obtain ⟨k1, h1, h⟩ := g_bind h
  have a1 := hp _ _ h1
  have a2 := x_loop_ex (I := fun _ => True) (fun j => g_po_lt hN) (fun j j' q => ⟨hp j j' q, trivial⟩) 1600 k1 k' (by omega) trivial h
  exact ⟨by omega, a2.2.1⟩
theorem x_sum_ex {kd vl : Nat → Int32} {N : Nat} (hN : ∀ k, N ≤ k → (kd k).toInt = 0) (hN2 : N ≤ 1600) {p : Nat → Option Nat} (hp : ∀ j j', p j = some j' → j < j') {k k' : Nat} (h : x_sum kd vl p k = some k') : k < k' ∧ g_so kd vl k' = false ∧ g_po kd vl k' = false := by
  unfold x_sum at h
  obtain ⟨k1, h1, h⟩ := g_bind h
  have a1 := x_prod_ex hN hN2 hp h1
  have a2 := x_loop_ex (I := fun j => g_po kd vl j = false) (fun j => g_so_lt hN) (fun j j' q => x_prod_ex hN hN2 hp q) 1600 k1 k' (by omega) a1.2 h
  exact ⟨by omega, a2.2⟩
theorem x_fact_lt {kd vl : Nat → Int32} {f1 t1 s : Nat → Option Nat} (hf : ∀ j j', f1 j = some j' → j < j') (ht : ∀ j j', t1 j = some j' → j < j') (hs : ∀ j j', s j = some j' → j < j') {k k' : Nat} (h : x_fact kd vl f1 t1 s k = some k') : k < k' := by
  unfold x_fact at h
  split at h
  · have a1 := hf _ _ h
    omega
  · split at h
    · obtain ⟨k1, h1, h⟩ := g_bind h
      have a1 := ht _ _ h1
      have a2 := (g_tk_some h).2
      omega
    · split at h
      · cases h
        omega
      · unfold x_comp at h
        obtain ⟨k1, h1, h⟩ := g_bind h
        have a1 := hs _ _ h1
        split at h
        · have a2 := hs _ _ h
          omega
        · cases h
theorem x_both_ex {kd vl : Nat → Int32} {N : Nat} (hN : ∀ k, N ≤ k → (kd k).toInt = 0) (hN2 : N ≤ 1600) {f : Nat → Option Nat} (hf : ∀ j j', f j = some j' → j < j') {k k' : Nat} (h : x_both kd vl f k = some k') : k < k' ∧ g_o kd vl 22 k' = false := by
  unfold x_both at h
  obtain ⟨k1, h1, h⟩ := g_bind h
  have a1 := hf _ _ h1
  have a2 := x_loop_ex (I := fun _ => True) (fun j => g_o_lt hN) (fun j j' q => ⟨hf j j' q, trivial⟩) 1600 k1 k' (by omega) trivial h
  exact ⟨by omega, a2.2.1⟩
theorem x_test_ex {kd vl : Nat → Int32} {N : Nat} (hN : ∀ k, N ≤ k → (kd k).toInt = 0) (hN2 : N ≤ 1600) {f : Nat → Option Nat} (hf : ∀ j j', f j = some j' → j < j') {k k' : Nat} (h : x_test kd vl f k = some k') : k < k' ∧ g_o kd vl 21 k' = false ∧ g_o kd vl 22 k' = false := by
  unfold x_test at h
  obtain ⟨k1, h1, h⟩ := g_bind h
  have a1 := x_both_ex hN hN2 hf h1
  have a2 := x_loop_ex (I := fun j => g_o kd vl 22 j = false) (fun j => g_o_lt hN) (fun j j' q => x_both_ex hN hN2 hf q) 1600 k1 k' (by omega) a1.2 h
  exact ⟨by omega, a2.2⟩
theorem x_lv_lt {kd vl : Nat → Int32} {w : Int} {N : Nat} (hN : ∀ k, N ≤ k → (kd k).toInt = 0) (hN2 : N ≤ 1600) : ∀ e : Nat, (∀ j j', (x_lv kd vl w e).1 j = some j' → j < j') ∧ (∀ j j', (x_lv kd vl w e).2.1 j = some j' → j < j') ∧ (∀ j j', (x_lv kd vl w e).2.2 j = some j' → j < j')
  | 0 => ⟨fun _ _ h => (by cases h), fun _ _ h => (by cases h), fun _ _ h => (by cases h)⟩
  | e + 1 => by
    obtain ⟨a, b, c⟩ := x_lv_lt hN hN2 e
    have hp : ∀ j j', x_part kd vl w (x_lv kd vl w e).1 (x_lv kd vl w e).2.1 j = some j' → j < j' := fun j j' h => x_part_lt a b h
    have hs : ∀ j j', x_sum kd vl (x_part kd vl w (x_lv kd vl w e).1 (x_lv kd vl w e).2.1) j = some j' → j < j' := fun j j' h => (x_sum_ex hN hN2 hp h).1
    have hf : ∀ j j', x_fact kd vl (x_lv kd vl w e).2.2 (x_lv kd vl w e).2.1 (x_sum kd vl (x_part kd vl w (x_lv kd vl w e).1 (x_lv kd vl w e).2.1)) j = some j' → j < j' := fun j j' h => x_fact_lt c b hs h
    exact ⟨hs, fun j j' h => (x_test_ex hN hN2 hf h).1, hf⟩
/-! what a method of the class's reader answers, and its loops -/
theorem g_iff_f {P : Prop} {b : Bool} (h : P ↔ b = true) (hn : ¬ P) : b = false := by
  cases b with
  | false => rfl
  | true => exact absurd (h.mpr rfl) hn
theorem g_s_iff {kd vl : Nat → Int32} {c : Int} {k : Nat} : g_s kd vl c k = true ↔ (kd k).toInt = 4 ∧ (vl k).toInt = c := by
  unfold g_s
  simp only [Bool.and_eq_true, decide_eq_true_eq]
theorem g_o_iff {kd vl : Nat → Int32} {c : Int} {k : Nat} : g_o kd vl c k = true ↔ (kd k).toInt = 1 ∧ (vl k).toInt = c := by
  unfold g_o
  simp only [Bool.and_eq_true, decide_eq_true_eq]
theorem g_n_iff {kd : Nat → Int32} {k : Nat} : g_n kd k = true ↔ (kd k).toInt = 3 := by
  unfold g_n
  simp only [decide_eq_true_eq]
theorem g_s_ne {kd vl : Nat → Int32} {c : Int} {k : Nat} (h : g_s kd vl c k = true) : (kd k).toInt ≠ 0 := by
  have h1 := g_s_iff.mp h
  omega
theorem g_o_ne {kd vl : Nat → Int32} {c : Int} {k : Nat} (h : g_o kd vl c k = true) : (kd k).toInt ≠ 0 := by
  have h1 := g_o_iff.mp h
  omega
theorem g_so_ne {kd vl : Nat → Int32} {k : Nat} (h : g_so kd vl k = true) : (kd k).toInt ≠ 0 := by
  unfold g_so at h
  simp only [Bool.or_eq_true] at h
  rcases h with h | h <;> exact g_s_ne h
theorem g_po_ne {kd vl : Nat → Int32} {k : Nat} (h : g_po kd vl k = true) : (kd k).toInt ≠ 0 := by
  unfold g_po at h
  simp only [Bool.or_eq_true] at h
  rcases h with (h | h) | h <;> exact g_s_ne h
theorem g_co_ne {kd vl : Nat → Int32} {k : Nat} (h : g_co kd vl k = true) : (kd k).toInt ≠ 0 := by
  unfold g_co at h
  simp only [Bool.or_eq_true] at h
  rcases h with (h | h) | h <;> exact g_s_ne h
theorem g_fw_ne {kd vl : Nat → Int32} {w : Int} {k : Nat} (h : g_fw kd vl w k = true) : (kd k).toInt ≠ 0 := by
  unfold g_fw at h
  simp only [Bool.or_eq_true, Bool.and_eq_true] at h
  rcases h with (((h | h) | h) | h) | h
  · exact g_o_ne h
  · exact g_o_ne h
  · exact g_o_ne h
  · exact g_o_ne h.1
  · rcases h.1 with h | h <;> exact g_o_ne h
theorem g_fw_iff {kd vl : Nat → Int32} {w : Int} {k : Nat} : g_fw kd vl w k = true ↔ (kd k).toInt = 1 ∧ ((vl k).toInt = 5 ∨ (vl k).toInt = 15 ∨ (vl k).toInt = 16 ∨ ((vl k).toInt = 17 ∧ w = 0) ∨ (((vl k).toInt = 18 ∨ (vl k).toInt = 19) ∧ w ≠ 0)) := by
  unfold g_fw g_o
  simp only [Bool.or_eq_true, Bool.and_eq_true, decide_eq_true_eq, Bool.not_eq_true', decide_eq_false_iff_not]
  omega
theorem x_lv_z1 {kd vl : Nat → Int32} {w : Int} {k : Nat} : (x_lv kd vl w 0).1 k = none := rfl
theorem x_lv_z2 {kd vl : Nat → Int32} {w : Int} {k : Nat} : (x_lv kd vl w 0).2.1 k = none := rfl
theorem x_lv_z3 {kd vl : Nat → Int32} {w : Int} {k : Nat} : (x_lv kd vl w 0).2.2 k = none := rfl
def g_ans (r : Int32) (E : Option Nat) (y : Nat) : Prop := (r.toInt = 1 → E = some y) ∧ (r.toInt ≠ 1 → E = none)
theorem g_ans.y {r : Int32} {E : Option Nat} {y : Nat} (hr : r.toInt = 1) (h : E = some y) : g_ans r E y := ⟨fun _ => h, fun q => absurd hr q⟩
theorem g_ans.n {r : Int32} {E : Option Nat} {y : Nat} (hr : r.toInt ≠ 1) (h : E = none) : g_ans r E y := ⟨fun q => absurd q hr, fun _ => h⟩
theorem g_ans.to {r : Int32} {E E' : Option Nat} {y : Nat} (h : g_ans r E y) (e : E' = E) : g_ans r E' y := by
  rw [e]
  exact h
def g_it (gd : Int32) (E : Option Nat) (op : Nat → Bool) (p : Nat → Option Nat) (f k : Nat) : Prop := (gd.toInt = 1 → E = x_loop op p f k) ∧ (gd.toInt ≠ 1 → E = none)
theorem g_it.start {r : Int32} {E0 : Option Nat} {op : Nat → Bool} {p : Nat → Option Nat} {f y : Nat} (h : g_ans r E0 y) : g_it r (E0.bind (x_loop op p f)) op p f y := ⟨fun q => by rw [h.1 q]; rfl, fun q => by rw [h.2 q]; rfl⟩
theorem g_it.step {gd r : Int32} {E : Option Nat} {op : Nat → Bool} {p : Nat → Option Nat} {f f' k y : Nat} (h : g_it gd E op p f k) (hg : gd.toInt = 1) (hf : f = f' + 1) (ho : op k = true) (a : g_ans r (p (k + 1)) y) : g_it r E op p f' y := by
  subst hf
  have e := h.1 hg
  unfold x_loop at e
  rw [if_pos ho] at e
  exact ⟨fun q => by rw [e, a.1 q]; rfl, fun q => by rw [e, a.2 q]; rfl⟩
theorem g_it.stop {gd : Int32} {E : Option Nat} {op : Nat → Bool} {p : Nat → Option Nat} {f k : Nat} (h : g_it gd E op p f k) (hx : gd.toInt = 1 → f = 0 ∨ op k = false) : g_ans gd E k := by
  refine ⟨fun q => ?_, h.2⟩
  rw [h.1 q]
  rcases hx q with z | z
  · subst z
    rfl
  · exact x_loop_out z
