/-! what a rule's reading writes, by the descent: the class's steps -/
abbrev d_C : Type := Nat → List Int
def d_so (kd vl : Nat → Int32) (k : Nat) : Int := if g_s kd vl 43 k then -10 else -11
def d_po (kd vl : Nat → Int32) (k : Nat) : Int := if g_s kd vl 42 k then -12 else if g_s kd vl 47 k then -13 else -14
def d_co (kd vl : Nat → Int32) (k : Nat) : Int := if g_s kd vl 60 k then -17 else if g_s kd vl 62 k then -18 else -19
def d_fw (kd vl : Nat → Int32) (k : Nat) : Int := if g_o kd vl 5 k then -1 else if g_o kd vl 15 k then -2 else if g_o kd vl 16 k then -3 else if g_o kd vl 17 k then -4 else if g_o kd vl 18 k then -5 else -6
def d_loop (op : Nat → Bool) (p : Nat → Option Nat) (cp : d_C) (st : Nat → Int) : Nat → Nat → List Int
  | 0, _ => []
  | f + 1, k => if op k then cp (k + 1) ++ st k :: d_loop op p cp st f ((p (k + 1)).getD 0) else []
def d_pair (s : Nat → Option Nat) (cs : d_C) (k : Nat) : List Int := cs k ++ cs ((s k).getD 0 + 1)
def d_choice (s t : Nat → Option Nat) (cs ct : d_C) (k : Nat) : List Int := ct (k + 2) ++ d_pair s cs ((t (k + 2)).getD 0 + 1) ++ [-9]
def d_prs (kd vl : Nat → Int32) (s : Nat → Option Nat) (cs : d_C) (k : Nat) : List Int := d_pair s cs (k + 2) ++ [if g_o kd vl 25 k then -15 else -16]
def d_part (kd vl : Nat → Int32) (s t : Nat → Option Nat) (cs ct : d_C) (k : Nat) : List Int :=
  if g_s kd vl 40 k then cs (k + 1)
  else if g_o kd vl 20 k then d_choice s t cs ct k
  else if g_o kd vl 25 k || g_o kd vl 26 k then d_prs kd vl s cs k
  else if g_n kd k then [(vl k).toInt] else [d_fw kd vl k]
def d_prod (kd vl : Nat → Int32) (p : Nat → Option Nat) (cp : d_C) (k : Nat) : List Int := cp k ++ d_loop (g_po kd vl) p cp (d_po kd vl) 1600 ((p k).getD 0)
def d_sum (kd vl : Nat → Int32) (p : Nat → Option Nat) (cp : d_C) (k : Nat) : List Int := d_prod kd vl p cp k ++ d_loop (g_so kd vl) (x_prod kd vl p) (d_prod kd vl p cp) (d_so kd vl) 1600 ((x_prod kd vl p k).getD 0)
def d_comp (kd vl : Nat → Int32) (s : Nat → Option Nat) (cs : d_C) (k : Nat) : List Int := cs k ++ cs ((s k).getD 0 + 1) ++ [d_co kd vl ((s k).getD 0)]
def d_fact (kd vl : Nat → Int32) (s : Nat → Option Nat) (cf1 ct1 cs : d_C) (k : Nat) : List Int :=
  if g_o kd vl 23 k then cf1 (k + 1) ++ [-8]
  else if g_s kd vl 91 k then ct1 (k + 1)
  else if g_o kd vl 24 k then [-7]
  else d_comp kd vl s cs k
def d_both (kd vl : Nat → Int32) (f : Nat → Option Nat) (cf : d_C) (k : Nat) : List Int := cf k ++ d_loop (g_o kd vl 22) f cf (fun _ => -20) 1600 ((f k).getD 0)
def d_test (kd vl : Nat → Int32) (f : Nat → Option Nat) (cf : d_C) (k : Nat) : List Int := d_both kd vl f cf k ++ d_loop (g_o kd vl 21) (x_both kd vl f) (d_both kd vl f cf) (fun _ => -21) 1600 ((x_both kd vl f k).getD 0)
/-- of a SUM, a TEST, a FACT where e brackets may still be opened, less one -/
def d_lv (kd vl : Nat → Int32) (w : Int) : Nat → d_C × d_C × d_C
  | 0 => (fun _ => [], fun _ => [], fun _ => [])
  | e + 1 => (d_sum kd vl (x_part kd vl w (x_lv kd vl w e).1 (x_lv kd vl w e).2.1) (d_part kd vl (x_lv kd vl w e).1 (x_lv kd vl w e).2.1 (d_lv kd vl w e).1 (d_lv kd vl w e).2.1), d_test kd vl (x_lv kd vl w (e + 1)).2.2 (d_fact kd vl (x_lv kd vl w (e + 1)).1 (d_lv kd vl w e).2.2 (d_lv kd vl w e).2.1 (d_sum kd vl (x_part kd vl w (x_lv kd vl w e).1 (x_lv kd vl w e).2.1) (d_part kd vl (x_lv kd vl w e).1 (x_lv kd vl w e).2.1 (d_lv kd vl w e).1 (d_lv kd vl w e).2.1))), d_fact kd vl (x_lv kd vl w (e + 1)).1 (d_lv kd vl w e).2.2 (d_lv kd vl w e).2.1 (d_sum kd vl (x_part kd vl w (x_lv kd vl w e).1 (x_lv kd vl w e).2.1) (d_part kd vl (x_lv kd vl w e).1 (x_lv kd vl w e).2.1 (d_lv kd vl w e).1 (d_lv kd vl w e).2.1)))
def d_rule (kd vl : Nat → Int32) (w : Int) (k : Nat) : List Int := if w = 1 then (d_lv kd vl w 8).2.1 k else (d_lv kd vl w 8).1 k
/-! the same by frames: kind, phase, whether it begins, the operators that wait (the last one first), its pair -/
abbrev n_F : Type := Int × Int × Bool × List Int × Int
/-- tag (0 on, 1 taken, 2 a fault), frames, how many brackets, token, whether an operand stands behind, what is written -/
abbrev n_S : Type := Nat × List n_F × Nat × Nat × Bool × List Int
def n_bad : n_S := (2, [], 0, 0, false, [])
/-- the class's step of the reference's code -/
def d_st (t : Int) : Int := if t ≤ 6 then -t else if t = 30 then -7 else if t = 43 then -8 else if t = 44 then -9 else 21 - t
def n_hi (l : Int) (ops : List Int) : List Int := ops.takeWhile (fun t => decide (l ≤ dk_rk t))
def n_lo (l : Int) (ops : List Int) : List Int := ops.dropWhile (fun t => decide (l ≤ dk_rk t))
def n_cn : List Int → Nat
  | [] => 0
  | t :: r => (if t = 43 then 1 else 0) + n_cn r
def n_sg (kd vl : Nat → Int32) (k : Nat) : Int := if g_s kd vl 43 k then 31 else if g_s kd vl 45 k then 32 else if g_s kd vl 42 k then 33 else if g_s kd vl 47 k then 34 else 35
def n_cp (kd vl : Nat → Int32) (k : Nat) : Int := if g_s kd vl 60 k then 38 else if g_s kd vl 62 k then 39 else 40
def n_push (kn ph : Int) (ops : List Int) (pr : Int) (R : List n_F) (o k : Nat) (q p : Int) (out : List Int) : n_S := if o = 7 then n_bad else (0, (q, 0, true, [], p) :: (kn, ph, false, ops, pr) :: R, o + 1, k, false, out)
def n_opA (kd vl : Nat → Int32) (kn ph : Int) (ops : List Int) (pr : Int) (R : List n_F) (o k : Nat) (out : List Int) : n_S :=
  if g_o kd vl 23 k then (if o = 7 then n_bad else (0, (kn, ph, true, 43 :: ops, pr) :: R, o + 1, k + 1, false, out))
  else if g_s kd vl 91 k then n_push kn ph ops pr R o (k + 1) 5 0 out
  else (0, (kn, 2, false, ops, pr) :: R, o, k + 1, true, out ++ [-7])
def n_opB (kd vl : Nat → Int32) (w : Int) (kn ph : Int) (ops : List Int) (pr : Int) (R : List n_F) (o k : Nat) (out : List Int) : n_S :=
  if g_s kd vl 40 k then n_push kn ph ops pr R o (k + 1) 2 0 out
  else if g_o kd vl 20 k then (if g_s kd vl 40 (k + 1) then n_push kn ph ops pr R o (k + 2) 6 44 out else n_bad)
  else if g_o kd vl 25 k || g_o kd vl 26 k then (if g_s kd vl 40 (k + 1) then n_push kn ph ops pr R o (k + 2) 3 (if g_o kd vl 25 k then 36 else 37) out else n_bad)
  else if g_n kd k then (0, (kn, ph, false, ops, pr) :: R, o, k + 1, true, out ++ [(vl k).toInt])
  else if g_fw kd vl w k then (0, (kn, ph, false, ops, pr) :: R, o, k + 1, true, out ++ [d_fw kd vl k]) else n_bad
def n_opd (kd vl : Nat → Int32) (w : Int) (kn ph : Int) (bg : Bool) (ops : List Int) (pr : Int) (R : List n_F) (o k : Nat) (out : List Int) : n_S := if m_fst kd vl kn bg k then n_opA kd vl kn ph ops pr R o k out else n_opB kd vl w kn ph ops pr R o k out
def n_pop (kn : Int) (ops : List Int) (pr : Int) (R : List n_F) (o k : Nat) (out : List Int) : n_S := match R with
  | [] => n_bad
  | (a, b, c, d, p) :: R' => (0, (a, if kn = 5 then 2 else b, c, d, p) :: R', o - n_cn ops - 1, k + 1, true, out ++ ops.map d_st ++ (if kn = 4 then [d_st pr] else []))
def n_go (kd vl : Nat → Int32) (kn ph : Int) (bg : Bool) (ops : List Int) (pr : Int) (R : List n_F) (o k : Nat) (out : List Int) : n_S :=
  if decide (ph < 2) && g_so kd vl k then (0, (kn, ph, bg, n_sg kd vl k :: n_lo 5 ops, pr) :: R, o, k + 1, false, out ++ (n_hi 5 ops).map d_st)
  else if decide (ph < 2) && g_po kd vl k then (0, (kn, ph, bg, n_sg kd vl k :: n_lo 6 ops, pr) :: R, o, k + 1, false, out ++ (n_hi 6 ops).map d_st)
  else if m_tst kn && decide (ph = 0) then (if g_co kd vl k then (0, (kn, 1, bg, n_cp kd vl k :: n_lo 5 ops, pr) :: R, o, k + 1, false, out ++ (n_hi 5 ops).map d_st) else n_bad)
  else if m_tst kn && g_o kd vl 22 k then (0, (kn, 0, true, 41 :: n_lo 2 ops, pr) :: R, o - n_cn (n_hi 2 ops), k + 1, false, out ++ (n_hi 2 ops).map d_st)
  else if m_tst kn && g_o kd vl 21 k then (0, (kn, 0, true, 42 :: n_lo 1 ops, pr) :: R, o - n_cn (n_hi 1 ops), k + 1, false, out ++ (n_hi 1 ops).map d_st)
  else if kn < 2 then (1, (kn, ph, bg, [], pr) :: R, o - n_cn ops, k, true, out ++ ops.map d_st)
  else if kn = 3 ∨ kn = 6 then (if g_s kd vl 44 k then (0, ((if kn = 3 then 4 else 3), 0, bg, [], pr) :: R, o - n_cn ops, k + 1, false, out ++ ops.map d_st) else n_bad)
  else if g_s kd vl (if kn = 5 then 93 else 41) k then n_pop kn ops pr R o k out else n_bad
def n_st (kd vl : Nat → Int32) (w : Int) : n_S → n_S
  | (0, (kn, ph, bg, ops, pr) :: R, o, k, false, out) => n_opd kd vl w kn ph bg ops pr R o k out
  | (0, (kn, ph, bg, ops, pr) :: R, o, k, true, out) => n_go kd vl kn ph bg ops pr R o k out
  | s => s
def n_it (kd vl : Nat → Int32) (w : Int) : Nat → n_S → n_S
  | 0, s => s
  | n + 1, s => n_it kd vl w n (n_st kd vl w s)
def n_R (kd vl : Nat → Int32) (w : Int) (s t : n_S) : Prop := ∃ n, n_it kd vl w n s = t
section NR
variable {kd vl : Nat → Int32} {w : Int} {s t u : n_S} {kn ph pr l l' : Int} {bg : Bool} {ops pend : List Int} {R : List n_F} {o k : Nat} {out : List Int}
theorem n_R.rf : n_R kd vl w s s := ⟨0, rfl⟩
theorem n_it_add : ∀ (a b : Nat) (s : n_S), n_it kd vl w (a + b) s = n_it kd vl w b (n_it kd vl w a s)
  | 0, b, s => by rw [Nat.zero_add]; rfl
  | a + 1, b, s => by rw [Nat.succ_add]; exact n_it_add a b (n_st kd vl w s)
theorem n_R.tr (h1 : n_R kd vl w s t) (h2 : n_R kd vl w t u) : n_R kd vl w s u := by
  obtain ⟨a, h1⟩ := h1
  obtain ⟨b, h2⟩ := h2
  exact ⟨a + b, by rw [n_it_add, h1, h2]⟩
theorem n_R.st (e : n_st kd vl w s = t) : n_R kd vl w s t := ⟨1, e⟩
theorem n_it_end (h : n_st kd vl w s = s) : ∀ n, n_it kd vl w n s = s
  | 0 => rfl
  | n + 1 => by show n_it kd vl w n (n_st kd vl w s) = s; rw [h]; exact n_it_end h n
theorem n_R.det (h1 : n_R kd vl w s t) (h2 : n_R kd vl w s u) (e1 : n_st kd vl w t = t) (e2 : n_st kd vl w u = u) : t = u := by
  obtain ⟨a, h1⟩ := h1
  obtain ⟨b, h2⟩ := h2
  have h3 := n_it_add (kd := kd) (vl := vl) (w := w) a b s
  have h4 := n_it_add (kd := kd) (vl := vl) (w := w) b a s
  rw [h1, n_it_end e1] at h3
  rw [h2, n_it_end e2, Nat.add_comm] at h4
  exact h3.symm.trans h4
/-- no operator on top that is of rank l or more; all of them are -/
def n_HD (l : Int) (ops : List Int) : Prop := ∀ t r, ops = t :: r → dk_rk t < l
def n_AL (l : Int) (p : List Int) : Prop := ∀ t ∈ p, l ≤ dk_rk t
theorem n_HD.nil : n_HD l [] := fun t r h => (by cases h)
theorem n_HD.cons {t : Int} (h : dk_rk t < l) : n_HD l (t :: ops) := fun t' r e => by
  injection e with e1 e2
  rw [← e1]
  exact h
theorem n_HD.wk (h : n_HD l ops) (hl : l ≤ l') : n_HD l' ops := fun t r e => Int.lt_of_lt_of_le (h t r e) hl
theorem n_AL.nil : n_AL l [] := fun t h => (by cases h)
theorem n_AL.wk (h : n_AL l pend) (hl : l' ≤ l) : n_AL l' pend := fun t ht => Int.le_trans hl (h t ht)
theorem n_AL.snoc {t : Int} (h : n_AL l pend) (ht : l ≤ dk_rk t) : n_AL l (pend ++ [t]) := fun x hx => by
  rw [List.mem_append] at hx
  rcases hx with hx | hx
  · exact h x hx
  · rw [List.mem_singleton] at hx
    rw [hx]
    exact ht
theorem n_split : ∀ {pend : List Int}, n_AL l pend → n_HD l ops → n_hi l (pend ++ ops) = pend ∧ n_lo l (pend ++ ops) = ops
  | [], _, h => by
    unfold n_hi n_lo
    cases ops with
    | nil => exact ⟨rfl, rfl⟩
    | cons t r =>
      have h1 := h t r rfl
      rw [List.nil_append, List.takeWhile_cons, List.dropWhile_cons, if_neg (by rw [decide_eq_true_eq]; omega), if_neg (by rw [decide_eq_true_eq]; omega)]
      exact ⟨rfl, rfl⟩
  | t :: p, ha, h => by
    have ih := n_split (pend := p) (fun x hx => ha x (List.mem_cons_of_mem t hx)) h
    have h1 := ha t List.mem_cons_self
    unfold n_hi n_lo at ih ⊢
    rw [List.cons_append, List.takeWhile_cons, List.dropWhile_cons, if_pos (by rw [decide_eq_true_eq]; exact h1), if_pos (by rw [decide_eq_true_eq]; exact h1), ih.1, ih.2]
    exact ⟨rfl, rfl⟩
theorem n_cn_app : ∀ (a b : List Int), n_cn (a ++ b) = n_cn a + n_cn b
  | [], b => by rw [List.nil_append]; show _ = 0 + _; omega
  | t :: a, b => by
    show (if t = 43 then 1 else 0) + n_cn (a ++ b) = (if t = 43 then 1 else 0) + n_cn a + n_cn b
    rw [n_cn_app a b]
    omega
theorem n_st_f : n_st kd vl w (0, (kn, ph, bg, ops, pr) :: R, o, k, false, out) = n_opd kd vl w kn ph bg ops pr R o k out := rfl
theorem n_st_t : n_st kd vl w (0, (kn, ph, bg, ops, pr) :: R, o, k, true, out) = n_go kd vl kn ph bg ops pr R o k out := rfl
theorem n_noop (h : ph < 2 → g_so kd vl k = false ∧ g_po kd vl k = false) : (decide (ph < 2) && g_so kd vl k) = false ∧ (decide (ph < 2) && g_po kd vl k) = false := by
  by_cases q : ph < 2
  · rw [(h q).1, (h q).2]; simp
  · simp [q]
theorem g_so_po (h : g_so kd vl k = true) : g_po kd vl k = false := by
  unfold g_so at h
  rw [Bool.or_eq_true] at h
  refine g_po_f ?_ ?_ ?_
  all_goals
    rcases h with h | h
    all_goals
      apply Bool.eq_false_iff.mpr
      intro q
      have a := g_s_iff.mp q
      have b := g_s_iff.mp h
      omega
theorem n_go_so (hp : ph < 2) (h : g_so kd vl k = true) : n_go kd vl kn ph bg ops pr R o k out = (0, (kn, ph, bg, n_sg kd vl k :: n_lo 5 ops, pr) :: R, o, k + 1, false, out ++ (n_hi 5 ops).map d_st) := by
  unfold n_go
  rw [if_pos (by rw [h, Bool.and_true, decide_eq_true_eq]; exact hp)]
theorem n_go_po (hp : ph < 2) (h : g_po kd vl k = true) : n_go kd vl kn ph bg ops pr R o k out = (0, (kn, ph, bg, n_sg kd vl k :: n_lo 6 ops, pr) :: R, o, k + 1, false, out ++ (n_hi 6 ops).map d_st) := by
  have h2 : g_so kd vl k = false := by
    apply Bool.eq_false_iff.mpr
    intro q
    have := g_so_po q
    rw [h] at this
    cases this
  unfold n_go
  rw [h2, Bool.and_false, if_neg (by decide), if_pos (by rw [h, Bool.and_true, decide_eq_true_eq]; exact hp)]
theorem n_go_2 (h : ph < 2 → g_so kd vl k = false ∧ g_po kd vl k = false) : n_go kd vl 2 ph bg ops pr R o k out = if g_s kd vl 41 k then n_pop 2 ops pr R o k out else n_bad := by
  unfold n_go
  rw [(n_noop h).1, (n_noop h).2]
  simp [m_tst]
theorem n_go_4 (h : ph < 2 → g_so kd vl k = false ∧ g_po kd vl k = false) : n_go kd vl 4 ph bg ops pr R o k out = if g_s kd vl 41 k then n_pop 4 ops pr R o k out else n_bad := by
  unfold n_go
  rw [(n_noop h).1, (n_noop h).2]
  simp [m_tst]
theorem n_go_3 (h : ph < 2 → g_so kd vl k = false ∧ g_po kd vl k = false) : n_go kd vl 3 ph bg ops pr R o k out = if g_s kd vl 44 k then (0, (4, 0, bg, [], pr) :: R, o - n_cn ops, k + 1, false, out ++ ops.map d_st) else n_bad := by
  unfold n_go
  rw [(n_noop h).1, (n_noop h).2]
  simp [m_tst]
theorem n_go_6 (h : ph < 2 → g_so kd vl k = false ∧ g_po kd vl k = false) (h0 : ph ≠ 0) (h1 : g_o kd vl 22 k = false) (h2 : g_o kd vl 21 k = false) : n_go kd vl 6 ph bg ops pr R o k out = if g_s kd vl 44 k then (0, (3, 0, bg, [], pr) :: R, o - n_cn ops, k + 1, false, out ++ ops.map d_st) else n_bad := by
  unfold n_go
  rw [(n_noop h).1, (n_noop h).2]
  simp [m_tst, h0, h1, h2]
theorem n_go_5 (h : ph < 2 → g_so kd vl k = false ∧ g_po kd vl k = false) (h0 : ph ≠ 0) (h1 : g_o kd vl 22 k = false) (h2 : g_o kd vl 21 k = false) : n_go kd vl 5 ph bg ops pr R o k out = if g_s kd vl 93 k then n_pop 5 ops pr R o k out else n_bad := by
  unfold n_go
  rw [(n_noop h).1, (n_noop h).2]
  simp [m_tst, h0, h1, h2]
theorem n_go_1 (h : ph < 2 → g_so kd vl k = false ∧ g_po kd vl k = false) (h0 : ph ≠ 0) (h1 : g_o kd vl 22 k = false) (h2 : g_o kd vl 21 k = false) : n_go kd vl 1 ph bg ops pr R o k out = (1, (1, ph, bg, [], pr) :: R, o - n_cn ops, k, true, out ++ ops.map d_st) := by
  unfold n_go
  rw [(n_noop h).1, (n_noop h).2]
  simp [m_tst, h0, h1, h2]
theorem n_go_0 (h : ph < 2 → g_so kd vl k = false ∧ g_po kd vl k = false) : n_go kd vl 0 ph bg ops pr R o k out = (1, (0, ph, bg, [], pr) :: R, o - n_cn ops, k, true, out ++ ops.map d_st) := by
  unfold n_go
  rw [(n_noop h).1, (n_noop h).2]
  simp [m_tst]
theorem n_go_co (ht : m_tst kn = true) (h : g_so kd vl k = false ∧ g_po kd vl k = false) : n_go kd vl kn 0 bg ops pr R o k out = if g_co kd vl k then (0, (kn, 1, bg, n_cp kd vl k :: n_lo 5 ops, pr) :: R, o, k + 1, false, out ++ (n_hi 5 ops).map d_st) else n_bad := by
  unfold n_go
  rw [(n_noop (ph := 0) (fun _ => h)).1, (n_noop (ph := 0) (fun _ => h)).2]
  simp [ht]
theorem n_go_and (ht : m_tst kn = true) (h : ph < 2 → g_so kd vl k = false ∧ g_po kd vl k = false) (h0 : ph ≠ 0) (h1 : g_o kd vl 22 k = true) : n_go kd vl kn ph bg ops pr R o k out = (0, (kn, 0, true, 41 :: n_lo 2 ops, pr) :: R, o - n_cn (n_hi 2 ops), k + 1, false, out ++ (n_hi 2 ops).map d_st) := by
  unfold n_go
  rw [(n_noop h).1, (n_noop h).2]
  simp [ht, h0, h1]
theorem n_go_or (ht : m_tst kn = true) (h : ph < 2 → g_so kd vl k = false ∧ g_po kd vl k = false) (h0 : ph ≠ 0) (h1 : g_o kd vl 21 k = true) : n_go kd vl kn ph bg ops pr R o k out = (0, (kn, 0, true, 42 :: n_lo 1 ops, pr) :: R, o - n_cn (n_hi 1 ops), k + 1, false, out ++ (n_hi 1 ops).map d_st) := by
  unfold n_go
  rw [(n_noop h).1, (n_noop h).2, g_oo (d := 22) h1 (by decide)]
  simp [ht, h0, h1]
theorem n_pop_e {a b : Int} {c : Bool} {d : List Int} {p : Int} {R' : List n_F} : n_pop kn ops pr ((a, b, c, d, p) :: R') o k out = (0, (a, if kn = 5 then 2 else b, c, d, p) :: R', o - n_cn ops - 1, k + 1, true, out ++ ops.map d_st ++ (if kn = 4 then [d_st pr] else [])) := rfl
theorem d_sg_so (h : g_so kd vl k = true) : d_st (n_sg kd vl k) = d_so kd vl k ∧ dk_rk (n_sg kd vl k) = 5 ∧ n_sg kd vl k ≠ 43 := by
  unfold n_sg d_so
  by_cases q : g_s kd vl 43 k = true
  · rw [if_pos q, if_pos q]; exact ⟨by decide, by decide, by decide⟩
  · unfold g_so at h
    rw [Bool.or_eq_true] at h
    rcases h with h | h
    · exact absurd h q
    · rw [if_neg q, if_neg q, if_pos h]; exact ⟨by decide, by decide, by decide⟩
theorem d_sg_po (h : g_po kd vl k = true) : d_st (n_sg kd vl k) = d_po kd vl k ∧ dk_rk (n_sg kd vl k) = 6 ∧ n_sg kd vl k ≠ 43 := by
  have h2 : g_so kd vl k = false := by
    apply Bool.eq_false_iff.mpr
    intro q
    have := g_so_po q
    rw [h] at this
    cases this
  unfold g_so at h2
  rw [Bool.or_eq_false_iff] at h2
  unfold n_sg d_po
  rw [h2.1, h2.2]
  by_cases q : g_s kd vl 42 k = true
  · rw [if_pos q, if_pos q]; exact ⟨by decide, by decide, by decide⟩
  · rw [if_neg q, if_neg q]
    by_cases q2 : g_s kd vl 47 k = true
    · rw [if_pos q2, if_pos q2]; exact ⟨by decide, by decide, by decide⟩
    · rw [if_neg q2, if_neg q2]; exact ⟨by decide, by decide, by decide⟩
theorem d_cp_co (h : g_co kd vl k = true) : d_st (n_cp kd vl k) = d_co kd vl k ∧ dk_rk (n_cp kd vl k) = 4 ∧ n_cp kd vl k ≠ 43 := by
  unfold n_cp d_co
  by_cases q : g_s kd vl 60 k = true
  · rw [if_pos q, if_pos q]; exact ⟨by decide, by decide, by decide⟩
  · rw [if_neg q, if_neg q]
    by_cases q2 : g_s kd vl 62 k = true
    · rw [if_pos q2, if_pos q2]; exact ⟨by decide, by decide, by decide⟩
    · rw [if_neg q2, if_neg q2]; exact ⟨by decide, by decide, by decide⟩
end NR
