/-! the same language by a row of frames: kind, phase, whether it begins, its NOTs; tag (0 on, 1 taken, 2 a fault), frames, how many brackets, token, whether an operand stands behind -/
abbrev m_F : Type := Int × Int × Bool × Nat
abbrev m_S : Type := Nat × List m_F × Nat × Nat × Bool
def m_bad : m_S := (2, [], 0, 0, false)
def m_tst (kn : Int) : Bool := decide (kn = 1) || decide (kn = 5) || decide (kn = 6)
def m_push (kn ph : Int) (nt : Nat) (R : List m_F) (o k : Nat) (q : Int) : m_S := if o = 7 then m_bad else (0, (q, 0, true, 0) :: (kn, ph, false, nt) :: R, o + 1, k, false)
def m_opA (kd vl : Nat → Int32) (kn ph : Int) (nt : Nat) (R : List m_F) (o k : Nat) : m_S :=
  if g_o kd vl 23 k then (if o = 7 then m_bad else (0, (kn, ph, true, nt + 1) :: R, o + 1, k + 1, false))
  else if g_s kd vl 91 k then m_push kn ph nt R o (k + 1) 5
  else (0, (kn, 2, false, nt) :: R, o, k + 1, true)
def m_opB (kd vl : Nat → Int32) (w : Int) (kn ph : Int) (nt : Nat) (R : List m_F) (o k : Nat) : m_S :=
  if g_s kd vl 40 k then m_push kn ph nt R o (k + 1) 2
  else if g_o kd vl 20 k then (if g_s kd vl 40 (k + 1) then m_push kn ph nt R o (k + 2) 6 else m_bad)
  else if g_o kd vl 25 k || g_o kd vl 26 k then (if g_s kd vl 40 (k + 1) then m_push kn ph nt R o (k + 2) 3 else m_bad)
  else if g_n kd k || g_fw kd vl w k then (0, (kn, ph, false, nt) :: R, o, k + 1, true) else m_bad
def m_fst (kd vl : Nat → Int32) (kn : Int) (bg : Bool) (k : Nat) : Bool := (m_tst kn && bg) && (g_o kd vl 23 k || g_s kd vl 91 k || g_o kd vl 24 k)
def m_opd (kd vl : Nat → Int32) (w : Int) (kn ph : Int) (bg : Bool) (nt : Nat) (R : List m_F) (o k : Nat) : m_S := if m_fst kd vl kn bg k then m_opA kd vl kn ph nt R o k else m_opB kd vl w kn ph nt R o k
def m_pop (kn : Int) (nt : Nat) (R : List m_F) (o k : Nat) : m_S := match R with
  | [] => m_bad
  | (a, b, c, d) :: R' => (0, (a, if kn = 5 then 2 else b, c, d) :: R', o - nt - 1, k + 1, true)
def m_go (kd vl : Nat → Int32) (kn ph : Int) (bg : Bool) (nt : Nat) (R : List m_F) (o k : Nat) : m_S :=
  if decide (ph < 2) && (g_so kd vl k || g_po kd vl k) then (0, (kn, ph, bg, nt) :: R, o, k + 1, false)
  else if m_tst kn && decide (ph = 0) then (if g_co kd vl k then (0, (kn, 1, bg, nt) :: R, o, k + 1, false) else m_bad)
  else if m_tst kn && (g_o kd vl 22 k || g_o kd vl 21 k) then (0, (kn, 0, true, 0) :: R, o - nt, k + 1, false)
  else if kn < 2 then (1, (kn, ph, bg, 0) :: R, o - nt, k, true)
  else if kn = 3 ∨ kn = 6 then (if g_s kd vl 44 k then (0, ((if kn = 3 then 4 else 3), 0, bg, 0) :: R, o - nt, k + 1, false) else m_bad)
  else if g_s kd vl (if kn = 5 then 93 else 41) k then m_pop kn nt R o k else m_bad
def m_st (kd vl : Nat → Int32) (w : Int) : m_S → m_S
  | (0, (kn, ph, bg, nt) :: R, o, k, false) => m_opd kd vl w kn ph bg nt R o k
  | (0, (kn, ph, bg, nt) :: R, o, k, true) => m_go kd vl kn ph bg nt R o k
  | s => s
def m_it (kd vl : Nat → Int32) (w : Int) : Nat → m_S → m_S
  | 0, s => s
  | n + 1, s => m_it kd vl w n (m_st kd vl w s)
def m_R (kd vl : Nat → Int32) (w : Int) (s t : m_S) : Prop := ∃ n, m_it kd vl w n s = t
section MR
variable {kd vl : Nat → Int32} {w : Int} {s t u : m_S} {kn ph : Int} {bg : Bool} {nt : Nat} {R : List m_F} {o k : Nat}
theorem m_R.rf : m_R kd vl w s s := ⟨0, rfl⟩
theorem m_it_add : ∀ (a b : Nat) (s : m_S), m_it kd vl w (a + b) s = m_it kd vl w b (m_it kd vl w a s)
  | 0, b, s => by rw [Nat.zero_add]; rfl
  | a + 1, b, s => by rw [Nat.succ_add]; exact m_it_add a b (m_st kd vl w s)
theorem m_R.tr (h1 : m_R kd vl w s t) (h2 : m_R kd vl w t u) : m_R kd vl w s u := by
  obtain ⟨a, h1⟩ := h1
  obtain ⟨b, h2⟩ := h2
  exact ⟨a + b, by rw [m_it_add, h1, h2]⟩
theorem m_R.st (e : m_st kd vl w s = t) : m_R kd vl w s t := ⟨1, e⟩
theorem m_R.go (e : m_st kd vl w s = t) (h : m_R kd vl w t u) : m_R kd vl w s u := (m_R.st e).tr h
theorem m_it_end (h : m_st kd vl w s = s) : ∀ n, m_it kd vl w n s = s
  | 0 => rfl
  | n + 1 => by show m_it kd vl w n (m_st kd vl w s) = s; rw [h]; exact m_it_end h n
/-- where it ends, it ends once -/
theorem m_R.det (h1 : m_R kd vl w s t) (h2 : m_R kd vl w s u) (e1 : m_st kd vl w t = t) (e2 : m_st kd vl w u = u) : t = u := by
  obtain ⟨a, h1⟩ := h1
  obtain ⟨b, h2⟩ := h2
  have h3 := m_it_add (kd := kd) (vl := vl) (w := w) a b s
  have h4 := m_it_add (kd := kd) (vl := vl) (w := w) b a s
  rw [h1, m_it_end e1] at h3
  rw [h2, m_it_end e2, Nat.add_comm] at h4
  exact h3.symm.trans h4
theorem m_st_f : m_st kd vl w (0, (kn, ph, bg, nt) :: R, o, k, false) = m_opd kd vl w kn ph bg nt R o k := rfl
theorem m_st_t : m_st kd vl w (0, (kn, ph, bg, nt) :: R, o, k, true) = m_go kd vl kn ph bg nt R o k := rfl
theorem m_go_op (hp : ph < 2) (h : g_so kd vl k = true ∨ g_po kd vl k = true) : m_go kd vl kn ph bg nt R o k = (0, (kn, ph, bg, nt) :: R, o, k + 1, false) := by
  unfold m_go
  rw [if_pos (by simp only [Bool.and_eq_true, decide_eq_true_eq, Bool.or_eq_true]; exact ⟨hp, h⟩)]
theorem m_noop (h : ph < 2 → g_so kd vl k = false ∧ g_po kd vl k = false) : (decide (ph < 2) && (g_so kd vl k || g_po kd vl k)) = false := by
  by_cases q : ph < 2
  · rw [(h q).1, (h q).2]; simp
  · simp [q]
theorem m_go_2 (h : ph < 2 → g_so kd vl k = false ∧ g_po kd vl k = false) : m_go kd vl 2 ph bg nt R o k = if g_s kd vl 41 k then m_pop 2 nt R o k else m_bad := by
  unfold m_go
  rw [m_noop h]
  simp [m_tst]
theorem m_go_4 (h : ph < 2 → g_so kd vl k = false ∧ g_po kd vl k = false) : m_go kd vl 4 ph bg nt R o k = if g_s kd vl 41 k then m_pop 4 nt R o k else m_bad := by
  unfold m_go
  rw [m_noop h]
  simp [m_tst]
theorem m_go_3 (h : ph < 2 → g_so kd vl k = false ∧ g_po kd vl k = false) : m_go kd vl 3 ph bg nt R o k = if g_s kd vl 44 k then (0, (4, 0, bg, 0) :: R, o - nt, k + 1, false) else m_bad := by
  unfold m_go
  rw [m_noop h]
  simp [m_tst]
theorem m_go_6 (h : ph < 2 → g_so kd vl k = false ∧ g_po kd vl k = false) (h0 : ph ≠ 0) (h1 : g_o kd vl 22 k = false) (h2 : g_o kd vl 21 k = false) : m_go kd vl 6 ph bg nt R o k = if g_s kd vl 44 k then (0, (3, 0, bg, 0) :: R, o - nt, k + 1, false) else m_bad := by
  unfold m_go
  rw [m_noop h]
  simp [m_tst, h0, h1, h2]
theorem m_go_5 (h : ph < 2 → g_so kd vl k = false ∧ g_po kd vl k = false) (h0 : ph ≠ 0) (h1 : g_o kd vl 22 k = false) (h2 : g_o kd vl 21 k = false) : m_go kd vl 5 ph bg nt R o k = if g_s kd vl 93 k then m_pop 5 nt R o k else m_bad := by
  unfold m_go
  rw [m_noop h]
  simp [m_tst, h0, h1, h2]
theorem m_go_1 (h : ph < 2 → g_so kd vl k = false ∧ g_po kd vl k = false) (h0 : ph ≠ 0) (h1 : g_o kd vl 22 k = false) (h2 : g_o kd vl 21 k = false) : m_go kd vl 1 ph bg nt R o k = (1, (1, ph, bg, 0) :: R, o - nt, k, true) := by
  unfold m_go
  rw [m_noop h]
  simp [m_tst, h0, h1, h2]
theorem m_go_0 (h : ph < 2 → g_so kd vl k = false ∧ g_po kd vl k = false) : m_go kd vl 0 ph bg nt R o k = (1, (0, ph, bg, 0) :: R, o - nt, k, true) := by
  unfold m_go
  rw [m_noop h]
  simp [m_tst]
theorem m_go_co (ht : m_tst kn = true) (h : g_so kd vl k = false ∧ g_po kd vl k = false) : m_go kd vl kn 0 bg nt R o k = if g_co kd vl k then (0, (kn, 1, bg, nt) :: R, o, k + 1, false) else m_bad := by
  unfold m_go
  rw [m_noop (fun _ => h)]
  simp [ht]
theorem m_go_and (ht : m_tst kn = true) (h : ph < 2 → g_so kd vl k = false ∧ g_po kd vl k = false) (h0 : ph ≠ 0) (h1 : g_o kd vl 22 k = true ∨ g_o kd vl 21 k = true) : m_go kd vl kn ph bg nt R o k = (0, (kn, 0, true, 0) :: R, o - nt, k + 1, false) := by
  unfold m_go
  rw [m_noop h]
  rcases h1 with h1 | h1 <;> simp [ht, h0, h1]
theorem m_pop_e {a b : Int} {c : Bool} {d : Nat} {R' : List m_F} : m_pop kn nt ((a, b, c, d) :: R') o k = (0, (a, if kn = 5 then 2 else b, c, d) :: R', o - nt - 1, k + 1, true) := rfl
theorem m_fst_f : m_fst kd vl kn false k = false := by
  unfold m_fst
  simp
end MR
/-- what the machine makes of what the descent takes: a fault where it takes nothing, else a state of which P holds -/
def m_T (kd vl : Nat → Int32) (w : Int) (a : Option Nat) (s : m_S) (P : Nat → m_S → Prop) : Prop := (a = none → m_R kd vl w s m_bad) ∧ ∀ k', a = some k' → ∃ t, m_R kd vl w s t ∧ P k' t
def m_sP (kn ph : Int) (nt : Nat) (R : List m_F) (o : Nat) : Nat → m_S → Prop := fun k' t => t = (0, (kn, ph, false, nt) :: R, o, k', true)
def m_tP (kd vl : Nat → Int32) (kn : Int) (nt : Nat) (R : List m_F) (o : Nat) : Nat → m_S → Prop := fun k' t => ∃ (ph : Int) (j : Nat), (ph = 1 ∨ ph = 2) ∧ (ph < 2 → g_so kd vl k' = false ∧ g_po kd vl k' = false) ∧ t = (0, (kn, ph, false, nt + j) :: R, o + j, k', true)
section MT
variable {kd vl : Nat → Int32} {w : Int} {s t : m_S} {kn ph : Int} {bg : Bool} {nt : Nat} {R : List m_F} {o k : Nat} {a : Option Nat} {P Q : Nat → m_S → Prop}
theorem m_T.bind {g : Nat → Option Nat} (h : m_T kd vl w a s P) (H : ∀ k1 t, a = some k1 → P k1 t → m_T kd vl w (g k1) t Q) : m_T kd vl w (a.bind g) s Q := by
  cases a with
  | none => exact ⟨fun _ => h.1 rfl, fun k' q => absurd q (by simp)⟩
  | some k1 =>
    obtain ⟨t, r, p⟩ := h.2 k1 rfl
    have b := H k1 t rfl p
    refine ⟨fun q => r.tr (b.1 q), fun k' q => ?_⟩
    obtain ⟨u, r2, q2⟩ := b.2 k' q
    exact ⟨u, r.tr r2, q2⟩
theorem m_T.st (e : m_st kd vl w s = t) (h : m_T kd vl w a t P) : m_T kd vl w a s P := by
  refine ⟨fun q => (m_R.st e).tr (h.1 q), fun k' q => ?_⟩
  obtain ⟨u, r2, q2⟩ := h.2 k' q
  exact ⟨u, (m_R.st e).tr r2, q2⟩
theorem m_T.no (h : m_R kd vl w s m_bad) : m_T kd vl w none s P := ⟨fun _ => h, fun k' q => (by cases q)⟩
theorem m_T.ok (h : P k s) : m_T kd vl w (some k) s P := ⟨fun q => (by cases q), fun k' q => by cases q; exact ⟨s, m_R.rf, h⟩⟩
theorem m_T.imp (h : m_T kd vl w a s P) (H : ∀ k t, a = some k → P k t → Q k t) : m_T kd vl w a s Q := by
  refine ⟨h.1, fun k' q => ?_⟩
  obtain ⟨u, r, p⟩ := h.2 k' q
  exact ⟨u, r, H _ _ q p⟩
theorem m_T.psh {e : Nat} {q : Int} (h0 : o = 7 → a = none) (h : o ≠ 7 → m_T kd vl w a (0, (q, 0, true, 0) :: (kn, ph, false, nt) :: R, o + 1, k, false) P) : m_T kd vl w a (m_push kn ph nt R o k q) P := by
  unfold m_push
  by_cases z : o = 7
  · rw [if_pos z, h0 z]
    exact m_T.no m_R.rf
  · rw [if_neg z]
    exact h z
theorem m_T.c2 (hx : g_so kd vl k = false ∧ g_po kd vl k = false) : m_T kd vl w (g_tk kd vl 41 k) (0, (2, 0, false, 0) :: (kn, ph, false, nt) :: R, o + 1, k, true) (m_sP kn ph nt R o) := by
  have e := (m_st_t (w := w)).trans (m_go_2 (kd := kd) (vl := vl) (ph := 0) (bg := false) (nt := 0) (R := (kn, ph, false, nt) :: R) (o := o + 1) (k := k) (fun _ => hx))
  unfold g_tk
  by_cases q : g_s kd vl 41 k = true
  · rw [if_pos q] at e ⊢
    rw [m_pop_e, if_neg (by decide)] at e
    exact m_T.st e (m_T.ok rfl)
  · rw [if_neg q] at e ⊢
    exact m_T.no (m_R.st e)
theorem m_T.c4 (hx : g_so kd vl k = false ∧ g_po kd vl k = false) : m_T kd vl w (g_tk kd vl 41 k) (0, (4, 0, false, 0) :: (kn, ph, false, nt) :: R, o + 1, k, true) (m_sP kn ph nt R o) := by
  have e := (m_st_t (w := w)).trans (m_go_4 (kd := kd) (vl := vl) (ph := 0) (bg := false) (nt := 0) (R := (kn, ph, false, nt) :: R) (o := o + 1) (k := k) (fun _ => hx))
  unfold g_tk
  by_cases q : g_s kd vl 41 k = true
  · rw [if_pos q] at e ⊢
    rw [m_pop_e, if_neg (by decide)] at e
    exact m_T.st e (m_T.ok rfl)
  · rw [if_neg q] at e ⊢
    exact m_T.no (m_R.st e)
theorem m_T.c3 (hx : g_so kd vl k = false ∧ g_po kd vl k = false) : m_T kd vl w (g_tk kd vl 44 k) (0, (3, 0, false, 0) :: R, o, k, true) (fun k' t => t = (0, (4, 0, false, 0) :: R, o, k', false)) := by
  have e := (m_st_t (w := w)).trans (m_go_3 (kd := kd) (vl := vl) (ph := 0) (bg := false) (nt := 0) (R := R) (o := o) (k := k) (fun _ => hx))
  unfold g_tk
  by_cases q : g_s kd vl 44 k = true
  · rw [if_pos q] at e ⊢
    exact m_T.st e (m_T.ok rfl)
  · rw [if_neg q] at e ⊢
    exact m_T.no (m_R.st e)
theorem m_T.c6 {j : Nat} (h0 : ph = 1 ∨ ph = 2) (hx : ph < 2 → g_so kd vl k = false ∧ g_po kd vl k = false) (h1 : g_o kd vl 22 k = false) (h2 : g_o kd vl 21 k = false) : m_T kd vl w (g_tk kd vl 44 k) (0, (6, ph, false, j) :: R, o + j, k, true) (fun k' t => t = (0, (3, 0, false, 0) :: R, o, k', false)) := by
  have e := (m_st_t (w := w)).trans (m_go_6 (kd := kd) (vl := vl) (ph := ph) (bg := false) (nt := j) (R := R) (o := o + j) (k := k) hx (by omega) h1 h2)
  rw [Nat.add_sub_cancel] at e
  unfold g_tk
  by_cases q : g_s kd vl 44 k = true
  · rw [if_pos q] at e ⊢
    exact m_T.st e (m_T.ok rfl)
  · rw [if_neg q] at e ⊢
    exact m_T.no (m_R.st e)
theorem m_T.c5 {ph0 : Int} {j : Nat} (h0 : ph = 1 ∨ ph = 2) (hx : ph < 2 → g_so kd vl k = false ∧ g_po kd vl k = false) (h1 : g_o kd vl 22 k = false) (h2 : g_o kd vl 21 k = false) : m_T kd vl w (g_tk kd vl 93 k) (0, (5, ph, false, j) :: (kn, ph0, false, nt) :: R, o + 1 + j, k, true) (fun k' t => t = (0, (kn, 2, false, nt) :: R, o, k', true)) := by
  have e := (m_st_t (w := w)).trans (m_go_5 (kd := kd) (vl := vl) (ph := ph) (bg := false) (nt := j) (R := (kn, ph0, false, nt) :: R) (o := o + 1 + j) (k := k) hx (by omega) h1 h2)
  unfold g_tk
  by_cases q : g_s kd vl 93 k = true
  · rw [if_pos q] at e ⊢
    rw [m_pop_e, Nat.add_sub_cancel, if_pos rfl] at e
    exact m_T.st e (m_T.ok rfl)
  · rw [if_neg q] at e ⊢
    exact m_T.no (m_R.st e)
/-- operands of one kind, and signs between them -/
theorem m_loop {op : Nat → Bool} {p : Nat → Option Nat} (hop : ∀ k, op k = true → g_so kd vl k = true ∨ g_po kd vl k = true) (hph : ph < 2)
    (hp : ∀ k, m_T kd vl w (p k) (0, (kn, ph, false, nt) :: R, o, k, false) (m_sP kn ph nt R o)) : ∀ (f k : Nat), m_T kd vl w (x_loop op p f k) (0, (kn, ph, false, nt) :: R, o, k, true) (m_sP kn ph nt R o)
  | 0, k => m_T.ok rfl
  | f + 1, k => by
    cases ho : op k with
    | false =>
      rw [x_loop_out ho]
      exact m_T.ok rfl
    | true =>
      have e1 : m_st kd vl w (0, (kn, ph, false, nt) :: R, o, k, true) = (0, (kn, ph, false, nt) :: R, o, k + 1, false) := by
        rw [m_st_t, m_go_op hph (hop k ho)]
      unfold x_loop
      rw [if_pos ho]
      refine m_T.st e1 ((hp (k + 1)).bind fun k1 t h1 p1 => ?_)
      have p1 : t = _ := p1
      subst p1
      exact m_loop hop hph hp f k1
theorem m_prod {p : Nat → Option Nat} (hph : ph < 2) (hp : ∀ bg k, m_fst kd vl kn bg k = false → m_T kd vl w (p k) (0, (kn, ph, bg, nt) :: R, o, k, false) (m_sP kn ph nt R o)) (bg : Bool) (k : Nat) (hf : m_fst kd vl kn bg k = false) : m_T kd vl w (x_prod kd vl p k) (0, (kn, ph, bg, nt) :: R, o, k, false) (m_sP kn ph nt R o) := by
  unfold x_prod
  refine (hp bg k hf).bind fun k1 t h1 p1 => ?_
  have p1 : t = _ := p1
  subst p1
  exact m_loop (fun _ h => Or.inr h) hph (fun k => hp false k m_fst_f) 1600 k1
theorem m_sum {p : Nat → Option Nat} (hph : ph < 2) (hp : ∀ bg k, m_fst kd vl kn bg k = false → m_T kd vl w (p k) (0, (kn, ph, bg, nt) :: R, o, k, false) (m_sP kn ph nt R o)) (bg : Bool) (k : Nat) (hf : m_fst kd vl kn bg k = false) : m_T kd vl w (x_sum kd vl p k) (0, (kn, ph, bg, nt) :: R, o, k, false) (m_sP kn ph nt R o) := by
  unfold x_sum
  refine (m_prod hph hp bg k hf).bind fun k1 t h1 p1 => ?_
  have p1 : t = _ := p1
  subst p1
  exact m_loop (fun _ h => Or.inl h) hph (fun k => m_prod hph hp false k m_fst_f) 1600 k1
/-- FACTS, and words between them -/
theorem m_loopT {op : Nat → Bool} {p : Nat → Option Nat} (ht : m_tst kn = true) (hop : ∀ k, op k = true → g_o kd vl 22 k = true ∨ g_o kd vl 21 k = true)
    (hp : ∀ k, m_T kd vl w (p k) (0, (kn, 0, true, 0) :: R, o, k, false) (m_tP kd vl kn 0 R o)) : ∀ (f k : Nat) (t : m_S), m_tP kd vl kn 0 R o k t → m_T kd vl w (x_loop op p f k) t (m_tP kd vl kn 0 R o)
  | 0, k, t, h => m_T.ok h
  | f + 1, k, t, h => by
    cases ho : op k with
    | false =>
      rw [x_loop_out ho]
      exact m_T.ok h
    | true =>
      obtain ⟨ph, j, h0, hx, rfl⟩ := h
      have e1 := (m_st_t (w := w)).trans (m_go_and (kd := kd) (vl := vl) (kn := kn) (ph := ph) (bg := false) (nt := 0 + j) (R := R) (o := o + j) (k := k) ht hx (by omega) (hop k ho))
      rw [Nat.zero_add, Nat.add_sub_cancel] at e1
      rw [Nat.zero_add]
      unfold x_loop
      rw [if_pos ho]
      exact m_T.st e1 ((hp (k + 1)).bind fun k1 t h1 p1 => m_loopT ht hop hp f k1 t p1)
theorem m_both {f : Nat → Option Nat} (ht : m_tst kn = true) (hf : ∀ k, m_T kd vl w (f k) (0, (kn, 0, true, 0) :: R, o, k, false) (m_tP kd vl kn 0 R o)) (k : Nat) : m_T kd vl w (x_both kd vl f k) (0, (kn, 0, true, 0) :: R, o, k, false) (m_tP kd vl kn 0 R o) := by
  unfold x_both
  exact (hf k).bind fun k1 t h1 p1 => m_loopT ht (fun _ h => Or.inl h) hf 1600 k1 t p1
theorem m_test {f : Nat → Option Nat} (ht : m_tst kn = true) (hf : ∀ k, m_T kd vl w (f k) (0, (kn, 0, true, 0) :: R, o, k, false) (m_tP kd vl kn 0 R o)) (k : Nat) : m_T kd vl w (x_test kd vl f k) (0, (kn, 0, true, 0) :: R, o, k, false) (m_tP kd vl kn 0 R o) := by
  unfold x_test
  exact (m_both ht hf k).bind fun k1 t h1 p1 => m_loopT ht (fun _ h => Or.inr h) (m_both ht hf) 1600 k1 t p1
end MT
def G_s (kd vl : Nat → Int32) (w : Int) (e : Nat) : Prop := ∀ (kn ph : Int) (bg : Bool) (nt : Nat) (R : List m_F) (o k : Nat), o + e = 8 → ph < 2 → m_fst kd vl kn bg k = false → m_T kd vl w ((x_lv kd vl w e).1 k) (0, (kn, ph, bg, nt) :: R, o, k, false) (m_sP kn ph nt R o)
def G_t (kd vl : Nat → Int32) (w : Int) (e : Nat) : Prop := ∀ (kn : Int) (R : List m_F) (o k : Nat), o + e = 8 → m_tst kn = true → m_T kd vl w ((x_lv kd vl w e).2.1 k) (0, (kn, 0, true, 0) :: R, o, k, false) (m_tP kd vl kn 0 R o)
def G_f (kd vl : Nat → Int32) (w : Int) (e : Nat) : Prop := ∀ (kn : Int) (nt : Nat) (R : List m_F) (o k : Nat), o + e = 8 → m_tst kn = true → m_T kd vl w ((x_lv kd vl w e).2.2 k) (0, (kn, 0, true, nt) :: R, o, k, false) (m_tP kd vl kn nt R o)
section MG
variable {kd vl : Nat → Int32} {w : Int} {N e : Nat}
theorem x_lv_so (hN : ∀ k, N ≤ k → (kd k).toInt = 0) (hN2 : N ≤ 1600) {k k' : Nat} (h : (x_lv kd vl w e).1 k = some k') : g_so kd vl k' = false ∧ g_po kd vl k' = false := by
  cases e with
  | zero => cases h
  | succ e => exact (x_sum_ex hN hN2 (fun j j' q => x_part_lt (x_lv_lt hN hN2 e).1 (x_lv_lt hN hN2 e).2.1 q) h).2
theorem x_lv_te (hN : ∀ k, N ≤ k → (kd k).toInt = 0) (hN2 : N ≤ 1600) {k k' : Nat} (h : (x_lv kd vl w e).2.1 k = some k') : g_o kd vl 21 k' = false ∧ g_o kd vl 22 k' = false := by
  cases e with
  | zero => cases h
  | succ e => exact (x_test_ex hN hN2 (x_lv_lt hN hN2 (e + 1)).2.2 h).2
theorem m_pairT (hN : ∀ k, N ≤ k → (kd k).toInt = 0) (hN2 : N ≤ 1600) (Hs : G_s kd vl w e) {kn ph : Int} {bg : Bool} {nt : Nat} {R : List m_F} {o k : Nat} (ho : o + 1 + e = 8) : m_T kd vl w (x_pair kd vl (x_lv kd vl w e).1 k) (0, (3, 0, bg, 0) :: (kn, ph, false, nt) :: R, o + 1, k, false) (m_sP kn ph nt R o) := by
  unfold x_pair
  refine (Hs 3 0 bg 0 ((kn, ph, false, nt) :: R) (o + 1) k ho (by decide) (by unfold m_fst; simp [m_tst])).bind fun k1 t h1 p1 => ?_
  have p1 : t = _ := p1
  subst p1
  refine (m_T.c3 (x_lv_so hN hN2 h1)).bind fun k2 t h2 p2 => ?_
  subst p2
  refine (Hs 4 0 false 0 ((kn, ph, false, nt) :: R) (o + 1) k2 ho (by decide) m_fst_f).bind fun k3 t h3 p3 => ?_
  have p3 : t = _ := p3
  subst p3
  exact m_T.c4 (x_lv_so hN hN2 h3)
theorem m_partT (hN : ∀ k, N ≤ k → (kd k).toInt = 0) (hN2 : N ≤ 1600) (Hs : e ≠ 0 → G_s kd vl w e) (Ht : e ≠ 0 → G_t kd vl w e) {kn ph : Int} {bg : Bool} {nt : Nat} {R : List m_F} {o k : Nat} (ho : o + (e + 1) = 8) (hf : m_fst kd vl kn bg k = false) : m_T kd vl w (x_part kd vl w (x_lv kd vl w e).1 (x_lv kd vl w e).2.1 k) (0, (kn, ph, bg, nt) :: R, o, k, false) (m_sP kn ph nt R o) := by
  have e1 : m_st kd vl w (0, (kn, ph, bg, nt) :: R, o, k, false) = m_opB kd vl w kn ph nt R o k := by
    rw [m_st_f]
    unfold m_opd
    rw [if_neg (by rw [hf]; decide)]
  refine m_T.st e1 ?_
  unfold x_part m_opB x_choice x_prs
  by_cases q1 : g_s kd vl 40 k = true
  · rw [if_pos q1, if_pos q1]
    refine m_T.psh (e := e) (fun z => ?_) (fun z => ?_)
    · have z1 : e = 0 := by omega
      subst z1
      rfl
    · refine (Hs (by omega) 2 0 true 0 ((kn, ph, false, nt) :: R) (o + 1) (k + 1) (by omega) (by decide) (by unfold m_fst; simp [m_tst])).bind fun k1 t h1 p1 => ?_
      have p1 : t = _ := p1
      subst p1
      exact m_T.c2 (x_lv_so hN hN2 h1)
  rw [if_neg q1, if_neg q1]
  by_cases q2 : g_o kd vl 20 k = true
  · rw [if_pos q2, if_pos q2]
    by_cases q5 : g_s kd vl 40 (k + 1) = true
    · rw [if_pos q5, if_pos q5]
      refine m_T.psh (e := e) (fun z => ?_) (fun z => ?_)
      · have z1 : e = 0 := by omega
        subst z1
        rfl
      · refine (Ht (by omega) 6 ((kn, ph, false, nt) :: R) (o + 1) (k + 2) (by omega) (by decide)).bind fun k1 t h1 p1 => ?_
        obtain ⟨ph1, j, h0, hx, rfl⟩ := p1
        have h2 := x_lv_te hN hN2 h1
        rw [Nat.zero_add]
        refine (m_T.c6 h0 hx h2.2 h2.1).bind fun k2 t h3 p3 => ?_
        subst p3
        exact m_pairT hN hN2 (Hs (by omega)) (by omega)
    · rw [if_neg q5, if_neg q5]
      exact m_T.no m_R.rf
  rw [if_neg q2, if_neg q2]
  by_cases q3 : (g_o kd vl 25 k || g_o kd vl 26 k) = true
  · rw [if_pos q3, if_pos q3]
    by_cases q5 : g_s kd vl 40 (k + 1) = true
    · rw [if_pos q5, if_pos q5]
      refine m_T.psh (e := e) (fun z => ?_) (fun z => ?_)
      · have z1 : e = 0 := by omega
        subst z1
        rfl
      · exact m_pairT hN hN2 (Hs (by omega)) (by omega)
    · rw [if_neg q5, if_neg q5]
      exact m_T.no m_R.rf
  rw [if_neg q3, if_neg q3]
  by_cases q4 : (g_n kd k || g_fw kd vl w k) = true
  · rw [if_pos q4, if_pos q4]
    exact m_T.ok rfl
  · rw [if_neg q4, if_neg q4]
    exact m_T.no m_R.rf
theorem m_factT (hN : ∀ k, N ≤ k → (kd k).toInt = 0) (hN2 : N ≤ 1600) (Ht : e ≠ 0 → G_t kd vl w e) (Hf : e ≠ 0 → G_f kd vl w e) (Hs : G_s kd vl w (e + 1)) {kn : Int} {nt : Nat} {R : List m_F} {o k : Nat} (ho : o + (e + 1) = 8) (ht : m_tst kn = true) : m_T kd vl w ((x_lv kd vl w (e + 1)).2.2 k) (0, (kn, 0, true, nt) :: R, o, k, false) (m_tP kd vl kn nt R o) := by
  show m_T kd vl w (x_fact kd vl (x_lv kd vl w e).2.2 (x_lv kd vl w e).2.1 (x_lv kd vl w (e + 1)).1 k) _ _
  unfold x_fact
  by_cases q1 : g_o kd vl 23 k = true
  · have e1 : m_st kd vl w (0, (kn, 0, true, nt) :: R, o, k, false) = if o = 7 then m_bad else (0, (kn, 0, true, nt + 1) :: R, o + 1, k + 1, false) := by
      rw [m_st_f]
      unfold m_opd
      rw [if_pos (by unfold m_fst; rw [ht, q1]; rfl)]
      unfold m_opA
      rw [if_pos q1]
    rw [if_pos q1]
    by_cases z : o = 7
    · rw [if_pos z] at e1
      have z1 : e = 0 := by omega
      subst z1
      exact m_T.no (m_R.st e1)
    · rw [if_neg z] at e1
      refine m_T.st e1 ((Hf (by omega) kn (nt + 1) R (o + 1) (k + 1) (by omega) ht).imp fun k' t _ p => ?_)
      obtain ⟨ph, j, h0, hx, rfl⟩ := p
      refine ⟨ph, j + 1, h0, hx, ?_⟩
      rw [show nt + 1 + j = nt + (j + 1) by omega, show o + 1 + j = o + (j + 1) by omega]
  rw [if_neg q1]
  by_cases q2 : g_s kd vl 91 k = true
  · have e1 : m_st kd vl w (0, (kn, 0, true, nt) :: R, o, k, false) = m_push kn 0 nt R o (k + 1) 5 := by
      rw [m_st_f]
      unfold m_opd
      rw [if_pos (by unfold m_fst; rw [ht, q2]; simp)]
      unfold m_opA
      rw [if_neg q1, if_pos q2]
    rw [if_pos q2]
    refine m_T.st e1 (m_T.psh (e := e) (fun z => ?_) (fun z => ?_))
    · have z1 : e = 0 := by omega
      subst z1
      rfl
    · refine (Ht (by omega) 5 ((kn, 0, false, nt) :: R) (o + 1) (k + 1) (by omega) (by decide)).bind fun k1 t h1 p1 => ?_
      obtain ⟨ph1, j, h0, hx, rfl⟩ := p1
      have h2 := x_lv_te hN hN2 h1
      rw [Nat.zero_add]
      refine (m_T.c5 h0 hx h2.2 h2.1).imp fun k' t _ p => ?_
      exact ⟨2, 0, Or.inr rfl, fun h => absurd h (by decide), p⟩
  rw [if_neg q2]
  by_cases q3 : g_o kd vl 24 k = true
  · have e1 : m_st kd vl w (0, (kn, 0, true, nt) :: R, o, k, false) = (0, (kn, 2, false, nt) :: R, o, k + 1, true) := by
      rw [m_st_f]
      unfold m_opd
      rw [if_pos (by unfold m_fst; rw [ht, q3]; simp)]
      unfold m_opA
      rw [if_neg q1, if_neg q2]
    rw [if_pos q3]
    exact m_T.st e1 (m_T.ok ⟨2, 0, Or.inr rfl, fun h => absurd h (by decide), rfl⟩)
  rw [if_neg q3]
  unfold x_comp
  refine (Hs kn 0 true nt R o k ho (by decide) (by unfold m_fst; simp [q1, q2, q3])).bind fun k1 t h1 p1 => ?_
  have p1 : t = _ := p1
  subst p1
  have e2 := (m_st_t (w := w)).trans (m_go_co (kd := kd) (vl := vl) (bg := false) (nt := nt) (R := R) (o := o) (k := k1) ht (x_lv_so hN hN2 h1))
  by_cases q5 : g_co kd vl k1 = true
  · rw [if_pos q5] at e2 ⊢
    refine m_T.st e2 ((Hs kn 1 false nt R o (k1 + 1) ho (by decide) m_fst_f).imp fun k' t h p => ?_)
    exact ⟨1, 0, Or.inl rfl, fun _ => x_lv_so hN hN2 h, p⟩
  · rw [if_neg q5] at e2 ⊢
    exact m_T.no (m_R.st e2)
theorem G_all (hN : ∀ k, N ≤ k → (kd k).toInt = 0) (hN2 : N ≤ 1600) : ∀ e : Nat, e ≠ 0 → G_s kd vl w e ∧ G_t kd vl w e ∧ G_f kd vl w e
  | 0, h => absurd rfl h
  | e + 1, _ => by
    have IH := G_all hN hN2 e
    have Hs : G_s kd vl w (e + 1) := fun kn ph bg nt R o k ho hph hf => m_sum hph (fun bg k hf => m_partT hN hN2 (fun h => (IH h).1) (fun h => (IH h).2.1) ho hf) bg k hf
    have Hf : G_f kd vl w (e + 1) := fun kn nt R o k ho ht => m_factT hN hN2 (fun h => (IH h).2.1) (fun h => (IH h).2.2) Hs ho ht
    exact ⟨Hs, fun kn R o k ho ht => m_test ht (fun k => Hf kn 0 R o k ho ht) k, Hf⟩
/-- a rule: what the descent takes, the frames take, and nothing else -/
theorem m_rule0 (hN : ∀ k, N ≤ k → (kd k).toInt = 0) (hN2 : N ≤ 1600) (k : Nat) : m_T kd vl w ((x_lv kd vl w 8).1 k) (0, [(0, 0, true, 0)], 0, k, false) (fun k' t => t = (1, [(0, 0, false, 0)], 0, k', true)) := by
  refine ⟨(((G_all hN hN2 8 (by decide)).1 0 0 true 0 [] 0 k (by decide) (by decide) (by unfold m_fst; simp [m_tst]))).1, fun k' h => ?_⟩
  obtain ⟨t, r, p⟩ := ((G_all hN hN2 8 (by decide)).1 0 0 true 0 [] 0 k (by decide) (by decide) (by unfold m_fst; simp [m_tst])).2 k' h
  have p : t = _ := p
  subst p
  exact ⟨_, r.tr (m_R.st ((m_st_t (w := w)).trans (m_go_0 (fun _ => x_lv_so hN hN2 h)))), rfl⟩
theorem m_rule1 (hN : ∀ k, N ≤ k → (kd k).toInt = 0) (hN2 : N ≤ 1600) (k : Nat) : m_T kd vl w ((x_lv kd vl w 8).2.1 k) (0, [(1, 0, true, 0)], 0, k, false) (fun k' t => ∃ ph : Int, t = (1, [(1, ph, false, 0)], 0, k', true)) := by
  have H := (G_all (kd := kd) (vl := vl) (w := w) hN hN2 8 (by decide)).2.1 1 [] 0 k (by decide) (by decide)
  refine ⟨H.1, fun k' h => ?_⟩
  obtain ⟨t, r, ph, j, h0, hx, rfl⟩ := H.2 k' h
  have h2 := x_lv_te hN hN2 h
  have e := (m_st_t (w := w)).trans (m_go_1 (kd := kd) (vl := vl) (ph := ph) (bg := false) (nt := 0 + j) (R := []) (o := 0 + j) (k := k') hx (by omega) h2.2 h2.1)
  rw [Nat.sub_self] at e
  exact ⟨_, r.tr (m_R.st e), ph, rfl⟩
end MG
