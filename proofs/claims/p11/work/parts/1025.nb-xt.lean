section
/-! the frames write what the descent writes -/
def n_T (kd vl : Nat → Int32) (w : Int) (a : Option Nat) (s : n_S) (P : Nat → n_S → Prop) : Prop := (a = none → n_R kd vl w s n_bad) ∧ ∀ k', a = some k' → ∃ t, n_R kd vl w s t ∧ P k' t
/-- behind an operand: what waits on top is of rank l or more, no NOT; written with what waits: C more -/
def n_sP (kn ph : Int) (ops : List Int) (pr : Int) (R : List n_F) (o : Nat) (l : Int) (out C : List Int) : Nat → n_S → Prop := fun k' t => ∃ pend out' : List Int, n_AL l pend ∧ n_cn pend = 0 ∧ out' ++ pend.map d_st = out ++ C ∧ t = (0, (kn, ph, false, pend ++ ops, pr) :: R, o, k', true, out')
def n_tP (kd vl : Nat → Int32) (kn : Int) (ops : List Int) (pr : Int) (R : List n_F) (o : Nat) (l : Int) (out C : List Int) : Nat → n_S → Prop := fun k' t => ∃ (ph : Int) (pend out' : List Int), (ph = 1 ∨ ph = 2) ∧ (ph < 2 → g_so kd vl k' = false ∧ g_po kd vl k' = false) ∧ n_AL l pend ∧ out' ++ pend.map d_st = out ++ C ∧ t = (0, (kn, ph, false, pend ++ ops, pr) :: R, o + n_cn pend, k', true, out')
section NT
variable {kd vl : Nat → Int32} {w : Int} {s t : n_S} {kn ph pr l r : Int} {bg : Bool} {ops : List Int} {R : List n_F} {o k : Nat} {out C : List Int} {a : Option Nat} {P Q : Nat → n_S → Prop}
theorem n_T.bind {g : Nat → Option Nat} (h : n_T kd vl w a s P) (H : ∀ k1 t, a = some k1 → P k1 t → n_T kd vl w (g k1) t Q) : n_T kd vl w (a.bind g) s Q := by
  cases a with
  | none => exact ⟨fun _ => h.1 rfl, fun k' q => absurd q (by simp)⟩
  | some k1 =>
    obtain ⟨t, r, p⟩ := h.2 k1 rfl
    have b := H k1 t rfl p
    refine ⟨fun q => r.tr (b.1 q), fun k' q => ?_⟩
    obtain ⟨u, r2, q2⟩ := b.2 k' q
    exact ⟨u, r.tr r2, q2⟩
theorem n_T.st (e : n_st kd vl w s = t) (h : n_T kd vl w a t P) : n_T kd vl w a s P := by
  refine ⟨fun q => (n_R.st e).tr (h.1 q), fun k' q => ?_⟩
  obtain ⟨u, r2, q2⟩ := h.2 k' q
  exact ⟨u, (n_R.st e).tr r2, q2⟩
theorem n_T.no (h : n_R kd vl w s n_bad) : n_T kd vl w none s P := ⟨fun _ => h, fun k' q => (by cases q)⟩
theorem n_T.ok (h : P k s) : n_T kd vl w (some k) s P := ⟨fun q => (by cases q), fun k' q => by cases q; exact ⟨s, n_R.rf, h⟩⟩
theorem n_T.imp (h : n_T kd vl w a s P) (H : ∀ k t, a = some k → P k t → Q k t) : n_T kd vl w a s Q := by
  refine ⟨h.1, fun k' q => ?_⟩
  obtain ⟨u, r, p⟩ := h.2 k' q
  exact ⟨u, r, H _ _ q p⟩
theorem n_T.psh {q p : Int} (h0 : o = 7 → a = none) (h : o ≠ 7 → n_T kd vl w a (0, (q, 0, true, [], p) :: (kn, ph, false, ops, pr) :: R, o + 1, k, false, out) P) : n_T kd vl w a (n_push kn ph ops pr R o k q p out) P := by
  unfold n_push
  by_cases z : o = 7
  · rw [if_pos z, h0 z]
    exact n_T.no n_R.rf
  · rw [if_neg z]
    exact h z
theorem n_sP.wk {l' : Int} {k' : Nat} (h : n_sP kn ph ops pr R o l out C k' t) (hl : l' ≤ l) : n_sP kn ph ops pr R o l' out C k' t := by
  obtain ⟨pend, out', h1, h2⟩ := h
  exact ⟨pend, out', h1.wk hl, h2⟩
/-- an operand with nothing that waits -/
theorem n_sP.z {k' : Nat} : n_sP kn ph ops pr R o l out C k' (0, (kn, ph, false, ops, pr) :: R, o, k', true, out ++ C) := ⟨[], out ++ C, n_AL.nil, rfl, by rw [List.map_nil, List.append_nil], by rw [List.nil_append]⟩
/-- ) behind a SUM in brackets -/
theorem n_T.c2 {out0 C0 : List Int} {p0 : Int} {k1 : Nat} (hx : g_so kd vl k1 = false ∧ g_po kd vl k1 = false) (h : n_sP 2 0 [] p0 ((kn, ph, false, ops, pr) :: R) (o + 1) 5 out C k1 t) : n_T kd vl w (g_tk kd vl 41 k1) t (n_sP kn ph ops pr R o l out C) := by
  obtain ⟨pend, out', h1, h2, h3, rfl⟩ := h
  have e := (n_st_t (w := w)).trans (n_go_2 (kd := kd) (vl := vl) (ph := 0) (bg := false) (ops := pend ++ []) (pr := p0) (R := (kn, ph, false, ops, pr) :: R) (o := o + 1) (k := k1) (out := out') (fun _ => hx))
  unfold g_tk
  by_cases q : g_s kd vl 41 k1 = true
  · rw [if_pos q] at e ⊢
    rw [n_pop_e, if_neg (by decide), if_neg (by decide), List.append_nil, List.append_nil, h2, h3, Nat.sub_zero, Nat.add_sub_cancel] at e
    rw [List.append_nil]
    exact n_T.st e (n_T.ok n_sP.z)
  · rw [if_neg q] at e ⊢
    exact n_T.no (n_R.st e)
theorem n_T.c4 {p0 : Int} {k1 : Nat} (hx : g_so kd vl k1 = false ∧ g_po kd vl k1 = false) (h : n_sP 4 0 [] p0 ((kn, ph, false, ops, pr) :: R) (o + 1) 5 out C k1 t) : n_T kd vl w (g_tk kd vl 41 k1) t (n_sP kn ph ops pr R o l out (C ++ [d_st p0])) := by
  obtain ⟨pend, out', h1, h2, h3, rfl⟩ := h
  have e := (n_st_t (w := w)).trans (n_go_4 (kd := kd) (vl := vl) (ph := 0) (bg := false) (ops := pend ++ []) (pr := p0) (R := (kn, ph, false, ops, pr) :: R) (o := o + 1) (k := k1) (out := out') (fun _ => hx))
  unfold g_tk
  by_cases q : g_s kd vl 41 k1 = true
  · rw [if_pos q] at e ⊢
    rw [n_pop_e, if_neg (by decide), if_pos rfl, List.append_nil, h2, h3, Nat.sub_zero, Nat.add_sub_cancel, List.append_assoc] at e
    rw [List.append_nil]
    exact n_T.st e (n_T.ok n_sP.z)
  · rw [if_neg q] at e ⊢
    exact n_T.no (n_R.st e)
theorem n_T.c3 {p0 : Int} {k1 : Nat} (hx : g_so kd vl k1 = false ∧ g_po kd vl k1 = false) (h : n_sP 3 0 [] p0 R o 5 out C k1 t) : n_T kd vl w (g_tk kd vl 44 k1) t (fun k' t => t = (0, (4, 0, false, [], p0) :: R, o, k', false, out ++ C)) := by
  obtain ⟨pend, out', h1, h2, h3, rfl⟩ := h
  have e := (n_st_t (w := w)).trans (n_go_3 (kd := kd) (vl := vl) (ph := 0) (bg := false) (ops := pend ++ []) (pr := p0) (R := R) (o := o) (k := k1) (out := out') (fun _ => hx))
  unfold g_tk
  by_cases q : g_s kd vl 44 k1 = true
  · rw [if_pos q] at e ⊢
    rw [List.append_nil, h2, h3, Nat.sub_zero] at e
    rw [List.append_nil]
    exact n_T.st e (n_T.ok rfl)
  · rw [if_neg q] at e ⊢
    exact n_T.no (n_R.st e)
theorem n_T.c6 {p0 : Int} {k1 : Nat} (h1 : g_o kd vl 22 k1 = false) (h2 : g_o kd vl 21 k1 = false) (h : n_tP kd vl 6 [] p0 R o 1 out C k1 t) : n_T kd vl w (g_tk kd vl 44 k1) t (fun k' t => t = (0, (3, 0, false, [], p0) :: R, o, k', false, out ++ C)) := by
  obtain ⟨ph, pend, out', h0, hx, hA, h3, rfl⟩ := h
  have e := (n_st_t (w := w)).trans (n_go_6 (kd := kd) (vl := vl) (ph := ph) (bg := false) (ops := pend ++ []) (pr := p0) (R := R) (o := o + n_cn pend) (k := k1) (out := out') hx (by omega) h1 h2)
  unfold g_tk
  by_cases q : g_s kd vl 44 k1 = true
  · rw [if_pos q] at e ⊢
    rw [List.append_nil, h3, Nat.add_sub_cancel] at e
    rw [List.append_nil]
    exact n_T.st e (n_T.ok rfl)
  · rw [if_neg q] at e ⊢
    exact n_T.no (n_R.st e)
theorem n_T.c5 {p0 ph0 : Int} {k1 : Nat} (h1 : g_o kd vl 22 k1 = false) (h2 : g_o kd vl 21 k1 = false) (h : n_tP kd vl 5 [] p0 ((kn, ph0, false, ops, pr) :: R) (o + 1) 1 out C k1 t) : n_T kd vl w (g_tk kd vl 93 k1) t (fun k' t => t = (0, (kn, 2, false, ops, pr) :: R, o, k', true, out ++ C)) := by
  obtain ⟨ph, pend, out', h0, hx, hA, h3, rfl⟩ := h
  have e := (n_st_t (w := w)).trans (n_go_5 (kd := kd) (vl := vl) (ph := ph) (bg := false) (ops := pend ++ []) (pr := p0) (R := (kn, ph0, false, ops, pr) :: R) (o := o + 1 + n_cn pend) (k := k1) (out := out') hx (by omega) h1 h2)
  unfold g_tk
  by_cases q : g_s kd vl 93 k1 = true
  · rw [if_pos q] at e ⊢
    rw [n_pop_e, if_pos rfl, if_neg (by decide), List.append_nil, List.append_nil, h3, Nat.add_sub_cancel, Nat.add_sub_cancel] at e
    rw [List.append_nil]
    exact n_T.st e (n_T.ok rfl)
  · rw [if_neg q] at e ⊢
    exact n_T.no (n_R.st e)
/-- operands of one kind, and signs of one rank between them -/
theorem n_loop {op : Nat → Bool} {p : Nat → Option Nat} {cp : d_C} {st : Nat → Int} (hgo : ∀ (ops : List Int) (o k : Nat) (out : List Int), op k = true → n_go kd vl kn ph false ops pr R o k out = (0, (kn, ph, false, n_sg kd vl k :: n_lo r ops, pr) :: R, o, k + 1, false, out ++ (n_hi r ops).map d_st) ∧ d_st (n_sg kd vl k) = st k ∧ dk_rk (n_sg kd vl k) = r ∧ n_sg kd vl k ≠ 43)
    (hp : ∀ (ops : List Int) (k : Nat) (out : List Int), n_HD (r + 1) ops → n_T kd vl w (p k) (0, (kn, ph, false, ops, pr) :: R, o, k, false, out) (n_sP kn ph ops pr R o (r + 1) out (cp k))) (hO : n_HD r ops) : ∀ (f k : Nat) (D : List Int) (t : n_S), n_sP kn ph ops pr R o r out D k t → n_T kd vl w (x_loop op p f k) t (n_sP kn ph ops pr R o r out (D ++ d_loop op p cp st f k))
  | 0, k, D, t, h => by
    refine n_T.ok ?_
    show n_sP kn ph ops pr R o r out (D ++ []) k t
    rw [List.append_nil]
    exact h
  | f + 1, k, D, t, h => by
    cases ho : op k with
    | false =>
      rw [x_loop_out ho]
      refine n_T.ok ?_
      show n_sP kn ph ops pr R o r out (D ++ (if op k = true then _ else [])) k t
      rw [if_neg (by rw [ho]; decide), List.append_nil]
      exact h
    | true =>
      obtain ⟨pend, out', h1, h2, h3, rfl⟩ := h
      obtain ⟨e1, e2, e3, e4⟩ := hgo (pend ++ ops) o k out' ho
      have sp := n_split h1 hO
      rw [sp.1, sp.2, h3] at e1
      have hH : n_HD (r + 1) (n_sg kd vl k :: ops) := n_HD.cons (by omega)
      have hd : d_loop op p cp st (f + 1) k = cp (k + 1) ++ st k :: d_loop op p cp st f ((p (k + 1)).getD 0) := by
        show (if op k = true then _ else _) = _
        rw [if_pos ho]
      unfold x_loop
      rw [if_pos ho, hd]
      refine n_T.st ((n_st_t (w := w)).trans e1) ((hp (n_sg kd vl k :: ops) (k + 1) (out ++ D) hH).bind fun k1 t h4 p1 => ?_)
      obtain ⟨pend2, out2, g1, g2, g3, rfl⟩ := p1
      have key := n_loop hgo hp hO f k1 (D ++ cp (k + 1) ++ [st k]) (0, (kn, ph, false, (pend2 ++ [n_sg kd vl k]) ++ ops, pr) :: R, o, k1, true, out2) ⟨pend2 ++ [n_sg kd vl k], out2, (g1.wk (by omega)).snoc (by omega), by rw [n_cn_app, g2]; show 0 + ((if n_sg kd vl k = 43 then 1 else 0) + 0) = 0; rw [if_neg e4], by rw [List.map_append, ← List.append_assoc, g3, List.map_cons, List.map_nil, e2]; simp only [List.append_assoc], rfl⟩
      rw [List.append_assoc, List.singleton_append] at key
      rw [h4, Option.getD_some]
      have e9 : D ++ (cp (k + 1) ++ st k :: d_loop op p cp st f k1) = D ++ cp (k + 1) ++ [st k] ++ d_loop op p cp st f k1 := by simp only [List.append_assoc, List.singleton_append]
      rw [e9]
      exact key
theorem n_prod {p : Nat → Option Nat} {cp : d_C} (hph : ph < 2) (hp : ∀ (bg : Bool) (ops : List Int) (k : Nat) (out : List Int), m_fst kd vl kn bg k = false → n_T kd vl w (p k) (0, (kn, ph, bg, ops, pr) :: R, o, k, false, out) (n_sP kn ph ops pr R o 7 out (cp k))) (bg : Bool) (ops : List Int) (k : Nat) (out : List Int) (hf : m_fst kd vl kn bg k = false) (hO : n_HD 6 ops) : n_T kd vl w (x_prod kd vl p k) (0, (kn, ph, bg, ops, pr) :: R, o, k, false, out) (n_sP kn ph ops pr R o 6 out (d_prod kd vl p cp k)) := by
  unfold x_prod d_prod
  refine (hp bg ops k out hf).bind fun k1 t h1 p1 => ?_
  rw [h1, Option.getD_some]
  exact n_loop (r := 6) (fun ops o k out h => ⟨n_go_po hph h, d_sg_po h⟩) (fun ops k out _ => hp false ops k out m_fst_f) hO 1600 k1 (cp k) t (p1.wk (by decide))
theorem n_sum {p : Nat → Option Nat} {cp : d_C} (hph : ph < 2) (hp : ∀ (bg : Bool) (ops : List Int) (k : Nat) (out : List Int), m_fst kd vl kn bg k = false → n_T kd vl w (p k) (0, (kn, ph, bg, ops, pr) :: R, o, k, false, out) (n_sP kn ph ops pr R o 7 out (cp k))) (bg : Bool) (ops : List Int) (k : Nat) (out : List Int) (hf : m_fst kd vl kn bg k = false) (hO : n_HD 5 ops) : n_T kd vl w (x_sum kd vl p k) (0, (kn, ph, bg, ops, pr) :: R, o, k, false, out) (n_sP kn ph ops pr R o 5 out (d_sum kd vl p cp k)) := by
  unfold x_sum d_sum
  refine (n_prod hph hp bg ops k out hf (hO.wk (by decide))).bind fun k1 t h1 p1 => ?_
  rw [h1, Option.getD_some]
  exact n_loop (r := 5) (fun ops o k out h => ⟨n_go_so hph h, d_sg_so h⟩) (fun ops k out h => n_prod hph hp false ops k out m_fst_f h) hO 1600 k1 (d_prod kd vl p cp k) t (p1.wk (by decide))
/-- FACTS, and words of one rank between them -/
theorem n_loopT {op : Nat → Bool} {p : Nat → Option Nat} {cp : d_C} {st sg : Int} (hr : 1 ≤ r) (hgo : ∀ (ph : Int) (ops : List Int) (o k : Nat) (out : List Int), op k = true → ph ≠ 0 → (ph < 2 → g_so kd vl k = false ∧ g_po kd vl k = false) → n_go kd vl kn ph false ops pr R o k out = (0, (kn, 0, true, sg :: n_lo r ops, pr) :: R, o - n_cn (n_hi r ops), k + 1, false, out ++ (n_hi r ops).map d_st)) (hs : d_st sg = st ∧ dk_rk sg = r ∧ sg ≠ 43)
    (hp : ∀ (ops : List Int) (k : Nat) (out : List Int), n_HD (r + 1) ops → n_T kd vl w (p k) (0, (kn, 0, true, ops, pr) :: R, o, k, false, out) (n_tP kd vl kn ops pr R o (r + 1) out (cp k))) (hO : n_HD r ops) : ∀ (f k : Nat) (D : List Int) (t : n_S), n_tP kd vl kn ops pr R o r out D k t → n_T kd vl w (x_loop op p f k) t (n_tP kd vl kn ops pr R o r out (D ++ d_loop op p cp (fun _ => st) f k))
  | 0, k, D, t, h => by
    refine n_T.ok ?_
    show n_tP kd vl kn ops pr R o r out (D ++ []) k t
    rw [List.append_nil]
    exact h
  | f + 1, k, D, t, h => by
    cases ho : op k with
    | false =>
      rw [x_loop_out ho]
      refine n_T.ok ?_
      show n_tP kd vl kn ops pr R o r out (D ++ (if op k = true then _ else [])) k t
      rw [if_neg (by rw [ho]; decide), List.append_nil]
      exact h
    | true =>
      obtain ⟨ph, pend, out', h0, hx, h1, h3, rfl⟩ := h
      have e1 := hgo ph (pend ++ ops) (o + n_cn pend) k out' ho (by omega) hx
      have sp := n_split h1 hO
      rw [sp.1, sp.2, h3, Nat.add_sub_cancel] at e1
      have hH : n_HD (r + 1) (sg :: ops) := n_HD.cons (by omega)
      have hd : d_loop op p cp (fun _ => st) (f + 1) k = cp (k + 1) ++ st :: d_loop op p cp (fun _ => st) f ((p (k + 1)).getD 0) := by
        show (if op k = true then _ else _) = _
        rw [if_pos ho]
      unfold x_loop
      rw [if_pos ho, hd]
      refine n_T.st ((n_st_t (w := w)).trans e1) ((hp (sg :: ops) (k + 1) (out ++ D) hH).bind fun k1 t h4 p1 => ?_)
      obtain ⟨ph2, pend2, out2, g0, gx, g1, g3, rfl⟩ := p1
      have ec : n_cn (pend2 ++ [sg]) = n_cn pend2 := by
        rw [n_cn_app]
        show n_cn pend2 + ((if sg = 43 then 1 else 0) + 0) = _
        rw [if_neg hs.2.2]
        rfl
      have key := n_loopT hr hgo hs hp hO f k1 (D ++ cp (k + 1) ++ [st]) (0, (kn, ph2, false, (pend2 ++ [sg]) ++ ops, pr) :: R, o + n_cn (pend2 ++ [sg]), k1, true, out2) ⟨ph2, pend2 ++ [sg], out2, g0, gx, (g1.wk (by omega)).snoc (by omega), by rw [List.map_append, ← List.append_assoc, g3, List.map_cons, List.map_nil, hs.1]; simp only [List.append_assoc], rfl⟩
      rw [ec, List.append_assoc pend2, List.singleton_append] at key
      rw [h4, Option.getD_some]
      have e9 : D ++ (cp (k + 1) ++ st :: d_loop op p cp (fun _ => st) f k1) = D ++ cp (k + 1) ++ [st] ++ d_loop op p cp (fun _ => st) f k1 := by simp only [List.append_assoc, List.singleton_append]
      rw [e9]
      exact key
theorem n_tP.wk {l' : Int} {k' : Nat} (h : n_tP kd vl kn ops pr R o l out C k' t) (hl : l' ≤ l) : n_tP kd vl kn ops pr R o l' out C k' t := by
  obtain ⟨ph, pend, out', h0, hx, h1, h2⟩ := h
  exact ⟨ph, pend, out', h0, hx, h1.wk hl, h2⟩
theorem n_both {f : Nat → Option Nat} {cf : d_C} (ht : m_tst kn = true) (hf : ∀ (ops : List Int) (k : Nat) (out : List Int), n_HD 4 ops → n_T kd vl w (f k) (0, (kn, 0, true, ops, pr) :: R, o, k, false, out) (n_tP kd vl kn ops pr R o 3 out (cf k))) (ops : List Int) (k : Nat) (out : List Int) (hO : n_HD 2 ops) : n_T kd vl w (x_both kd vl f k) (0, (kn, 0, true, ops, pr) :: R, o, k, false, out) (n_tP kd vl kn ops pr R o 2 out (d_both kd vl f cf k)) := by
  unfold x_both d_both
  refine (hf ops k out (hO.wk (by decide))).bind fun k1 t h1 p1 => ?_
  rw [h1, Option.getD_some]
  exact n_loopT (r := 2) (by decide) (fun ph ops o k out h h0 hx => n_go_and ht hx h0 h) ⟨by decide, by decide, by decide⟩ (fun ops k out h => hf ops k out (h.wk (by decide))) hO 1600 k1 (cf k) t (p1.wk (by decide))
theorem n_test {f : Nat → Option Nat} {cf : d_C} (ht : m_tst kn = true) (hf : ∀ (ops : List Int) (k : Nat) (out : List Int), n_HD 4 ops → n_T kd vl w (f k) (0, (kn, 0, true, ops, pr) :: R, o, k, false, out) (n_tP kd vl kn ops pr R o 3 out (cf k))) (k : Nat) (out : List Int) : n_T kd vl w (x_test kd vl f k) (0, (kn, 0, true, [], pr) :: R, o, k, false, out) (n_tP kd vl kn [] pr R o 1 out (d_test kd vl f cf k)) := by
  unfold x_test d_test
  refine (n_both ht hf [] k out n_HD.nil).bind fun k1 t h1 p1 => ?_
  rw [h1, Option.getD_some]
  exact n_loopT (r := 1) (by decide) (fun ph ops o k out h h0 hx => n_go_or ht hx h0 h) ⟨by decide, by decide, by decide⟩ (fun ops k out h => n_both ht hf ops k out h) n_HD.nil 1600 k1 (d_both kd vl f cf k) t (p1.wk (by decide))
end NT
def H_s (kd vl : Nat → Int32) (w : Int) (e : Nat) : Prop := ∀ (kn ph : Int) (bg : Bool) (ops : List Int) (pr : Int) (R : List n_F) (o k : Nat) (out : List Int), o + e = 8 → ph < 2 → m_fst kd vl kn bg k = false → n_HD 5 ops → n_T kd vl w ((x_lv kd vl w e).1 k) (0, (kn, ph, bg, ops, pr) :: R, o, k, false, out) (n_sP kn ph ops pr R o 5 out ((d_lv kd vl w e).1 k))
def H_t (kd vl : Nat → Int32) (w : Int) (e : Nat) : Prop := ∀ (kn pr : Int) (R : List n_F) (o k : Nat) (out : List Int), o + e = 8 → m_tst kn = true → n_T kd vl w ((x_lv kd vl w e).2.1 k) (0, (kn, 0, true, [], pr) :: R, o, k, false, out) (n_tP kd vl kn [] pr R o 1 out ((d_lv kd vl w e).2.1 k))
def H_f (kd vl : Nat → Int32) (w : Int) (e : Nat) : Prop := ∀ (kn : Int) (ops : List Int) (pr : Int) (R : List n_F) (o k : Nat) (out : List Int), o + e = 8 → m_tst kn = true → n_HD 4 ops → n_T kd vl w ((x_lv kd vl w e).2.2 k) (0, (kn, 0, true, ops, pr) :: R, o, k, false, out) (n_tP kd vl kn ops pr R o 3 out ((d_lv kd vl w e).2.2 k))
section NG
variable {kd vl : Nat → Int32} {w : Int} {N e : Nat}
theorem n_pairT (hN : ∀ k, N ≤ k → (kd k).toInt = 0) (hN2 : N ≤ 1600) (Hs : H_s kd vl w e) {kn ph pr p0 l : Int} {bg : Bool} {ops : List Int} {R : List n_F} {o k : Nat} {out : List Int} (ho : o + 1 + e = 8) : n_T kd vl w (x_pair kd vl (x_lv kd vl w e).1 k) (0, (3, 0, bg, [], p0) :: (kn, ph, false, ops, pr) :: R, o + 1, k, false, out) (n_sP kn ph ops pr R o l out (d_pair (x_lv kd vl w e).1 (d_lv kd vl w e).1 k ++ [d_st p0])) := by
  unfold x_pair d_pair
  refine (Hs 3 0 bg [] p0 ((kn, ph, false, ops, pr) :: R) (o + 1) k out ho (by decide) (by unfold m_fst; simp [m_tst]) n_HD.nil).bind fun k1 t h1 p1 => ?_
  refine (n_T.c3 (x_lv_so hN hN2 h1) p1).bind fun k2 t h2 p2 => ?_
  subst p2
  have e2 := (g_tk_some h2).2
  refine (Hs 4 0 false [] p0 ((kn, ph, false, ops, pr) :: R) (o + 1) k2 _ ho (by decide) m_fst_f n_HD.nil).bind fun k3 t h3 p3 => ?_
  rw [h1, Option.getD_some, ← e2]
  refine (n_T.c4 (l := l) (x_lv_so hN hN2 h3) p3).imp fun k' t _ p => ?_
  obtain ⟨pend, out', a1, a2, a3, a4⟩ := p
  exact ⟨pend, out', a1, a2, by rw [a3]; simp only [List.append_assoc], a4⟩
theorem n_partT (hN : ∀ k, N ≤ k → (kd k).toInt = 0) (hN2 : N ≤ 1600) (Hs : e ≠ 0 → H_s kd vl w e) (Ht : e ≠ 0 → H_t kd vl w e) {kn ph pr l : Int} {bg : Bool} {ops : List Int} {R : List n_F} {o k : Nat} {out : List Int} (ho : o + (e + 1) = 8) (hf : m_fst kd vl kn bg k = false) : n_T kd vl w (x_part kd vl w (x_lv kd vl w e).1 (x_lv kd vl w e).2.1 k) (0, (kn, ph, bg, ops, pr) :: R, o, k, false, out) (n_sP kn ph ops pr R o l out (d_part kd vl (x_lv kd vl w e).1 (x_lv kd vl w e).2.1 (d_lv kd vl w e).1 (d_lv kd vl w e).2.1 k)) := by
  have e1 : n_st kd vl w (0, (kn, ph, bg, ops, pr) :: R, o, k, false, out) = n_opB kd vl w kn ph ops pr R o k out := by
    rw [n_st_f]
    unfold n_opd
    rw [if_neg (by rw [hf]; decide)]
  refine n_T.st e1 ?_
  unfold x_part n_opB x_choice x_prs d_part
  by_cases q1 : g_s kd vl 40 k = true
  · rw [if_pos q1, if_pos q1, if_pos q1]
    refine n_T.psh (fun z => ?_) (fun z => ?_)
    · have z1 : e = 0 := by omega
      subst z1
      rfl
    · refine (Hs (by omega) 2 0 true [] 0 ((kn, ph, false, ops, pr) :: R) (o + 1) (k + 1) out (by omega) (by decide) (by unfold m_fst; simp [m_tst]) n_HD.nil).bind fun k1 t h1 p1 => ?_
      exact n_T.c2 (out0 := []) (C0 := []) (x_lv_so hN hN2 h1) p1
  rw [if_neg q1, if_neg q1, if_neg q1]
  by_cases q2 : g_o kd vl 20 k = true
  · rw [if_pos q2, if_pos q2, if_pos q2]
    by_cases q5 : g_s kd vl 40 (k + 1) = true
    · rw [if_pos q5, if_pos q5]
      refine n_T.psh (fun z => ?_) (fun z => ?_)
      · have z1 : e = 0 := by omega
        subst z1
        rfl
      · unfold d_choice
        refine (Ht (by omega) 6 44 ((kn, ph, false, ops, pr) :: R) (o + 1) (k + 2) out (by omega) (by decide)).bind fun k1 t h1 p1 => ?_
        have h2 := x_lv_te hN hN2 h1
        refine (n_T.c6 h2.2 h2.1 p1).bind fun k2 t h3 p3 => ?_
        subst p3
        have e2 := (g_tk_some h3).2
        rw [h1, Option.getD_some, ← e2]
        refine (n_pairT (l := l) hN hN2 (Hs (by omega)) (by omega)).imp fun k' t _ p => ?_
        obtain ⟨pend, out', a1, a2, a3, a4⟩ := p
        exact ⟨pend, out', a1, a2, by rw [a3]; simp only [List.append_assoc]; rfl, a4⟩
    · rw [if_neg q5, if_neg q5]
      exact n_T.no n_R.rf
  rw [if_neg q2, if_neg q2, if_neg q2]
  by_cases q3 : (g_o kd vl 25 k || g_o kd vl 26 k) = true
  · rw [if_pos q3, if_pos q3, if_pos q3]
    by_cases q5 : g_s kd vl 40 (k + 1) = true
    · rw [if_pos q5, if_pos q5]
      refine n_T.psh (fun z => ?_) (fun z => ?_)
      · have z1 : e = 0 := by omega
        subst z1
        rfl
      · unfold d_prs
        have hd : d_st (if g_o kd vl 25 k = true then 36 else 37) = if g_o kd vl 25 k = true then -15 else -16 := by
          by_cases z9 : g_o kd vl 25 k = true
          · rw [if_pos z9, if_pos z9]; decide
          · rw [if_neg z9, if_neg z9]; decide
        rw [← hd]
        exact n_pairT hN hN2 (Hs (by omega)) (by omega)
    · rw [if_neg q5, if_neg q5]
      exact n_T.no n_R.rf
  rw [if_neg q3, if_neg q3, if_neg q3]
  by_cases q4 : g_n kd k = true
  · rw [if_pos q4, if_pos q4, if_pos (by rw [q4]; rfl)]
    exact n_T.ok n_sP.z
  · have q4 : g_n kd k = false := by simpa using q4
    rw [q4, Bool.false_or, if_neg (show ¬ (false = true) from by decide), if_neg (show ¬ (false = true) from by decide)]
    by_cases q6 : g_fw kd vl w k = true
    · rw [if_pos q6, if_pos q6]
      exact n_T.ok n_sP.z
    · rw [if_neg q6, if_neg q6]
      exact n_T.no n_R.rf
theorem n_factT (hN : ∀ k, N ≤ k → (kd k).toInt = 0) (hN2 : N ≤ 1600) (Ht : e ≠ 0 → H_t kd vl w e) (Hf : e ≠ 0 → H_f kd vl w e) (Hs : H_s kd vl w (e + 1)) {kn pr : Int} {ops : List Int} {R : List n_F} {o k : Nat} {out : List Int} (ho : o + (e + 1) = 8) (ht : m_tst kn = true) (hO : n_HD 4 ops) : n_T kd vl w ((x_lv kd vl w (e + 1)).2.2 k) (0, (kn, 0, true, ops, pr) :: R, o, k, false, out) (n_tP kd vl kn ops pr R o 3 out ((d_lv kd vl w (e + 1)).2.2 k)) := by
  show n_T kd vl w (x_fact kd vl (x_lv kd vl w e).2.2 (x_lv kd vl w e).2.1 (x_lv kd vl w (e + 1)).1 k) _ (n_tP kd vl kn ops pr R o 3 out (d_fact kd vl (x_lv kd vl w (e + 1)).1 (d_lv kd vl w e).2.2 (d_lv kd vl w e).2.1 (d_lv kd vl w (e + 1)).1 k))
  unfold x_fact d_fact
  by_cases q1 : g_o kd vl 23 k = true
  · have e1 : n_st kd vl w (0, (kn, 0, true, ops, pr) :: R, o, k, false, out) = if o = 7 then n_bad else (0, (kn, 0, true, 43 :: ops, pr) :: R, o + 1, k + 1, false, out) := by
      rw [n_st_f]
      unfold n_opd
      rw [if_pos (by unfold m_fst; rw [ht, q1]; rfl)]
      unfold n_opA
      rw [if_pos q1]
    rw [if_pos q1, if_pos q1]
    by_cases z : o = 7
    · rw [if_pos z] at e1
      have z1 : e = 0 := by omega
      subst z1
      exact n_T.no (n_R.st e1)
    · rw [if_neg z] at e1
      refine n_T.st e1 ((Hf (by omega) kn (43 :: ops) pr R (o + 1) (k + 1) out (by omega) ht (n_HD.cons (by decide))).imp fun k' t _ p => ?_)
      obtain ⟨ph, pend, out', h0, hx, hA, h3, rfl⟩ := p
      refine ⟨ph, pend ++ [43], out', h0, hx, hA.snoc (by decide), ?_, ?_⟩
      · rw [List.map_append, ← List.append_assoc, h3, List.append_assoc]; rfl
      · rw [n_cn_app, List.append_assoc, List.singleton_append, show o + 1 + n_cn pend = o + (n_cn pend + n_cn [43]) from by show o + 1 + n_cn pend = o + (n_cn pend + 1); omega]
  rw [if_neg q1, if_neg q1]
  by_cases q2 : g_s kd vl 91 k = true
  · have e1 : n_st kd vl w (0, (kn, 0, true, ops, pr) :: R, o, k, false, out) = n_push kn 0 ops pr R o (k + 1) 5 0 out := by
      rw [n_st_f]
      unfold n_opd
      rw [if_pos (by unfold m_fst; rw [ht, q2]; simp)]
      unfold n_opA
      rw [if_neg q1, if_pos q2]
    rw [if_pos q2, if_pos q2]
    refine n_T.st e1 (n_T.psh (fun z => ?_) (fun z => ?_))
    · have z1 : e = 0 := by omega
      subst z1
      rfl
    · refine (Ht (by omega) 5 0 ((kn, 0, false, ops, pr) :: R) (o + 1) (k + 1) out (by omega) (by decide)).bind fun k1 t h1 p1 => ?_
      have h2 := x_lv_te hN hN2 h1
      refine (n_T.c5 h2.2 h2.1 p1).imp fun k' t _ p => ?_
      exact ⟨2, [], out ++ _, Or.inr rfl, fun h => absurd h (by decide), n_AL.nil, by rw [List.map_nil, List.append_nil], p⟩
  rw [if_neg q2, if_neg q2]
  by_cases q3 : g_o kd vl 24 k = true
  · have e1 : n_st kd vl w (0, (kn, 0, true, ops, pr) :: R, o, k, false, out) = (0, (kn, 2, false, ops, pr) :: R, o, k + 1, true, out ++ [-7]) := by
      rw [n_st_f]
      unfold n_opd
      rw [if_pos (by unfold m_fst; rw [ht, q3]; simp)]
      unfold n_opA
      rw [if_neg q1, if_neg q2]
    rw [if_pos q3, if_pos q3]
    exact n_T.st e1 (n_T.ok ⟨2, [], out ++ [-7], Or.inr rfl, fun h => absurd h (by decide), n_AL.nil, by rw [List.map_nil, List.append_nil], rfl⟩)
  rw [if_neg q3, if_neg q3]
  unfold x_comp d_comp
  refine (Hs kn 0 true ops pr R o k out ho (by decide) (by unfold m_fst; simp [q1, q2, q3]) (hO.wk (by decide))).bind fun k1 t h1 p1 => ?_
  obtain ⟨pend, out', a1, a2, a3, rfl⟩ := p1
  have sp := n_split (l := 5) a1 (hO.wk (by decide))
  have e2 := (n_st_t (w := w)).trans (n_go_co (kd := kd) (vl := vl) (kn := kn) (bg := false) (ops := pend ++ ops) (pr := pr) (R := R) (o := o) (k := k1) (out := out') ht (x_lv_so hN hN2 h1))
  rw [sp.1, sp.2, a3] at e2
  rw [h1, Option.getD_some]
  by_cases q5 : g_co kd vl k1 = true
  · rw [if_pos q5] at e2 ⊢
    obtain ⟨c1, c2, c3⟩ := d_cp_co q5
    refine n_T.st e2 ((Hs kn 1 false (n_cp kd vl k1 :: ops) pr R o (k1 + 1) _ ho (by decide) m_fst_f (n_HD.cons (by omega))).imp fun k' t h p => ?_)
    obtain ⟨pend2, out2, b1, b2, b3, rfl⟩ := p
    refine ⟨1, pend2 ++ [n_cp kd vl k1], out2, Or.inl rfl, fun _ => x_lv_so hN hN2 h, (b1.wk (by decide)).snoc (by omega), ?_, ?_⟩
    · rw [List.map_append, ← List.append_assoc, b3, List.map_cons, List.map_nil, c1]; simp only [List.append_assoc]
    · rw [n_cn_app, b2, List.append_assoc, List.singleton_append]
      show _ = (0, (kn, 1, false, pend2 ++ n_cp kd vl k1 :: ops, pr) :: R, o + (0 + ((if n_cp kd vl k1 = 43 then 1 else 0) + 0)), k', true, out2)
      rw [if_neg c3]
      rfl
  · rw [if_neg q5] at e2 ⊢
    exact n_T.no (n_R.st e2)
theorem H_all (hN : ∀ k, N ≤ k → (kd k).toInt = 0) (hN2 : N ≤ 1600) : ∀ e : Nat, e ≠ 0 → H_s kd vl w e ∧ H_t kd vl w e ∧ H_f kd vl w e
  | 0, h => absurd rfl h
  | e + 1, _ => by
    have IH := H_all hN hN2 e
    have Hs : H_s kd vl w (e + 1) := fun kn ph bg ops pr R o k out ho hph hf hO => n_sum hph (fun bg ops k out hf => n_partT hN hN2 (fun h => (IH h).1) (fun h => (IH h).2.1) ho hf) bg ops k out hf hO
    have Hf : H_f kd vl w (e + 1) := fun kn ops pr R o k out ho ht hO => n_factT hN hN2 (fun h => (IH h).2.1) (fun h => (IH h).2.2) Hs ho ht hO
    exact ⟨Hs, fun kn pr R o k out ho ht => n_test ht (fun ops k out hO => Hf kn ops pr R o k out ho ht hO) k out, Hf⟩
/-- a rule: what the descent takes the frames take, and what it writes they write -/
def n_s0 (w : Int) (pr : Int) (k : Nat) : n_S := (0, [(if w = 1 then 1 else 0, 0, true, [], pr)], 0, k, false, [])
theorem n_rule (hN : ∀ k, N ≤ k → (kd k).toInt = 0) (hN2 : N ≤ 1600) (pr : Int) (k : Nat) : n_T kd vl w (y_rule kd vl w k) (n_s0 w pr k) (fun k' t => ∃ L : List n_F, t = (1, L, 0, k', true, d_rule kd vl w k)) := by
  have A := H_all (kd := kd) (vl := vl) (w := w) hN hN2 8 (by decide)
  unfold y_rule n_s0 d_rule
  by_cases h : w = 1
  · rw [if_pos h, if_pos h, if_pos h]
    have H := A.2.1 1 pr [] 0 k [] (by decide) (by decide)
    refine ⟨H.1, fun k' hk => ?_⟩
    obtain ⟨t, r, ph, pend, out', h0, hx, hA, h3, rfl⟩ := H.2 k' hk
    have h2 := x_lv_te hN hN2 hk
    have e := (n_st_t (w := w)).trans (n_go_1 (kd := kd) (vl := vl) (ph := ph) (bg := false) (ops := pend ++ []) (pr := pr) (R := []) (o := 0 + n_cn pend) (k := k') (out := out') hx (by omega) h2.2 h2.1)
    rw [List.append_nil, Nat.add_sub_cancel, h3, List.nil_append] at e
    rw [List.append_nil] at r
    exact ⟨_, r.tr (n_R.st e), _, rfl⟩
  · rw [if_neg h, if_neg h, if_neg h]
    have H := A.1 0 0 true [] pr [] 0 k [] (by decide) (by decide) (by unfold m_fst; simp [m_tst]) n_HD.nil
    refine ⟨H.1, fun k' hk => ?_⟩
    obtain ⟨t, r, pend, out', h1, h2, h3, rfl⟩ := H.2 k' hk
    have e := (n_st_t (w := w)).trans (n_go_0 (kd := kd) (vl := vl) (ph := 0) (bg := false) (ops := pend ++ []) (pr := pr) (R := []) (o := 0) (k := k') (out := out') (fun _ => x_lv_so hN hN2 hk))
    rw [List.append_nil, h2, h3, List.nil_append] at e
    rw [List.append_nil] at r
    exact ⟨_, r.tr (n_R.st e), _, rfl⟩
end NG
end
section
/-! operand() and goesOn() as steps of the machine of frames that writes -/
section NOL
variable {kd vl : Nat → Int32} {w kn ph pr x : Int} {bg : Bool} {ops : List Int} {o k : Nat} {R : List n_F} {out : List Int}
theorem n_opd_not (ht : m_tst kn = true) (hb : bg = true) (h : g_o kd vl 23 k = true) : n_opd kd vl w kn ph bg ops pr R o k out = if o = 7 then n_bad else (0, (kn, ph, true, 43 :: ops, pr) :: R, o + 1, k + 1, false, out) := by
  unfold n_opd m_fst n_opA
  rw [ht, hb, h]
  rfl
theorem n_opd_br (ht : m_tst kn = true) (hb : bg = true) (h : g_s kd vl 91 k = true) : n_opd kd vl w kn ph bg ops pr R o k out = n_push kn ph ops pr R o (k + 1) 5 0 out := by
  have h2 : g_o kd vl 23 k = false := by
    cases q : g_o kd vl 23 k with
    | false => rfl
    | true => have a := g_o_iff.mp q; have b := g_s_iff.mp h; omega
  unfold n_opd m_fst n_opA
  rw [ht, hb, h, h2]
  rfl
theorem n_opd_all (ht : m_tst kn = true) (hb : bg = true) (h : g_o kd vl 24 k = true) : n_opd kd vl w kn ph bg ops pr R o k out = (0, (kn, 2, false, ops, pr) :: R, o, k + 1, true, out ++ [-7]) := by
  have a := g_o_iff.mp h
  have h2 : g_o kd vl 23 k = false := by
    cases q : g_o kd vl 23 k with
    | false => rfl
    | true => have b := g_o_iff.mp q; omega
  have h3 : g_s kd vl 91 k = false := by
    cases q : g_s kd vl 91 k with
    | false => rfl
    | true => have b := g_s_iff.mp q; omega
  unfold n_opd m_fst n_opA
  rw [ht, hb, h, h2, h3]
  rfl
theorem n_opd_b (h : m_fst kd vl kn bg k = false) : n_opd kd vl w kn ph bg ops pr R o k out = n_opB kd vl w kn ph ops pr R o k out := by
  unfold n_opd
  rw [h]
  rfl
theorem n_opd_par (hf : m_fst kd vl kn bg k = false) (h : g_s kd vl 40 k = true) : n_opd kd vl w kn ph bg ops pr R o k out = n_push kn ph ops pr R o (k + 1) 2 0 out := by
  rw [n_opd_b hf]
  unfold n_opB
  rw [if_pos h]
theorem n_opd_if (hf : m_fst kd vl kn bg k = false) (h : g_o kd vl 20 k = true) : n_opd kd vl w kn ph bg ops pr R o k out = if g_s kd vl 40 (k + 1) then n_push kn ph ops pr R o (k + 2) 6 44 out else n_bad := by
  rw [n_opd_b hf]
  unfold n_opB
  rw [g_so_o h, h]
  rfl
theorem n_opd_mm (hf : m_fst kd vl kn bg k = false) (h : g_o kd vl 25 k = true ∨ g_o kd vl 26 k = true) : n_opd kd vl w kn ph bg ops pr R o k out = if g_s kd vl 40 (k + 1) then n_push kn ph ops pr R o (k + 2) 3 (if g_o kd vl 25 k then 36 else 37) out else n_bad := by
  rw [n_opd_b hf]
  unfold n_opB
  rcases h with h | h
  · rw [g_so_o h, g_oo (d := 20) h (by decide), h]; rfl
  · rw [g_so_o h, g_oo (d := 20) h (by decide), h, Bool.or_true]; rfl
/-- what an atom writes -/
def n_at (kd vl : Nat → Int32) (k : Nat) : Int := if g_n kd k then (vl k).toInt else d_fw kd vl k
theorem n_opd_at (hf : m_fst kd vl kn bg k = false) (h1 : g_s kd vl 40 k = false) (h2 : g_o kd vl 20 k = false) (h3 : g_o kd vl 25 k = false) (h4 : g_o kd vl 26 k = false) (h : g_n kd k = true ∨ g_fw kd vl w k = true) : n_opd kd vl w kn ph bg ops pr R o k out = (0, (kn, ph, false, ops, pr) :: R, o, k + 1, true, out ++ [n_at kd vl k]) := by
  rw [n_opd_b hf]
  unfold n_opB n_at
  rw [h1, h2, h3, h4]
  by_cases q : g_n kd k = true
  · rw [q]
    rfl
  · have q' : g_n kd k = false := by
      cases e : g_n kd k with
      | false => rfl
      | true => exact absurd e q
    rcases h with h | h
    · exact absurd h q
    · rw [q', h]
      rfl
/-- the sort, the value of an atom -/
theorem SRT.at {y : Int} (h : SRT kd vl k x) (hx : 0 ≤ x ∧ x ≤ 6) (hv : x = 0 → (vl k).toInt = y) : d_2 x y = n_at kd vl k := by
  obtain ⟨a0, a1, a2, a3, a4, a5, a6, -⟩ := h
  have hc : x = 0 ∨ x = 1 ∨ x = 2 ∨ x = 3 ∨ x = 4 ∨ x = 5 ∨ x = 6 := by omega
  have fw : ∀ {c : Int}, g_o kd vl c k = true → n_at kd vl k = d_fw kd vl k := fun {c} z => by
    unfold n_at
    rw [g_on z]
    rfl
  rcases hc with q | q | q | q | q | q | q
  · unfold n_at
    rw [a0 q, hv q, q]
    rfl
  · have z := g_o_iff.mp (a1 q)
    rw [fw (a1 q), d_fw_1 z.1 z.2, q]
    rfl
  · have z := g_o_iff.mp (a2 q)
    rw [fw (a2 q), d_fw_2 z.1 z.2, q]
    rfl
  · have z := g_o_iff.mp (a3 q)
    rw [fw (a3 q), d_fw_3 z.1 z.2, q]
    rfl
  · have z := g_o_iff.mp (a4 q)
    rw [fw (a4 q), d_fw_4 z.1 z.2, q]
    rfl
  · have z := g_o_iff.mp (a5 q)
    rw [fw (a5 q), d_fw_5 z.1 z.2, q]
    rfl
  · have z := g_o_iff.mp (a6 q)
    rw [fw (a6 q), d_fw_6 z.2, q]
    rfl
/-! goesOn -/
theorem n_go_cmp (ht : m_tst kn = true) (h0 : ph = 0) (h : g_so kd vl k = false ∧ g_po kd vl k = false) (hc : g_co kd vl k = true) : n_go kd vl kn ph bg ops pr R o k out = (0, (kn, 1, bg, n_cp kd vl k :: n_lo 5 ops, pr) :: R, o, k + 1, false, out ++ (n_hi 5 ops).map d_st) := by
  rw [h0, n_go_co ht h, if_pos hc]
theorem n_go_end (h : ph < 2 → g_so kd vl k = false ∧ g_po kd vl k = false) (hk : kn = 0 ∨ (kn = 1 ∧ ph ≠ 0 ∧ g_o kd vl 22 k = false ∧ g_o kd vl 21 k = false)) : n_go kd vl kn ph bg ops pr R o k out = (1, (kn, ph, bg, [], pr) :: R, o - n_cn ops, k, true, out ++ ops.map d_st) := by
  rcases hk with rfl | ⟨rfl, h0, h1, h2⟩
  · exact n_go_0 h
  · exact n_go_1 h h0 h1 h2
theorem n_go_com (h : ph < 2 → g_so kd vl k = false ∧ g_po kd vl k = false) (hk : kn = 3 ∨ (kn = 6 ∧ ph ≠ 0 ∧ g_o kd vl 22 k = false ∧ g_o kd vl 21 k = false)) (hs : g_s kd vl 44 k = true) : n_go kd vl kn ph bg ops pr R o k out = (0, ((if kn = 3 then 4 else 3), 0, bg, [], pr) :: R, o - n_cn ops, k + 1, false, out ++ ops.map d_st) := by
  rcases hk with rfl | ⟨rfl, h0, h1, h2⟩
  · rw [n_go_3 h, if_pos hs]; rfl
  · rw [n_go_6 h h0 h1 h2, if_pos hs]; rfl
theorem n_go_cls (h : ph < 2 → g_so kd vl k = false ∧ g_po kd vl k = false) (hk : ((kn = 2 ∨ kn = 4) ∧ g_s kd vl 41 k = true) ∨ (kn = 5 ∧ ph ≠ 0 ∧ g_o kd vl 22 k = false ∧ g_o kd vl 21 k = false ∧ g_s kd vl 93 k = true)) : n_go kd vl kn ph bg ops pr R o k out = n_pop kn ops pr R o k out := by
  rcases hk with ⟨rfl | rfl, hs⟩ | ⟨rfl, h0, h1, h2, hs⟩
  · rw [n_go_2 h, if_pos hs]
  · rw [n_go_4 h, if_pos hs]
  · rw [n_go_5 h h0 h1 h2, if_pos hs]
/-! which sign it is -/
theorem g_sx {c d : Int} (h : g_s kd vl c k = true) (hd : c ≠ d) : g_s kd vl d k = false := by
  cases q : g_s kd vl d k with
  | false => rfl
  | true => have b := g_s_iff.mp q; have a := g_s_iff.mp h; omega
theorem n_sg_1 (h : g_s kd vl 43 k = true) : n_sg kd vl k = 31 := by unfold n_sg; rw [h]; rfl
theorem n_sg_2 (h : g_s kd vl 45 k = true) : n_sg kd vl k = 32 := by unfold n_sg; rw [g_sx (d := 43) h (by decide), h]; rfl
theorem n_sg_3 (h : g_s kd vl 42 k = true) : n_sg kd vl k = 33 := by unfold n_sg; rw [g_sx (d := 43) h (by decide), g_sx (d := 45) h (by decide), h]; rfl
theorem n_sg_4 (h : g_s kd vl 47 k = true) : n_sg kd vl k = 34 := by unfold n_sg; rw [g_sx (d := 43) h (by decide), g_sx (d := 45) h (by decide), g_sx (d := 42) h (by decide), h]; rfl
theorem n_sg_5 (h1 : g_s kd vl 43 k = false) (h2 : g_s kd vl 45 k = false) (h3 : g_s kd vl 42 k = false) (h4 : g_s kd vl 47 k = false) : n_sg kd vl k = 35 := by unfold n_sg; rw [h1, h2, h3, h4]; rfl
theorem n_cp_1 (h : g_s kd vl 60 k = true) : n_cp kd vl k = 38 := by unfold n_cp; rw [h]; rfl
theorem n_cp_2 (h : g_s kd vl 62 k = true) : n_cp kd vl k = 39 := by unfold n_cp; rw [g_sx (d := 60) h (by decide), h]; rfl
theorem n_cp_3 (h1 : g_s kd vl 60 k = false) (h2 : g_s kd vl 62 k = false) : n_cp kd vl k = 40 := by unfold n_cp; rw [h1, h2]; rfl
/-- operators: one of rank 5, one of rank 6 -/
theorem n_go_5r (hp : ph < 2) (h : g_so kd vl k = true) : n_go kd vl kn ph bg ops pr R o k out = (0, (kn, ph, bg, n_sg kd vl k :: n_lo 5 ops, pr) :: R, o, k + 1, false, out ++ (n_hi 5 ops).map d_st) := n_go_so hp h
end NOL
section OPN
variable {tb : Nat → Int32} {n : Nat} {w : Int} {S S1 S' : dg_S} {WF : List (Nat × Nat)} {WA : List Nat} {sa fk y8 y4 r dp on om t x : Int32} {kn ph kn' ph' p p' : Int} {bg bg' q : Bool} {nt nt' o o' k' kk : Nat} {R R' : List m_F} {l l' L : List Int} {X X' : x_F}
/-- what an operand's reading writes -/
def OPN (tb : Nat → Int32) (n : Nat) (w : Int) (S S' : dg_S) (r : Int32) : Prop := ∀ sa fk f a : Int32, S.1 0 4 = .int sa → S.1 0 8 = .int fk → fk.toInt = 0 → S'.1 0 8 = .int f → S'.1 0 4 = .int a → f.toInt = 0 → ∃ L : List Int, q_am S S' L ∧ ∀ out : List Int, n_st (T_kd tb n) (T_vl tb n) w (NSv S (t_ix tb n sa.toNatClampNeg) false out) = NSv S' (t_ix tb n a.toNatClampNeg) (decide (r.toInt = 1)) (out ++ L)
theorem NSv.ms {k : Nat} {out : List Int} (T : TFM kn ph bg nt R o S) (F : XFM l p X S) : NSv S k q out = (0, (kn, ph, bg, l, n_np kn p) :: n_Z R X, o, k, q, out) := by
  unfold NSv
  rw [T.1, T.2.1, F]
  rfl
theorem NSv.keep {k : Nat} {out : List Int} (m : dg_sm shM WF WA S S1) (h1 : (0, 42) ∉ WF) (h2 : (0, 43) ∉ WF) (h3 : (0, 45) ∉ WF) (k2 : 22 ∉ WA) (k3 : 23 ∉ WA) (k4 : 24 ∉ WA) (k5 : 25 ∉ WA) (k6 : 26 ∉ WA) (k7 : 27 ∉ WA) : NSv S k q out = NSv S1 k q out := by
  unfold NSv MSL XSL
  rw [fI_sm m h1, fI_sm m h2, fI_sm m h3, (m.2 22 _ sM_22 k2).1, (m.2 23 _ sM_23 k3).1, (m.2 24 _ sM_24 k4).1, (m.2 25 _ sM_25 k5).1, (m.2 26 _ sM_26 k6).1, (m.2 27 _ sM_27 k7).1]
theorem NSv.uF46 {k : Nat} {v : Int32} {out : List Int} (e : S1 = dg_uF S 0 46 (.int v)) : NSv S1 k q out = NSv S k q out := by
  unfold NSv MSL XSL fI
  rw [dg_uF_f e, dg_uF_f e, dg_uF_f e, dg_uF_f e, dg_uF_f e, dg_uF_f e, dg_uF_ne e (fun z => absurd z.2 (by decide)), dg_uF_ne e (fun z => absurd z.2 (by decide)), dg_uF_ne e (fun z => absurd z.2 (by decide))]
theorem OPN.no (p8 : S'.1 0 8 = .int y8) (h8 : y8.toInt ≠ 0) : OPN tb n w S S' r := by
  intro sa fk f a q1 q2 q3 q4 q5 q6
  cases p8.symm.trans q4
  exact absurd q6 h8
theorem OPN.ok (f4 : S.1 0 4 = .int sa) (p4 : S'.1 0 4 = .int y4) (hM : ∀ out, NSv S (t_ix tb n sa.toNatClampNeg) false out = (0, (kn', ph', bg', l', n_np kn' p') :: n_Z R' X', o', kk, false, out)) (T : TFM kn ph bg nt R o S') (F : XFM l p X S') (Q : q_am S S' L) (e : ∀ out, n_opd (T_kd tb n) (T_vl tb n) w kn' ph' bg' l' (n_np kn' p') (n_Z R' X') o' kk out = (0, (kn, ph, bg, l, n_np kn p) :: n_Z R X, o, k', q, out ++ L)) (hk : t_ix tb n y4.toNatClampNeg = k') (hr : decide (r.toInt = 1) = q) : OPN tb n w S S' r := by
  intro sa' fk f a q1 q2 q3 q4 q5 q6
  cases f4.symm.trans q1
  cases p4.symm.trans q5
  exact ⟨L, Q, fun out => by rw [hM, n_st_f, e, NSv.ms T F, hk, hr]⟩
/-- behind frames() -/
theorem OPN.fr {v : Int} (f4 : S.1 0 4 = .int sa) (p8 : S'.1 0 8 = .int y8) (p4 : S'.1 0 4 = .int y4) (hM : ∀ out, NSv S (t_ix tb n sa.toNatClampNeg) false out = (0, (kn', ph', bg', l', n_np kn' p') :: n_Z R' X', o', kk, false, out)) (T : TFM kn ph false nt R o S1) (F : XFM l p X S1) (f1 : S1.1 0 42 = .int dp) (f2 : S1.1 0 43 = .int on) (f3 : S1.1 0 45 = .int om) (hd0 : 0 ≤ dp.toInt) (ho0 : 0 ≤ on.toInt) (m : dg_sm shM WF WA S1 S') (h45 : (0, 45) ∉ WF) (k5 : 25 ∉ WA) (k7 : 27 ∉ WA) (hF : ∀ k9 : Int32, S'.1 0 8 = .int k9 → k9.toInt = 0 → FRM S1 S' t) (Q : q_am S S' []) (e : ∀ out, n_opd (T_kd tb n) (T_vl tb n) w kn' ph' bg' l' (n_np kn' p') (n_Z R' X') o' kk out = n_push kn ph l (n_np kn p) (n_Z R X) o k' t.toInt v out) (hv : ∀ z, n_np t.toInt z = v) (hk : y8.toInt = 0 → t_ix tb n y4.toNatClampNeg = k') (hr : r.toInt = 0) : OPN tb n w S S' r := by
  intro sa' fk f a q1 q2 q3 q4 q5 q6
  cases f4.symm.trans q1
  cases p8.symm.trans q4
  cases p4.symm.trans q5
  have G := hF _ p8 q6
  have T2 := T.frm f1 f2 f3 hd0 ho0 m h45 k7 G
  obtain ⟨z, F2⟩ := F.push T f1 f2 f3 hd0 m h45 k5 k7 G.1
  have h6 := (G.2 on f2).1
  have e1 := dk_clN on
  have ho := T.2.1
  rw [fI_at f2] at ho
  refine ⟨[], Q, fun out => ?_⟩
  rw [hM, n_st_f, e, NSv.ms T2 F2, hk q6, show decide (r.toInt = 1) = false from by rw [hr]; rfl, List.append_nil, hv]
  unfold n_push
  rw [if_neg (by omega)]
  rfl
/-- what goesOn() writes -/
def GON (tb : Nat → Int32) (n : Nat) (w : Int) (S S' : dg_S) (r : Int32) : Prop := ∀ sa fk f a x : Int32, S.1 0 4 = .int sa → S.1 0 8 = .int fk → fk.toInt = 0 → S'.1 0 8 = .int f → S'.1 0 4 = .int a → S'.1 0 46 = .int x → f.toInt = 0 → ∃ L : List Int, q_am S S' L ∧ (r.toInt = 1 → ∀ out, n_st (T_kd tb n) (T_vl tb n) w (NSv S (t_ix tb n sa.toNatClampNeg) true out) = NSv S' (t_ix tb n a.toNatClampNeg) (decide (x.toInt = 1)) (out ++ L)) ∧ (r.toInt ≠ 1 → ∃ (N : List n_F) (o : Nat), ∀ out, n_st (T_kd tb n) (T_vl tb n) w (NSv S (t_ix tb n sa.toNatClampNeg) true out) = (1, N, o, t_ix tb n a.toNatClampNeg, true, out ++ L))
theorem GON.no (p8 : S'.1 0 8 = .int y8) (h8 : y8.toInt ≠ 0) : GON tb n w S S' r := by
  intro sa fk f a x q1 q2 q3 q4 q5 q6 q7
  cases p8.symm.trans q4
  exact absurd q7 h8
theorem GON.ok (f4 : S.1 0 4 = .int sa) (p4 : S'.1 0 4 = .int y4) (p46 : S'.1 0 46 = .int x) (hM : ∀ out, NSv S (t_ix tb n sa.toNatClampNeg) true out = (0, (kn', ph', bg', l', n_np kn' p') :: n_Z R' X', o', kk, true, out)) (T : TFM kn ph bg nt R o S') (F : XFM l p X S') (Q : q_am S S' L) (e : ∀ out, n_go (T_kd tb n) (T_vl tb n) kn' ph' bg' l' (n_np kn' p') (n_Z R' X') o' kk out = (0, (kn, ph, bg, l, n_np kn p) :: n_Z R X, o, k', q, out ++ L)) (hk : t_ix tb n y4.toNatClampNeg = k') (hr : r.toInt = 1) (hx : decide (x.toInt = 1) = q) : GON tb n w S S' r := by
  intro sa' fk f a x' q1 q2 q3 q4 q5 q6 q7
  cases f4.symm.trans q1
  cases p4.symm.trans q5
  cases p46.symm.trans q6
  exact ⟨L, Q, fun _ out => by rw [hM, n_st_t, e, NSv.ms T F, hk, hx], fun z => absurd hr z⟩
theorem GON.fin {N : List n_F} (f4 : S.1 0 4 = .int sa) (p4 : S'.1 0 4 = .int y4) (hM : ∀ out, NSv S (t_ix tb n sa.toNatClampNeg) true out = (0, (kn', ph', bg', l', n_np kn' p') :: n_Z R' X', o', kk, true, out)) (Q : q_am S S' L) (e : ∀ out, n_go (T_kd tb n) (T_vl tb n) kn' ph' bg' l' (n_np kn' p') (n_Z R' X') o' kk out = (1, N, o, k', true, out ++ L)) (hk : t_ix tb n y4.toNatClampNeg = k') (hr : r.toInt ≠ 1) : GON tb n w S S' r := by
  intro sa' fk f a x' q1 q2 q3 q4 q5 q6 q7
  cases f4.symm.trans q1
  cases p4.symm.trans q5
  exact ⟨L, Q, fun z => absurd z hr, fun _ => ⟨N, o, fun out => by rw [hM, n_st_t, e, hk]⟩⟩
/-- all that waits is of rank 1 or more -/
theorem n_hi_1 : ∀ {l : List Int}, n_hi 1 l = l ∧ n_lo 1 l = []
  | [] => ⟨rfl, rfl⟩
  | t :: l => by
    have h := n_hi_1 (l := l)
    have r := dk_rl t
    unfold n_hi n_lo at h ⊢
    rw [List.takeWhile_cons, List.dropWhile_cons, if_pos (by rw [decide_eq_true_eq]; omega), if_pos (by rw [decide_eq_true_eq]; omega), h.1, h.2]
    exact ⟨rfl, rfl⟩
end OPN
section GST
variable {kd vl : Nat → Int32} {k : Nat} {x : Int}
theorem g_so_t1 (h : g_s kd vl 43 k = true) : g_so kd vl k = true := by unfold g_so; rw [h]; rfl
theorem g_so_t2 (h : g_s kd vl 45 k = true) : g_so kd vl k = true := by unfold g_so; rw [h, Bool.or_true]
theorem g_po_t (h : g_so kd vl k = true ∨ g_po kd vl k = true) (h1 : g_s kd vl 43 k = false) (h2 : g_s kd vl 45 k = false) : g_po kd vl k = true := by
  rcases h with h | h
  · rw [g_so_f h1 h2] at h
    cases h
  · exact h
theorem n_mm (h : (x = 36 → g_o kd vl 25 k = true) ∧ (x = 37 → g_o kd vl 26 k = true)) (hx : x = 36 ∨ x = 37) : x = if g_o kd vl 25 k then 36 else 37 := by
  rcases hx with q | q
  · rw [if_pos (h.1 q), q]
  · rw [g_oo (d := 25) (h.2 q) (by decide), q]
    rfl
end GST
/-! a rule is read: what is written by then -/
section RDN
variable {tb : Nat → Int32} {n : Nat} {w kn p : Int} {S0 S S1 S' : dg_S} {f a x mo f1 a1 x1 mo1 r fk : Int32} {k0 : Nat}
def RDN (tb : Nat → Int32) (n : Nat) (w : Int) (k0 : Nat) (S0 S : dg_S) (mo f a x : Int32) : Prop := (mo.toInt = 1 → ∃ L : List Int, q_am S0 S L ∧ n_R (T_kd tb n) (T_vl tb n) w (n_s0 w 0 k0) (NSv S (t_ix tb n a.toNatClampNeg) (decide (x.toInt = 1)) L)) ∧ (mo.toInt = 0 → f.toInt = 0 → ∃ (L : List Int) (N : List n_F) (o : Nat), q_am S0 S L ∧ n_R (T_kd tb n) (T_vl tb n) w (n_s0 w 0 k0) (1, N, o, t_ix tb n a.toNatClampNeg, true, L))
theorem RDN.start (hm : mo.toInt = 1) (hx : x.toInt = 0) (T : TFM kn 0 true 0 [] 0 S) (F : XFM [] p [] S) (hk : kn = if w = 1 then 1 else 0) (ha : t_ix tb n a.toNatClampNeg = k0) (Q : q_am S0 S []) : RDN tb n w k0 S0 S mo f a x := by
  refine ⟨fun _ => ⟨[], Q, ?_⟩, fun z => absurd z (by omega)⟩
  rw [NSv.ms T F, ha, show decide (x.toInt = 1) = false from by rw [hx]; rfl, hk]
  unfold n_s0
  have e : n_np (if w = 1 then 1 else 0) p = 0 := by
    unfold n_np
    by_cases h : w = 1
    · rw [if_pos h]
      rfl
    · rw [if_neg h]
      rfl
  rw [e]
  exact n_R.rf
theorem RDN.opd (h : RDN tb n w k0 S0 S mo f a x) (hm : mo.toInt = 1) (hx : x.toInt = 0) (f4 : S.1 0 4 = .int a) (f8 : S.1 0 8 = .int f) (hf : f.toInt = 0) (O : OPN tb n w S S1 r) (p8 : S1.1 0 8 = .int f1) (p4 : S1.1 0 4 = .int a1) (hS : ∀ k q out, NSv S' k q out = NSv S1 k q out) (hQ : ∀ L, q_am S0 S1 L → q_am S0 S' L) (hx1 : x1.toInt = r.toInt) (hm1 : f1.toInt = 0 → mo1.toInt = 1) (hm2 : f1.toInt ≠ 0 → mo1.toInt = 0) : RDN tb n w k0 S0 S' mo1 f1 a1 x1 := by
  refine ⟨fun z => ?_, fun z z2 => absurd (hm1 z2) (by omega)⟩
  have z0 : f1.toInt = 0 := by
    by_cases q9 : f1.toInt = 0
    · exact q9
    · have := hm2 q9; omega
  obtain ⟨L0, Q0, r0⟩ := h.1 hm
  rw [show decide (x.toInt = 1) = false from by rw [hx]; rfl] at r0
  obtain ⟨L, Q, e⟩ := O a f f1 a1 f4 f8 hf p8 p4 z0
  refine ⟨L0 ++ L, hQ _ (Q0.tr Q), ?_⟩
  rw [hS, hx1]
  exact r0.tr (n_R.st (e L0))
theorem RDN.go (h : RDN tb n w k0 S0 S mo f a x) (hm : mo.toInt = 1) (hx : x.toInt = 1) (f4 : S.1 0 4 = .int a) (f8 : S.1 0 8 = .int f) (hf : f.toInt = 0) (O : GON tb n w S S' r) (p8 : S'.1 0 8 = .int f1) (p4 : S'.1 0 4 = .int a1) (p46 : S'.1 0 46 = .int x1) (hm1 : mo1.toInt = 1 ↔ (r.toInt = 1 ∧ f1.toInt = 0)) : RDN tb n w k0 S0 S' mo1 f1 a1 x1 := by
  obtain ⟨L0, Q0, r0⟩ := h.1 hm
  rw [show decide (x.toInt = 1) = true from by rw [hx]; rfl] at r0
  have O := O a f f1 a1 x1 f4 f8 hf p8 p4 p46
  refine ⟨fun z => ?_, fun z z2 => ?_⟩
  · obtain ⟨L, Q, e, -⟩ := O (hm1.mp z).2
    exact ⟨L0 ++ L, Q0.tr Q, r0.tr (n_R.st (e (hm1.mp z).1 L0))⟩
  · obtain ⟨L, Q, -, e⟩ := O z2
    obtain ⟨N, o, e⟩ := e (fun q9 => by have := hm1.mpr ⟨q9, z2⟩; omega)
    exact ⟨L0 ++ L, N, o, Q0.tr Q, r0.tr (n_R.st (e L0))⟩
theorem RDN.fin (hn : n ≤ 1600) (h : RDN tb n w k0 S0 S mo f a x) (hm : mo.toInt = 0) (p8 : S.1 0 8 = .int f) (q8 : S.1 0 8 = .int f1) (hf : f1.toInt = 0) : q_am S0 S (d_rule (T_kd tb n) (T_vl tb n) w k0) := by
  cases p8.symm.trans q8
  obtain ⟨L, N, o, Q, r⟩ := h.2 hm hf
  have hN : ∀ k, n ≤ k → (T_kd tb n k).toInt = 0 := fun k hk => T_kd_end hk
  have T := n_rule (vl := T_vl tb n) (w := w) hN hn 0 k0
  cases e : y_rule (T_kd tb n) (T_vl tb n) w k0 with
  | none =>
    have d := n_R.det r (T.1 e) rfl rfl
    have d2 := congrArg Prod.fst d
    exact absurd (show (1 : Nat) = 2 from d2) (by decide)
  | some j =>
    obtain ⟨t, r2, L', rfl⟩ := T.2 j e
    have d := n_R.det r r2 rfl rfl
    have d2 : L = d_rule (T_kd tb n) (T_vl tb n) w k0 := congrArg (fun s : n_S => s.2.2.2.2.2) d
    rw [← d2]
    exact Q
end RDN
end
