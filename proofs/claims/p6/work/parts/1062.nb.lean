/-! the frames write what the descent writes -/
def n_T (kd vl : Nat → Int32) (w : Int) (a : Option Nat) (s : n_S) (P : Nat → n_S → Prop) : Prop := (a = none → n_R kd vl w s n_bad) ∧ ∀ k', a = some k' → ∃ t, n_R kd vl w s t ∧ P k' t
/-- behind an operand: what waits on top is of rank l or more, no NOT; written with what waits: C more -/
def n_sP (kn ph : Int) (ops : List Int) (pr : Int) (R : List n_F) (o : Nat) (l : Int) (out C : List Int) : Nat → n_S → Prop := fun k' t => ∃ pend out' : List Int, n_AL l pend ∧ n_cn pend = 0 ∧ out' ++ pend.map d_st = out ++ C ∧ t = (0, (kn, ph, false, pend ++ ops, pr) :: R, o, k', true, out')
def n_tP (kd vl : Nat → Int32) (kn : Int) (ops : List Int) (pr : Int) (R : List n_F) (o : Nat) (l : Int) (out C : List Int) : Nat → n_S → Prop := fun k' t => ∃ (ph : Int) (pend out' : List Int), (ph = 1 ∨ ph = 2) ∧ (ph < 2 → g_so kd vl k' = false ∧ g_po kd vl k' = false) ∧ n_AL l pend ∧ out' ++ pend.map d_st = out ++ C ∧ t = (0, (kn, ph, false, pend ++ ops, pr) :: R, o + n_cn pend, k', true, out')
section NT
variable {kd vl : Nat → Int32} {w : Int} {s t : n_S} {kn ph pr l r : Int} {bg : Bool} {ops : List Int} {R : List n_F} {o k : Nat} {out C : List Int} {a : Option Nat} {P Q : Nat → n_S → Prop}
theorem n_T.bind {g : Nat → Option Nat} (h : n_T kd vl w a s P) (H : ∀ k1 t, a = some k1 → P k1 t → n_T kd vl w (g k1) t Q) : n_T kd vl w (a.bind g) s Q := by
  cases a with
  | none => exact ⟨fun _ => h.1 rfl, fun k' q => absurd q (by simp)⟩
  | some k1 =>
    obtain ⟨t, r, p⟩ := h.2 k1 rfl
    have b := H k1 t rfl p
    refine ⟨fun q => r.tr (b.1 q), fun k' q => ?_⟩
    obtain ⟨u, r2, q2⟩ := b.2 k' q
    exact ⟨u, r.tr r2, q2⟩
theorem n_T.st (e : n_st kd vl w s = t) (h : n_T kd vl w a t P) : n_T kd vl w a s P := by
  refine ⟨fun q => (n_R.st e).tr (h.1 q), fun k' q => ?_⟩
  obtain ⟨u, r2, q2⟩ := h.2 k' q
  exact ⟨u, (n_R.st e).tr r2, q2⟩
theorem n_T.no (h : n_R kd vl w s n_bad) : n_T kd vl w none s P := ⟨fun _ => h, fun k' q => (by cases q)⟩
theorem n_T.ok (h : P k s) : n_T kd vl w (some k) s P := ⟨fun q => (by cases q), fun k' q => by cases q; exact ⟨s, n_R.rf, h⟩⟩
theorem n_T.imp (h : n_T kd vl w a s P) (H : ∀ k t, a = some k → P k t → Q k t) : n_T kd vl w a s Q := by
  refine ⟨h.1, fun k' q => ?_⟩
  obtain ⟨u, r, p⟩ := h.2 k' q
  exact ⟨u, r, H _ _ q p⟩
theorem n_T.psh {q p : Int} (h0 : o = 7 → a = none) (h : o ≠ 7 → n_T kd vl w a (0, (q, 0, true, [], p) :: (kn, ph, false, ops, pr) :: R, o + 1, k, false, out) P) : n_T kd vl w a (n_push kn ph ops pr R o k q p out) P := by
  unfold n_push
  by_cases z : o = 7
  · rw [if_pos z, h0 z]
    exact n_T.no n_R.rf
  · rw [if_neg z]
    exact h z
theorem n_sP.wk {l' : Int} {k' : Nat} (h : n_sP kn ph ops pr R o l out C k' t) (hl : l' ≤ l) : n_sP kn ph ops pr R o l' out C k' t := by
  obtain ⟨pend, out', h1, h2⟩ := h
  exact ⟨pend, out', h1.wk hl, h2⟩
/-- an operand with nothing that waits -/
theorem n_sP.z {k' : Nat} : n_sP kn ph ops pr R o l out C k' (0, (kn, ph, false, ops, pr) :: R, o, k', true, out ++ C) := ⟨[], out ++ C, n_AL.nil, rfl, by rw [List.map_nil, List.append_nil], by rw [List.nil_append]⟩
/-- ) behind a SUM in brackets -/
theorem n_T.c2 {out0 C0 : List Int} {p0 : Int} {k1 : Nat} (hx : g_so kd vl k1 = false ∧ g_po kd vl k1 = false) (h : n_sP 2 0 [] p0 ((kn, ph, false, ops, pr) :: R) (o + 1) 5 out C k1 t) : n_T kd vl w (g_tk kd vl 41 k1) t (n_sP kn ph ops pr R o l out C) := by
  obtain ⟨pend, out', h1, h2, h3, rfl⟩ := h
  have e := (n_st_t (w := w)).trans (n_go_2 (kd := kd) (vl := vl) (ph := 0) (bg := false) (ops := pend ++ []) (pr := p0) (R := (kn, ph, false, ops, pr) :: R) (o := o + 1) (k := k1) (out := out') (fun _ => hx))
  unfold g_tk
  by_cases q : g_s kd vl 41 k1 = true
  · rw [if_pos q] at e ⊢
    rw [n_pop_e, if_neg (by decide), if_neg (by decide), List.append_nil, List.append_nil, h2, h3, Nat.sub_zero, Nat.add_sub_cancel] at e
    rw [List.append_nil]
    exact n_T.st e (n_T.ok n_sP.z)
  · rw [if_neg q] at e ⊢
    exact n_T.no (n_R.st e)
theorem n_T.c4 {p0 : Int} {k1 : Nat} (hx : g_so kd vl k1 = false ∧ g_po kd vl k1 = false) (h : n_sP 4 0 [] p0 ((kn, ph, false, ops, pr) :: R) (o + 1) 5 out C k1 t) : n_T kd vl w (g_tk kd vl 41 k1) t (n_sP kn ph ops pr R o l out (C ++ [d_st p0])) := by
  obtain ⟨pend, out', h1, h2, h3, rfl⟩ := h
  have e := (n_st_t (w := w)).trans (n_go_4 (kd := kd) (vl := vl) (ph := 0) (bg := false) (ops := pend ++ []) (pr := p0) (R := (kn, ph, false, ops, pr) :: R) (o := o + 1) (k := k1) (out := out') (fun _ => hx))
  unfold g_tk
  by_cases q : g_s kd vl 41 k1 = true
  · rw [if_pos q] at e ⊢
    rw [n_pop_e, if_neg (by decide), if_pos rfl, List.append_nil, h2, h3, Nat.sub_zero, Nat.add_sub_cancel, List.append_assoc] at e
    rw [List.append_nil]
    exact n_T.st e (n_T.ok n_sP.z)
  · rw [if_neg q] at e ⊢
    exact n_T.no (n_R.st e)
theorem n_T.c3 {p0 : Int} {k1 : Nat} (hx : g_so kd vl k1 = false ∧ g_po kd vl k1 = false) (h : n_sP 3 0 [] p0 R o 5 out C k1 t) : n_T kd vl w (g_tk kd vl 44 k1) t (fun k' t => t = (0, (4, 0, false, [], p0) :: R, o, k', false, out ++ C)) := by
  obtain ⟨pend, out', h1, h2, h3, rfl⟩ := h
  have e := (n_st_t (w := w)).trans (n_go_3 (kd := kd) (vl := vl) (ph := 0) (bg := false) (ops := pend ++ []) (pr := p0) (R := R) (o := o) (k := k1) (out := out') (fun _ => hx))
  unfold g_tk
  by_cases q : g_s kd vl 44 k1 = true
  · rw [if_pos q] at e ⊢
    rw [List.append_nil, h2, h3, Nat.sub_zero] at e
    rw [List.append_nil]
    exact n_T.st e (n_T.ok rfl)
  · rw [if_neg q] at e ⊢
    exact n_T.no (n_R.st e)
theorem n_T.c6 {p0 : Int} {k1 : Nat} (h1 : g_o kd vl 22 k1 = false) (h2 : g_o kd vl 21 k1 = false) (h : n_tP kd vl 6 [] p0 R o 1 out C k1 t) : n_T kd vl w (g_tk kd vl 44 k1) t (fun k' t => t = (0, (3, 0, false, [], p0) :: R, o, k', false, out ++ C)) := by
  obtain ⟨ph, pend, out', h0, hx, hA, h3, rfl⟩ := h
  have e := (n_st_t (w := w)).trans (n_go_6 (kd := kd) (vl := vl) (ph := ph) (bg := false) (ops := pend ++ []) (pr := p0) (R := R) (o := o + n_cn pend) (k := k1) (out := out') hx (by omega) h1 h2)
  unfold g_tk
  by_cases q : g_s kd vl 44 k1 = true
  · rw [if_pos q] at e ⊢
    rw [List.append_nil, h3, Nat.add_sub_cancel] at e
    rw [List.append_nil]
    exact n_T.st e (n_T.ok rfl)
  · rw [if_neg q] at e ⊢
    exact n_T.no (n_R.st e)
theorem n_T.c5 {p0 ph0 : Int} {k1 : Nat} (h1 : g_o kd vl 22 k1 = false) (h2 : g_o kd vl 21 k1 = false) (h : n_tP kd vl 5 [] p0 ((kn, ph0, false, ops, pr) :: R) (o + 1) 1 out C k1 t) : n_T kd vl w (g_tk kd vl 93 k1) t (fun k' t => t = (0, (kn, 2, false, ops, pr) :: R, o, k', true, out ++ C)) := by
  obtain ⟨ph, pend, out', h0, hx, hA, h3, rfl⟩ := h
  have e := (n_st_t (w := w)).trans (n_go_5 (kd := kd) (vl := vl) (ph := ph) (bg := false) (ops := pend ++ []) (pr := p0) (R := (kn, ph0, false, ops, pr) :: R) (o := o + 1 + n_cn pend) (k := k1) (out := out') hx (by omega) h1 h2)
  unfold g_tk
  by_cases q : g_s kd vl 93 k1 = true
  · rw [if_pos q] at e ⊢
    rw [n_pop_e, if_pos rfl, if_neg (by decide), List.append_nil, List.append_nil, h3, Nat.add_sub_cancel, Nat.add_sub_cancel] at e
    rw [List.append_nil]
    exact n_T.st e (n_T.ok rfl)
  · rw [if_neg q] at e ⊢
    exact n_T.no (n_R.st e)
/-- operands of one kind, and signs of one rank between them -/
theorem n_loop {op : Nat → Bool} {p : Nat → Option Nat} {cp : d_C} {st : Nat → Int} (hgo : ∀ (ops : List Int) (o k : Nat) (out : List Int), op k = true → n_go kd vl kn ph false ops pr R o k out = (0, (kn, ph, false, n_sg kd vl k :: n_lo r ops, pr) :: R, o, k + 1, false, out ++ (n_hi r ops).map d_st) ∧ d_st (n_sg kd vl k) = st k ∧ dk_rk (n_sg kd vl k) = r ∧ n_sg kd vl k ≠ 43)
    (hp : ∀ (ops : List Int) (k : Nat) (out : List Int), n_HD (r + 1) ops → n_T kd vl w (p k) (0, (kn, ph, false, ops, pr) :: R, o, k, false, out) (n_sP kn ph ops pr R o (r + 1) out (cp k))) (hO : n_HD r ops) : ∀ (f k : Nat) (D : List Int) (t : n_S), n_sP kn ph ops pr R o r out D k t → n_T kd vl w (x_loop op p f k) t (n_sP kn ph ops pr R o r out (D ++ d_loop op p cp st f k))
  | 0, k, D, t, h => by
    refine n_T.ok ?_
    show n_sP kn ph ops pr R o r out (D ++ []) k t
    rw [List.append_nil]
    exact h
  | f + 1, k, D, t, h => by
    cases ho : op k with
    | false =>
      rw [x_loop_out ho]
      refine n_T.ok ?_
      show n_sP kn ph ops pr R o r out (D ++ (if op k = true then _ else [])) k t
      rw [if_neg (by rw [ho]; decide), List.append_nil]
      exact h
    | true =>
      obtain ⟨pend, out', h1, h2, h3, rfl⟩ := h
      obtain ⟨e1, e2, e3, e4⟩ := hgo (pend ++ ops) o k out' ho
      have sp := n_split h1 hO
      rw [sp.1, sp.2, h3] at e1
      have hH : n_HD (r + 1) (n_sg kd vl k :: ops) := n_HD.cons (by omega)
      have hd : d_loop op p cp st (f + 1) k = cp (k + 1) ++ st k :: d_loop op p cp st f ((p (k + 1)).getD 0) := by
        show (if op k = true then _ else _) = _
        rw [if_pos ho]
      unfold x_loop
      rw [if_pos ho, hd]
      refine n_T.st ((n_st_t (w := w)).trans e1) ((hp (n_sg kd vl k :: ops) (k + 1) (out ++ D) hH).bind fun k1 t h4 p1 => ?_)
      obtain ⟨pend2, out2, g1, g2, g3, rfl⟩ := p1
      have key := n_loop hgo hp hO f k1 (D ++ cp (k + 1) ++ [st k]) (0, (kn, ph, false, (pend2 ++ [n_sg kd vl k]) ++ ops, pr) :: R, o, k1, true, out2) ⟨pend2 ++ [n_sg kd vl k], out2, (g1.wk (by omega)).snoc (by omega), by rw [n_cn_app, g2]; show 0 + ((if n_sg kd vl k = 43 then 1 else 0) + 0) = 0; rw [if_neg e4], by rw [List.map_append, ← List.append_assoc, g3, List.map_cons, List.map_nil, e2]; simp only [List.append_assoc], rfl⟩
      rw [List.append_assoc, List.singleton_append] at key
      rw [h4, Option.getD_some]
      have e9 : D ++ (cp (k + 1) ++ st k :: d_loop op p cp st f k1) = D ++ cp (k + 1) ++ [st k] ++ d_loop op p cp st f k1 := by simp only [List.append_assoc, List.singleton_append]
      rw [e9]
      exact key
theorem n_prod {p : Nat → Option Nat} {cp : d_C} (hph : ph < 2) (hp : ∀ (bg : Bool) (ops : List Int) (k : Nat) (out : List Int), m_fst kd vl kn bg k = false → n_T kd vl w (p k) (0, (kn, ph, bg, ops, pr) :: R, o, k, false, out) (n_sP kn ph ops pr R o 7 out (cp k))) (bg : Bool) (ops : List Int) (k : Nat) (out : List Int) (hf : m_fst kd vl kn bg k = false) (hO : n_HD 6 ops) : n_T kd vl w (x_prod kd vl p k) (0, (kn, ph, bg, ops, pr) :: R, o, k, false, out) (n_sP kn ph ops pr R o 6 out (d_prod kd vl p cp k)) := by
  unfold x_prod d_prod
  refine (hp bg ops k out hf).bind fun k1 t h1 p1 => ?_
  rw [h1, Option.getD_some]
  exact n_loop (r := 6) (fun ops o k out h => ⟨n_go_po hph h, d_sg_po h⟩) (fun ops k out _ => hp false ops k out m_fst_f) hO 1600 k1 (cp k) t (p1.wk (by decide))
theorem n_sum {p : Nat → Option Nat} {cp : d_C} (hph : ph < 2) (hp : ∀ (bg : Bool) (ops : List Int) (k : Nat) (out : List Int), m_fst kd vl kn bg k = false → n_T kd vl w (p k) (0, (kn, ph, bg, ops, pr) :: R, o, k, false, out) (n_sP kn ph ops pr R o 7 out (cp k))) (bg : Bool) (ops : List Int) (k : Nat) (out : List Int) (hf : m_fst kd vl kn bg k = false) (hO : n_HD 5 ops) : n_T kd vl w (x_sum kd vl p k) (0, (kn, ph, bg, ops, pr) :: R, o, k, false, out) (n_sP kn ph ops pr R o 5 out (d_sum kd vl p cp k)) := by
  unfold x_sum d_sum
  refine (n_prod hph hp bg ops k out hf (hO.wk (by decide))).bind fun k1 t h1 p1 => ?_
  rw [h1, Option.getD_some]
  exact n_loop (r := 5) (fun ops o k out h => ⟨n_go_so hph h, d_sg_so h⟩) (fun ops k out h => n_prod hph hp false ops k out m_fst_f h) hO 1600 k1 (d_prod kd vl p cp k) t (p1.wk (by decide))
/-- FACTS, and words of one rank between them -/
theorem n_loopT {op : Nat → Bool} {p : Nat → Option Nat} {cp : d_C} {st sg : Int} (hr : 1 ≤ r) (hgo : ∀ (ph : Int) (ops : List Int) (o k : Nat) (out : List Int), op k = true → ph ≠ 0 → (ph < 2 → g_so kd vl k = false ∧ g_po kd vl k = false) → n_go kd vl kn ph false ops pr R o k out = (0, (kn, 0, true, sg :: n_lo r ops, pr) :: R, o - n_cn (n_hi r ops), k + 1, false, out ++ (n_hi r ops).map d_st)) (hs : d_st sg = st ∧ dk_rk sg = r ∧ sg ≠ 43)
    (hp : ∀ (ops : List Int) (k : Nat) (out : List Int), n_HD (r + 1) ops → n_T kd vl w (p k) (0, (kn, 0, true, ops, pr) :: R, o, k, false, out) (n_tP kd vl kn ops pr R o (r + 1) out (cp k))) (hO : n_HD r ops) : ∀ (f k : Nat) (D : List Int) (t : n_S), n_tP kd vl kn ops pr R o r out D k t → n_T kd vl w (x_loop op p f k) t (n_tP kd vl kn ops pr R o r out (D ++ d_loop op p cp (fun _ => st) f k))
  | 0, k, D, t, h => by
    refine n_T.ok ?_
    show n_tP kd vl kn ops pr R o r out (D ++ []) k t
    rw [List.append_nil]
    exact h
  | f + 1, k, D, t, h => by
    cases ho : op k with
    | false =>
      rw [x_loop_out ho]
      refine n_T.ok ?_
      show n_tP kd vl kn ops pr R o r out (D ++ (if op k = true then _ else [])) k t
      rw [if_neg (by rw [ho]; decide), List.append_nil]
      exact h
    | true =>
      obtain ⟨ph, pend, out', h0, hx, h1, h3, rfl⟩ := h
      have e1 := hgo ph (pend ++ ops) (o + n_cn pend) k out' ho (by omega) hx
      have sp := n_split h1 hO
      rw [sp.1, sp.2, h3, Nat.add_sub_cancel] at e1
      have hH : n_HD (r + 1) (sg :: ops) := n_HD.cons (by omega)
      have hd : d_loop op p cp (fun _ => st) (f + 1) k = cp (k + 1) ++ st :: d_loop op p cp (fun _ => st) f ((p (k + 1)).getD 0) := by
        show (if op k = true then _ else _) = _
        rw [if_pos ho]
      unfold x_loop
      rw [if_pos ho, hd]
      refine n_T.st ((n_st_t (w := w)).trans e1) ((hp (sg :: ops) (k + 1) (out ++ D) hH).bind fun k1 t h4 p1 => ?_)
      obtain ⟨ph2, pend2, out2, g0, gx, g1, g3, rfl⟩ := p1
      have ec : n_cn (pend2 ++ [sg]) = n_cn pend2 := by
        rw [n_cn_app]
        show n_cn pend2 + ((if sg = 43 then 1 else 0) + 0) = _
        rw [if_neg hs.2.2]
        rfl
      have key := n_loopT hr hgo hs hp hO f k1 (D ++ cp (k + 1) ++ [st]) (0, (kn, ph2, false, (pend2 ++ [sg]) ++ ops, pr) :: R, o + n_cn (pend2 ++ [sg]), k1, true, out2) ⟨ph2, pend2 ++ [sg], out2, g0, gx, (g1.wk (by omega)).snoc (by omega), by rw [List.map_append, ← List.append_assoc, g3, List.map_cons, List.map_nil, hs.1]; simp only [List.append_assoc], rfl⟩
      rw [ec, List.append_assoc pend2, List.singleton_append] at key
      rw [h4, Option.getD_some]
      have e9 : D ++ (cp (k + 1) ++ st :: d_loop op p cp (fun _ => st) f k1) = D ++ cp (k + 1) ++ [st] ++ d_loop op p cp (fun _ => st) f k1 := by simp only [List.append_assoc, List.singleton_append]
      rw [e9]
      exact key
theorem n_tP.wk {l' : Int} {k' : Nat} (h : n_tP kd vl kn ops pr R o l out C k' t) (hl : l' ≤ l) : n_tP kd vl kn ops pr R o l' out C k' t := by
  obtain ⟨ph, pend, out', h0, hx, h1, h2⟩ := h
  exact ⟨ph, pend, out', h0, hx, h1.wk hl, h2⟩
theorem n_both {f : Nat → Option Nat} {cf : d_C} (ht : m_tst kn = true) (hf : ∀ (ops : List Int) (k : Nat) (out : List Int), n_HD 4 ops → n_T kd vl w (f k) (0, (kn, 0, true, ops, pr) :: R, o, k, false, out) (n_tP kd vl kn ops pr R o 3 out (cf k))) (ops : List Int) (k : Nat) (out : List Int) (hO : n_HD 2 ops) : n_T kd vl w (x_both kd vl f k) (0, (kn, 0, true, ops, pr) :: R, o, k, false, out) (n_tP kd vl kn ops pr R o 2 out (d_both kd vl f cf k)) := by
  unfold x_both d_both
  refine (hf ops k out (hO.wk (by decide))).bind fun k1 t h1 p1 => ?_
  rw [h1, Option.getD_some]
  exact n_loopT (r := 2) (by decide) (fun ph ops o k out h h0 hx => n_go_and ht hx h0 h) ⟨by decide, by decide, by decide⟩ (fun ops k out h => hf ops k out (h.wk (by decide))) hO 1600 k1 (cf k) t (p1.wk (by decide))
theorem n_test {f : Nat → Option Nat} {cf : d_C} (ht : m_tst kn = true) (hf : ∀ (ops : List Int) (k : Nat) (out : List Int), n_HD 4 ops → n_T kd vl w (f k) (0, (kn, 0, true, ops, pr) :: R, o, k, false, out) (n_tP kd vl kn ops pr R o 3 out (cf k))) (k : Nat) (out : List Int) : n_T kd vl w (x_test kd vl f k) (0, (kn, 0, true, [], pr) :: R, o, k, false, out) (n_tP kd vl kn [] pr R o 1 out (d_test kd vl f cf k)) := by
  unfold x_test d_test
  refine (n_both ht hf [] k out n_HD.nil).bind fun k1 t h1 p1 => ?_
  rw [h1, Option.getD_some]
  exact n_loopT (r := 1) (by decide) (fun ph ops o k out h h0 hx => n_go_or ht hx h0 h) ⟨by decide, by decide, by decide⟩ (fun ops k out h => n_both ht hf ops k out h) n_HD.nil 1600 k1 (d_both kd vl f cf k) t (p1.wk (by decide))
end NT
def H_s (kd vl : Nat → Int32) (w : Int) (e : Nat) : Prop := ∀ (kn ph : Int) (bg : Bool) (ops : List Int) (pr : Int) (R : List n_F) (o k : Nat) (out : List Int), o + e = 8 → ph < 2 → m_fst kd vl kn bg k = false → n_HD 5 ops → n_T kd vl w ((x_lv kd vl w e).1 k) (0, (kn, ph, bg, ops, pr) :: R, o, k, false, out) (n_sP kn ph ops pr R o 5 out ((d_lv kd vl w e).1 k))
def H_t (kd vl : Nat → Int32) (w : Int) (e : Nat) : Prop := ∀ (kn pr : Int) (R : List n_F) (o k : Nat) (out : List Int), o + e = 8 → m_tst kn = true → n_T kd vl w ((x_lv kd vl w e).2.1 k) (0, (kn, 0, true, [], pr) :: R, o, k, false, out) (n_tP kd vl kn [] pr R o 1 out ((d_lv kd vl w e).2.1 k))
def H_f (kd vl : Nat → Int32) (w : Int) (e : Nat) : Prop := ∀ (kn : Int) (ops : List Int) (pr : Int) (R : List n_F) (o k : Nat) (out : List Int), o + e = 8 → m_tst kn = true → n_HD 4 ops → n_T kd vl w ((x_lv kd vl w e).2.2 k) (0, (kn, 0, true, ops, pr) :: R, o, k, false, out) (n_tP kd vl kn ops pr R o 3 out ((d_lv kd vl w e).2.2 k))
section NG
variable {kd vl : Nat → Int32} {w : Int} {N e : Nat}
theorem n_pairT (hN : ∀ k, N ≤ k → (kd k).toInt = 0) (hN2 : N ≤ 1600) (Hs : H_s kd vl w e) {kn ph pr p0 l : Int} {bg : Bool} {ops : List Int} {R : List n_F} {o k : Nat} {out : List Int} (ho : o + 1 + e = 8) : n_T kd vl w (x_pair kd vl (x_lv kd vl w e).1 k) (0, (3, 0, bg, [], p0) :: (kn, ph, false, ops, pr) :: R, o + 1, k, false, out) (n_sP kn ph ops pr R o l out (d_pair (x_lv kd vl w e).1 (d_lv kd vl w e).1 k ++ [d_st p0])) := by
  unfold x_pair d_pair
  refine (Hs 3 0 bg [] p0 ((kn, ph, false, ops, pr) :: R) (o + 1) k out ho (by decide) (by unfold m_fst; simp [m_tst]) n_HD.nil).bind fun k1 t h1 p1 => ?_
  refine (n_T.c3 (x_lv_so hN hN2 h1) p1).bind fun k2 t h2 p2 => ?_
  subst p2
  have e2 := (g_tk_some h2).2
  refine (Hs 4 0 false [] p0 ((kn, ph, false, ops, pr) :: R) (o + 1) k2 _ ho (by decide) m_fst_f n_HD.nil).bind fun k3 t h3 p3 => ?_
  rw [h1, Option.getD_some, ← e2]
  refine (n_T.c4 (l := l) (x_lv_so hN hN2 h3) p3).imp fun k' t _ p => ?_
  obtain ⟨pend, out', a1, a2, a3, a4⟩ := p
  exact ⟨pend, out', a1, a2, by rw [a3]; simp only [List.append_assoc], a4⟩
theorem n_partT (hN : ∀ k, N ≤ k → (kd k).toInt = 0) (hN2 : N ≤ 1600) (Hs : e ≠ 0 → H_s kd vl w e) (Ht : e ≠ 0 → H_t kd vl w e) {kn ph pr l : Int} {bg : Bool} {ops : List Int} {R : List n_F} {o k : Nat} {out : List Int} (ho : o + (e + 1) = 8) (hf : m_fst kd vl kn bg k = false) : n_T kd vl w (x_part kd vl w (x_lv kd vl w e).1 (x_lv kd vl w e).2.1 k) (0, (kn, ph, bg, ops, pr) :: R, o, k, false, out) (n_sP kn ph ops pr R o l out (d_part kd vl (x_lv kd vl w e).1 (x_lv kd vl w e).2.1 (d_lv kd vl w e).1 (d_lv kd vl w e).2.1 k)) := by
  have e1 : n_st kd vl w (0, (kn, ph, bg, ops, pr) :: R, o, k, false, out) = n_opB kd vl w kn ph ops pr R o k out := by
    rw [n_st_f]
    unfold n_opd
    rw [if_neg (by rw [hf]; decide)]
  refine n_T.st e1 ?_
  unfold x_part n_opB x_choice x_prs d_part
  by_cases q1 : g_s kd vl 40 k = true
  · rw [if_pos q1, if_pos q1, if_pos q1]
    refine n_T.psh (fun z => ?_) (fun z => ?_)
    · have z1 : e = 0 := by omega
      subst z1
      rfl
    · refine (Hs (by omega) 2 0 true [] 0 ((kn, ph, false, ops, pr) :: R) (o + 1) (k + 1) out (by omega) (by decide) (by unfold m_fst; simp [m_tst]) n_HD.nil).bind fun k1 t h1 p1 => ?_
      exact n_T.c2 (out0 := []) (C0 := []) (x_lv_so hN hN2 h1) p1
  rw [if_neg q1, if_neg q1, if_neg q1]
  by_cases q2 : g_o kd vl 20 k = true
  · rw [if_pos q2, if_pos q2, if_pos q2]
    by_cases q5 : g_s kd vl 40 (k + 1) = true
    · rw [if_pos q5, if_pos q5]
      refine n_T.psh (fun z => ?_) (fun z => ?_)
      · have z1 : e = 0 := by omega
        subst z1
        rfl
      · unfold d_choice
        refine (Ht (by omega) 6 44 ((kn, ph, false, ops, pr) :: R) (o + 1) (k + 2) out (by omega) (by decide)).bind fun k1 t h1 p1 => ?_
        have h2 := x_lv_te hN hN2 h1
        refine (n_T.c6 h2.2 h2.1 p1).bind fun k2 t h3 p3 => ?_
        subst p3
        have e2 := (g_tk_some h3).2
        rw [h1, Option.getD_some, ← e2]
        refine (n_pairT (l := l) hN hN2 (Hs (by omega)) (by omega)).imp fun k' t _ p => ?_
        obtain ⟨pend, out', a1, a2, a3, a4⟩ := p
        exact ⟨pend, out', a1, a2, by rw [a3]; simp only [List.append_assoc]; rfl, a4⟩
    · rw [if_neg q5, if_neg q5]
      exact n_T.no n_R.rf
  rw [if_neg q2, if_neg q2, if_neg q2]
  by_cases q3 : (g_o kd vl 25 k || g_o kd vl 26 k) = true
  · rw [if_pos q3, if_pos q3, if_pos q3]
    by_cases q5 : g_s kd vl 40 (k + 1) = true
    · rw [if_pos q5, if_pos q5]
      refine n_T.psh (fun z => ?_) (fun z => ?_)
      · have z1 : e = 0 := by omega
        subst z1
        rfl
      · unfold d_prs
        have hd : d_st (if g_o kd vl 25 k = true then 36 else 37) = if g_o kd vl 25 k = true then -15 else -16 := by
          by_cases z9 : g_o kd vl 25 k = true
          · rw [if_pos z9, if_pos z9]; decide
          · rw [if_neg z9, if_neg z9]; decide
        rw [← hd]
        exact n_pairT hN hN2 (Hs (by omega)) (by omega)
    · rw [if_neg q5, if_neg q5]
      exact n_T.no n_R.rf
  rw [if_neg q3, if_neg q3, if_neg q3]
  by_cases q4 : g_n kd k = true
  · rw [if_pos q4, if_pos q4, if_pos (by rw [q4]; rfl)]
    exact n_T.ok n_sP.z
  · have q4 : g_n kd k = false := by simpa using q4
    rw [q4, Bool.false_or, if_neg (show ¬ (false = true) from by decide), if_neg (show ¬ (false = true) from by decide)]
    by_cases q6 : g_fw kd vl w k = true
    · rw [if_pos q6, if_pos q6]
      exact n_T.ok n_sP.z
    · rw [if_neg q6, if_neg q6]
      exact n_T.no n_R.rf
theorem n_factT (hN : ∀ k, N ≤ k → (kd k).toInt = 0) (hN2 : N ≤ 1600) (Ht : e ≠ 0 → H_t kd vl w e) (Hf : e ≠ 0 → H_f kd vl w e) (Hs : H_s kd vl w (e + 1)) {kn pr : Int} {ops : List Int} {R : List n_F} {o k : Nat} {out : List Int} (ho : o + (e + 1) = 8) (ht : m_tst kn = true) (hO : n_HD 4 ops) : n_T kd vl w ((x_lv kd vl w (e + 1)).2.2 k) (0, (kn, 0, true, ops, pr) :: R, o, k, false, out) (n_tP kd vl kn ops pr R o 3 out ((d_lv kd vl w (e + 1)).2.2 k)) := by
  show n_T kd vl w (x_fact kd vl (x_lv kd vl w e).2.2 (x_lv kd vl w e).2.1 (x_lv kd vl w (e + 1)).1 k) _ (n_tP kd vl kn ops pr R o 3 out (d_fact kd vl (x_lv kd vl w (e + 1)).1 (d_lv kd vl w e).2.2 (d_lv kd vl w e).2.1 (d_lv kd vl w (e + 1)).1 k))
  unfold x_fact d_fact
  by_cases q1 : g_o kd vl 23 k = true
  · have e1 : n_st kd vl w (0, (kn, 0, true, ops, pr) :: R, o, k, false, out) = if o = 7 then n_bad else (0, (kn, 0, true, 43 :: ops, pr) :: R, o + 1, k + 1, false, out) := by
      rw [n_st_f]
      unfold n_opd
      rw [if_pos (by unfold m_fst; rw [ht, q1]; rfl)]
      unfold n_opA
      rw [if_pos q1]
    rw [if_pos q1, if_pos q1]
    by_cases z : o = 7
    · rw [if_pos z] at e1
      have z1 : e = 0 := by omega
      subst z1
      exact n_T.no (n_R.st e1)
    · rw [if_neg z] at e1
      refine n_T.st e1 ((Hf (by omega) kn (43 :: ops) pr R (o + 1) (k + 1) out (by omega) ht (n_HD.cons (by decide))).imp fun k' t _ p => ?_)
      obtain ⟨ph, pend, out', h0, hx, hA, h3, rfl⟩ := p
      refine ⟨ph, pend ++ [43], out', h0, hx, hA.snoc (by decide), ?_, ?_⟩
      · rw [List.map_append, ← List.append_assoc, h3, List.append_assoc]; rfl
      · rw [n_cn_app, List.append_assoc, List.singleton_append, show o + 1 + n_cn pend = o + (n_cn pend + n_cn [43]) from by show o + 1 + n_cn pend = o + (n_cn pend + 1); omega]
  rw [if_neg q1, if_neg q1]
  by_cases q2 : g_s kd vl 91 k = true
  · have e1 : n_st kd vl w (0, (kn, 0, true, ops, pr) :: R, o, k, false, out) = n_push kn 0 ops pr R o (k + 1) 5 0 out := by
      rw [n_st_f]
      unfold n_opd
      rw [if_pos (by unfold m_fst; rw [ht, q2]; simp)]
      unfold n_opA
      rw [if_neg q1, if_pos q2]
    rw [if_pos q2, if_pos q2]
    refine n_T.st e1 (n_T.psh (fun z => ?_) (fun z => ?_))
    · have z1 : e = 0 := by omega
      subst z1
      rfl
    · refine (Ht (by omega) 5 0 ((kn, 0, false, ops, pr) :: R) (o + 1) (k + 1) out (by omega) (by decide)).bind fun k1 t h1 p1 => ?_
      have h2 := x_lv_te hN hN2 h1
      refine (n_T.c5 h2.2 h2.1 p1).imp fun k' t _ p => ?_
      exact ⟨2, [], out ++ _, Or.inr rfl, fun h => absurd h (by decide), n_AL.nil, by rw [List.map_nil, List.append_nil], p⟩
  rw [if_neg q2, if_neg q2]
  by_cases q3 : g_o kd vl 24 k = true
  · have e1 : n_st kd vl w (0, (kn, 0, true, ops, pr) :: R, o, k, false, out) = (0, (kn, 2, false, ops, pr) :: R, o, k + 1, true, out ++ [-7]) := by
      rw [n_st_f]
      unfold n_opd
      rw [if_pos (by unfold m_fst; rw [ht, q3]; simp)]
      unfold n_opA
      rw [if_neg q1, if_neg q2]
    rw [if_pos q3, if_pos q3]
    exact n_T.st e1 (n_T.ok ⟨2, [], out ++ [-7], Or.inr rfl, fun h => absurd h (by decide), n_AL.nil, by rw [List.map_nil, List.append_nil], rfl⟩)
  rw [if_neg q3, if_neg q3]
  unfold x_comp d_comp
  refine (Hs kn 0 true ops pr R o k out ho (by decide) (by unfold m_fst; simp [q1, q2, q3]) (hO.wk (by decide))).bind fun k1 t h1 p1 => ?_
  obtain ⟨pend, out', a1, a2, a3, rfl⟩ := p1
  have sp := n_split (l := 5) a1 (hO.wk (by decide))
  have e2 := (n_st_t (w := w)).trans (n_go_co (kd := kd) (vl := vl) (kn := kn) (bg := false) (ops := pend ++ ops) (pr := pr) (R := R) (o := o) (k := k1) (out := out') ht (x_lv_so hN hN2 h1))
  rw [sp.1, sp.2, a3] at e2
  rw [h1, Option.getD_some]
  by_cases q5 : g_co kd vl k1 = true
  · rw [if_pos q5] at e2 ⊢
    obtain ⟨c1, c2, c3⟩ := d_cp_co q5
    refine n_T.st e2 ((Hs kn 1 false (n_cp kd vl k1 :: ops) pr R o (k1 + 1) _ ho (by decide) m_fst_f (n_HD.cons (by omega))).imp fun k' t h p => ?_)
    obtain ⟨pend2, out2, b1, b2, b3, rfl⟩ := p
    refine ⟨1, pend2 ++ [n_cp kd vl k1], out2, Or.inl rfl, fun _ => x_lv_so hN hN2 h, (b1.wk (by decide)).snoc (by omega), ?_, ?_⟩
    · rw [List.map_append, ← List.append_assoc, b3, List.map_cons, List.map_nil, c1]; simp only [List.append_assoc]
    · rw [n_cn_app, b2, List.append_assoc, List.singleton_append]
      show _ = (0, (kn, 1, false, pend2 ++ n_cp kd vl k1 :: ops, pr) :: R, o + (0 + ((if n_cp kd vl k1 = 43 then 1 else 0) + 0)), k', true, out2)
      rw [if_neg c3]
      rfl
  · rw [if_neg q5] at e2 ⊢
    exact n_T.no (n_R.st e2)
theorem H_all (hN : ∀ k, N ≤ k → (kd k).toInt = 0) (hN2 : N ≤ 1600) : ∀ e : Nat, e ≠ 0 → H_s kd vl w e ∧ H_t kd vl w e ∧ H_f kd vl w e
  | 0, h => absurd rfl h
  | e + 1, _ => by
    have IH := H_all hN hN2 e
    have Hs : H_s kd vl w (e + 1) := fun kn ph bg ops pr R o k out ho hph hf hO => n_sum hph (fun bg ops k out hf => n_partT hN hN2 (fun h => (IH h).1) (fun h => (IH h).2.1) ho hf) bg ops k out hf hO
    have Hf : H_f kd vl w (e + 1) := fun kn ops pr R o k out ho ht hO => n_factT hN hN2 (fun h => (IH h).2.1) (fun h => (IH h).2.2) Hs ho ht hO
    exact ⟨Hs, fun kn pr R o k out ho ht => n_test ht (fun ops k out hO => Hf kn ops pr R o k out ho ht hO) k out, Hf⟩
/-- a rule: what the descent takes the frames take, and what it writes they write -/
def n_s0 (w : Int) (pr : Int) (k : Nat) : n_S := (0, [(if w = 1 then 1 else 0, 0, true, [], pr)], 0, k, false, [])
theorem n_rule (hN : ∀ k, N ≤ k → (kd k).toInt = 0) (hN2 : N ≤ 1600) (pr : Int) (k : Nat) : n_T kd vl w (y_rule kd vl w k) (n_s0 w pr k) (fun k' t => ∃ L : List n_F, t = (1, L, 0, k', true, d_rule kd vl w k)) := by
  have A := H_all (kd := kd) (vl := vl) (w := w) hN hN2 8 (by decide)
  unfold y_rule n_s0 d_rule
  by_cases h : w = 1
  · rw [if_pos h, if_pos h, if_pos h]
    have H := A.2.1 1 pr [] 0 k [] (by decide) (by decide)
    refine ⟨H.1, fun k' hk => ?_⟩
    obtain ⟨t, r, ph, pend, out', h0, hx, hA, h3, rfl⟩ := H.2 k' hk
    have h2 := x_lv_te hN hN2 hk
    have e := (n_st_t (w := w)).trans (n_go_1 (kd := kd) (vl := vl) (ph := ph) (bg := false) (ops := pend ++ []) (pr := pr) (R := []) (o := 0 + n_cn pend) (k := k') (out := out') hx (by omega) h2.2 h2.1)
    rw [List.append_nil, Nat.add_sub_cancel, h3, List.nil_append] at e
    rw [List.append_nil] at r
    exact ⟨_, r.tr (n_R.st e), _, rfl⟩
  · rw [if_neg h, if_neg h, if_neg h]
    have H := A.1 0 0 true [] pr [] 0 k [] (by decide) (by decide) (by unfold m_fst; simp [m_tst]) n_HD.nil
    refine ⟨H.1, fun k' hk => ?_⟩
    obtain ⟨t, r, pend, out', h1, h2, h3, rfl⟩ := H.2 k' hk
    have e := (n_st_t (w := w)).trans (n_go_0 (kd := kd) (vl := vl) (ph := 0) (bg := false) (ops := pend ++ []) (pr := pr) (R := []) (o := 0) (k := k') (out := out') (fun _ => x_lv_so hN hN2 hk))
    rw [List.append_nil, h2, h3, List.nil_append] at e
    rw [List.append_nil] at r
    exact ⟨_, r.tr (n_R.st e), _, rfl⟩
end NG
