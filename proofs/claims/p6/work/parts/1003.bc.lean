/-! a mine by numbers: rows of ints. A ground G: row 0: columns, rows, the shaft's cell, reach, quake, miners, rows of the plan, orders; row 1: grades;
    2, 3, 4: the orders' grades, tubs, pays; 5, 6: the plan's miners, cells. A pit A: row 0: shift, purse; row 1: cells (-1 open, -2 open with a curtain);
    2: hurt; 3, 4: the plan's miners, cells; 5: sold; 6: tubs -/
abbrev aR : Type := Nat → Nat → Int
def s_up (A : aR) (r i : Nat) (v : Int) : aR := fun a b => if a = r ∧ b = i then v else A a b
theorem s_up_at {A : aR} {r i : Nat} {v : Int} : s_up A r i v r i = v := by
  unfold s_up
  rw [if_pos ⟨rfl, rfl⟩]
theorem s_up_ne {A : aR} {r i a b : Nat} {v : Int} (h : ¬ (a = r ∧ b = i)) : s_up A r i v a b = A a b := by
  unfold s_up
  rw [if_neg h]
def s_in (G : aR) (c : Int) : Prop := (0 ≤ c ∧ c < 64) ∧ c % 8 < G 0 0 ∧ c / 8 < G 0 1
def s_c (A : aR) (c : Int) : Int := A 1 c.toNat
def s_op (G A : aR) (c : Int) : Prop := s_in G c ∧ s_c A c < 0
def s_ps (G A : aR) (c : Int) : Prop := s_in G c ∧ s_c A c = -1
def s_so (G A : aR) (c : Int) : Prop := s_in G c ∧ 0 ≤ s_c A c
noncomputable def s_b (p : Prop) : Int := @ite Int p (Classical.propDecidable p) 1 0
theorem s_b1 {p : Prop} (h : p) : s_b p = 1 := by
  unfold s_b
  exact if_pos h
theorem s_b0 {p : Prop} (h : ¬ p) : s_b p = 0 := by
  unfold s_b
  exact if_neg h
theorem s_b01 (p : Prop) : s_b p = 0 ∨ s_b p = 1 := by
  by_cases h : p
  · exact Or.inr (s_b1 h)
  · exact Or.inl (s_b0 h)
noncomputable def s_ob (G A : aR) (c : Int) : Int := s_b (s_op G A (c - 8)) + s_b (s_op G A (c - 1)) + s_b (s_op G A (c + 1)) + s_b (s_op G A (c + 8))
noncomputable def s_fd (G A : aR) : Int → Int := Classical.epsilon (b_far (G 0 2) (s_op G A) (s_ps G A))
theorem s_fd_eq {G A : aR} {f : Int → Int} (h : b_far (G 0 2) (s_op G A) (s_ps G A) f) (c : Int) : f c = s_fd G A c := h.uniq (Classical.epsilon_spec (p := b_far (G 0 2) (s_op G A) (s_ps G A)) ⟨f, h⟩) c
def s_lit (G A : aR) (r c : Int) : Prop := s_ps G A c ∧ s_fd G A c ≠ -1 ∧ s_fd G A c ≤ r
noncomputable def s_l1 (G A : aR) (r d : Int) : Int := @ite Int (s_lit G A r d) (Classical.propDecidable _) (s_fd G A d) (-1)
theorem s_l1_y {G A : aR} {r d : Int} (h : s_lit G A r d) : s_l1 G A r d = s_fd G A d := by
  unfold s_l1
  exact if_pos h
theorem s_l1_n {G A : aR} {r d : Int} (h : ¬ s_lit G A r d) : s_l1 G A r d = -1 := by
  unfold s_l1
  exact if_neg h
def s_mn (a b : Int) : Int := if a = -1 then b else if b = -1 then a else if a ≤ b then a else b
/-- how far the nearest lit cell next to one is; -1: there is none -/
noncomputable def s_nl (G A : aR) (r c : Int) : Int := s_mn (s_mn (s_l1 G A r (c - 8)) (s_l1 G A r (c - 1))) (s_mn (s_l1 G A r (c + 1)) (s_l1 G A r (c + 8)))
/-! what a rule's steps tell: a row of values, how many -/
abbrev e_S : Type := (Nat → Int) × Nat
def e_cl (v : Int) : Int := if 1000000 < v then 1000000 else if v < -1000000 then -1000000 else v
def e_and (a b : Int) : Int := (Int32.ofInt a &&& Int32.ofInt b).toInt
def e_or (a b : Int) : Int := (Int32.ofInt a ||| Int32.ofInt b).toInt
/-- the greatest whole number not above, and what is left -/
def e_fd (a b : Int) : Int := if (a < 0 ↔ ¬ b < 0) ∧ a.tdiv b * b ≠ a then a.tdiv b - 1 else a.tdiv b
def e_fm (a b : Int) : Int := a - b * e_fd a b
def e_op (s a b : Int) : Int :=
  if s = -10 then e_cl (a + b) else if s = -11 then e_cl (a - b) else if s = -12 then e_cl (a * b)
  else if s = -13 then (if b = 0 then 0 else e_cl (e_fd a b)) else if s = -14 then (if b = 0 then 0 else e_fm a b)
  else if s = -15 then (if a < b then a else b) else if s = -16 then (if b < a then a else b)
  else if s = -17 then (if a < b then 1 else 0) else if s = -18 then (if b < a then 1 else 0) else if s = -19 then (if a = b then 1 else 0)
  else if s = -20 then e_and a b else e_or a b
def e_w (f : Nat → Int) (i : Nat) (v : Int) : Nat → Int := fun j => if j = i then v else f j
def e_st (env : Int → Int) (s : Int) (q : e_S) : e_S :=
  if 0 ≤ s then (e_w q.1 q.2 s, q.2 + 1)
  else if -7 ≤ s then (e_w q.1 q.2 (env s), q.2 + 1)
  else if s = -8 then (e_w q.1 (q.2 - 1) (1 - q.1 (q.2 - 1)), q.2)
  else if s = -9 then (e_w q.1 (q.2 - 3) (if q.1 (q.2 - 3) = 1 then q.1 (q.2 - 2) else q.1 (q.2 - 1)), q.2 - 2)
  else (e_w q.1 (q.2 - 2) (e_op s (q.1 (q.2 - 2)) (q.1 (q.2 - 1))), q.2 - 1)
def e_run (env : Int → Int) : List Int → e_S → e_S
  | [], q => q
  | s :: r, q => e_run env r (e_st env s q)
def s_ev (env : Int → Int) (C : List Int) : Int := (e_run env C (fun _ => 0, 0)).1 0
/-- what waits: true a TEST, false a SUM; the last one first -/
def e_t1 (s : Int) (t : List Bool) : Option (List Bool) :=
  if 0 ≤ s then (if s ≤ 9999 ∧ t.length < 60 then some (false :: t) else none)
  else if -6 ≤ s then (if t.length < 60 then some (false :: t) else none)
  else if s = -7 then (if t.length < 60 then some (true :: t) else none)
  else if s = -8 then (match t with | true :: r => some (true :: r) | _ => none)
  else if s = -9 then (match t with | false :: false :: true :: r => some (false :: r) | _ => none)
  else if -16 ≤ s then (match t with | false :: false :: r => some (false :: r) | _ => none)
  else if -19 ≤ s then (match t with | false :: false :: r => some (true :: r) | _ => none)
  else if -21 ≤ s then (match t with | true :: true :: r => some (true :: r) | _ => none)
  else none
def e_ty : List Int → List Bool → Option (List Bool)
  | [], t => some t
  | s :: r, t => (e_t1 s t).bind (e_ty r)
theorem e_ty_app : ∀ (a b : List Int) (t : List Bool), e_ty (a ++ b) t = (e_ty a t).bind (e_ty b)
  | [], b, t => rfl
  | s :: a, b, t => by
    show (e_t1 s t).bind (e_ty (a ++ b)) = ((e_t1 s t).bind (e_ty a)).bind (e_ty b)
    cases e_t1 s t with
    | none => rfl
    | some t' => exact e_ty_app a b t'
theorem e_run_app {env : Int → Int} : ∀ (a b : List Int) (q : e_S), e_run env (a ++ b) q = e_run env b (e_run env a q)
  | [], b, q => rfl
  | s :: a, b, q => e_run_app a b (e_st env s q)
/-- values by sort -/
def e_v1 (b : Bool) (v : Int) : Prop := if b = true then (v = 0 ∨ v = 1) else (-1000000 ≤ v ∧ v ≤ 1000000)
def e_vt (f : Nat → Int) : List Bool → Prop
  | [] => True
  | b :: r => e_v1 b (f r.length) ∧ e_vt f r
theorem e_vt.congr {f g : Nat → Int} : ∀ {t : List Bool}, e_vt f t → (∀ i, i < t.length → g i = f i) → e_vt g t
  | [], _, _ => trivial
  | b :: r, h, e => ⟨by rw [e r.length (by simp)]; exact h.1, e_vt.congr h.2 (fun i hi => e i (by simp; omega))⟩
theorem e_v1.sum {v : Int} (h : e_v1 false v) : -1000000 ≤ v ∧ v ≤ 1000000 := h
theorem e_v1.tst {v : Int} (h : e_v1 true v) : v = 0 ∨ v = 1 := h
theorem e_v1.any {b : Bool} {v : Int} (h : e_v1 b v) : -1000000 ≤ v ∧ v ≤ 1000000 := by
  cases b with
  | true =>
    have := h.tst
    omega
  | false => exact h
theorem e_cl_b (v : Int) : -1000000 ≤ e_cl v ∧ e_cl v ≤ 1000000 := by
  unfold e_cl
  split
  · omega
  · split <;> omega
theorem e_w_at {f : Nat → Int} {i : Nat} {v : Int} : e_w f i v i = v := by
  unfold e_w
  rw [if_pos rfl]
theorem e_w_ne {f : Nat → Int} {i j : Nat} {v : Int} (h : j ≠ i) : e_w f i v j = f j := by
  unfold e_w
  rw [if_neg h]
theorem e_bit (a b : Int) (ha : a = 0 ∨ a = 1) (hb : b = 0 ∨ b = 1) : (e_and a b = 0 ∨ e_and a b = 1) ∧ (e_or a b = 0 ∨ e_or a b = 1) := by
  rcases ha with rfl | rfl <;> rcases hb with rfl | rfl <;> (unfold e_and e_or; decide +kernel)
theorem e_tm (a b : Int) (h0 : b ≠ 0) : b * a.tdiv b + a.tmod b = a ∧ (0 ≤ a → 0 ≤ a.tmod b) ∧ (a < 0 → a.tmod b ≤ 0) ∧ (0 < b → -b < a.tmod b ∧ a.tmod b < b) ∧ (b < 0 → b < a.tmod b ∧ a.tmod b < -b) := by
  refine ⟨Int.mul_tdiv_add_tmod a b, fun h => Int.tmod_nonneg b h, fun h => ?_, fun h => ⟨Int.lt_tmod_of_pos a h, Int.tmod_lt_of_pos a h⟩, fun h => ?_⟩
  · have h1 := Int.tmod_nonneg (a := -a) b (by omega)
    rw [Int.neg_tmod] at h1
    omega
  · have h1 := Int.lt_tmod_of_pos a (show 0 < -b by omega)
    have h2 := Int.tmod_lt_of_pos a (show 0 < -b by omega)
    rw [Int.tmod_neg] at h1 h2
    omega
theorem e_fm_b {a b : Int} (hb : -1000000 ≤ b ∧ b ≤ 1000000) (h0 : b ≠ 0) : -1000000 ≤ e_fm a b ∧ e_fm a b ≤ 1000000 := by
  obtain ⟨h1, h2, h3, h4, h5⟩ := e_tm a b h0
  unfold e_fm e_fd
  generalize a.tmod b = m at h1 h2 h3 h4 h5
  generalize a.tdiv b = t at h1 ⊢
  rw [Int.mul_comm t b]
  split
  · rename_i q
    rw [Int.mul_sub, Int.mul_one]
    generalize b * t = u at h1 q ⊢
    omega
  · generalize b * t = u at h1 ⊢
    omega
theorem e_m1 {t t' : List Bool} (h : (match t with | true :: r => some (true :: r) | _ => none) = some t') : ∃ r, t = true :: r ∧ t' = true :: r := by
  cases t with
  | nil => cases h
  | cons b r =>
    cases b with
    | false => cases h
    | true => cases h; exact ⟨r, rfl, rfl⟩
theorem e_m3 {t t' : List Bool} (h : (match t with | false :: false :: true :: r => some (false :: r) | _ => none) = some t') : ∃ r, t = false :: false :: true :: r ∧ t' = false :: r := by
  cases t with
  | nil => cases h
  | cons b r =>
    cases b with
    | true => cases h
    | false =>
      cases r with
      | nil => cases h
      | cons b r =>
        cases b with
        | true => cases h
        | false =>
          cases r with
          | nil => cases h
          | cons b r =>
            cases b with
            | false => cases h
            | true => cases h; exact ⟨r, rfl, rfl⟩
theorem e_m2 {t t' : List Bool} {x : Bool} (h : (match t with | false :: false :: r => some (x :: r) | _ => none) = some t') : ∃ r, t = false :: false :: r ∧ t' = x :: r := by
  cases t with
  | nil => cases h
  | cons b r =>
    cases b with
    | true => cases h
    | false =>
      cases r with
      | nil => cases h
      | cons b r =>
        cases b with
        | true => cases h
        | false => cases h; exact ⟨r, rfl, rfl⟩
theorem e_m4 {t t' : List Bool} (h : (match t with | true :: true :: r => some (true :: r) | _ => none) = some t') : ∃ r, t = true :: true :: r ∧ t' = true :: r := by
  cases t with
  | nil => cases h
  | cons b r =>
    cases b with
    | false => cases h
    | true =>
      cases r with
      | nil => cases h
      | cons b r =>
        cases b with
        | false => cases h
        | true => cases h; exact ⟨r, rfl, rfl⟩
def e_R (v : Int) : Prop := -1000000 ≤ v ∧ v ≤ 1000000
theorem e_Ri {P : Prop} [Decidable P] {a b : Int} (h1 : P → e_R a) (h2 : ¬ P → e_R b) : e_R (if P then a else b) := by
  by_cases h : P
  · rw [if_pos h]
    exact h1 h
  · rw [if_neg h]
    exact h2 h
/-- a step keeps sorts -/
theorem e_step {env : Int → Int} {s : Int} (he : -6 ≤ s → s < 0 → -1000000 ≤ env s ∧ env s ≤ 1000000) (h7 : env (-7) = 1) {t t' : List Bool} {q : e_S} (ht : e_t1 s t = some t') (hv : e_vt q.1 t) (hn : q.2 = t.length) : e_vt (e_st env s q).1 t' ∧ (e_st env s q).2 = t'.length ∧ t'.length ≤ 60 ∨ 60 < t.length := by
  obtain ⟨f, n⟩ := q
  have hn : n = t.length := hn
  have hv : e_vt f t := hv
  subst hn
  unfold e_t1 at ht
  unfold e_st
  by_cases c0 : 0 ≤ s
  · rw [if_pos c0] at ht ⊢
    split at ht
    · rename_i c
      cases ht
      refine Or.inl ⟨⟨?_, ?_⟩, rfl, by simp; omega⟩
      · show e_v1 false (e_w f t.length s t.length)
        rw [e_w_at]
        show -1000000 ≤ s ∧ s ≤ 1000000
        omega
      · exact hv.congr (fun i hi => e_w_ne (by omega))
    · cases ht
  rw [if_neg c0] at ht ⊢
  by_cases c1 : -7 ≤ s
  · rw [if_pos c1]
    by_cases c2 : -6 ≤ s
    · rw [if_pos c2] at ht
      split at ht
      · cases ht
        refine Or.inl ⟨⟨?_, ?_⟩, rfl, by simp; omega⟩
        · show e_v1 false (e_w f t.length (env s) t.length)
          rw [e_w_at]
          exact he c2 (by omega)
        · exact hv.congr (fun i hi => e_w_ne (by omega))
      · cases ht
    · have e7 : s = -7 := by omega
      subst e7
      rw [if_neg c2, if_pos rfl] at ht
      split at ht
      · cases ht
        refine Or.inl ⟨⟨?_, ?_⟩, rfl, by simp; omega⟩
        · show e_v1 true (e_w f t.length (env (-7)) t.length)
          rw [e_w_at, h7]
          exact Or.inr rfl
        · exact hv.congr (fun i hi => e_w_ne (by omega))
      · cases ht
  rw [if_neg c1]
  rw [if_neg (by omega), if_neg (by omega)] at ht
  by_cases c8 : s = -8
  · rw [if_pos c8] at ht ⊢
    · obtain ⟨r, et, et'⟩ := e_m1 ht
      subst et
      subst et'
      by_cases hl : 60 < (true :: r).length
      · exact Or.inr hl
      refine Or.inl ⟨⟨?_, ?_⟩, rfl, by omega⟩
      · show e_v1 true (e_w f (r.length + 1 - 1) (1 - f (r.length + 1 - 1)) r.length)
        rw [show r.length + 1 - 1 = r.length by omega, e_w_at]
        have := (show e_v1 true (f r.length) from hv.1).tst
        show 1 - f r.length = 0 ∨ 1 - f r.length = 1
        omega
      · exact hv.2.congr (fun i hi => e_w_ne (by simp; omega))
  rw [if_neg c8] at ht ⊢
  by_cases c9 : s = -9
  · rw [if_pos c9] at ht ⊢
    · obtain ⟨r, et, et'⟩ := e_m3 ht
      subst et
      subst et'
      by_cases hl : 60 < (false :: false :: true :: r).length
      · exact Or.inr hl
      simp only [List.length_cons] at hl
      refine Or.inl ⟨⟨?_, ?_⟩, by simp, by simp; omega⟩
      · show e_v1 false (e_w f (r.length + 1 + 1 + 1 - 3) _ r.length)
        rw [show r.length + 1 + 1 + 1 - 3 = r.length by omega, e_w_at]
        have a1 := (show e_v1 false (f (r.length + 1 + 1)) from hv.1).sum
        have a2 := (show e_v1 false (f (r.length + 1)) from hv.2.1).sum
        show -1000000 ≤ (if f (r.length + 1 + 1 + 1 - 3) = 1 then f (r.length + 1 + 1 + 1 - 2) else f (r.length + 1 + 1 + 1 - 1)) ∧ (if f (r.length + 1 + 1 + 1 - 3) = 1 then f (r.length + 1 + 1 + 1 - 2) else f (r.length + 1 + 1 + 1 - 1)) ≤ 1000000
        rw [show r.length + 1 + 1 + 1 - 2 = r.length + 1 by omega, show r.length + 1 + 1 + 1 - 1 = r.length + 1 + 1 by omega]
        split <;> omega
      · exact hv.2.2.2.congr (fun i hi => e_w_ne (by simp; omega))
  rw [if_neg c9] at ht ⊢
  have two : ∀ (b1 b2 b3 : Bool) (r : List Bool), t = b1 :: b2 :: r → t' = b3 :: r → (e_v1 b1 (f (r.length + 1)) → e_v1 b2 (f r.length) → e_v1 b3 (e_op s (f r.length) (f (r.length + 1)))) → e_vt (e_w f (t.length - 2) (e_op s (f (t.length - 2)) (f (t.length - 1)))) t' ∧ t.length - 1 = t'.length ∧ t'.length ≤ 60 ∨ 60 < t.length := by
    intro b1 b2 b3 r e1 e2 h
    subst e1
    subst e2
    by_cases hl : 60 < (b1 :: b2 :: r).length
    · exact Or.inr hl
    simp only [List.length_cons] at hl
    refine Or.inl ⟨⟨?_, ?_⟩, by simp, by simp; omega⟩
    · show e_v1 b3 (e_w f (r.length + 1 + 1 - 2) (e_op s (f (r.length + 1 + 1 - 2)) (f (r.length + 1 + 1 - 1))) r.length)
      rw [show r.length + 1 + 1 - 2 = r.length by omega, show r.length + 1 + 1 - 1 = r.length + 1 by omega, e_w_at]
      exact h hv.1 hv.2.1
    · exact hv.2.2.congr (fun i hi => e_w_ne (by simp; omega))
  by_cases c16 : -16 ≤ s
  · rw [if_pos c16] at ht
    · obtain ⟨r, et, et'⟩ := e_m2 ht
      refine two false false false r et et' (fun hb ha => ?_)
      have a1 := ha.sum
      have a2 := hb.sum
      show e_R (e_op s _ _)
      unfold e_op
      exact e_Ri (fun _ => e_cl_b _) fun _ => e_Ri (fun _ => e_cl_b _) fun _ => e_Ri (fun _ => e_cl_b _) fun _ => e_Ri (fun _ => e_Ri (fun _ => by unfold e_R; omega) fun _ => e_cl_b _) fun _ => e_Ri (fun _ => e_Ri (fun _ => by unfold e_R; omega) fun q => e_fm_b a2 q) fun _ => e_Ri (fun _ => e_Ri (fun _ => a1) fun _ => a2) fun _ => e_Ri (fun _ => e_Ri (fun _ => a1) fun _ => a2) fun _ => absurd c16 (by omega)
  rw [if_neg c16] at ht
  by_cases c19 : -19 ≤ s
  · rw [if_pos c19] at ht
    · obtain ⟨r, et, et'⟩ := e_m2 ht
      refine two false false true r et et' (fun hb ha => ?_)
      show e_op s _ _ = 0 ∨ e_op s _ _ = 1
      unfold e_op
      rw [if_neg (by omega), if_neg (by omega), if_neg (by omega), if_neg (by omega), if_neg (by omega), if_neg (by omega), if_neg (by omega)]
      split
      · split
        · exact Or.inr rfl
        · exact Or.inl rfl
      split
      · split
        · exact Or.inr rfl
        · exact Or.inl rfl
      split
      · split
        · exact Or.inr rfl
        · exact Or.inl rfl
      · exfalso
        omega
  rw [if_neg c19] at ht
  by_cases c21 : -21 ≤ s
  · rw [if_pos c21] at ht
    · obtain ⟨r, et, et'⟩ := e_m4 ht
      refine two true true true r et et' (fun hb ha => ?_)
      have h1 := e_bit _ _ ha.tst hb.tst
      show e_op s _ _ = 0 ∨ e_op s _ _ = 1
      unfold e_op
      rw [if_neg (by omega), if_neg (by omega), if_neg (by omega), if_neg (by omega), if_neg (by omega), if_neg (by omega), if_neg (by omega), if_neg (by omega), if_neg (by omega), if_neg (by omega)]
      split
      · exact h1.1
      · exact h1.2
  · rw [if_neg c21] at ht
    cases ht
