section
/-! reading and writing a state -/
theorem w_lt {x y : Int32} : x < y ↔ x.toInt < y.toInt := Int32.lt_iff_toInt_lt
theorem w_le {x y : Int32} : x ≤ y ↔ x.toInt ≤ y.toInt := Int32.le_iff_toInt_le
theorem w_eq {x y : Int32} : x = y ↔ x.toInt = y.toInt := Int32.toInt_inj.symm
theorem w_cl (x : Int32) : x.toNatClampNeg = x.toInt.toNat := rfl
section WS
variable {S : dg_S} {i k a b o d : Nat} {v : Value} {x : Int32} {r : Nat → Int32} {l : Nat → Int64}
theorem w_F : (dg_uF S i k v).1 a b = if a = i ∧ b = k then v else S.1 a b := rfl
theorem w_Ff : (dg_uF S i k v).2.1 a = S.2.1 a := rfl
theorem w_Fl : (dg_uF S i k v).2.2 a = S.2.2 a := rfl
theorem w_fF : (dg_uf S i r).1 a b = S.1 a b := rfl
theorem w_f : (dg_uf S i r).2.1 a = if a = i then r else S.2.1 a := rfl
theorem w_fl : (dg_uf S i r).2.2 a = S.2.2 a := rfl
theorem w_lF : (dg_ul S i l).1 a b = S.1 a b := rfl
theorem w_lf : (dg_ul S i l).2.1 a = S.2.1 a := rfl
theorem w_l : (dg_ul S i l).2.2 a = if a = i then l else S.2.2 a := rfl
theorem w_I : zI (dg_uF S i k (.int x)) a b = if a = i ∧ b = k then x else zI S a b := by
  unfold zI
  rw [w_F]
  split <;> rfl
theorem w_I0 (h : ¬ (a = i ∧ b = k)) : zI (dg_uF S i k v) a b = zI S a b := by
  unfold zI
  rw [w_F, if_neg h]
theorem w_If : zI (dg_uf S i r) a b = zI S a b := rfl
theorem w_Il : zI (dg_ul S i l) a b = zI S a b := rfl
theorem w_R : zR o (dg_uF S i k (.ref (o + d))) a b = if a = i ∧ b = k then d else zR o S a b := by
  unfold zR
  rw [w_F]
  by_cases h : a = i ∧ b = k
  · rw [if_pos h, if_pos h]
    exact Nat.add_sub_cancel_left o d
  · rw [if_neg h, if_neg h]
theorem w_R0 (h : ¬ (a = i ∧ b = k)) : zR o (dg_uF S i k v) a b = zR o S a b := by
  unfold zR
  rw [w_F, if_neg h]
theorem w_Rf : zR o (dg_uf S i r) a b = zR o S a b := rfl
theorem w_Rl : zR o (dg_ul S i l) a b = zR o S a b := rfl
end WS
theorem w_u {f : Nat → Int32} {k j : Nat} {x : Int32} : upd f k x j = if j = k then x else f j := rfl
theorem w_uL {f : Nat → Int64} {k j : Nat} {x : Int64} : vp_updL f k x j = if j = k then x else f j := rfl
/-! what a method leaves as it was: all but some fields (by cell and number) and some rows -/
def kp (LF : Nat → Nat → Prop) (LA : Nat → Prop) (S S' : dg_S) : Prop := (∀ a b, ¬ LF a b → S'.1 a b = S.1 a b) ∧ ∀ a, ¬ LA a → S'.2.1 a = S.2.1 a ∧ S'.2.2 a = S.2.2 a
section KP
variable {LF LF' : Nat → Nat → Prop} {LA LA' : Nat → Prop} {S S1 S2 : dg_S} {i k a b o : Nat} {v : Value} {r : Nat → Int32} {l : Nat → Int64}
theorem kp.rf : kp LF LA S S := ⟨fun _ _ _ => rfl, fun _ _ => ⟨rfl, rfl⟩⟩
theorem kp.tr (h : kp LF LA S S1) (h2 : kp LF LA S1 S2) : kp LF LA S S2 := ⟨fun a b n => (h2.1 a b n).trans (h.1 a b n), fun a n => ⟨((h2.2 a n).1).trans (h.2 a n).1, ((h2.2 a n).2).trans (h.2 a n).2⟩⟩
theorem kp.w (h : kp LF LA S S1) (hF : ∀ a b, LF a b → LF' a b) (hA : ∀ a, LA a → LA' a) : kp LF' LA' S S1 := ⟨fun a b n => h.1 a b (fun z => n (hF a b z)), fun a n => h.2 a (fun z => n (hA a z))⟩
theorem kp.uF (h : kp LF LA S S1) (hm : LF i k) : kp LF LA S (dg_uF S1 i k v) := by
  refine ⟨fun a b n => ?_, fun a n => h.2 a n⟩
  rw [w_F, if_neg (fun z => n (by rw [z.1, z.2]; exact hm))]
  exact h.1 a b n
theorem kp.uf (h : kp LF LA S S1) (hm : LA i) : kp LF LA S (dg_uf S1 i r) := by
  refine ⟨fun a b n => h.1 a b n, fun a n => ⟨?_, (h.2 a n).2⟩⟩
  rw [w_f, if_neg (fun z => n (by rw [z]; exact hm))]
  exact (h.2 a n).1
theorem kp.ul (h : kp LF LA S S1) (hm : LA i) : kp LF LA S (dg_ul S1 i l) := by
  refine ⟨fun a b n => h.1 a b n, fun a n => ⟨(h.2 a n).1, ?_⟩⟩
  rw [w_l, if_neg (fun z => n (by rw [z]; exact hm))]
  exact (h.2 a n).2
theorem kp.I (h : kp LF LA S S1) (n : ¬ LF a b) : zI S1 a b = zI S a b := by
  unfold zI
  rw [h.1 a b n]
theorem kp.R (h : kp LF LA S S1) (n : ¬ LF a b) : zR o S1 a b = zR o S a b := by
  unfold zR
  rw [h.1 a b n]
theorem kp.L (h : kp LF LA S S1) (n : ¬ LF a b) : zL S1 a b = zL S a b := by
  unfold zL
  rw [h.1 a b n]
end KP
/-- a loop keeps what each turn keeps -/
theorem lp_kp {σ ρ : Type} {f : σ → σ ⊕ ρ} {z : ρ} {p : σ → dg_S} {q : ρ → dg_S} {LF : Nat → Nat → Prop} {LA : Nat → Prop} {S : dg_S} (hz : kp LF LA S (q z)) (hl : ∀ s s', f s = .inl s' → kp LF LA (p s) (p s')) (hr : ∀ s r, f s = .inr r → kp LF LA (p s) (q r)) : ∀ (n : Nat) (s : σ), kp LF LA S (p s) → kp LF LA S (q (lp f z n s))
  | 0, s, h => by rw [lp_z]; exact hz
  | n + 1, s, h => by
    rw [lp_s]
    cases e : f s with
    | inl s' => exact lp_kp hz hl hr n s' (h.tr (hl s s' e))
    | inr r => exact h.tr (hr s r e)
end
section
/-! the class's pits by numbers -/
theorem lp_sl {σ ρ : Type} {f : σ → σ ⊕ ρ} {z : ρ} {n : Nat} {s s' : σ} (e : f s = .inl s') : lp f z (n + 1) s = lp f z n s' := by
  rw [lp_s, e]
theorem lp_sr {σ ρ : Type} {f : σ → σ ⊕ ρ} {z : ρ} {n : Nat} {s : σ} {r : ρ} (e : f s = .inr r) : lp f z (n + 1) s = r := by
  rw [lp_s, e]
/-- what stands at a place -/
def cx_at (S : dg_S) (p : Nat) (x : Int) : Int := (S.2.1 (p + 1) x.toNat).toInt
def cx_en (v : Int) : Int := if v = -1 then 255 else if v = -2 then 254 else v
/-- the cells of a pit are those of A -/
def cx_ce (G A : aR) (S : dg_S) (p : Nat) : Prop := ∀ x : Int, 0 ≤ x → x < 72 → (s_in G (x - 8) → cx_at S p x = cx_en (s_c A (x - 8)) ∧ -2 ≤ s_c A (x - 8) ∧ s_c A (x - 8) ≤ 9) ∧ (¬ s_in G (x - 8) → cx_at S p x = 100)
section XP
variable {G A : aR} {S S1 : dg_S} {p o : Nat} {a r : Int32} {x : Int}
theorem cx_ce.op (h : cx_ce G A S p) (h0 : 0 ≤ x) (h1 : x < 72) : 254 ≤ cx_at S p x ↔ s_op G A (x - 8) := by
  obtain ⟨h2, h3⟩ := h x h0 h1
  by_cases q : s_in G (x - 8)
  · obtain ⟨e, l, u⟩ := h2 q
    rw [e]
    unfold cx_en s_op
    constructor
    · intro z
      refine ⟨q, ?_⟩
      split at z
      · omega
      · split at z <;> omega
    · intro z
      have := z.2
      split
      · omega
      · split <;> omega
  · rw [h3 q]
    exact ⟨fun z => by omega, fun z => absurd z.1 q⟩
theorem cx_ce.so (h : cx_ce G A S p) (h0 : 0 ≤ x) (h1 : x < 72) : cx_at S p x ≤ 9 ↔ s_so G A (x - 8) := by
  obtain ⟨h2, h3⟩ := h x h0 h1
  by_cases q : s_in G (x - 8)
  · obtain ⟨e, l, u⟩ := h2 q
    rw [e]
    unfold cx_en s_so
    constructor
    · intro z
      refine ⟨q, ?_⟩
      split at z
      · omega
      · split at z <;> omega
    · intro z
      have := z.2
      split
      · omega
      · split <;> omega
  · rw [h3 q]
    exact ⟨fun z => by omega, fun z => absurd z.1 q⟩
theorem cx_ce.ps (h : cx_ce G A S p) (h0 : 0 ≤ x) (h1 : x < 72) : cx_at S p x = 255 ↔ s_ps G A (x - 8) := by
  obtain ⟨h2, h3⟩ := h x h0 h1
  by_cases q : s_in G (x - 8)
  · obtain ⟨e, l, u⟩ := h2 q
    rw [e]
    unfold cx_en s_ps
    constructor
    · intro z
      refine ⟨q, ?_⟩
      split at z
      · omega
      · split at z <;> omega
    · intro z
      have := z.2
      split
      · omega
      · omega
  · rw [h3 q]
    exact ⟨fun z => by omega, fun z => absurd z.1 q⟩
theorem cx_ce.val (h : cx_ce G A S p) (h0 : 0 ≤ x) (h1 : x < 72) (q : s_so G A (x - 8)) : cx_at S p x = s_c A (x - 8) := by
  obtain ⟨e, l, u⟩ := (h x h0 h1).1 q.1
  rw [e]
  have := q.2
  unfold cx_en
  rw [if_neg (by omega), if_neg (by omega)]
theorem cx_isOpen (h : cx_ce G A S p) (h0 : 0 ≤ a.toInt) (h1 : a.toInt < 72) : (F_p_isOpen o S p a).toInt = s_b (s_op G A (a.toInt - 8)) := by
  have e := h.op h0 h1
  by_cases q : S.2.1 (p + 1) a.toNatClampNeg < (254 : Int32)
  · have q1 := dk_ltc (k := 254) (by decide +kernel) q
    rw [F_p_isOpen_p0 rfl q, s_b0 (fun z => by have := e.mpr z; unfold cx_at at this; rw [← dk_clN] at this; omega)]
    decide +kernel
  · have q1 := dk_nltc (k := 254) (by decide +kernel) q
    rw [F_p_isOpen_p1 rfl q, s_b1 (e.mp (by unfold cx_at; rw [← dk_clN]; omega))]
    decide +kernel
theorem cx_isSolid (h : cx_ce G A S p) (h0 : 0 ≤ a.toInt) (h1 : a.toInt < 72) : (F_p_isSolid o S p a).toInt = s_b (s_so G A (a.toInt - 8)) := by
  have e := h.so h0 h1
  by_cases q : (9 : Int32) < S.2.1 (p + 1) a.toNatClampNeg
  · have q1 := dk_gtc (k := 9) (by decide +kernel) q
    rw [F_p_isSolid_p0 rfl q, s_b0 (fun z => by have := e.mpr z; unfold cx_at at this; rw [← dk_clN] at this; omega)]
    decide +kernel
  · have q1 := dk_ngtc (k := 9) (by decide +kernel) q
    rw [F_p_isSolid_p1 rfl q, s_b1 (e.mp (by unfold cx_at; rw [← dk_clN]; omega))]
    decide +kernel
theorem cx_isSolid0 (h : cx_ce G A S p) (h0 : 0 ≤ a.toInt) (h1 : a.toInt < 72) : (F_p_isSolid0 o S p a).toInt = s_b (s_so G A (a.toInt - 8)) := cx_isSolid (o := o) h h0 h1
/-- one step of the count of open neighbours -/
theorem cx_ob1 (h : cx_ce G A S p) {k m sd : Int32} (hk : ¬ (4 : Int32) ≤ k) (hs : zV (dk_sides k.toNatClampNeg) = sd) (e : (a + sd).toInt = x) (h0 : 0 ≤ x) (h1 : x < 72) (hm : 0 ≤ m.toInt ∧ m.toInt ≤ 8) : ∃ m' : Int32, F_p_openBeside_B1 a o S p (k, m) = .inl (k + 1, m') ∧ m'.toInt = m.toInt + s_b (s_op G A (x - 8)) := by
  have e1 := cx_isOpen (o := o) (a := a + sd) h (by omega) (by omega)
  rw [e] at e1
  by_cases q : F_p_isOpen o S p (a + sd) = (0 : Int32)
  · refine ⟨m, (F_p_openBeside_p2 hk hs.symm rfl rfl q).trans (F_p_openBeside_p1 rfl), ?_⟩
    rw [q] at e1
    have z : (0 : Int32).toInt = 0 := by decide +kernel
    omega
  · refine ⟨m + 1, (F_p_openBeside_p3 hk hs.symm rfl rfl q rfl).trans (F_p_openBeside_p1 rfl), ?_⟩
    have z := dk_neqc (k := 0) (by decide +kernel) q
    have z1 := s_b01 (s_op G A (x - 8))
    rw [dk_addT (b := 1) rfl (by decide +kernel) (by omega) (by omega)]
    omega
theorem cx_openBeside (h : cx_ce G A S p) (h0 : 8 ≤ a.toInt) (h1 : a.toInt ≤ 63) : (F_p_openBeside o S p a).toInt = s_ob G A (a.toInt - 8) := by
  have T : ∀ (sd : Int32) (b : Int), sd.toInt = b → -8 ≤ b → b ≤ 8 → (a + sd).toInt = a.toInt + b := fun sd b hb h2 h3 => dk_addT rfl hb (by omega) (by omega)
  have z0 : (0 : Int32).toInt = 0 := by decide +kernel
  have b1 := s_b01 (s_op G A (a.toInt - 8 - 8))
  have b2 := s_b01 (s_op G A (a.toInt - 8 - 1))
  have b3 := s_b01 (s_op G A (a.toInt - 8 + 1))
  have b4 := s_b01 (s_op G A (a.toInt - 8 + 8))
  obtain ⟨m1, e1, j1⟩ := cx_ob1 (o := o) (a := a) (m := 0) h (k := 0) (sd := -8) (by decide +kernel) (by decide +kernel) (T (-8) (-8) (by decide +kernel) (by omega) (by omega)) (by omega) (by omega) (by omega)
  rw [show a.toInt + -8 - 8 = a.toInt - 8 - 8 by omega] at j1
  obtain ⟨m2, e2, j2⟩ := cx_ob1 (o := o) (a := a) (m := m1) h (k := 0 + 1) (sd := -1) (by decide +kernel) (by decide +kernel) (T (-1) (-1) (by decide +kernel) (by omega) (by omega)) (by omega) (by omega) (by omega)
  rw [show a.toInt + -1 - 8 = a.toInt - 8 - 1 by omega] at j2
  obtain ⟨m3, e3, j3⟩ := cx_ob1 (o := o) (a := a) (m := m2) h (k := 0 + 1 + 1) (sd := 1) (by decide +kernel) (by decide +kernel) (T 1 1 (by decide +kernel) (by omega) (by omega)) (by omega) (by omega) (by omega)
  rw [show a.toInt + 1 - 8 = a.toInt - 8 + 1 by omega] at j3
  obtain ⟨m4, e4, j4⟩ := cx_ob1 (o := o) (a := a) (m := m3) h (k := 0 + 1 + 1 + 1) (sd := 8) (by decide +kernel) (by decide +kernel) (T 8 8 (by decide +kernel) (by omega) (by omega)) (by omega) (by omega) (by omega)
  rw [show a.toInt + 8 - 8 = a.toInt - 8 + 8 by omega] at j4
  have e5 : F_p_openBeside_B1 a o S p (0 + 1 + 1 + 1 + 1, m4) = .inr m4 := F_p_openBeside_p0 (by decide +kernel)
  rw [F_p_openBeside_p4, show ((5 - ((0 : Int32)).toInt).toNat + 1) = 5 + 1 by decide +kernel, lp_sl e1, lp_sl e2, lp_sl e3, lp_sl e4, lp_sr e5]
  unfold s_ob
  omega
theorem cx_canBeDug (h : cx_ce G A S p) (h0 : 8 ≤ a.toInt) (h1 : a.toInt ≤ 63) : (F_p_canBeDug o S p a).toInt = s_b (s_so G A (a.toInt - 8) ∧ 0 < s_ob G A (a.toInt - 8)) := by
  have e1 := cx_isSolid (o := o) (a := a) h (by omega) (by omega)
  have e2 := cx_openBeside (o := o) (a := a) h h0 h1
  have z0 : (0 : Int32).toInt = 0 := by decide +kernel
  have z1 : (1 : Int32).toInt = 1 := by decide +kernel
  by_cases q : F_p_isSolid o S p a = (0 : Int32)
  · rw [F_p_canBeDug_p0 rfl q, z0]
    rw [q, z0] at e1
    refine (s_b0 (fun z => ?_)).symm
    rw [s_b1 z.1] at e1
    exact absurd e1 (by decide)
  · have s1 : s_so G A (a.toInt - 8) := by
      apply Classical.byContradiction
      intro z
      rw [s_b0 z] at e1
      exact q (dk_eqp (k := 0) (by decide +kernel) e1)
    by_cases q2 : F_p_openBeside o S p a ≤ (0 : Int32)
    · have := dk_lec (k := 0) (by decide +kernel) q2
      rw [F_p_canBeDug_p1 rfl q rfl q2, z0]
      exact (s_b0 (fun z => by have := z.2; omega)).symm
    · have := dk_nlec (k := 0) (by decide +kernel) q2
      rw [F_p_canBeDug_p2 rfl q rfl q2, z1]
      exact (s_b1 ⟨s1, by omega⟩).symm
end XP
end
section
/-! the class works out a rule -/
def cx_st (S : dg_S) (q : e_S) : Prop := (zI S 215 7).toInt = q.2 ∧ ∀ i, i < q.2 → (S.2.1 216 i).toInt = q.1 i
def k_ru (S S1 : dg_S) : Prop := kp (fun a b => a = 215 ∧ b = 7) (fun a => a = 216) S S1
def cx_env (S : dg_S) (s : Int) : Int := if s = -1 then (zI S 215 0).toInt else if s = -2 then (zI S 215 1).toInt else if s = -3 then (zI S 215 2).toInt else if s = -4 then (zI S 215 3).toInt else if s = -5 then (zI S 215 4).toInt else if s = -6 then (zI S 215 5).toInt else 1
theorem k_ru.env {S S1 : dg_S} (h : k_ru S S1) : cx_env S1 = cx_env S := by
  funext s
  unfold cx_env
  rw [h.I (fun z => absurd z.2 (by decide)), h.I (fun z => absurd z.2 (by decide)), h.I (fun z => absurd z.2 (by decide)), h.I (fun z => absurd z.2 (by decide)), h.I (fun z => absurd z.2 (by decide)), h.I (fun z => absurd z.2 (by decide))]
section XE
variable {S S1 : dg_S} {o : Nat} {a b s : Int32} {q : e_S} {f : Nat → Int} {n : Nat} {v : Int}
theorem cx_push (h : cx_st S (f, n)) (hn : n < 64) : ∃ S1, F_r_push o S a = S1 ∧ cx_st S1 (e_w f n a.toInt, n + 1) ∧ k_ru S S1 := by
  obtain ⟨h1, h2⟩ := h
  have h1 : (zI S 215 7).toInt = (n : Int) := h1
  have q : ¬ (64 : Int32) ≤ zI S 215 7 := fun z => by
    have := dk_gec (k := 64) (by decide +kernel) z
    omega
  refine ⟨_, F_r_push_p1 rfl q rfl rfl rfl, ⟨?_, fun i hi => ?_⟩, kp.uF (kp.uf kp.rf rfl) ⟨rfl, rfl⟩⟩
  · rw [w_I, if_pos ⟨rfl, rfl⟩]
    show (zI S 215 7 + (1 : Int32)).toInt = ((n + 1 : Nat) : Int)
    rw [dk_addT (a := (n : Int)) (b := 1) h1 (by decide +kernel) (by omega) (by omega)]
    omega
  · have en : (zI S 215 7).toNatClampNeg = n := by rw [dk_clN]; omega
    rw [w_Ff, w_f, if_pos rfl, w_u, en]
    show _ = (if i = n then a.toInt else f i)
    have hi : i < n + 1 := hi
    split
    · rfl
    · exact h2 i (by omega)
theorem cx_pop (h : cx_st S (f, n + 1)) (hn : n ≤ 64) : ∃ (S1 : dg_S) (v : Int32), F_r_pop o S = (S1, v) ∧ v.toInt = f n ∧ cx_st S1 (f, n) ∧ k_ru S S1 := by
  obtain ⟨h1, h2⟩ := h
  have h1 : (zI S 215 7).toInt = ((n + 1 : Nat) : Int) := h1
  have q : ¬ zI S 215 7 = (0 : Int32) := fun z => by
    have := dk_eqc (k := 0) (by decide +kernel) z
    omega
  have e1 : (zI S 215 7 - (1 : Int32)).toInt = (n : Int) := by
    rw [dk_subT (a := ((n + 1 : Nat) : Int)) (b := 1) h1 (by decide +kernel) (by omega) (by omega)]
    omega
  refine ⟨_, _, F_r_pop_p0 rfl q rfl rfl rfl, ?_, ⟨?_, fun i hi => ?_⟩, kp.uF kp.rf ⟨rfl, rfl⟩⟩
  · rw [w_Ff, show (zI S 215 7 - (1 : Int32)).toNatClampNeg = n by rw [dk_clN]; omega]
    exact h2 n (Nat.lt_succ_self n)
  · rw [w_I, if_pos ⟨rfl, rfl⟩]
    exact e1
  · rw [w_Ff]
    have hi : i < n := hi
    exact h2 i (show i < n + 1 by omega)
theorem cx_fact (h0 : -7 ≤ s.toInt) (h1 : s.toInt < 0) : (F_r_fact o S s).toInt = cx_env S s.toInt := by
  have c : s.toInt = -7 ∨ s.toInt = -6 ∨ s.toInt = -5 ∨ s.toInt = -4 ∨ s.toInt = -3 ∨ s.toInt = -2 ∨ s.toInt = -1 := by omega
  unfold F_r_fact cx_env
  rcases c with c | c | c | c | c | c | c
  · rw [if_neg (dk_neT c (k := -6) (b := -6) (by decide +kernel) (by decide)), if_neg (dk_neT c (k := -5) (b := -5) (by decide +kernel) (by decide)), if_neg (dk_neT c (k := -4) (b := -4) (by decide +kernel) (by decide)), if_neg (dk_neT c (k := -3) (b := -3) (by decide +kernel) (by decide)), if_neg (dk_neT c (k := -2) (b := -2) (by decide +kernel) (by decide)), if_neg (dk_neT c (k := -1) (b := -1) (by decide +kernel) (by decide))]
    rw [if_neg (show ¬ s.toInt = -1 by omega), if_neg (show ¬ s.toInt = -2 by omega), if_neg (show ¬ s.toInt = -3 by omega), if_neg (show ¬ s.toInt = -4 by omega), if_neg (show ¬ s.toInt = -5 by omega), if_neg (show ¬ s.toInt = -6 by omega)]
    decide +kernel
  · rw [if_pos (dk_eqT c (k := -6) (by decide +kernel))]
    rw [if_neg (show ¬ s.toInt = -1 by omega), if_neg (show ¬ s.toInt = -2 by omega), if_neg (show ¬ s.toInt = -3 by omega), if_neg (show ¬ s.toInt = -4 by omega), if_neg (show ¬ s.toInt = -5 by omega), if_pos c]
  · rw [if_neg (dk_neT c (k := -6) (b := -6) (by decide +kernel) (by decide)), if_pos (dk_eqT c (k := -5) (by decide +kernel))]
    rw [if_neg (show ¬ s.toInt = -1 by omega), if_neg (show ¬ s.toInt = -2 by omega), if_neg (show ¬ s.toInt = -3 by omega), if_neg (show ¬ s.toInt = -4 by omega), if_pos c]
  · rw [if_neg (dk_neT c (k := -6) (b := -6) (by decide +kernel) (by decide)), if_neg (dk_neT c (k := -5) (b := -5) (by decide +kernel) (by decide)), if_pos (dk_eqT c (k := -4) (by decide +kernel))]
    rw [if_neg (show ¬ s.toInt = -1 by omega), if_neg (show ¬ s.toInt = -2 by omega), if_neg (show ¬ s.toInt = -3 by omega), if_pos c]
  · rw [if_neg (dk_neT c (k := -6) (b := -6) (by decide +kernel) (by decide)), if_neg (dk_neT c (k := -5) (b := -5) (by decide +kernel) (by decide)), if_neg (dk_neT c (k := -4) (b := -4) (by decide +kernel) (by decide)), if_pos (dk_eqT c (k := -3) (by decide +kernel))]
    rw [if_neg (show ¬ s.toInt = -1 by omega), if_neg (show ¬ s.toInt = -2 by omega), if_pos c]
  · rw [if_neg (dk_neT c (k := -6) (b := -6) (by decide +kernel) (by decide)), if_neg (dk_neT c (k := -5) (b := -5) (by decide +kernel) (by decide)), if_neg (dk_neT c (k := -4) (b := -4) (by decide +kernel) (by decide)), if_neg (dk_neT c (k := -3) (b := -3) (by decide +kernel) (by decide)), if_pos (dk_eqT c (k := -2) (by decide +kernel))]
    rw [if_neg (show ¬ s.toInt = -1 by omega), if_pos c]
  · rw [if_neg (dk_neT c (k := -6) (b := -6) (by decide +kernel) (by decide)), if_neg (dk_neT c (k := -5) (b := -5) (by decide +kernel) (by decide)), if_neg (dk_neT c (k := -4) (b := -4) (by decide +kernel) (by decide)), if_neg (dk_neT c (k := -3) (b := -3) (by decide +kernel) (by decide)), if_neg (dk_neT c (k := -2) (b := -2) (by decide +kernel) (by decide)), if_pos (dk_eqT c (k := -1) (by decide +kernel))]
    rw [if_pos c]
theorem cx_l2i {x : Int64} (h0 : -2147483648 ≤ x.toInt) (h1 : x.toInt ≤ 2147483647) : (Int64.toInt32 x).toInt = x.toInt := by
  rw [Int64.toInt_toInt32]
  exact dk_bm h0 (by omega)
theorem cx_bounded {l : Int64} : (F_r_bounded o S l).toInt = e_cl l.toInt := by
  have h1 := dk_lcmp (x := l) (y := 1000000) rfl
  have h2 := dk_lcmp (x := l) (y := -1000000) rfl
  have m1 : (1000000 : Int64).toInt = 1000000 := by decide +kernel
  have m2 : (-1000000 : Int64).toInt = -1000000 := by decide +kernel
  rw [m1] at h1
  rw [m2] at h2
  by_cases c1 : lg_cmp l 1000000 ≤ (0 : Int32)
  · have d1 := dk_lec (k := 0) (by decide +kernel) c1
    by_cases c2 : (0 : Int32) ≤ lg_cmp l (-1000000)
    · have d2 := dk_gec (k := 0) (by decide +kernel) c2
      rw [F_r_bounded_p0 rfl c1 rfl c2 rfl, cx_l2i (by omega) (by omega)]
      unfold e_cl
      rw [if_neg (by omega), if_neg (by omega)]
    · have d2 := dk_ngec (k := 0) (by decide +kernel) c2
      rw [F_r_bounded_p1 rfl c1 rfl c2]
      unfold e_cl
      rw [if_neg (by omega), if_pos (by omega)]
      decide +kernel
  · have d1 := dk_nlec (k := 0) (by decide +kernel) c1
    rw [F_r_bounded_p2 rfl c1]
    unfold e_cl
    rw [if_pos (by omega)]
    decide +kernel
end XE
theorem i_xor (x y : Int32) : (x ^^^ y).toInt < 0 ↔ (x.toInt < 0 ↔ ¬ y.toInt < 0) := by
  have h : ∀ z : Int32, z.toInt < 0 ↔ z.toBitVec.msb = true := fun z => by
    rw [← Int32.toInt_toBitVec, BitVec.msb_eq_toInt]
    simp
  rw [h, h x, h y, Int32.toBitVec_xor, BitVec.msb_xor]
  cases x.toBitVec.msb <;> cases y.toBitVec.msb <;> decide
section XR
variable {S S1 : dg_S} {o : Nat} {a b s : Int32}
theorem cx_tdiv (ha : -1000000 ≤ a.toInt ∧ a.toInt ≤ 1000000) : (a / b).toInt = a.toInt.tdiv b.toInt := by
  apply Int32.toInt_div_of_ne_left
  intro z
  rw [z] at ha
  exact absurd ha.1 (by decide +kernel)
theorem cx_td_b {a b : Int} (ha : -1000000 ≤ a ∧ a ≤ 1000000) (hb : b ≠ 0) : -1000000 ≤ a.tdiv b ∧ a.tdiv b ≤ 1000000 := by
  have h := Int.natAbs_tdiv_le_natAbs a b
  omega
theorem cx_mul_tdiv {a b : Int} (ha : -1000000 ≤ a ∧ a ≤ 1000000) (hb : -1000000 ≤ b ∧ b ≤ 1000000) (h0 : b ≠ 0) : -3000000 ≤ a.tdiv b * b ∧ a.tdiv b * b ≤ 3000000 := by
  obtain ⟨h1, h2, h3, h4, h5⟩ := e_tm a b h0
  rw [Int.mul_comm]
  generalize b * a.tdiv b = u at h1 ⊢
  omega
theorem cx_floorDiv (ha : -1000000 ≤ a.toInt ∧ a.toInt ≤ 1000000) (hb : -1000000 ≤ b.toInt ∧ b.toInt ≤ 1000000) (h0 : b.toInt ≠ 0) : (F_floorDiv o S a b).toInt = e_fd a.toInt b.toInt := by
  have e1 := cx_tdiv (b := b) ha
  have t1 := cx_td_b ha h0
  have t2 := cx_mul_tdiv ha hb h0
  have e2 : (a / b * b).toInt = a.toInt.tdiv b.toInt * b.toInt := dk_mulT e1 rfl (by omega) (by omega)
  have hx := i_xor a b
  unfold e_fd
  by_cases c1 : (0 : Int32) ≤ a ^^^ b
  · have d1 := dk_gec (k := 0) (by decide +kernel) c1
    rw [F_floorDiv_p0 rfl rfl c1, if_neg (fun z => by have := hx.mpr z.1; omega)]
    exact e1
  · have d1 := dk_ngec (k := 0) (by decide +kernel) c1
    have d2 := hx.mp d1
    by_cases c2 : a / b * b = a
    · rw [F_floorDiv_p1 rfl rfl c1 rfl c2, if_neg (fun z => z.2 (by rw [← e2, c2]))]
      exact e1
    · rw [F_floorDiv_p2 rfl rfl c1 rfl c2 rfl, if_pos ⟨d2, fun z => c2 (Int32.toInt_inj.mp (by rw [e2, z]))⟩]
      exact dk_subT e1 (by decide +kernel) (by omega) (by omega)
theorem cx_floorMod (ha : -1000000 ≤ a.toInt ∧ a.toInt ≤ 1000000) (hb : -1000000 ≤ b.toInt ∧ b.toInt ≤ 1000000) (h0 : b.toInt ≠ 0) : (F_floorMod o S a b).toInt = e_fm a.toInt b.toInt := by
  have e1 := cx_tdiv (b := b) ha
  have t1 := cx_td_b ha h0
  have t2 := cx_mul_tdiv ha hb h0
  have e2 : (a / b * b).toInt = a.toInt.tdiv b.toInt * b.toInt := dk_mulT e1 rfl (by omega) (by omega)
  have e3 : (a - a / b * b).toInt = a.toInt - a.toInt.tdiv b.toInt * b.toInt := dk_subT rfl e2 (by omega) (by omega)
  have hx := i_xor a b
  have tm := e_tm a.toInt b.toInt h0
  have hm : b.toInt * e_fd a.toInt b.toInt = if (a.toInt < 0 ↔ ¬ b.toInt < 0) ∧ a.toInt.tdiv b.toInt * b.toInt ≠ a.toInt then a.toInt.tdiv b.toInt * b.toInt - b.toInt else a.toInt.tdiv b.toInt * b.toInt := by
    unfold e_fd
    split
    · rw [Int.mul_sub, Int.mul_one, Int.mul_comm]
    · rw [Int.mul_comm]
  unfold e_fm
  rw [hm]
  by_cases c1 : (0 : Int32) ≤ a ^^^ b
  · have d1 := dk_gec (k := 0) (by decide +kernel) c1
    rw [F_floorMod_p0 rfl rfl c1, if_neg (fun z => by have := hx.mpr z.1; omega)]
    exact e3
  · have d1 := dk_ngec (k := 0) (by decide +kernel) c1
    have d2 := hx.mp d1
    by_cases c2 : a - a / b * b = (0 : Int32)
    · have d3 := dk_eqc (k := 0) (by decide +kernel) c2
      rw [F_floorMod_p1 rfl rfl c1 c2, if_neg (fun z => z.2 (by omega))]
      exact e3
    · have d3 := dk_neqc (k := 0) (by decide +kernel) c2
      rw [F_floorMod_p2 rfl rfl c1 c2 rfl, if_pos ⟨d2, fun z => d3 (by omega)⟩]
      rw [dk_addT e3 rfl (by omega) (by omega)]
      omega
theorem cx_i64 {x y : Int32} : (Int32.toInt64 x + Int32.toInt64 y).toInt = x.toInt + y.toInt ∧ (Int32.toInt64 x - Int32.toInt64 y).toInt = x.toInt - y.toInt := by
  have h1 := dk_full x
  have h2 := dk_full y
  refine ⟨?_, ?_⟩
  · rw [Int64.toInt_add, Int32.toInt_toInt64, Int32.toInt_toInt64]
    exact Int.bmod_eq_of_le (by omega) (by omega)
  · rw [Int64.toInt_sub, Int32.toInt_toInt64, Int32.toInt_toInt64]
    exact Int.bmod_eq_of_le (by omega) (by omega)
theorem cx_m64 {x y : Int32} (hx : -1000000 ≤ x.toInt ∧ x.toInt ≤ 1000000) (hy : -1000000 ≤ y.toInt ∧ y.toInt ≤ 1000000) : (Int32.toInt64 x * Int32.toInt64 y).toInt = x.toInt * y.toInt := by
  rw [Int64.toInt_mul, Int32.toInt_toInt64, Int32.toInt_toInt64]
  have h : (x.toInt * y.toInt).natAbs ≤ 1000000 * 1000000 := by
    rw [Int.natAbs_mul]
    exact Nat.mul_le_mul (by omega) (by omega)
  generalize x.toInt * y.toInt = z at h
  exact Int.bmod_eq_of_le (by omega) (by omega)
theorem cx_result (hs : -21 ≤ s.toInt ∧ s.toInt ≤ -10) (ha : -1000000 ≤ a.toInt ∧ a.toInt ≤ 1000000) (hb : -1000000 ≤ b.toInt ∧ b.toInt ≤ 1000000) : (F_r_result o S s a b).toInt = e_op s.toInt a.toInt b.toInt := by
  have z0 : (0 : Int32).toInt = 0 := by decide +kernel
  have z1 : (1 : Int32).toInt = 1 := by decide +kernel
  have L : ∀ x : Int32, Int32.ofInt x.toInt = x := fun x => Int32.ofInt_toInt x
  have c : s.toInt = -21 ∨ s.toInt = -20 ∨ s.toInt = -19 ∨ s.toInt = -18 ∨ s.toInt = -17 ∨ s.toInt = -16 ∨ s.toInt = -15 ∨ s.toInt = -14 ∨ s.toInt = -13 ∨ s.toInt = -12 ∨ s.toInt = -11 ∨ s.toInt = -10 := by omega
  unfold F_r_result e_op
  rcases c with c | c | c | c | c | c | c | c | c | c | c | c
  · rw [if_neg (dk_neT c (k := -20) (b := -20) (by decide +kernel) (by decide)), if_neg (dk_neT c (k := -19) (b := -19) (by decide +kernel) (by decide)), if_neg (dk_neT c (k := -18) (b := -18) (by decide +kernel) (by decide)), if_neg (dk_neT c (k := -17) (b := -17) (by decide +kernel) (by decide)), if_neg (dk_neT c (k := -16) (b := -16) (by decide +kernel) (by decide)), if_neg (dk_neT c (k := -15) (b := -15) (by decide +kernel) (by decide)), if_neg (dk_neT c (k := -14) (b := -14) (by decide +kernel) (by decide)), if_neg (dk_neT c (k := -13) (b := -13) (by decide +kernel) (by decide)), if_neg (dk_neT c (k := -12) (b := -12) (by decide +kernel) (by decide)), if_neg (dk_neT c (k := -11) (b := -11) (by decide +kernel) (by decide)), if_neg (dk_neT c (k := -10) (b := -10) (by decide +kernel) (by decide))]
    rw [if_neg (show ¬ s.toInt = -10 by omega), if_neg (show ¬ s.toInt = -11 by omega), if_neg (show ¬ s.toInt = -12 by omega), if_neg (show ¬ s.toInt = -13 by omega), if_neg (show ¬ s.toInt = -14 by omega), if_neg (show ¬ s.toInt = -15 by omega), if_neg (show ¬ s.toInt = -16 by omega), if_neg (show ¬ s.toInt = -17 by omega), if_neg (show ¬ s.toInt = -18 by omega), if_neg (show ¬ s.toInt = -19 by omega), if_neg (show ¬ s.toInt = -20 by omega)]
    show (a ||| b).toInt = e_or a.toInt b.toInt
    unfold e_or
    rw [L, L]
  · rw [if_pos (dk_eqT c (k := -20) (by decide +kernel))]
    rw [if_neg (show ¬ s.toInt = -10 by omega), if_neg (show ¬ s.toInt = -11 by omega), if_neg (show ¬ s.toInt = -12 by omega), if_neg (show ¬ s.toInt = -13 by omega), if_neg (show ¬ s.toInt = -14 by omega), if_neg (show ¬ s.toInt = -15 by omega), if_neg (show ¬ s.toInt = -16 by omega), if_neg (show ¬ s.toInt = -17 by omega), if_neg (show ¬ s.toInt = -18 by omega), if_neg (show ¬ s.toInt = -19 by omega), if_pos c]
    show (a &&& b).toInt = e_and a.toInt b.toInt
    unfold e_and
    rw [L, L]
  · rw [if_neg (dk_neT c (k := -20) (b := -20) (by decide +kernel) (by decide)), if_pos (dk_eqT c (k := -19) (by decide +kernel))]
    rw [if_neg (show ¬ s.toInt = -10 by omega), if_neg (show ¬ s.toInt = -11 by omega), if_neg (show ¬ s.toInt = -12 by omega), if_neg (show ¬ s.toInt = -13 by omega), if_neg (show ¬ s.toInt = -14 by omega), if_neg (show ¬ s.toInt = -15 by omega), if_neg (show ¬ s.toInt = -16 by omega), if_neg (show ¬ s.toInt = -17 by omega), if_neg (show ¬ s.toInt = -18 by omega), if_pos c]
    show (if a = b then (1 : Int32) else 0).toInt = if a.toInt = b.toInt then 1 else 0
    by_cases q : a = b
    · rw [if_pos q, if_pos (by rw [q])]
      exact z1
    · rw [if_neg q, if_neg (fun z => q (Int32.toInt_inj.mp z))]
      exact z0
  · rw [if_neg (dk_neT c (k := -20) (b := -20) (by decide +kernel) (by decide)), if_neg (dk_neT c (k := -19) (b := -19) (by decide +kernel) (by decide)), if_pos (dk_eqT c (k := -18) (by decide +kernel))]
    rw [if_neg (show ¬ s.toInt = -10 by omega), if_neg (show ¬ s.toInt = -11 by omega), if_neg (show ¬ s.toInt = -12 by omega), if_neg (show ¬ s.toInt = -13 by omega), if_neg (show ¬ s.toInt = -14 by omega), if_neg (show ¬ s.toInt = -15 by omega), if_neg (show ¬ s.toInt = -16 by omega), if_neg (show ¬ s.toInt = -17 by omega), if_pos c]
    show (if a ≤ b then (0 : Int32) else 1).toInt = if b.toInt < a.toInt then 1 else 0
    by_cases q : a ≤ b
    · have := w_le.mp q
      rw [if_pos q, if_neg (by omega)]
      exact z0
    · have : ¬ a.toInt ≤ b.toInt := fun z => q (w_le.mpr z)
      rw [if_neg q, if_pos (by omega)]
      exact z1
  · rw [if_neg (dk_neT c (k := -20) (b := -20) (by decide +kernel) (by decide)), if_neg (dk_neT c (k := -19) (b := -19) (by decide +kernel) (by decide)), if_neg (dk_neT c (k := -18) (b := -18) (by decide +kernel) (by decide)), if_pos (dk_eqT c (k := -17) (by decide +kernel))]
    rw [if_neg (show ¬ s.toInt = -10 by omega), if_neg (show ¬ s.toInt = -11 by omega), if_neg (show ¬ s.toInt = -12 by omega), if_neg (show ¬ s.toInt = -13 by omega), if_neg (show ¬ s.toInt = -14 by omega), if_neg (show ¬ s.toInt = -15 by omega), if_neg (show ¬ s.toInt = -16 by omega), if_pos c]
    show (if b ≤ a then (0 : Int32) else 1).toInt = if a.toInt < b.toInt then 1 else 0
    by_cases q : b ≤ a
    · have := w_le.mp q
      rw [if_pos q, if_neg (by omega)]
      exact z0
    · have : ¬ b.toInt ≤ a.toInt := fun z => q (w_le.mpr z)
      rw [if_neg q, if_pos (by omega)]
      exact z1
  · rw [if_neg (dk_neT c (k := -20) (b := -20) (by decide +kernel) (by decide)), if_neg (dk_neT c (k := -19) (b := -19) (by decide +kernel) (by decide)), if_neg (dk_neT c (k := -18) (b := -18) (by decide +kernel) (by decide)), if_neg (dk_neT c (k := -17) (b := -17) (by decide +kernel) (by decide)), if_pos (dk_eqT c (k := -16) (by decide +kernel))]
    rw [if_neg (show ¬ s.toInt = -10 by omega), if_neg (show ¬ s.toInt = -11 by omega), if_neg (show ¬ s.toInt = -12 by omega), if_neg (show ¬ s.toInt = -13 by omega), if_neg (show ¬ s.toInt = -14 by omega), if_neg (show ¬ s.toInt = -15 by omega), if_pos c]
    show (if a ≤ b then b else a).toInt = if b.toInt < a.toInt then a.toInt else b.toInt
    by_cases q : a ≤ b
    · have := w_le.mp q
      rw [if_pos q, if_neg (by omega)]
    · have : ¬ a.toInt ≤ b.toInt := fun z => q (w_le.mpr z)
      rw [if_neg q, if_pos (by omega)]
  · rw [if_neg (dk_neT c (k := -20) (b := -20) (by decide +kernel) (by decide)), if_neg (dk_neT c (k := -19) (b := -19) (by decide +kernel) (by decide)), if_neg (dk_neT c (k := -18) (b := -18) (by decide +kernel) (by decide)), if_neg (dk_neT c (k := -17) (b := -17) (by decide +kernel) (by decide)), if_neg (dk_neT c (k := -16) (b := -16) (by decide +kernel) (by decide)), if_pos (dk_eqT c (k := -15) (by decide +kernel))]
    rw [if_neg (show ¬ s.toInt = -10 by omega), if_neg (show ¬ s.toInt = -11 by omega), if_neg (show ¬ s.toInt = -12 by omega), if_neg (show ¬ s.toInt = -13 by omega), if_neg (show ¬ s.toInt = -14 by omega), if_pos c]
    show (if b ≤ a then b else a).toInt = if a.toInt < b.toInt then a.toInt else b.toInt
    by_cases q : b ≤ a
    · have := w_le.mp q
      rw [if_pos q, if_neg (by omega)]
    · have : ¬ b.toInt ≤ a.toInt := fun z => q (w_le.mpr z)
      rw [if_neg q, if_pos (by omega)]
  · rw [if_neg (dk_neT c (k := -20) (b := -20) (by decide +kernel) (by decide)), if_neg (dk_neT c (k := -19) (b := -19) (by decide +kernel) (by decide)), if_neg (dk_neT c (k := -18) (b := -18) (by decide +kernel) (by decide)), if_neg (dk_neT c (k := -17) (b := -17) (by decide +kernel) (by decide)), if_neg (dk_neT c (k := -16) (b := -16) (by decide +kernel) (by decide)), if_neg (dk_neT c (k := -15) (b := -15) (by decide +kernel) (by decide)), if_pos (dk_eqT c (k := -14) (by decide +kernel))]
    rw [if_neg (show ¬ s.toInt = -10 by omega), if_neg (show ¬ s.toInt = -11 by omega), if_neg (show ¬ s.toInt = -12 by omega), if_neg (show ¬ s.toInt = -13 by omega), if_pos c]
    show (if b = 0 then (0 : Int32) else F_floorMod o S a b).toInt = if b.toInt = 0 then 0 else e_fm a.toInt b.toInt
    by_cases q : b = 0
    · rw [if_pos q, if_pos (by rw [q]; exact z0)]
      exact z0
    · have q1 := dk_neqc (k := 0) (by decide +kernel) q
      rw [if_neg q, if_neg q1]
      exact cx_floorMod ha hb q1
  · rw [if_neg (dk_neT c (k := -20) (b := -20) (by decide +kernel) (by decide)), if_neg (dk_neT c (k := -19) (b := -19) (by decide +kernel) (by decide)), if_neg (dk_neT c (k := -18) (b := -18) (by decide +kernel) (by decide)), if_neg (dk_neT c (k := -17) (b := -17) (by decide +kernel) (by decide)), if_neg (dk_neT c (k := -16) (b := -16) (by decide +kernel) (by decide)), if_neg (dk_neT c (k := -15) (b := -15) (by decide +kernel) (by decide)), if_neg (dk_neT c (k := -14) (b := -14) (by decide +kernel) (by decide)), if_pos (dk_eqT c (k := -13) (by decide +kernel))]
    rw [if_neg (show ¬ s.toInt = -10 by omega), if_neg (show ¬ s.toInt = -11 by omega), if_neg (show ¬ s.toInt = -12 by omega), if_pos c]
    show (if b = 0 then (0 : Int32) else F_r_bounded o S (Int32.toInt64 (F_floorDiv o S a b))).toInt = if b.toInt = 0 then 0 else e_cl (e_fd a.toInt b.toInt)
    by_cases q : b = 0
    · rw [if_pos q, if_pos (by rw [q]; exact z0)]
      exact z0
    · have q1 := dk_neqc (k := 0) (by decide +kernel) q
      rw [if_neg q, if_neg q1, cx_bounded, Int32.toInt_toInt64, cx_floorDiv ha hb q1]
  · rw [if_neg (dk_neT c (k := -20) (b := -20) (by decide +kernel) (by decide)), if_neg (dk_neT c (k := -19) (b := -19) (by decide +kernel) (by decide)), if_neg (dk_neT c (k := -18) (b := -18) (by decide +kernel) (by decide)), if_neg (dk_neT c (k := -17) (b := -17) (by decide +kernel) (by decide)), if_neg (dk_neT c (k := -16) (b := -16) (by decide +kernel) (by decide)), if_neg (dk_neT c (k := -15) (b := -15) (by decide +kernel) (by decide)), if_neg (dk_neT c (k := -14) (b := -14) (by decide +kernel) (by decide)), if_neg (dk_neT c (k := -13) (b := -13) (by decide +kernel) (by decide)), if_pos (dk_eqT c (k := -12) (by decide +kernel))]
    rw [if_neg (show ¬ s.toInt = -10 by omega), if_neg (show ¬ s.toInt = -11 by omega), if_pos c]
    show (F_r_bounded o S (Int32.toInt64 a * Int32.toInt64 b)).toInt = e_cl (a.toInt * b.toInt)
    rw [cx_bounded, cx_m64 ha hb]
  · rw [if_neg (dk_neT c (k := -20) (b := -20) (by decide +kernel) (by decide)), if_neg (dk_neT c (k := -19) (b := -19) (by decide +kernel) (by decide)), if_neg (dk_neT c (k := -18) (b := -18) (by decide +kernel) (by decide)), if_neg (dk_neT c (k := -17) (b := -17) (by decide +kernel) (by decide)), if_neg (dk_neT c (k := -16) (b := -16) (by decide +kernel) (by decide)), if_neg (dk_neT c (k := -15) (b := -15) (by decide +kernel) (by decide)), if_neg (dk_neT c (k := -14) (b := -14) (by decide +kernel) (by decide)), if_neg (dk_neT c (k := -13) (b := -13) (by decide +kernel) (by decide)), if_neg (dk_neT c (k := -12) (b := -12) (by decide +kernel) (by decide)), if_pos (dk_eqT c (k := -11) (by decide +kernel))]
    rw [if_neg (show ¬ s.toInt = -10 by omega), if_pos c]
    show (F_r_bounded o S (Int32.toInt64 a - Int32.toInt64 b)).toInt = e_cl (a.toInt - b.toInt)
    rw [cx_bounded, cx_i64.2]
  · rw [if_neg (dk_neT c (k := -20) (b := -20) (by decide +kernel) (by decide)), if_neg (dk_neT c (k := -19) (b := -19) (by decide +kernel) (by decide)), if_neg (dk_neT c (k := -18) (b := -18) (by decide +kernel) (by decide)), if_neg (dk_neT c (k := -17) (b := -17) (by decide +kernel) (by decide)), if_neg (dk_neT c (k := -16) (b := -16) (by decide +kernel) (by decide)), if_neg (dk_neT c (k := -15) (b := -15) (by decide +kernel) (by decide)), if_neg (dk_neT c (k := -14) (b := -14) (by decide +kernel) (by decide)), if_neg (dk_neT c (k := -13) (b := -13) (by decide +kernel) (by decide)), if_neg (dk_neT c (k := -12) (b := -12) (by decide +kernel) (by decide)), if_neg (dk_neT c (k := -11) (b := -11) (by decide +kernel) (by decide)), if_pos (dk_eqT c (k := -10) (by decide +kernel))]
    rw [if_pos c]
    show (F_r_bounded o S (Int32.toInt64 a + Int32.toInt64 b)).toInt = e_cl (a.toInt + b.toInt)
    rw [cx_bounded, cx_i64.1]
end XR
end
section
/-! the class works out a rule, from its first step to its last -/
section XV
variable {S0 S S1 : dg_S} {o g : Nat} {a1 k : Int32} {env : Int → Int}
theorem e_vt.at {f : Nat → Int} {b : Bool} {r : List Bool} (h : e_vt f (b :: r)) : e_v1 b (f r.length) := h.1
theorem k_ru.row {S S1 : dg_S} (h : k_ru S S1) {i : Nat} (hi : i ≠ 216) : S1.2.1 i = S.2.1 i := (h.2 i hi).1
theorem cx_vstep {f : Nat → Int} {n : Nat} {s : Int32} {t t' : List Bool} (hst : cx_st S (f, n)) (hg : g + 9 ≠ 216 ∧ g + 11 ≠ 216) (hs : s = S.2.1 (g + 9) k.toNatClampNeg) (hk : ¬ S.2.1 (g + 11) a1.toNatClampNeg ≤ k) (ht : e_t1 s.toInt t = some t') (hv : e_vt f t) (hn : n = t.length) (h60 : t.length ≤ 60) (hE : cx_env S = env) :
    ∃ S1, F_r_valueOf_B1 g a1 o (k, S) = .inl (k + 1, S1) ∧ cx_st S1 (e_st env s.toInt (f, n)) ∧ k_ru S S1 := by
  subst hn
  have vb : ∀ (b : Bool) (r : List Bool), t = b :: r → -1000000 ≤ f r.length ∧ f r.length ≤ 1000000 := fun b r e => by
    rw [e] at hv
    exact hv.1.any
  unfold e_t1 at ht
  unfold e_st
  have z7 : (-7 : Int32).toInt = -7 := by decide +kernel
  by_cases c0 : 0 ≤ s.toInt
  · rw [if_pos c0] at ht ⊢
    split at ht
    · rename_i c
      obtain ⟨S1, e1, x1, k1⟩ := cx_push (o := o) (a := s) hst (by omega)
      refine ⟨S1, ?_, x1, k1⟩
      have a0 : ¬ s < (-7 : Int32) := fun z => by have := dk_ltc (k := -7) z7 z; omega
      have a2 : ¬ s < (0 : Int32) := fun z => by have := dk_ltc (k := 0) (by decide +kernel) z; omega
      rw [F_r_valueOf_p8 rfl hk hs a0 a2, F_r_valueOf_p6 e1.symm]
      exact F_r_valueOf_p1 rfl
    · cases ht
  rw [if_neg c0] at ht ⊢
  by_cases c1 : -7 ≤ s.toInt
  · rw [if_pos c1]
    have hlen : t.length < 60 := by
      by_cases c2 : -6 ≤ s.toInt
      · rw [if_pos c2] at ht
        split at ht
        · assumption
        · cases ht
      · rw [if_neg c2, if_pos (by omega)] at ht
        split at ht
        · assumption
        · cases ht
    have ef := cx_fact (S := S) (o := o) c1 (by omega)
    obtain ⟨S1, e1, x1, k1⟩ := cx_push (o := o) (a := F_r_fact o S s) hst (by omega)
    rw [ef, hE] at x1
    refine ⟨S1, ?_, x1, k1⟩
    have a0 : ¬ s < (-7 : Int32) := fun z => by have := dk_ltc (k := -7) z7 z; omega
    have a2 : s < (0 : Int32) := dk_ltp (k := 0) (by decide +kernel) (by omega)
    rw [F_r_valueOf_p7 rfl hk hs a0 a2 rfl, F_r_valueOf_p6 e1.symm]
    exact F_r_valueOf_p1 rfl
  rw [if_neg c1]
  rw [if_neg (by omega), if_neg (by omega)] at ht
  have a0 : s < (-7 : Int32) := dk_ltp (k := -7) z7 (by omega)
  by_cases c8 : s.toInt = -8
  · rw [if_pos c8] at ht ⊢
    split at ht
    · rename_i r
      have hb := vb true r rfl
      obtain ⟨S1, v, e1, ev, x1, k1⟩ := cx_pop (o := o) (n := r.length) hst (by simp at h60; omega)
      have en : ((1 : Int32) - v).toInt = 1 - f r.length := by
        rw [← ev]
        exact dk_subT (by decide +kernel) rfl (by omega) (by omega)
      obtain ⟨S2, e2, x2, k2⟩ := cx_push (o := o) (a := (1 : Int32) - v) x1 (by simp at h60; omega)
      rw [en] at x2
      refine ⟨S2, ?_, x2, k1.tr k2⟩
      rw [F_r_valueOf_p5 rfl hk hs a0 (dk_eqp (k := -8) (by decide +kernel) c8) rfl rfl rfl rfl, e1]
      show F_r_valueOf_J2 k (F_r_push o S1 ((1 : Int32) - v)) = _
      rw [e2]
      exact F_r_valueOf_p1 rfl
    · cases ht
  rw [if_neg c8] at ht ⊢
  have d8 : ¬ s = (-8 : Int32) := fun z => c8 (dk_eqc (k := -8) (by decide +kernel) z)
  by_cases c9 : s.toInt = -9
  · rw [if_pos c9] at ht ⊢
    split at ht
    · rename_i r
      simp only [List.length_cons] at h60
      obtain ⟨S1, v1, e1, ev1, x1, k1⟩ := cx_pop (o := o) (n := r.length + 2) hst (by omega)
      obtain ⟨S2, v2, e2, ev2, x2, k2⟩ := cx_pop (o := o) (n := r.length + 1) x1 (by omega)
      obtain ⟨S3, v3, e3, ev3, x3, k3⟩ := cx_pop (o := o) (n := r.length) x2 (by omega)
      obtain ⟨S4, e4, x4, k4⟩ := cx_push (o := o) (a := F_r_chosen o S3 v3 v2 v1) x3 (by omega)
      have ec : (F_r_chosen o S3 v3 v2 v1).toInt = if f r.length = 1 then f (r.length + 1) else f (r.length + 2) := by
        by_cases q : v3 = (1 : Int32)
        · rw [F_r_chosen_p1 q, if_pos (by rw [← ev3]; exact dk_eqc (k := 1) (by decide +kernel) q)]
          exact ev2
        · rw [F_r_chosen_p0 q, if_neg (by rw [← ev3]; exact dk_neqc (k := 1) (by decide +kernel) q)]
          exact ev1
      rw [ec] at x4
      refine ⟨S4, ?_, ?_, ((k1.tr k2).tr k3).tr k4⟩
      · rw [F_r_valueOf_p4 rfl hk hs a0 d8 rfl rfl rfl rfl (dk_eqp (k := -9) (by decide +kernel) c9) rfl rfl rfl, e1]
        show F_r_valueOf_J3 o (F_r_pop o (F_r_pop o S1).1).1 (F_r_chosen o (F_r_pop o (F_r_pop o S1).1).1 (F_r_pop o (F_r_pop o S1).1).2 (F_r_pop o S1).2 v1) k = _
        rw [e2]
        show F_r_valueOf_J3 o (F_r_pop o S2).1 (F_r_chosen o (F_r_pop o S2).1 (F_r_pop o S2).2 v2 v1) k = _
        rw [e3]
        show F_r_valueOf_J3 o S3 (F_r_chosen o S3 v3 v2 v1) k = _
        rw [F_r_valueOf_p2 e4.symm]
        exact F_r_valueOf_p1 rfl
      · show cx_st S4 (e_w f (r.length + 1 + 1 + 1 - 3) (if f (r.length + 1 + 1 + 1 - 3) = 1 then f (r.length + 1 + 1 + 1 - 2) else f (r.length + 1 + 1 + 1 - 1)), r.length + 1 + 1 + 1 - 2)
        rw [show r.length + 1 + 1 + 1 - 3 = r.length by omega, show r.length + 1 + 1 + 1 - 2 = r.length + 1 by omega, show r.length + 1 + 1 + 1 - 1 = r.length + 2 by omega]
        exact x4
    · cases ht
  rw [if_neg c9] at ht ⊢
  have d9 : ¬ s = (-9 : Int32) := fun z => c9 (dk_eqc (k := -9) (by decide +kernel) z)
  have two : ∀ (b1 b2 : Bool) (r : List Bool), t = b1 :: b2 :: r → -21 ≤ s.toInt → ∃ S1, F_r_valueOf_B1 g a1 o (k, S) = .inl (k + 1, S1) ∧ cx_st S1 (e_w f (t.length - 2) (e_op s.toInt (f (t.length - 2)) (f (t.length - 1))), t.length - 1) ∧ k_ru S S1 := by
    intro b1 b2 r et hs21
    subst et
    simp only [List.length_cons] at h60
    have hb1 := vb b1 (b2 :: r) rfl
    have hb2 : -1000000 ≤ f r.length ∧ f r.length ≤ 1000000 := hv.2.1.any
    obtain ⟨S1, v1, e1, ev1, x1, k1⟩ := cx_pop (o := o) (n := r.length + 1) hst (by omega)
    obtain ⟨S2, v2, e2, ev2, x2, k2⟩ := cx_pop (o := o) (n := r.length) x1 (by omega)
    obtain ⟨S3, e3, x3, k3⟩ := cx_push (o := o) (a := F_r_result o S2 s v2 v1) x2 (by omega)
    simp only [List.length_cons] at hb1
    rw [cx_result ⟨hs21, by omega⟩ (by rw [ev2]; exact hb2) (by rw [ev1]; exact hb1), ev1, ev2] at x3
    refine ⟨S3, ?_, ?_, (k1.tr k2).tr k3⟩
    · rw [F_r_valueOf_p3 rfl hk hs a0 d8 rfl rfl rfl rfl d9 rfl, e1]
      show F_r_valueOf_J3 o (F_r_pop o S1).1 (F_r_result o (F_r_pop o S1).1 s (F_r_pop o S1).2 v1) k = _
      rw [e2]
      show F_r_valueOf_J3 o S2 (F_r_result o S2 s v2 v1) k = _
      rw [F_r_valueOf_p2 e3.symm]
      exact F_r_valueOf_p1 rfl
    · show cx_st S3 (e_w f (r.length + 1 + 1 - 2) (e_op s.toInt (f (r.length + 1 + 1 - 2)) (f (r.length + 1 + 1 - 1))), r.length + 1 + 1 - 1)
      rw [show r.length + 1 + 1 - 2 = r.length by omega, show r.length + 1 + 1 - 1 = r.length + 1 by omega]
      exact x3
  by_cases c16 : -16 ≤ s.toInt
  · rw [if_pos c16] at ht
    split at ht
    · exact two _ _ _ rfl (by omega)
    · cases ht
  rw [if_neg c16] at ht
  by_cases c19 : -19 ≤ s.toInt
  · rw [if_pos c19] at ht
    split at ht
    · exact two _ _ _ rfl (by omega)
    · cases ht
  rw [if_neg c19] at ht
  by_cases c21 : -21 ≤ s.toInt
  · rw [if_pos c21] at ht
    split at ht
    · exact two _ _ _ rfl c21
    · cases ht
  · rw [if_neg c21] at ht
    cases ht
end XV
section XW
variable {o g : Nat} {a1 : Int32} {env : Int → Int} {z : dg_S × Int32} {b : Bool}
theorem cx_vrun (hg : g + 9 ≠ 216 ∧ g + 11 ≠ 216) (h7 : env (-7) = 1) : ∀ (C : List Int) (k : Int32) (S : dg_S) (f : Nat → Int) (t : List Bool) (fuel : Nat), (∀ i, i < C.length → (S.2.1 (g + 9) (k.toNatClampNeg + i)).toInt = C.getD i 0) → (S.2.1 (g + 11) a1.toNatClampNeg).toInt = k.toInt + C.length → 0 ≤ k.toInt → k.toInt + C.length ≤ 1600 → cx_st S (f, t.length) → e_vt f t → t.length ≤ 60 → e_ty C t = some [b] → (∀ s ∈ C, -6 ≤ s → s < 0 → -1000000 ≤ env s ∧ env s ≤ 1000000) → cx_env S = env → C.length < fuel → ∃ (S1 : dg_S) (v : Int32), lp (F_r_valueOf_B1 g a1 o) z fuel (k, S) = (S1, v) ∧ v.toInt = (e_run env C (f, t.length)).1 0 ∧ k_ru S S1
  | [], k, S, f, t, fuel, hC, he, hk0, hk1, hst, hv, h60, hty, hb, hE, hf => by
    have et : t = [b] := Option.some.inj hty
    subst et
    obtain ⟨S1, v, e1, ev, x1, k1⟩ := cx_pop (o := o) (n := 0) hst (by omega)
    obtain ⟨n, hn⟩ : ∃ n, fuel = n + 1 := ⟨fuel - 1, by have : ([] : List Int).length < fuel := hf; omega⟩
    have c0 : S.2.1 (g + 11) a1.toNatClampNeg ≤ k := dk_lep (k := k.toInt) rfl (by rw [he]; simp)
    refine ⟨S1, v, ?_, ev, k1⟩
    rw [hn, lp_sr (F_r_valueOf_p0 rfl c0 rfl rfl), e1]
  | s :: C, k, S, f, t, fuel, hC, he, hk0, hk1, hst, hv, h60, hty, hb, hE, hf => by
    simp only [List.length_cons] at he hk1 hf
    obtain ⟨t1, ht1, hty1⟩ := Option.bind_eq_some_iff.mp (show (e_t1 s t).bind (e_ty C) = some [b] from hty)
    have h0 := hC 0 (by simp)
    rw [Nat.add_zero] at h0
    have h0 : (S.2.1 (g + 9) k.toNatClampNeg).toInt = s := h0
    have c0 : ¬ S.2.1 (g + 11) a1.toNatClampNeg ≤ k := fun q => by
      have := dk_lec (k := k.toInt) rfl q
      omega
    have ek : (k + 1).toInt = k.toInt + 1 := dk_addT rfl (by decide +kernel) (by omega) (by omega)
    obtain ⟨S1, e1, x1, k1⟩ := cx_vstep (o := o) (a1 := a1) (k := k) (s := S.2.1 (g + 9) k.toNatClampNeg) hst hg rfl c0 (by rw [h0]; exact ht1) hv rfl h60 hE
    rw [h0] at x1
    have hs := e_step (q := (f, t.length)) (hb s (List.mem_cons_self ..)) h7 ht1 hv rfl
    rcases hs with ⟨v1, n1, l1⟩ | hs
    · obtain ⟨n, hn⟩ : ∃ n, fuel = n + 1 := ⟨fuel - 1, by omega⟩
      have x1 : cx_st S1 ((e_st env s (f, t.length)).1, t1.length) := by rw [← n1]; exact x1
      obtain ⟨S2, v, e2, ev, k2⟩ := cx_vrun hg h7 C (k + 1) S1 (e_st env s (f, t.length)).1 t1 n (fun i hi => by
        rw [k1.row hg.1, show (k + 1).toNatClampNeg + i = k.toNatClampNeg + (i + 1) by rw [dk_clN, dk_clN]; omega]
        exact hC (i + 1) (by simp; omega)) (by rw [k1.row hg.2]; omega) (by omega) (by omega) x1 v1 l1 hty1 (fun s' hs' => hb s' (List.mem_cons_of_mem _ hs')) (by rw [k1.env]; exact hE) (by omega)
      refine ⟨S2, v, ?_, ?_, k1.tr k2⟩
      · rw [hn, lp_sl e1]
        exact e2
      · rw [ev]
        show (e_run env C ((e_st env s (f, t.length)).1, t1.length)).1 0 = (e_run env C (e_st env s (f, t.length))).1 0
        rw [← n1]
    · omega
end XW
end
section
/-! the class spreads light: how far -/
theorem pX_sep {p : Nat} (h : pX p) : p + 6 < 184 ∨ 222 ≤ p := by
  have h1 : ∀ p ∈ alX.getD 1 [], p + 6 < 184 ∨ 222 ≤ p := by decide +kernel
  exact h1 p h
def cx_far (S : dg_S) (c : Int) : Int := if 0 ≤ c + 8 ∧ c + 8 < 72 then (S.2.1 217 (c + 8).toNat).toInt else -1
def cx_q (S : dg_S) (i : Nat) : Int := (S.2.1 220 i).toInt - 8
theorem cx_ce.keep {G A : aR} {S S1 : dg_S} {p : Nat} (h : cx_ce G A S p) (e : S1.2.1 (p + 1) = S.2.1 (p + 1)) : cx_ce G A S1 p := by
  intro x h0 h1
  have : cx_at S1 p x = cx_at S p x := by
    unfold cx_at
    rw [e]
  rw [this]
  exact h x h0 h1
/-- rows 217 and 220 alone -/
def k_sl (S S1 : dg_S) : Prop := kp (fun _ _ => False) (fun a => a = 217 ∨ a = 220) S S1
theorem k_sl.ce {G A : aR} {S S1 : dg_S} {p : Nat} (h : k_sl S S1) (hp : pX p) (c : cx_ce G A S p) : cx_ce G A S1 p := c.keep (h.2 (p + 1) (by have := pX_sep hp; omega)).1
theorem s_in_56 {G : aR} {c : Int} (hG : G 0 0 ≤ 7 ∧ G 0 1 ≤ 7) (h : s_in G c) : 0 ≤ c ∧ c < 56 := by
  unfold s_in at h
  omega
section XF
variable {G A : aR} {S0 S S1 : dg_S} {p o : Nat} {a : Int32} {k w : Nat} {N : Int → Prop} {sh : Int}
abbrev cx_B (G A : aR) (S : dg_S) (k w : Nat) (N : Int → Prop) : Prop := b_I (G 0 2) (s_op G A) (s_ps G A) (cx_far S) (cx_q S) k w N
/-- one neighbour of the k-th -/
theorem cx_st1 (hG : G 0 0 ≤ 7 ∧ G 0 1 ≤ 7) (hp : pX p) (hS : zR o S0 214 7 = p) (hc : cx_ce G A S p) (h : cx_B G A S k w N) (hk : k < w) (ha : a.toInt - 8 = cx_q S k) (hps : s_ps G A (cx_q S k)) {i sd m : Int32} {b : Int} (hi : ¬ (4 : Int32) ≤ i) (hs : zV (dk_sides i.toNatClampNeg) = sd) (hb : sd.toInt = b) (hn : b = -8 ∨ b = -1 ∨ b = 1 ∨ b = 8) (hm : m.toInt = w) :
    ∃ (m1 : Int32) (S1 : dg_S) (w1 : Nat), F_w_stepFrom_B1 a o S0 (i, m, S) = .inl (i + 1, m1, S1) ∧ m1.toInt = w1 ∧ cx_B G A S1 k w1 (fun c => N c ∨ c = cx_q S k + b) ∧ w ≤ w1 ∧ (∀ i, i < w → cx_q S1 i = cx_q S i) ∧ k_sl S S1 := by
  have hq := (h.2.2.1 k hk).1
  have hq0 : 0 ≤ cx_q S k ∧ cx_q S k < 56 := s_in_56 hG hq.2.2.1
  have ea : (a + sd).toInt = a.toInt + b := dk_addT rfl hb (by omega) (by omega)
  have e0 : 0 ≤ (a + sd).toInt ∧ (a + sd).toInt < 72 := by omega
  have hd : (a + sd).toInt - 8 = cx_q S k + b := by omega
  have hfar : cx_far S (cx_q S k + b) = (S.2.1 217 (a + sd).toNatClampNeg).toInt := by
    unfold cx_far
    rw [if_pos (by omega), show cx_q S k + b + 8 = (a + sd).toInt by omega]
    rfl
  have hop := cx_isOpen (o := o) (a := a + sd) hc e0.1 e0.2
  rw [hd] at hop
  have w64 := h.w64
  by_cases q1 : S.2.1 217 (a + sd).toNatClampNeg = (-1 : Int32)
  · have f1 : cx_far S (cx_q S k + b) = -1 := by rw [hfar, q1]; decide +kernel
    by_cases q2 : F_p_isOpen o S p (a + sd) = (0 : Int32)
    · refine ⟨m, S, w, F_w_stepFrom_p2 hi hs.symm rfl rfl q1 hS.symm rfl q2 rfl, hm, ?_, Nat.le_refl _, fun _ _ => rfl, kp.rf⟩
      refine h.more (fun c hc1 => ?_)
      rcases hc1 with z | z
      · exact Or.inl z
      · refine Or.inr (fun z1 _ => ?_)
        rw [z] at z1
        rw [q2, s_b1 z1] at hop
        exact absurd hop (by decide +kernel)
    · have hop1 : s_op G A (cx_q S k + b) := by
        apply Classical.byContradiction
        intro z
        rw [s_b0 z] at hop
        exact q2 (dk_eqp (k := 0) (by decide +kernel) hop)
      obtain ⟨n, en, ni, -⟩ := (h.2.2.1 k hk).2
      have hfk : cx_far S (cx_q S k) = (S.2.1 217 a.toNatClampNeg).toInt := by
        unfold cx_far
        rw [if_pos (by omega), show cx_q S k + 8 = a.toInt by omega]
        rfl
      have ev : (S.2.1 217 a.toNatClampNeg + (1 : Int32)).toInt = cx_far S (cx_q S k) + 1 := by
        rw [hfk]
        rw [hfk] at en
        exact dk_addT rfl (by decide +kernel) (by omega) (by omega)
      obtain ⟨S2, hS2⟩ : ∃ S2, S2 = dg_uf S 217 (upd (S.2.1 217) (a + sd).toNatClampNeg (S.2.1 217 a.toNatClampNeg + (1 : Int32))) := ⟨_, rfl⟩
      obtain ⟨S3, hS3⟩ : ∃ S3, S3 = dg_uf S2 220 (upd (S2.2.1 220) m.toNatClampNeg (a + sd)) := ⟨_, rfl⟩
      have em : (m + 1).toInt = (w : Int) + 1 := by rw [← hm]; exact dk_addT rfl (by decide +kernel) (by omega) (by omega)
      have emn : m.toNatClampNeg = w := by rw [dk_clN]; omega
      have r217 : S3.2.1 217 = upd (S.2.1 217) (a + sd).toNatClampNeg (S.2.1 217 a.toNatClampNeg + (1 : Int32)) := by
        rw [hS3, w_f, if_neg (by decide), hS2, w_f, if_pos rfl]
      have r220 : S3.2.1 220 = upd (S.2.1 220) w (a + sd) := by
        rw [hS3, w_f, if_pos rfl, emn, hS2, w_f, if_neg (by decide)]
      have kk : k_sl S S3 := by
        rw [hS3, hS2]
        exact (kp.uf (kp.uf kp.rf (Or.inl rfl)) (Or.inr rfl))
      have q3 : ∀ i, i < w → cx_q S3 i = cx_q S i := fun i hi => by
        unfold cx_q
        rw [r220, w_u, if_neg (by omega)]
      refine ⟨m + 1, S3, w + 1, F_w_stepFrom_p3 hi hs.symm rfl rfl q1 hS.symm rfl q2 rfl rfl hS2 hS3 rfl rfl, by rw [em]; omega, ?_, by omega, q3, kk⟩
      refine h.push hk hps (by unfold b_nb; omega) hop1 f1 (by have := hop1.1.1; omega) ?_ (fun c hc1 => ?_) ?_ q3 (fun c z => z)
      · unfold cx_far
        rw [if_pos (by omega), r217, w_u, if_pos (by rw [dk_clN]; omega), ev]
        rfl
      · unfold cx_far
        by_cases z : 0 ≤ c + 8 ∧ c + 8 < 72
        · rw [if_pos z, if_pos z, r217, w_u, if_neg (by rw [dk_clN]; omega)]
        · rw [if_neg z, if_neg z]
      · unfold cx_q
        rw [r220, w_u, if_pos rfl]
        exact hd
  · refine ⟨m, S, w, F_w_stepFrom_p1 hi hs.symm rfl rfl q1 rfl, hm, ?_, Nat.le_refl _, fun _ _ => rfl, kp.rf⟩
    refine h.more (fun c hc1 => ?_)
    rcases hc1 with z | z
    · exact Or.inl z
    · refine Or.inr (fun _ _ => ?_)
      rw [z, hfar]
      exact dk_neqc (k := -1) (by decide +kernel) q1
theorem cx_step (hG : G 0 0 ≤ 7 ∧ G 0 1 ≤ 7) (hp : pX p) (hS : zR o S 214 7 = p) (hc : cx_ce G A S p) (h : cx_B G A S k w (fun _ => False)) (hk : k < w) (ha : a.toInt - 8 = cx_q S k) (hps : s_ps G A (cx_q S k)) {m : Int32} (hm : m.toInt = w) :
    ∃ (m1 : Int32) (S1 : dg_S) (w1 : Nat), F_w_stepFrom o S a m = (S1, m1) ∧ m1.toInt = w1 ∧ cx_B G A S1 (k + 1) w1 (fun _ => False) ∧ k_sl S S1 ∧ (∀ i, i < w → cx_q S1 i = cx_q S i) ∧ w ≤ w1 := by
  obtain ⟨m1, S1, w1, e1, n1, B1, k1, q1, t1⟩ := cx_st1 (S0 := S) (i := 0) (sd := -8) (b := -8) hG hp hS hc h hk ha hps (by decide +kernel) (by decide +kernel) (by decide +kernel) (by omega) hm
  have p1 := q1 k hk
  obtain ⟨m2, S2, w2, e2, n2, B2, k2, q2, t2⟩ := cx_st1 (S0 := S) (i := 0 + 1) (sd := -1) (b := -1) hG hp hS (t1.ce hp hc) B1 (by omega) (by rw [p1]; exact ha) (by rw [p1]; exact hps) (by decide +kernel) (by decide +kernel) (by decide +kernel) (by omega) n1
  have p2 := (q2 k (by omega)).trans p1
  obtain ⟨m3, S3, w3, e3, n3, B3, k3, q3, t3⟩ := cx_st1 (S0 := S) (i := 0 + 1 + 1) (sd := 1) (b := 1) hG hp hS (t2.ce hp (t1.ce hp hc)) B2 (by omega) (by rw [p2]; exact ha) (by rw [p2]; exact hps) (by decide +kernel) (by decide +kernel) (by decide +kernel) (by omega) n2
  have p3 := (q3 k (by omega)).trans p2
  obtain ⟨m4, S4, w4, e4, n4, B4, k4, q4, t4⟩ := cx_st1 (S0 := S) (i := 0 + 1 + 1 + 1) (sd := 8) (b := 8) hG hp hS (t3.ce hp (t2.ce hp (t1.ce hp hc))) B3 (by omega) (by rw [p3]; exact ha) (by rw [p3]; exact hps) (by decide +kernel) (by decide +kernel) (by decide +kernel) (by omega) n3
  have p4 := (q4 k (by omega)).trans p3
  have e5 : F_w_stepFrom_B1 a o S (0 + 1 + 1 + 1 + 1, m4, S4) = .inr (S4, m4) := F_w_stepFrom_p0 (by decide +kernel)
  refine ⟨m4, S4, w4, ?_, n4, ?_, ((t1.tr t2).tr t3).tr t4, fun i hi => ?_, by omega⟩
  · rw [F_w_stepFrom_p4, show ((5 - ((0 : Int32)).toInt).toNat + 1) = 5 + 1 by decide +kernel, lp_sl e1, lp_sl e2, lp_sl e3, lp_sl e4, lp_sr e5]
  · refine B4.next (by omega) (fun _ d hd => ?_)
    rw [p4] at hd
    rw [p3, p2, p1]
    unfold b_nb at hd
    omega
  · rw [q4 i (by omega), q3 i (by omega), q2 i (by omega), q1 i (by omega)]
end XF
end
section
/-! the class spreads light: what lies beside it -/
def cx_bm (S : dg_S) (x : Int) : Int := (S.2.1 218 x.toNat).toInt
def cx_ex (S : dg_S) (i : Nat) : Int := (S.2.1 219 i).toInt
/-- of those found (their numbers and cells: D), which are lit -/
def cx_lq (G A : aR) (r : Int) (far : Int → Int) (c : Int) : Prop := s_ps G A c ∧ far c ≤ r
/-- beams and exposed cells as far as they come from D -/
def cx_L (G A : aR) (r : Int) (far : Int → Int) (D : Int → Int → Prop) (S : dg_S) (ec : Nat) : Prop :=
  (∀ x : Int, 0 ≤ x → x < 72 → (cx_bm S x = 1000 ∧ ∀ c, D c (x - 8) → ¬ cx_lq G A r far c) ∨ ∃ c, D c (x - 8) ∧ cx_lq G A r far c ∧ cx_bm S x = far c ∧ far c < 1000 ∧ ∀ c', D c' (x - 8) → cx_lq G A r far c' → far c ≤ far c') ∧
  (∀ i, i < ec → (0 ≤ cx_ex S i ∧ cx_ex S i < 72) ∧ s_so G A (cx_ex S i - 8) ∧ cx_bm S (cx_ex S i) ≠ 1000) ∧
  (∀ i j, i < ec → j < ec → cx_ex S i = cx_ex S j → i = j) ∧
  (∀ x : Int, 0 ≤ x → x < 72 → s_so G A (x - 8) → cx_bm S x ≠ 1000 → ∃ i, i < ec ∧ cx_ex S i = x)
/-- rows 218, 219 and the count of the exposed alone -/
def k_sh (S S1 : dg_S) : Prop := kp (fun a b => a = 214 ∧ b = 4) (fun a => a = 218 ∨ a = 219) S S1
theorem k_sh.ce {G A : aR} {S S1 : dg_S} {p : Nat} (h : k_sh S S1) (hp : pX p) (c : cx_ce G A S p) : cx_ce G A S1 p := c.keep (h.2 (p + 1) (by have := pX_sep hp; omega)).1
/-- as many numbers below n as there are unlike ones -/
theorem cx_pig : ∀ (n m : Nat) (f : Nat → Int), (∀ i, i < m → 0 ≤ f i ∧ f i < n) → (∀ i j, i < m → j < m → f i = f j → i = j) → m ≤ n
  | 0, 0, _, _, _ => Nat.le_refl _
  | 0, m + 1, f, h, _ => by
    have := h 0 (by omega)
    omega
  | n + 1, m, f, h, hi => by
    by_cases z : ∃ k, k < m ∧ f k = (n : Int)
    · obtain ⟨k, hk, ek⟩ := z
      cases m with
      | zero => omega
      | succ m =>
        have h1 := cx_pig n m (fun i => if i < k then f i else f (i + 1)) (fun i hm => by
          show 0 ≤ (if i < k then f i else f (i + 1)) ∧ (if i < k then f i else f (i + 1)) < (n : Int)
          split
          · rename_i q
            have h2 := h i (by omega)
            have h3 : f i ≠ (n : Int) := fun z => by
              have := hi i k (by omega) hk (by rw [z, ek])
              omega
            omega
          · rename_i q
            have h2 := h (i + 1) (by omega)
            have h3 : f (i + 1) ≠ (n : Int) := fun z => by
              have := hi (i + 1) k (by omega) hk (by rw [z, ek])
              omega
            omega) (fun i j hm hj e => by
          have e : (if i < k then f i else f (i + 1)) = (if j < k then f j else f (j + 1)) := e
          split at e
          · split at e
            · exact hi i j (by omega) (by omega) e
            · have := hi i (j + 1) (by omega) (by omega) e
              omega
          · split at e
            · have := hi (i + 1) j (by omega) (by omega) e
              omega
            · have := hi (i + 1) (j + 1) (by omega) (by omega) e
              omega)
        omega
    · have h1 := cx_pig n m f (fun i hm => by
        have h2 := h i hm
        have h3 : f i ≠ (n : Int) := fun q => z ⟨i, hm, q⟩
        omega) hi
      omega
theorem cx_L.ec {G A : aR} {r : Int} {far : Int → Int} {D : Int → Int → Prop} {S : dg_S} {ec : Nat} (h : cx_L G A r far D S ec) : ec ≤ 72 := cx_pig 72 ec (cx_ex S) (fun i hi => (h.2.1 i hi).1) h.2.2.1
section XG
variable {G A : aR} {S0 S S1 : dg_S} {p o : Nat} {a fx : Int32} {r cc : Int} {far : Int → Int} {D : Int → Int → Prop} {ec : Nat}
/-- one neighbour of a lit cell -/
theorem cx_sh1 (hp : pX p) (hS : zR o S0 214 7 = p) (hc : cx_ce G A S p) (h : cx_L G A r far D S ec) (ha : 8 ≤ a.toInt ∧ a.toInt ≤ 63) (hcc : cc = a.toInt - 8) (hl : cx_lq G A r far cc) (hfx : fx.toInt = far cc) (hf0 : 0 ≤ far cc ∧ far cc < 1000) (hm : ∀ c d, D c d → cx_lq G A r far c → far c ≤ far cc) {i sd m : Int32} {b : Int} (hi : ¬ (4 : Int32) ≤ i) (hs : zV (dk_sides i.toNatClampNeg) = sd) (hb : sd.toInt = b) (hn : -8 ≤ b ∧ b ≤ 8) (hmm : m.toInt = ec) :
    ∃ (m1 : Int32) (S1 : dg_S) (e1 : Nat), F_w_shineFrom_B1 a fx o S0 (i, m, S) = .inl (i + 1, m1, S1) ∧ m1.toInt = e1 ∧ cx_L G A r far (fun c d => D c d ∨ (c = cc ∧ d = cc + b)) S1 e1 ∧ k_sh S S1 ∧ (m1 = zI S1 214 4 ∨ (m1 = m ∧ zI S1 214 4 = zI S 214 4)) := by
  have e72 := h.ec
  have ea : (a + sd).toInt = a.toInt + b := dk_addT rfl hb (by omega) (by omega)
  have e0 : 0 ≤ (a + sd).toInt ∧ (a + sd).toInt < 72 := by omega
  obtain ⟨y, hy⟩ : ∃ y, y = (a + sd).toInt := ⟨_, rfl⟩
  have hyc : y - 8 = cc + b := by omega
  have ey : (a + sd).toNatClampNeg = y.toNat := by rw [hy]; rfl
  obtain ⟨h1, h2, h3, h4⟩ := h
  by_cases q1 : S.2.1 218 (a + sd).toNatClampNeg = (1000 : Int32)
  · have b1 : cx_bm S y = 1000 := by
      unfold cx_bm
      rw [← ey, q1]
      decide +kernel
    obtain ⟨S2, hS2⟩ : ∃ S2, S2 = dg_uf S 218 (upd (S.2.1 218) (a + sd).toNatClampNeg fx) := ⟨_, rfl⟩
    have r218 : ∀ x, cx_bm S2 x = if x.toNat = y.toNat then far cc else cx_bm S x := fun x => by
      unfold cx_bm
      rw [hS2, w_f, if_pos rfl, w_u, ey]
      split
      · exact hfx
      · rfl
    have nob : ∀ c, D c (y - 8) → ¬ cx_lq G A r far c := by
      rcases h1 y (by omega) (by omega) with z | ⟨c, _, _, z, z2, _⟩
      · exact z.2
      · omega
    have L1 : ∀ x : Int, 0 ≤ x → x < 72 → (cx_bm S2 x = 1000 ∧ ∀ c, (D c (x - 8) ∨ (c = cc ∧ x - 8 = cc + b)) → ¬ cx_lq G A r far c) ∨ ∃ c, (D c (x - 8) ∨ (c = cc ∧ x - 8 = cc + b)) ∧ cx_lq G A r far c ∧ cx_bm S2 x = far c ∧ far c < 1000 ∧ ∀ c', (D c' (x - 8) ∨ (c' = cc ∧ x - 8 = cc + b)) → cx_lq G A r far c' → far c ≤ far c' := by
      intro x x0 x1
      rw [r218]
      by_cases z : x = y
      · subst z
        rw [if_pos rfl]
        refine Or.inr ⟨cc, Or.inr ⟨rfl, hyc⟩, hl, rfl, hf0.2, fun c' hc' hl' => ?_⟩
        rcases hc' with z1 | z1
        · exact absurd hl' (nob c' z1)
        · rw [z1.1]
          exact Int.le_refl _
      · rw [if_neg (by omega)]
        rcases h1 x x0 x1 with ⟨z1, z2⟩ | ⟨c, d1, d2, d3, d4, d5⟩
        · refine Or.inl ⟨z1, fun c hc1 => ?_⟩
          rcases hc1 with z3 | z3
          · exact z2 c z3
          · omega
        · refine Or.inr ⟨c, Or.inl d1, d2, d3, d4, fun c' hc' hl' => ?_⟩
          rcases hc' with z3 | z3
          · exact d5 c' z3 hl'
          · omega
    have hc2 : cx_ce G A S2 p := hc.keep (by rw [hS2, w_f, if_neg (by have := pX_sep hp; omega)])
    have hso := cx_isSolid (o := o) (a := a + sd) hc2 e0.1 e0.2
    by_cases q2 : F_p_isSolid o S2 p (a + sd) = (0 : Int32)
    · have ns : ¬ s_so G A (y - 8) := fun z => by
        rw [q2, ← hy, s_b1 z] at hso
        exact absurd hso (by decide +kernel)
      refine ⟨m, S2, ec, F_w_shineFrom_p2 hi hs.symm rfl rfl q1 hS2 hS.symm rfl q2 rfl, hmm, ⟨L1, fun i hi => ?_, fun i j hi hj e => ?_, fun x x0 x1 xs xb => ?_⟩, by rw [hS2]; exact kp.uf kp.rf (Or.inl rfl), Or.inr ⟨rfl, by rw [hS2, w_If]⟩⟩
      · have e219 : cx_ex S2 i = cx_ex S i := by
          unfold cx_ex
          rw [hS2, w_f, if_neg (by decide)]
        rw [e219, r218]
        obtain ⟨a1, a2, a3⟩ := h2 i hi
        refine ⟨a1, a2, ?_⟩
        rw [if_neg (fun z => ns (by rw [show y = cx_ex S i by omega]; exact a2))]
        exact a3
      · refine h3 i j hi hj ?_
        unfold cx_ex at e ⊢
        rw [hS2, w_f, if_neg (by decide)] at e
        exact e
      · rw [r218, if_neg (fun z => ns (by rw [show y = x by omega]; exact xs))] at xb
        obtain ⟨i, hi, ei⟩ := h4 x x0 x1 xs xb
        refine ⟨i, hi, ?_⟩
        unfold cx_ex at ei ⊢
        rw [hS2, w_f, if_neg (by decide)]
        exact ei
    · have ys : s_so G A (y - 8) := by
        apply Classical.byContradiction
        intro z
        rw [← hy, s_b0 z] at hso
        exact q2 (dk_eqp (k := 0) (by decide +kernel) hso)
      obtain ⟨S3, hS3⟩ : ∃ S3, S3 = dg_uf S2 219 (upd (S2.2.1 219) m.toNatClampNeg (a + sd)) := ⟨_, rfl⟩
      obtain ⟨S4, hS4⟩ : ∃ S4, S4 = dg_uF S3 214 4 (.int (m + (1 : Int32))) := ⟨_, rfl⟩
      have em : (m + (1 : Int32)).toInt = (ec : Int) + 1 := by rw [← hmm]; exact dk_addT rfl (by decide +kernel) (by omega) (by omega)
      have emn : m.toNatClampNeg = ec := by rw [dk_clN]; omega
      have r219 : S2.2.1 219 = S.2.1 219 := by rw [hS2, w_f, if_neg (by decide)]
      have x4 : ∀ i, cx_ex S4 i = if i = ec then y else cx_ex S i := fun i => by
        unfold cx_ex
        rw [hS4, w_Ff, hS3, w_f, if_pos rfl, emn, w_u, r219]
        by_cases z : i = ec
        · rw [if_pos z, if_pos z]
          exact hy.symm
        · rw [if_neg z, if_neg z]
      have b4 : ∀ x, cx_bm S4 x = cx_bm S2 x := fun x => by
        unfold cx_bm
        rw [hS4, w_Ff, hS3, w_f, if_neg (by decide)]
      refine ⟨m + 1, S4, ec + 1, F_w_shineFrom_p3 hi hs.symm rfl rfl q1 hS2 hS.symm rfl q2 hS3 rfl hS4 rfl, by rw [em]; omega, ⟨fun x x0 x1 => by rw [b4]; exact L1 x x0 x1, fun i hi => ?_, fun i j hi hj e => ?_, fun x x0 x1 xs xb => ?_⟩, by rw [hS4, hS3, hS2]; exact kp.uF (kp.uf (kp.uf kp.rf (Or.inl rfl)) (Or.inr rfl)) ⟨rfl, rfl⟩, Or.inl (by rw [hS4, w_I, if_pos ⟨rfl, rfl⟩])⟩
      · rw [x4]
        split
        · refine ⟨by omega, ys, ?_⟩
          rw [b4, r218, if_pos rfl]
          omega
        · obtain ⟨a1, a2, a3⟩ := h2 i (by omega)
          refine ⟨a1, a2, ?_⟩
          rw [b4, r218]
          split
          · omega
          · exact a3
      · rw [x4, x4] at e
        have nx : ∀ i, i < ec → cx_ex S i ≠ y := fun i hi z => by
          have := (h2 i hi).2.2
          rw [z] at this
          exact this b1
        split at e
        · split at e
          · omega
          · exact absurd e.symm (nx j (by omega))
        · split at e
          · exact absurd e (nx i (by omega))
          · exact h3 i j (by omega) (by omega) e
      · rw [b4, r218] at xb
        by_cases z : x = y
        · exact ⟨ec, by omega, by rw [x4, if_pos rfl, z]⟩
        · rw [if_neg (by omega)] at xb
          obtain ⟨i, hi, ei⟩ := h4 x x0 x1 xs xb
          exact ⟨i, by omega, by rw [x4, if_neg (by omega)]; exact ei⟩
  · have b1 : cx_bm S y ≠ 1000 := by
      unfold cx_bm
      rw [← ey]
      exact dk_neqc (k := 1000) (by decide +kernel) q1
    refine ⟨m, S, ec, F_w_shineFrom_p1 hi hs.symm rfl rfl q1 rfl, hmm, ⟨fun x x0 x1 => ?_, h2, h3, h4⟩, kp.rf, Or.inr ⟨rfl, rfl⟩⟩
    rcases h1 x x0 x1 with ⟨z1, z2⟩ | ⟨c, d1, d2, d3, d4, d5⟩
    · refine Or.inl ⟨z1, fun c hc1 => ?_⟩
      rcases hc1 with z3 | z3
      · exact z2 c z3
      · exact absurd z1 (by rw [show x = y by omega]; exact b1)
    · refine Or.inr ⟨c, Or.inl d1, d2, d3, d4, fun c' hc' hl' => ?_⟩
      rcases hc' with z3 | z3
      · exact d5 c' z3 hl'
      · rw [z3.1]
        exact hm c _ d1 d2
end XG
end
section
/-! the class spreads light -/
theorem s_mn_n {a b : Int} (h1 : a = -1) (h2 : b = -1) : s_mn a b = -1 := by
  unfold s_mn
  rw [if_pos h1]
  exact h2
theorem s_mn_ge {a b v : Int} (h1 : a = -1 ∨ v ≤ a) (h2 : b = -1 ∨ v ≤ b) : s_mn a b = -1 ∨ v ≤ s_mn a b := by
  unfold s_mn
  split
  · exact h2
  · split
    · exact h1
    · split
      · exact h1
      · exact h2
theorem s_mn_l {a b v : Int} (h1 : a = v) (h0 : 0 ≤ v) (h2 : b = -1 ∨ v ≤ b) : s_mn a b = v := by
  unfold s_mn
  rw [if_neg (by omega)]
  split
  · exact h1
  · split
    · exact h1
    · omega
theorem s_mn_r {a b v : Int} (h1 : b = v) (h0 : 0 ≤ v) (h2 : a = -1 ∨ v ≤ a) : s_mn a b = v := by
  unfold s_mn
  split
  · exact h1
  · rw [if_neg (by omega)]
    split
    · omega
    · exact h1
section SN
variable {G A : aR} {r c d v : Int}
theorem s_nl_n (h : ∀ d, b_nb c d → ¬ s_lit G A r d) : s_nl G A r c = -1 := by
  unfold s_nl
  rw [s_l1_n (h (c - 8) (by unfold b_nb; omega)), s_l1_n (h (c - 1) (by unfold b_nb; omega)), s_l1_n (h (c + 1) (by unfold b_nb; omega)), s_l1_n (h (c + 8) (by unfold b_nb; omega))]
  decide
theorem s_nl_y (hb : b_nb c d) (hl : s_lit G A r d) (e : s_fd G A d = v) (h0 : 0 ≤ v) (hm : ∀ d, b_nb c d → s_lit G A r d → v ≤ s_fd G A d) : s_nl G A r c = v := by
  have g : ∀ x, b_nb c x → s_l1 G A r x = -1 ∨ v ≤ s_l1 G A r x := fun x hx => by
    by_cases z : s_lit G A r x
    · rw [s_l1_y z]
      exact Or.inr (hm x hx z)
    · exact Or.inl (s_l1_n z)
  have ed : s_l1 G A r d = v := (s_l1_y hl).trans e
  have g1 := g (c - 8) (by unfold b_nb; omega)
  have g2 := g (c - 1) (by unfold b_nb; omega)
  have g3 := g (c + 1) (by unfold b_nb; omega)
  have g4 := g (c + 8) (by unfold b_nb; omega)
  unfold s_nl
  unfold b_nb at hb
  rcases hb with z | z | z | z <;> rw [z] at ed
  · exact s_mn_l (s_mn_l ed h0 g2) h0 (s_mn_ge g3 g4)
  · exact s_mn_l (s_mn_r ed h0 g1) h0 (s_mn_ge g3 g4)
  · exact s_mn_r (s_mn_l ed h0 g4) h0 (s_mn_ge g1 g2)
  · exact s_mn_r (s_mn_r ed h0 g3) h0 (s_mn_ge g1 g2)
end SN
/-- far, beam and exposed are as the pit makes them -/
def cx_light (G A : aR) (r : Int) (S : dg_S) : Prop :=
  (∀ c, cx_far S c = s_fd G A c) ∧
  (∀ x : Int, 0 ≤ x → x < 72 → (cx_bm S x = 1000 ∧ s_nl G A r (x - 8) = -1) ∨ (cx_bm S x = s_nl G A r (x - 8) ∧ 0 ≤ s_nl G A r (x - 8) ∧ s_nl G A r (x - 8) < 1000)) ∧
  ∃ ec : Nat, (zI S 214 4).toInt = ec ∧ ec ≤ 72 ∧
  (∀ i, i < ec → (0 ≤ cx_ex S i ∧ cx_ex S i < 72) ∧ s_so G A (cx_ex S i - 8) ∧ cx_bm S (cx_ex S i) ≠ 1000) ∧
  (∀ i j, i < ec → j < ec → cx_ex S i = cx_ex S j → i = j) ∧
  (∀ x : Int, 0 ≤ x → x < 72 → s_so G A (x - 8) → cx_bm S x ≠ 1000 → ∃ i, i < ec ∧ cx_ex S i = x)
def k_sp (S S1 : dg_S) : Prop := kp (fun a b => a = 214 ∧ (b = 4 ∨ b = 9)) (fun a => 217 ≤ a ∧ a ≤ 220) S S1
theorem k_sp.ce {G A : aR} {S S1 : dg_S} {p : Nat} (h : k_sp S S1) (hp : pX p) (c : cx_ce G A S p) : cx_ce G A S1 p := c.keep (h.2 (p + 1) (by have := pX_sep hp; omega)).1
def k_lo (S S1 : dg_S) : Prop := kp (fun a b => a = 214 ∧ b = 4) (fun a => 217 ≤ a ∧ a ≤ 220) S S1
theorem k_lo.ce {G A : aR} {S S1 : dg_S} {p : Nat} (h : k_lo S S1) (hp : pX p) (c : cx_ce G A S p) : cx_ce G A S1 p := c.keep (h.2 (p + 1) (by have := pX_sep hp; omega)).1
theorem k_lo.sp {S S1 : dg_S} (h : k_lo S S1) : k_sp S S1 := h.w (fun a b z => ⟨z.1, Or.inl z.2⟩) (fun a z => z)
theorem k_sl.lo {S S1 : dg_S} (h : k_sl S S1) : k_lo S S1 := h.w (fun a b z => absurd z id) (fun a z => by omega)
theorem k_sh.lo {S S1 : dg_S} (h : k_sh S S1) : k_lo S S1 := h.w (fun a b z => z) (fun a z => by omega)
theorem k_sl.sp {S S1 : dg_S} (h : k_sl S S1) : k_sp S S1 := h.w (fun a b z => absurd z id) (fun a z => by omega)
theorem k_sh.sp {S S1 : dg_S} (h : k_sh S S1) : k_sp S S1 := h.w (fun a b z => ⟨z.1, Or.inl z.2⟩) (fun a z => by omega)
theorem cx_L.to {G A : aR} {r : Int} {far far' : Int → Int} {D D' : Int → Int → Prop} {S : dg_S} {ec : Nat} (h : cx_L G A r far D S ec) (hf : ∀ c d, D c d → far' c = far c) (h1 : ∀ c d, D c d → D' c d) (h2 : ∀ c d, D' c d → cx_lq G A r far' c → D c d) : cx_L G A r far' D' S ec := by
  obtain ⟨a, b, e, g⟩ := h
  refine ⟨fun x x0 x1 => ?_, b, e, g⟩
  rcases a x x0 x1 with ⟨z1, z2⟩ | ⟨c, d1, d2, d3, d4, d5⟩
  · refine Or.inl ⟨z1, fun c hc hl => ?_⟩
    have hd := h2 c _ hc hl
    exact z2 c hd ⟨hl.1, by rw [← hf c _ hd]; exact hl.2⟩
  · refine Or.inr ⟨c, h1 c _ d1, ⟨d2.1, by rw [hf c _ d1]; exact d2.2⟩, by rw [hf c _ d1]; exact d3, by rw [hf c _ d1]; exact d4, fun c' hc' hl' => ?_⟩
    have hd := h2 c' _ hc' hl'
    rw [hf c _ d1, hf c' _ hd]
    exact d5 c' hd ⟨hl'.1, by rw [← hf c' _ hd]; exact hl'.2⟩
section XS
variable {G A : aR} {S0 S S1 : dg_S} {p o : Nat} {a : Int32} {r cc : Int} {far : Int → Int} {D : Int → Int → Prop} {ec : Nat}
theorem cx_shine (hp : pX p) (hS : zR o S 214 7 = p) (hc : cx_ce G A S p) (h : cx_L G A r far D S ec) (ha : 8 ≤ a.toInt ∧ a.toInt ≤ 63) (hcc : cc = a.toInt - 8) (hl : cx_lq G A r far cc) (hfx : (S.2.1 217 a.toNatClampNeg).toInt = far cc) (hf0 : 0 ≤ far cc ∧ far cc < 1000) (hm : ∀ c d, D c d → cx_lq G A r far c → far c ≤ far cc) (hmm : (zI S 214 4).toInt = ec) :
    ∃ (S1 : dg_S) (e1 : Nat), F_w_shineFrom o S a = S1 ∧ (zI S1 214 4).toInt = e1 ∧ cx_L G A r far (fun c d => D c d ∨ (c = cc ∧ b_nb cc d)) S1 e1 ∧ k_sh S S1 := by
  have hm2 : ∀ (E : Int → Int → Prop), (∀ c d, E c d → cx_lq G A r far c → far c ≤ far cc) → ∀ b c d, (E c d ∨ (c = cc ∧ d = cc + b)) → cx_lq G A r far c → far c ≤ far cc := fun E hE b c d hd hl2 => by
    rcases hd with z | z
    · exact hE c d z hl2
    · rw [z.1]
      exact Int.le_refl _
  obtain ⟨m1, S1, e1, f1, n1, L1, t1, g1⟩ := cx_sh1 (fx := S.2.1 217 a.toNatClampNeg) (S0 := S) (i := 0) (sd := -8) (b := -8) (m := zI S 214 4) hp hS hc h ha hcc hl hfx hf0 hm (by decide +kernel) (by decide +kernel) (by decide +kernel) (by omega) hmm
  obtain ⟨m2, S2, e2, f2, n2, L2, t2, g2⟩ := cx_sh1 (fx := S.2.1 217 a.toNatClampNeg) (S0 := S) (i := 0 + 1) (sd := -1) (b := -1) (m := m1) hp hS (t1.ce hp hc) L1 ha hcc hl hfx hf0 (hm2 _ hm _) (by decide +kernel) (by decide +kernel) (by decide +kernel) (by omega) n1
  obtain ⟨m3, S3, e3, f3, n3, L3, t3, g3⟩ := cx_sh1 (fx := S.2.1 217 a.toNatClampNeg) (S0 := S) (i := 0 + 1 + 1) (sd := 1) (b := 1) (m := m2) hp hS (t2.ce hp (t1.ce hp hc)) L2 ha hcc hl hfx hf0 (hm2 _ (hm2 _ hm _) _) (by decide +kernel) (by decide +kernel) (by decide +kernel) (by omega) n2
  obtain ⟨m4, S4, e4, f4, n4, L4, t4, g4⟩ := cx_sh1 (fx := S.2.1 217 a.toNatClampNeg) (S0 := S) (i := 0 + 1 + 1 + 1) (sd := 8) (b := 8) (m := m3) hp hS (t3.ce hp (t2.ce hp (t1.ce hp hc))) L3 ha hcc hl hfx hf0 (hm2 _ (hm2 _ (hm2 _ hm _) _) _) (by decide +kernel) (by decide +kernel) (by decide +kernel) (by omega) n3
  have e5 : F_w_shineFrom_B1 a (S.2.1 217 a.toNatClampNeg) o S (0 + 1 + 1 + 1 + 1, m4, S4) = .inr S4 := F_w_shineFrom_p0 (by decide +kernel)
  have w1 : zI S1 214 4 = m1 := by
    rcases g1 with z | z
    · exact z.symm
    · rw [z.2, z.1]
  have w2 : zI S2 214 4 = m2 := by
    rcases g2 with z | z
    · exact z.symm
    · rw [z.2, z.1, w1]
  have w3 : zI S3 214 4 = m3 := by
    rcases g3 with z | z
    · exact z.symm
    · rw [z.2, z.1, w2]
  have w4 : zI S4 214 4 = m4 := by
    rcases g4 with z | z
    · exact z.symm
    · rw [z.2, z.1, w3]
  refine ⟨S4, e4, ?_, by rw [w4]; exact n4, ?_, ((t1.tr t2).tr t3).tr t4⟩
  · rw [F_w_shineFrom_p4 rfl rfl, show ((5 - ((0 : Int32)).toInt).toNat + 1) = 5 + 1 by decide +kernel, lp_sl f1, lp_sl f2, lp_sl f3, lp_sl f4, lp_sr e5]
  · refine L4.to (fun _ _ _ => rfl) (fun c d hd => ?_) (fun c d hd _ => ?_)
    · rcases hd with (((z | z) | z) | z) | z
      · exact Or.inl z
      · exact Or.inr ⟨z.1, by unfold b_nb; omega⟩
      · exact Or.inr ⟨z.1, by unfold b_nb; omega⟩
      · exact Or.inr ⟨z.1, by unfold b_nb; omega⟩
      · exact Or.inr ⟨z.1, by unfold b_nb; omega⟩
    · rcases hd with z | ⟨z, z2⟩
      · exact Or.inl (Or.inl (Or.inl (Or.inl z)))
      · unfold b_nb at z2
        rcases z2 with z2 | z2 | z2 | z2
        · exact Or.inl (Or.inl (Or.inl (Or.inr ⟨z, by omega⟩)))
        · exact Or.inl (Or.inl (Or.inr ⟨z, by omega⟩))
        · exact Or.inl (Or.inr ⟨z, by omega⟩)
        · exact Or.inr ⟨z, by omega⟩
end XS
end
section
/-! the class spreads light, all of it -/
section XT
variable {G A : aR} {S0 S S1 : dg_S} {p g o k w : Nat} {a : Int32} {r : Int}
/-- where the spreading stands -/
def cx_LP (G A : aR) (r : Int) (S0 S : dg_S) (k w : Nat) : Prop := cx_B G A S k w (fun _ => False) ∧ ∃ ec : Nat, (zI S 214 4).toInt = ec ∧ cx_L G A r (cx_far S) (fun c d => b_nb c d ∧ ∃ i, i < k ∧ cx_q S i = c) S ec
theorem cx_same {k1 w1 : Nat} {N N1 : Int → Prop} (h : cx_B G A S k w N) (h1 : cx_B G A S1 k1 w1 N1) (hq : ∀ i, i < w → cx_q S1 i = cx_q S i) (hw : w ≤ w1) {i : Nat} (hi : i < w) : cx_far S1 (cx_q S i) = cx_far S (cx_q S i) := by
  obtain ⟨-, n, e, -, d⟩ := h.2.2.1 i hi
  obtain ⟨-, n1, e1, -, d1⟩ := h1.2.2.1 i (by omega)
  rw [hq i hi] at e1 d1
  have a : ¬ n < n1 := fun z => d1.2 n z d.1
  have b : ¬ n1 < n := fun z => d.2 n1 z d1.1
  rw [e, e1]
  omega
theorem cx_turn (hG : G 0 0 ≤ 7 ∧ G 0 1 ≤ 7) (hp : pX p) (hS : zR o S0 214 7 = p) (hS2 : zR o S 214 7 = p) (hr : (zI S0 214 8).toInt = r) (hc : cx_ce G A S p) (h : cx_LP G A r S0 S k w) (hk : k < w) {kI wI eI : Int32} (hkI : kI.toInt = k) (hwI : wI.toInt = w) :
    ∃ (w1 : Nat) (wI1 eI1 : Int32) (S1 : dg_S), F_w_spreadLight_B2 o S0 (kI, wI, eI, S) = .inl (kI + 1, wI1, eI1, S1) ∧ wI1.toInt = w1 ∧ (kI + 1).toInt = ((k + 1 : Nat) : Int) ∧ k_lo S S1 ∧ cx_LP G A r S0 S1 (k + 1) w1 := by
  obtain ⟨hB, ec, hec, hL⟩ := h
  have w64 := hB.w64
  have hq := (hB.2.2.1 k hk).1
  have hq0 : 0 ≤ cx_q S k ∧ cx_q S k < 56 := s_in_56 hG hq.2.2.1
  have c0 : ¬ wI ≤ kI := fun z => by
    have := dk_lec (k := kI.toInt) rfl z
    omega
  have ek : (kI + 1).toInt = ((k + 1 : Nat) : Int) := by
    rw [dk_addT (a := (k : Int)) (b := 1) hkI (by decide +kernel) (by omega) (by omega)]
    omega
  have ekn : kI.toNatClampNeg = k := by rw [dk_clN]; omega
  obtain ⟨a, ha⟩ : ∃ a, a = S.2.1 220 kI.toNatClampNeg := ⟨_, rfl⟩
  have hqa : a.toInt - 8 = cx_q S k := by rw [ha, ekn]; rfl
  have hat : cx_at S p a.toInt = (S.2.1 (p + 1) a.toNatClampNeg).toInt := rfl
  have hps := hc.ps (x := a.toInt) (by omega) (by omega)
  rw [hqa] at hps
  obtain ⟨n, en, ni, -⟩ := (hB.2.2.1 k hk).2
  have hfk : cx_far S (cx_q S k) = (S.2.1 217 a.toNatClampNeg).toInt := by
    unfold cx_far
    rw [if_pos (by omega), show cx_q S k + 8 = a.toInt by omega]
    rfl
  have ext : ∀ (S1 : dg_S) (w1 : Nat), cx_B G A S1 (k + 1) w1 (fun _ => False) → (∀ i, i < w → cx_q S1 i = cx_q S i) → (∀ i, i < w → cx_far S1 (cx_q S i) = cx_far S (cx_q S i)) → (¬ cx_lq G A r (cx_far S) (cx_q S k)) → cx_L G A r (cx_far S) (fun c d => b_nb c d ∧ ∃ i, i < k ∧ cx_q S i = c) S1 ec → cx_L G A r (cx_far S1) (fun c d => b_nb c d ∧ ∃ i, i < k + 1 ∧ cx_q S1 i = c) S1 ec := by
    intro S1 w1 B1 q1 f1 nl L1
    refine L1.to (fun c d hd => ?_) (fun c d hd => ?_) (fun c d hd hl => ?_)
    · obtain ⟨-, i, hi, ei⟩ := hd
      rw [← ei]
      exact f1 i (by omega)
    · obtain ⟨hn, i, hi, ei⟩ := hd
      exact ⟨hn, i, by omega, by rw [q1 i (by omega)]; exact ei⟩
    · obtain ⟨hn, i, hi, ei⟩ := hd
      by_cases z : i < k
      · exact ⟨hn, i, z, by rw [← q1 i (by omega)]; exact ei⟩
      · have z1 : i = k := by omega
        subst z1
        rw [q1 i hk] at ei
        refine absurd ?_ nl
        rw [← ei] at hl
        exact ⟨hl.1, by rw [← f1 i hk]; exact hl.2⟩
  have keepL : ∀ S1, k_sl S S1 → cx_L G A r (cx_far S) (fun c d => b_nb c d ∧ ∃ i, i < k ∧ cx_q S i = c) S ec → cx_L G A r (cx_far S) (fun c d => b_nb c d ∧ ∃ i, i < k ∧ cx_q S i = c) S1 ec := by
    intro S1 t L
    have e1 : cx_bm S1 = cx_bm S := by
      funext x
      unfold cx_bm
      rw [(t.2 218 (by omega)).1]
    have e2 : cx_ex S1 = cx_ex S := by
      funext x
      unfold cx_ex
      rw [(t.2 219 (by omega)).1]
    unfold cx_L at L ⊢
    rw [e1, e2]
    exact L
  by_cases q1 : S.2.1 (p + 1) a.toNatClampNeg = (255 : Int32)
  · have hp1 : s_ps G A (cx_q S k) := hps.mp (by rw [hat, q1]; decide +kernel)
    by_cases q2 : zI S0 214 8 < S.2.1 217 a.toNatClampNeg
    · have d2 := dk_ltc (k := (S.2.1 217 a.toNatClampNeg).toInt) rfl q2
      obtain ⟨m1, S1, w1, e1, n1, B1, t1, q3, w3⟩ := cx_step (o := o) (m := wI) hG hp hS2 hc hB hk hqa hp1 hwI
      have hf1 : ∀ i, i < w → cx_far S1 (cx_q S i) = cx_far S (cx_q S i) := fun i hi => cx_same hB B1 q3 (by omega) hi
      refine ⟨w1, m1, eI, S1, F_w_spreadLight_p2 c0 ha hS.symm rfl q1 rfl rfl q2 (by rw [e1]) (by rw [e1]) rfl, n1, ek, t1.lo, B1, ec, ?_, ext S1 w1 B1 q3 hf1 (fun z => ?_) (keepL S1 t1 hL)⟩
      · rw [t1.I (fun z => z)]
        exact hec
      · have := z.2
        omega
    · have d2 := dk_nltc (k := (S.2.1 217 a.toNatClampNeg).toInt) rfl q2
      have hl : cx_lq G A r (cx_far S) (cx_q S k) := ⟨hp1, by omega⟩
      obtain ⟨S1, e1, f1, n1, L1, t1⟩ := cx_shine (o := o) (a := a) hp hS2 hc hL (by omega) hqa.symm hl hfk.symm (by omega) (fun c d hd hl2 => by
        obtain ⟨-, i, hi, ei⟩ := hd
        rw [← ei]
        exact hB.2.2.2.1 i k (by omega) hk) hec
      have B0 : cx_B G A S1 k w (fun _ => False) := by
        have r1 : cx_far S1 = cx_far S := by
          funext c
          unfold cx_far
          rw [(t1.2 217 (by omega)).1]
        have r2 : cx_q S1 = cx_q S := by
          funext i
          unfold cx_q
          rw [(t1.2 220 (by omega)).1]
        unfold cx_B
        rw [r1, r2]
        exact hB
      have r1 : cx_far S1 = cx_far S := by
        funext c
        unfold cx_far
        rw [(t1.2 217 (by omega)).1]
      have r2 : cx_q S1 = cx_q S := by
        funext i
        unfold cx_q
        rw [(t1.2 220 (by omega)).1]
      obtain ⟨m2, S2, w2, e2, n2, B2, t2, q3, w3⟩ := cx_step (o := o) (m := wI) hG hp (by rw [t1.R (fun z => absurd z.2 (by decide))]; exact hS2) (t1.ce hp hc) B0 hk (by rw [r2]; exact hqa) (by rw [r2]; exact hp1) hwI
      have hf2 : ∀ i, i < w → cx_far S2 (cx_q S i) = cx_far S (cx_q S i) := fun i hi => by
        have := cx_same B0 B2 q3 (by omega) hi
        rw [r1, r2] at this
        exact this
      have q4 : ∀ i, i < w → cx_q S2 i = cx_q S i := fun i hi => by rw [q3 i hi, r2]
      refine ⟨w2, m2, zI S1 214 4, S2, F_w_spreadLight_p3 c0 ha hS.symm rfl q1 rfl rfl q2 f1.symm rfl (by rw [e2]) (by rw [e2]) rfl, n2, ek, t1.lo.tr t2.lo, B2, e1, ?_, ?_⟩
      · rw [t2.I (fun z => z)]
        exact n1
      · have b1 : cx_bm S2 = cx_bm S1 := by
          funext x
          unfold cx_bm
          rw [(t2.2 218 (by omega)).1]
        have b2 : cx_ex S2 = cx_ex S1 := by
          funext x
          unfold cx_ex
          rw [(t2.2 219 (by omega)).1]
        have L2 : cx_L G A r (cx_far S) (fun c d => (b_nb c d ∧ ∃ i, i < k ∧ cx_q S i = c) ∨ (c = cx_q S k ∧ b_nb (cx_q S k) d)) S2 e1 := by
          unfold cx_L at L1 ⊢
          rw [b1, b2]
          exact L1
        refine L2.to (fun c d hd => ?_) (fun c d hd => ?_) (fun c d hd hl => ?_)
        · rcases hd with ⟨-, i, hi, ei⟩ | ⟨ei, -⟩
          · rw [← ei]
            exact hf2 i (by omega)
          · rw [ei]
            exact hf2 k hk
        · rcases hd with ⟨hn, i, hi, ei⟩ | ⟨ei, hn⟩
          · exact ⟨hn, i, by omega, by rw [q4 i (by omega)]; exact ei⟩
          · exact ⟨by rw [ei]; exact hn, k, by omega, by rw [q4 k hk]; exact ei.symm⟩
        · obtain ⟨hn, i, hi, ei⟩ := hd
          by_cases z : i < k
          · exact Or.inl ⟨hn, i, z, by rw [← q4 i (by omega)]; exact ei⟩
          · have z1 : i = k := by omega
            subst z1
            rw [q4 i hk] at ei
            exact Or.inr ⟨ei.symm, by rw [ei]; exact hn⟩
  · have np : ¬ s_ps G A (cx_q S k) := fun z => q1 (dk_eqp (k := 255) (by decide +kernel) (by rw [← hat]; exact hps.mpr z))
    have B1 : cx_B G A S (k + 1) w (fun _ => False) := hB.next hk (fun z => absurd z np)
    exact ⟨w, wI, eI, S, F_w_spreadLight_p1 c0 ha hS.symm rfl q1 rfl, hwI, ek, kp.rf, B1, ec, hec, ext S w B1 (fun _ _ => rfl) (fun _ _ => rfl) (fun z => np z.1) hL⟩
theorem cx_loop (hG : G 0 0 ≤ 7 ∧ G 0 1 ≤ 7) (hp : pX p) (hS : zR o S0 214 7 = p) (hr : (zI S0 214 8).toInt = r) {z : dg_S} : ∀ (n k w : Nat) (kI wI eI : Int32) (S : dg_S), 65 ≤ n + k → zR o S 214 7 = p → cx_ce G A S p → cx_LP G A r S0 S k w → kI.toInt = k → wI.toInt = w → ∃ (S1 : dg_S) (k1 w1 : Nat), lp (F_w_spreadLight_B2 o S0) z n (kI, wI, eI, S) = S1 ∧ cx_LP G A r S0 S1 k1 w1 ∧ w1 ≤ k1 ∧ k_lo S S1 := by
  intro n
  induction n with
  | zero =>
    intro k w kI wI eI S hn hS2 hc h hk hw
    have := h.1.w64
    have := h.1.1.2.1
    omega
  | succ n ih =>
    intro k w kI wI eI S hn hS2 hc h hk hw
    have w64 := h.1.w64
    by_cases q : k < w
    · obtain ⟨w1, wI1, eI1, S1, e1, n1, k1, t1, L1⟩ := cx_turn (eI := eI) hG hp hS hS2 hr hc h q hk hw
      obtain ⟨S2, k2, w2, e2, L2, l2, t2⟩ := ih (k + 1) w1 (kI + 1) wI1 eI1 S1 (by omega) (by rw [t1.R (fun z => by omega)]; exact hS2) (t1.ce hp hc) L1 k1 n1
      exact ⟨S2, k2, w2, by rw [lp_sl e1]; exact e2, L2, l2, t1.tr t2⟩
    · have c0 : wI ≤ kI := dk_lep (k := kI.toInt) rfl (by omega)
      exact ⟨S, k, w, lp_sr (F_w_spreadLight_p0 c0), h, by omega, kp.rf⟩
/-- far, beam and exposed as the pit makes them -/
theorem cx_spread (hG : (0 < G 0 0 ∧ 0 < G 0 1) ∧ G 0 0 ≤ 7 ∧ G 0 1 ≤ 7) (hp : pX p) (hS : zR o S 214 7 = p) (hg : zR o S 214 6 = g) (hgs : g ≠ 214) (hr : (zI S 214 8).toInt = r) (hr9 : 0 ≤ r ∧ r ≤ 900) (hc : cx_ce G A S p) (hsh : (zI S g 2).toInt = G 0 2 + 8) (hs0 : 0 ≤ G 0 2) (hps : s_ps G A (G 0 2)) (hst : (zI S 214 9).toInt ≠ 0) : ∃ S1, F_w_spreadLight o S = S1 ∧ cx_light G A r S1 ∧ k_sp S S1 ∧ (zI S1 214 9).toInt = 0 := by
  have hsi := s_in_56 hG.2 hps.1
  have q0 : ¬ zI S 214 9 = (0 : Int32) := fun z => hst (dk_eqc (k := 0) (by decide +kernel) z)
  obtain ⟨S4, hS4⟩ : ∃ S4, S4 = dg_uF S 214 9 (.int (0 : Int32)) := ⟨_, rfl⟩
  obtain ⟨S6, hS6⟩ : ∃ S6, S6 = dg_uf S4 217 (dk_fl (S4.2.1 217) (-1 : Int32) 72) := ⟨_, rfl⟩
  obtain ⟨S8, hS8⟩ : ∃ S8, S8 = dg_uf S6 218 (dk_fl (S6.2.1 218) (1000 : Int32) 72) := ⟨_, rfl⟩
  obtain ⟨S10, hS10⟩ : ∃ S10, S10 = dg_uF S8 214 4 (.int (0 : Int32)) := ⟨_, rfl⟩
  have t10 : k_sp S S10 := by
    rw [hS10, hS8, hS6, hS4]
    exact kp.uF (kp.uf (kp.uf (kp.uF kp.rf ⟨rfl, Or.inr rfl⟩) ⟨by decide, by decide⟩) ⟨by decide, by decide⟩) ⟨rfl, Or.inl rfl⟩
  have q1 : ¬ zI S g 2 = (-1 : Int32) := fun z => by
    have := dk_eqc (k := -1) (by decide +kernel) z
    omega
  obtain ⟨S15, hS15⟩ : ∃ S15, S15 = dg_uf S10 217 (upd (S10.2.1 217) (zI S g 2).toNatClampNeg (0 : Int32)) := ⟨_, rfl⟩
  obtain ⟨S18, hS18⟩ : ∃ S18, S18 = dg_uf S15 220 (upd (S15.2.1 220) (0 : Int32).toNatClampNeg (zI S g 2)) := ⟨_, rfl⟩
  have t18 : k_sp S S18 := by
    rw [hS18, hS15]
    exact kp.uf (kp.uf t10 ⟨by decide, by decide⟩) ⟨by decide, by decide⟩
  have en : (zI S g 2).toNatClampNeg = (G 0 2 + 8).toNat := by rw [dk_clN, hsh]
  have z0 : (0 : Int32).toInt = 0 := by decide +kernel
  have m1 : (-1 : Int32).toInt = -1 := by decide +kernel
  have k1 : (1000 : Int32).toInt = 1000 := by decide +kernel
  have zn : (0 : Int32).toNatClampNeg = 0 := by decide +kernel
  have r217 : ∀ j, j < 72 → S18.2.1 217 j = if j = (G 0 2 + 8).toNat then (0 : Int32) else -1 := fun j hj => by
    rw [hS18, w_f, if_neg (by decide), hS15, w_f, if_pos rfl, w_u, en]
    by_cases z : j = (G 0 2 + 8).toNat
    · rw [if_pos z, if_pos z]
    · rw [if_neg z, if_neg z, hS10, w_Ff, hS8, w_f, if_neg (by decide), hS6, w_f, if_pos rfl]
      unfold dk_fl
      rw [if_pos hj]
  have r218 : ∀ j, j < 72 → S18.2.1 218 j = (1000 : Int32) := fun j hj => by
    rw [hS18, w_f, if_neg (by decide), hS15, w_f, if_neg (by decide), hS10, w_Ff, hS8, w_f, if_pos rfl]
    unfold dk_fl
    rw [if_pos hj]
  have r220 : S18.2.1 220 0 = zI S g 2 := by
    rw [hS18, w_f, if_pos rfl, w_u, zn, if_pos rfl]
  have f0 : cx_far S18 (G 0 2) = 0 := by
    unfold cx_far
    rw [if_pos (by omega), r217 _ (by omega), if_pos rfl]
    exact z0
  have fn : ∀ c, c ≠ G 0 2 → cx_far S18 c = -1 := fun c hc1 => by
    unfold cx_far
    by_cases z : 0 ≤ c + 8 ∧ c + 8 < 72
    · rw [if_pos z, r217 _ (by omega), if_neg (by omega)]
      exact m1
    · rw [if_neg z]
  have B0 : cx_B G A S18 0 1 (fun _ => False) := by
    refine b_I.init ?_ f0 fn ⟨hs0, by omega⟩ ⟨hps.1, by have := hps.2; omega⟩
    unfold cx_q
    rw [r220, hsh]
    omega
  have i4 : zI S18 214 4 = (0 : Int32) := by
    rw [hS18, w_If, hS15, w_If, hS10, w_I, if_pos ⟨rfl, rfl⟩]
  have L0 : cx_LP G A r S S18 0 1 := by
    refine ⟨B0, 0, by rw [i4]; exact z0, fun x x0 x1 => Or.inl ⟨?_, fun c hc1 => ?_⟩, fun i hi => absurd hi (Nat.not_lt_zero i), fun i j hi => absurd hi (Nat.not_lt_zero i), fun x x0 x1 _ xb => absurd ?_ xb⟩
    · unfold cx_bm
      rw [r218 _ (by omega)]
      exact k1
    · obtain ⟨-, i, hi, -⟩ := hc1
      exact absurd hi (Nat.not_lt_zero i)
    · unfold cx_bm
      rw [r218 _ (by omega)]
      exact k1
  obtain ⟨S1, k1', w1, e1, L1, l1, t1⟩ := cx_loop (o := o) (z := S) hG.2 hp hS hr 74 0 1 (0 : Int32) (1 : Int32) (0 : Int32) S18 (by omega) (by rw [t18.R (fun z => by omega)]; exact hS) (t18.ce hp hc) L0 z0 (by decide +kernel)
  refine ⟨S1, ?_, ?_, t18.tr t1.sp, ?_⟩
  · rw [F_w_spreadLight_p6 rfl q0 hS4 rfl hS6 rfl hS8 hS10, F_w_spreadLight_p4 hg.symm rfl q1 hS15 hS18]
    exact e1
  · obtain ⟨B1, ec, hec, LL⟩ := L1
    have hfd : ∀ c, cx_far S1 c = s_fd G A c := fun c => s_fd_eq (B1.far l1) c
    have lit : ∀ c, s_lit G A r c ↔ cx_lq G A r (cx_far S1) c ∧ ∃ i, i < k1' ∧ cx_q S1 i = c := fun c => by
      constructor
      · rintro ⟨a, b, d⟩
        rw [← hfd] at b d
        obtain ⟨i, hi, ei⟩ := B1.2.1 c b
        exact ⟨⟨a, d⟩, i, by omega, ei⟩
      · rintro ⟨⟨a, d⟩, i, hi, ei⟩
        have hkw := B1.1.2.1
        obtain ⟨-, n, en1, -⟩ := B1.2.2.1 i (by omega)
        rw [ei] at en1
        exact ⟨a, by rw [← hfd]; omega, by rw [← hfd]; exact d⟩
    have e72 := LL.ec
    obtain ⟨la, lb, lc, ld⟩ := LL
    refine ⟨hfd, fun x x0 x1 => ?_, ec, hec, e72, lb, lc, ld⟩
    rcases la x x0 x1 with ⟨z1, z2⟩ | ⟨c, ⟨d1, d1'⟩, d2, d3, d4, d5⟩
    · refine Or.inl ⟨z1, s_nl_n (fun d hd hl => ?_)⟩
      obtain ⟨l1', l2'⟩ := (lit d).mp hl
      exact z2 d ⟨hd.sym, l2'⟩ l1'
    · have hl := (lit c).mpr ⟨d2, d1'⟩
      have h0 : 0 ≤ cx_far S1 c := by
        obtain ⟨i, hi, ei⟩ := d1'
        have hkw := B1.1.2.1
        obtain ⟨-, n, en1, -⟩ := B1.2.2.1 i (by omega)
        rw [ei] at en1
        omega
      have hn := s_nl_y (v := cx_far S1 c) d1.sym hl (hfd c).symm h0 (fun d hd hld => by
        obtain ⟨l1', l2'⟩ := (lit d).mp hld
        rw [← hfd]
        exact d5 d ⟨hd.sym, l2'⟩ l1')
      exact Or.inr ⟨by rw [hn]; exact d3, by rw [hn]; exact h0, by rw [hn]; exact d4⟩
  · have e9 : zI S18 214 9 = (0 : Int32) := by
      rw [hS18, w_If, hS15, w_If, hS10, w_I, if_neg (by decide), hS8, w_If, hS6, w_If, hS4, w_I, if_pos ⟨rfl, rfl⟩]
    have e9' : zI S1 214 9 = zI S18 214 9 := t1.I (fun z => by omega)
    rw [e9', e9]
    exact z0
end XT
end
section
/-! the class digs: what a rule tells of a cell -/
theorem rX_sep {g : Nat} (h : rX g) : 185 ≤ g ∧ g + 11 ≤ 208 := by
  have h1 : ∀ g ∈ alX.getD 0 [], 185 ≤ g ∧ g + 11 ≤ 208 := by decide +kernel
  exact h1 g h
/-- a rule's steps as they lie in a ground -/
def cx_code (S : dg_S) (g w : Nat) (C : List Int) : Prop := ∃ fr : Int, 0 ≤ fr ∧ fr + C.length ≤ 1600 ∧ (S.2.1 (g + 10) w).toInt = fr ∧ (S.2.1 (g + 11) w).toInt = fr + C.length ∧ ∀ i, i < C.length → (S.2.1 (g + 9) (fr.toNat + i)).toInt = C.getD i 0
theorem e_run_congr {env env' : Int → Int} : ∀ (C : List Int) (q : e_S), (∀ s ∈ C, -7 ≤ s → s < 0 → env s = env' s) → e_run env C q = e_run env' C q
  | [], _, _ => rfl
  | s :: C, q, h => by
    have e : e_st env s q = e_st env' s q := by
      unfold e_st
      by_cases c0 : 0 ≤ s
      · rw [if_pos c0, if_pos c0]
      · rw [if_neg c0, if_neg c0]
        by_cases c1 : -7 ≤ s
        · rw [if_pos c1, if_pos c1, h s (List.mem_cons_self ..) c1 (by omega)]
        · rw [if_neg c1, if_neg c1]
    show e_run env C (e_st env s q) = e_run env' C (e_st env' s q)
    rw [e]
    exact e_run_congr C _ (fun s' hs => h s' (List.mem_cons_of_mem _ hs))
theorem s_ev_congr {env env' : Int → Int} {C : List Int} (h : ∀ s ∈ C, -7 ≤ s → s < 0 → env s = env' s) : s_ev env C = s_ev env' C := by
  unfold s_ev
  rw [e_run_congr C _ h]
section XK
variable {G A : aR} {S S1 : dg_S} {o g p : Nat} {a1 a2 a : Int32} {w : Nat} {C : List Int} {env : Int → Int} {b : Bool} {r c : Int}
theorem cx_hasRule (hw : a1.toNatClampNeg = w) (h : cx_code S g w C) : (F_g_hasRule o S g a1 = 0 ↔ C = []) := by
  obtain ⟨fr, f0, f1, f2, f3, -⟩ := h
  by_cases q : S.2.1 (g + 11) a1.toNatClampNeg ≤ S.2.1 (g + 10) a1.toNatClampNeg
  · have := w_le.mp q
    rw [hw] at this
    rw [F_g_hasRule_p0 rfl rfl q]
    refine ⟨fun _ => List.eq_nil_of_length_eq_zero (by omega), fun _ => rfl⟩
  · have : ¬ (S.2.1 (g + 11) a1.toNatClampNeg).toInt ≤ (S.2.1 (g + 10) a1.toNatClampNeg).toInt := fun z => q (w_le.mpr z)
    rw [hw] at this
    rw [F_g_hasRule_p1 rfl rfl q]
    refine ⟨fun z => absurd z (by decide +kernel), fun z => ?_⟩
    rw [z] at f3
    have : (([] : List Int).length : Int) = 0 := rfl
    omega
theorem cx_value0 (hw : a1.toNatClampNeg = w) (h : cx_code S g w []) : F_r_valueOf o S g a1 a2 = (S, a2) := F_r_valueOf_p10 rfl ((cx_hasRule hw h).mpr rfl)
theorem cx_value (hg : rX g) (hw : a1.toNatClampNeg = w) (h : cx_code S g w C) (hC : C ≠ []) (hty : e_ty C [] = some [b]) (hb : ∀ s ∈ C, -6 ≤ s → s < 0 → -1000000 ≤ cx_env S s ∧ cx_env S s ≤ 1000000) : ∃ (S1 : dg_S) (v : Int32), F_r_valueOf o S g a1 a2 = (S1, v) ∧ v.toInt = s_ev (cx_env S) C ∧ k_ru S S1 := by
  have sep := rX_sep hg
  have q : ¬ F_g_hasRule o S g a1 = (0 : Int32) := fun z => hC ((cx_hasRule hw h).mp z)
  obtain ⟨fr, f0, f1, f2, f3, f4⟩ := h
  obtain ⟨S5, hS5⟩ : ∃ S5, S5 = dg_uF S 215 7 (.int (0 : Int32)) := ⟨_, rfl⟩
  have k5 : k_ru S S5 := by rw [hS5]; exact kp.uF kp.rf ⟨rfl, rfl⟩
  have r5 : ∀ i, S5.2.1 i = S.2.1 i := fun i => by rw [hS5, w_Ff]
  have s5 : cx_st S5 (fun _ => 0, 0) := ⟨by rw [hS5, w_I, if_pos ⟨rfl, rfl⟩]; decide +kernel, fun i hi => absurd hi (Nat.not_lt_zero i)⟩
  have efr : (S5.2.1 (g + 10) a1.toNatClampNeg).toInt = fr := by rw [r5, hw]; exact f2
  obtain ⟨S1, v, e1, ev, k1⟩ := cx_vrun (o := o) (a1 := a1) (z := (S, (0 : Int32))) (env := cx_env S) (g := g) ⟨by omega, by omega⟩ (show cx_env S (-7) = 1 from rfl) C (S5.2.1 (g + 10) a1.toNatClampNeg) S5 (fun _ => 0) [] ((1601 - ((S5.2.1 (g + 10) a1.toNatClampNeg : Int32)).toInt).toNat + 1) (fun i hi => by
    rw [r5, dk_clN, efr]
    exact f4 i hi) (by rw [efr, r5, hw]; exact f3) (by omega) (by omega) s5 trivial (by decide) hty hb k5.env (by omega)
  refine ⟨S1, v, ?_, ev, k5.tr k1⟩
  rw [F_r_valueOf_p9 rfl q hS5 rfl]
  exact e1
theorem cx_rowOf (h0 : 0 ≤ a.toInt) (h1 : a.toInt < 72) : (F_rowOf o S a).toInt = a.toInt / 8 - 1 := by
  have key : ∀ n : Nat, n < 72 → (Int32.ofInt (n : Int) >>> ((3 : Int32) &&& 31)).toInt = (n : Int) / 8 := by decide +kernel
  have e1 := key a.toInt.toNat (by omega)
  rw [show ((a.toInt.toNat : Nat) : Int) = a.toInt by omega, Int32.ofInt_toInt] at e1
  rw [F_rowOf_p0 rfl rfl]
  exact dk_subT e1 (by decide +kernel) (by omega) (by omega)
/-- what is asked of a cell -/
noncomputable def s_env (G A : aR) (r c : Int) : Int → Int := fun s => if s = -1 then s_c A c else if s = -2 then c / 8 else if s = -3 then A 0 0 else if s = -4 then s_nl G A r c else if s = -5 then s_ob G A c else if s = -6 then (if s_nl G A r c = -1 then 0 else 1) else 1
def k_te (S S1 : dg_S) : Prop := kp (fun a _ => a = 215) (fun _ => False) S S1
theorem cx_tell (hp : pX p) (hS : zR o S 214 7 = p) (hc : cx_ce G A S p) (hl : cx_light G A r S) (ha : 8 ≤ a.toInt ∧ a.toInt ≤ 63) (hso : s_so G A (a.toInt - 8)) (hsh : (zI S p 0).toInt = A 0 0) : ∃ S1, F_w_tellDigging o S a = S1 ∧ k_te S S1 ∧ ∀ s, s ≠ -4 → -7 ≤ s → s < 0 → cx_env S1 s = s_env G A r (a.toInt - 8) s := by
  have sep := pX_sep hp
  obtain ⟨S4, hS4⟩ : ∃ S4, S4 = dg_uF S 215 0 (.int (S.2.1 (p + 1) a.toNatClampNeg)) := ⟨_, rfl⟩
  obtain ⟨S7, hS7⟩ : ∃ S7, S7 = dg_uF S4 215 1 (.int (F_rowOf o S4 a)) := ⟨_, rfl⟩
  obtain ⟨S9, hS9⟩ : ∃ S9, S9 = dg_uF S7 215 2 (.int (zI S p 0)) := ⟨_, rfl⟩
  obtain ⟨S12, hS12⟩ : ∃ S12, S12 = dg_uF S9 215 4 (.int (F_p_openBeside o S9 p a)) := ⟨_, rfl⟩
  have r9 : S9.2.1 = S.2.1 := by rw [hS9, hS7, hS4]; rfl
  have r12 : S12.2.1 = S.2.1 := by rw [hS12]; exact r9
  have c9 : cx_ce G A S9 p := hc.keep (by rw [r9])
  have eob := cx_openBeside (o := o) (a := a) c9 ha.1 ha.2
  have ero := cx_rowOf (o := o) (S := S4) (a := a) (by omega) (by omega)
  have eg : (S.2.1 (p + 1) a.toNatClampNeg).toInt = s_c A (a.toInt - 8) := hc.val (x := a.toInt) (by omega) (by omega) hso
  have k12 : k_te S S12 := by
    rw [hS12, hS9, hS7, hS4]
    exact kp.uF (kp.uF (kp.uF (kp.uF kp.rf rfl) rfl) rfl) rfl
  have v0 : zI S12 215 0 = S.2.1 (p + 1) a.toNatClampNeg := by
    rw [hS12, w_I, if_neg (by decide), hS9, w_I, if_neg (by decide), hS7, w_I, if_neg (by decide), hS4, w_I, if_pos ⟨rfl, rfl⟩]
  have v1 : zI S12 215 1 = F_rowOf o S4 a := by
    rw [hS12, w_I, if_neg (by decide), hS9, w_I, if_neg (by decide), hS7, w_I, if_pos ⟨rfl, rfl⟩]
  have v2 : zI S12 215 2 = zI S p 0 := by
    rw [hS12, w_I, if_neg (by decide), hS9, w_I, if_pos ⟨rfl, rfl⟩]
  have v4 : zI S12 215 4 = F_p_openBeside o S9 p a := by
    rw [hS12, w_I, if_pos ⟨rfl, rfl⟩]
  have fin : ∀ (x : Int32), x.toInt = (if s_nl G A r (a.toInt - 8) = -1 then 0 else 1) → ∀ s, s ≠ -4 → -7 ≤ s → s < 0 → cx_env (dg_uF S12 215 5 (.int x)) s = s_env G A r (a.toInt - 8) s := by
    intro x hx s h4 h7 h0
    unfold cx_env s_env
    have J : ∀ k, k ≠ 5 → zI (dg_uF S12 215 5 (.int x)) 215 k = zI S12 215 k := fun k hk => w_I0 (fun z => hk z.2)
    have J5 : zI (dg_uF S12 215 5 (.int x)) 215 5 = x := by rw [w_I, if_pos ⟨rfl, rfl⟩]
    rw [J 0 (by decide), J 1 (by decide), J 2 (by decide), J 3 (by decide), J 4 (by decide), J5, v0, v1, v2, v4, eg, ero, hsh, eob, hx]
    rw [show a.toInt / 8 - 1 = (a.toInt - 8) / 8 by omega]
    by_cases c1 : s = -1
    · rw [if_pos c1, if_pos c1]
    · rw [if_neg c1, if_neg c1]
      by_cases c2 : s = -2
      · rw [if_pos c2, if_pos c2]
      · rw [if_neg c2, if_neg c2]
        by_cases c3 : s = -3
        · rw [if_pos c3, if_pos c3]
        · rw [if_neg c3, if_neg c3, if_neg h4, if_neg h4]
  have hb := hl.2.1 a.toInt (by omega) (by omega)
  have ebm : cx_bm S a.toInt = (S12.2.1 218 a.toNatClampNeg).toInt := by rw [r12]; rfl
  by_cases q : (1000 : Int32) ≤ S12.2.1 218 a.toNatClampNeg
  · have q1 := dk_gec (k := 1000) (by decide +kernel) q
    refine ⟨dg_uF S12 215 5 (.int (0 : Int32)), ?_, k12.uF rfl, fin 0 ?_⟩
    · rw [F_w_tellDigging_p2 hS.symm rfl hS4 rfl hS7 rfl hS9 rfl hS12]
      exact F_w_tellDigging_p0 rfl q rfl
    · rw [if_pos (by omega)]
      decide +kernel
  · have q1 := dk_ngec (k := 1000) (by decide +kernel) q
    refine ⟨dg_uF S12 215 5 (.int (1 : Int32)), ?_, k12.uF rfl, fin 1 ?_⟩
    · rw [F_w_tellDigging_p2 hS.symm rfl hS4 rfl hS7 rfl hS9 rfl hS12]
      exact F_w_tellDigging_p1 rfl q rfl
    · rw [if_neg (by omega)]
      decide +kernel
end XK
end
section
/-! the class digs -/
def cx_pit (G A : aR) (S : dg_S) (p : Nat) : Prop := cx_ce G A S p ∧ (zI S p 0).toInt = A 0 0 ∧ (zI S p 1).toInt = A 0 1 ∧ (∀ k, k < 6 → (S.2.1 (p + 2) k).toInt = A 2 k) ∧ (∀ k : Nat, (k : Int) < G 0 6 → (S.2.1 (p + 3) k).toInt = A 3 k ∧ (S.2.1 (p + 4) k).toInt = A 4 k + 8) ∧ (∀ k, k < 5 → (S.2.1 (p + 5) k).toInt = A 5 k) ∧ ∀ k, k < 10 → (S.2.1 (p + 6) k).toInt = A 6 k
def s_wf (G A : aR) : Prop := (0 ≤ A 0 0 ∧ A 0 0 ≤ 999) ∧ (0 ≤ A 0 1 ∧ A 0 1 ≤ 99999) ∧ (∀ k : Nat, k < 6 → A 2 k = 0 ∨ (A 2 k = 1 ∧ (k : Int) < G 0 5)) ∧ (∀ k : Nat, (k : Int) < G 0 6 → (0 ≤ A 3 k ∧ A 3 k < min 6 (G 0 5)) ∧ s_in G (A 4 k)) ∧ (∀ k, k < 5 → A 5 k = 0 ∨ A 5 k = 1) ∧ ∀ k, k < 10 → 0 ≤ A 6 k ∧ A 6 k ≤ 99
def s_gw (G : aR) : Prop := ((0 < G 0 0 ∧ 0 < G 0 1) ∧ G 0 0 ≤ 7 ∧ G 0 1 ≤ 7) ∧ (0 ≤ G 0 2 ∧ G 0 2 < G 0 0) ∧ (0 ≤ G 0 6 ∧ G 0 6 ≤ 16)
/-- rules: 0 spoils, 1 falls, 2 gets -/
def s_cd (K : Nat → List Int) : Prop := ∀ w, w < 3 → K w ≠ [] → e_ty (K w) [] = some [w == 1] ∧ (w = 0 → -5 ∉ K w ∧ -6 ∉ K w) ∧ (w ≠ 0 → -4 ∉ K w)
def cx_gt (G : aR) (K : Nat → List Int) (S : dg_S) (g : Nat) : Prop := rX g ∧ (zI S g 2).toInt = G 0 2 + 8 ∧ (zI S g 8).toInt = G 0 6 ∧ ∀ w, w < 3 → cx_code S g w (K w)
noncomputable def s_if {α : Type} (P : Prop) (a b : α) : α := @ite α P (Classical.propDecidable P) a b
theorem s_if_y {α : Type} {P : Prop} {a b : α} (h : P) : s_if P a b = a := by
  unfold s_if
  exact if_pos h
theorem s_if_n {α : Type} {P : Prop} {a b : α} (h : ¬ P) : s_if P a b = b := by
  unfold s_if
  exact if_neg h
def s_k (G A : aR) : Nat := (A 0 0 % G 0 6).toNat
/-- a digging: what is behind it; who dug (-1: nobody), where, which grade (-1: it fell) -/
noncomputable def s_fa (G : aR) (K : Nat → List Int) (r : Int) (A : aR) (c : Int) : Prop := K 1 ≠ [] ∧ s_ev (s_env G A r c) (K 1) = 1
noncomputable def s_gr (G : aR) (K : Nat → List Int) (r : Int) (A : aR) (c : Int) : Int := s_if (K 2 = []) (s_c A c) (max 0 (min 9 (s_ev (s_env G A r c) (K 2))))
def s_no (G A : aR) : Prop := G 0 6 = 0 ∨ A 2 (A 3 (s_k G A)).toNat = 1 ∨ ¬ (s_so G A (A 4 (s_k G A)) ∧ 0 < s_ob G A (A 4 (s_k G A)))
noncomputable def s_dg (G : aR) (K : Nat → List Int) (r : Int) (A : aR) : aR × Int × Int × Int :=
  s_if (s_no G A) (A, -1, 0, 0)
    (s_if (s_fa G K r A (A 4 (s_k G A))) (s_up (s_up A 1 (A 4 (s_k G A)).toNat 0) 2 (A 3 (s_k G A)).toNat 1, A 3 (s_k G A), A 4 (s_k G A), -1)
      (s_up (s_up A 6 (s_gr G K r A (A 4 (s_k G A))).toNat (min 99 (A 6 (s_gr G K r A (A 4 (s_k G A))).toNat + 1))) 1 (A 4 (s_k G A)).toNat (-1), A 3 (s_k G A), A 4 (s_k G A), s_gr G K r A (A 4 (s_k G A))))
theorem s_c_up {A : aR} {c d v : Int} (hc : 0 ≤ c) (hd : 0 ≤ d) : s_c (s_up A 1 c.toNat v) d = if d = c then v else s_c A d := by
  unfold s_c
  by_cases h : d = c
  · rw [if_pos h, h, s_up_at]
  · rw [if_neg h, s_up_ne (fun z => h (by omega))]
theorem s_c_o {A : aR} {a b : Nat} {c v : Int} (h : a ≠ 1) : s_c (s_up A a b v) c = s_c A c := by
  unfold s_c
  rw [s_up_ne (fun z => h z.1.symm)]
theorem i_rem {x y : Int32} (hx : 0 ≤ x.toInt) (hy : 0 < y.toInt) : (x - x / y * y).toInt = x.toInt % y.toInt := by
  have hx2 := dk_full x
  have e1 : (x / y).toInt = x.toInt / y.toInt := by
    rw [Int32.toInt_div_of_ne_left x y (fun z => by rw [z] at hx; exact absurd hx (by decide +kernel))]
    exact Int.tdiv_eq_ediv_of_nonneg hx
  have h1 := Int.ediv_mul_le x.toInt (show y.toInt ≠ 0 by omega)
  have h2 : 0 ≤ x.toInt / y.toInt * y.toInt := Int.mul_nonneg (Int.ediv_nonneg hx (by omega)) (by omega)
  have e2 : (x / y * y).toInt = x.toInt / y.toInt * y.toInt := dk_mulT e1 rfl (by omega) (by omega)
  have e3 : (x - x / y * y).toInt = x.toInt - x.toInt / y.toInt * y.toInt := dk_subT rfl e2 (by omega) (by omega)
  rw [e3, Int.emod_def, Int.mul_comm]
section XL
variable {G A A' : aR} {K : Nat → List Int} {S S1 : dg_S} {o g p : Nat} {r c x v : Int}
theorem cx_ce.up (h : cx_ce G A S p) {y : Int32} (hx : 0 ≤ x ∧ x < 72) (hi : s_in G (x - 8)) (e : S1.2.1 (p + 1) = upd (S.2.1 (p + 1)) x.toNat y) (hy : y.toInt = cx_en v) (hv : -2 ≤ v ∧ v ≤ 9) : cx_ce G (s_up A 1 (x - 8).toNat v) S1 p := by
  intro z z0 z1
  obtain ⟨h1, h2⟩ := h z z0 z1
  have hx8 : 0 ≤ x - 8 := hi.1.1
  have ea : cx_at S1 p z = if z = x then y.toInt else cx_at S p z := by
    unfold cx_at
    rw [e, w_u]
    by_cases q : z = x
    · rw [if_pos (by omega), if_pos q]
    · rw [if_neg (by omega), if_neg q]
  rw [ea]
  by_cases q : z = x
  · subst q
    rw [if_pos rfl]
    refine ⟨fun _ => ?_, fun n => absurd hi n⟩
    rw [s_c_up hx8 hx8, if_pos rfl]
    exact ⟨hy, hv⟩
  · rw [if_neg q]
    refine ⟨fun hz => ?_, h2⟩
    rw [s_c_up hx8 hz.1.1, if_neg (by omega)]
    exact h1 hz
theorem s_sm (ho : s_op G A' = s_op G A) (hp : s_ps G A' = s_ps G A) : s_fd G A' = s_fd G A ∧ s_nl G A' = s_nl G A ∧ s_ob G A' = s_ob G A := by
  have e1 : s_fd G A' = s_fd G A := by
    unfold s_fd
    rw [ho, hp]
  have e2 : s_lit G A' = s_lit G A := by
    funext r c
    unfold s_lit
    rw [hp, e1]
  have e3 : s_l1 G A' = s_l1 G A := by
    funext r c
    unfold s_l1
    rw [e1, e2]
  refine ⟨e1, ?_, ?_⟩
  · funext r c
    unfold s_nl
    rw [e3]
  · funext c
    unfold s_ob
    rw [ho]
theorem cx_light.sm (h : cx_light G A r S) (ho : s_op G A' = s_op G A) (hp : s_ps G A' = s_ps G A) (hs : s_so G A' = s_so G A) (e7 : S1.2.1 217 = S.2.1 217) (e8 : S1.2.1 218 = S.2.1 218) (e9 : S1.2.1 219 = S.2.1 219) (e4 : zI S1 214 4 = zI S 214 4) : cx_light G A' r S1 := by
  obtain ⟨s1, s2, -⟩ := s_sm ho hp
  have b1 : cx_far S1 = cx_far S := by
    funext x
    unfold cx_far
    rw [e7]
  have b2 : cx_bm S1 = cx_bm S := by
    funext x
    unfold cx_bm
    rw [e8]
  have b3 : cx_ex S1 = cx_ex S := by
    funext x
    unfold cx_ex
    rw [e9]
  unfold cx_light at h ⊢
  rw [b1, b2, b3, e4, s1, s2, hs]
  exact h
end XL
end
section
/-! the class digs by its plan -/
def k_dg (p : Nat) (S S1 : dg_S) : Prop := kp (fun a b => a = 215 ∨ (a = 214 ∧ 9 ≤ b)) (fun a => a = 216 ∨ a = p + 1 ∨ a = p + 2 ∨ a = p + 6) S S1
section XM
variable {G A A' : aR} {K : Nat → List Int} {S S1 : dg_S} {o g p : Nat} {r c x v : Int}
theorem s_ob_b (c : Int) : 0 ≤ s_ob G A c ∧ s_ob G A c ≤ 4 := by
  have h1 := s_b01 (s_op G A (c - 8))
  have h2 := s_b01 (s_op G A (c - 1))
  have h3 := s_b01 (s_op G A (c + 1))
  have h4 := s_b01 (s_op G A (c + 8))
  unfold s_ob
  omega
theorem s_env_b (hw : s_wf G A) (hc : 0 ≤ c ∧ c < 64) (hs : 0 ≤ s_c A c ∧ s_c A c ≤ 9) {s : Int} (h4 : s ≠ -4) : -1000000 ≤ s_env G A r c s ∧ s_env G A r c s ≤ 1000000 := by
  have h1 := hw.1
  have h2 := s_ob_b (G := G) (A := A) c
  unfold s_env
  by_cases c1 : s = -1
  · rw [if_pos c1]; omega
  rw [if_neg c1]
  by_cases c2 : s = -2
  · rw [if_pos c2]; omega
  rw [if_neg c2]
  by_cases c3 : s = -3
  · rw [if_pos c3]; omega
  rw [if_neg c3, if_neg h4]
  by_cases c5 : s = -5
  · rw [if_pos c5]; omega
  rw [if_neg c5]
  by_cases c6 : s = -6
  · rw [if_pos c6]
    split <;> omega
  rw [if_neg c6]
  omega
theorem cx_code.keep {w : Nat} {C : List Int} (h : cx_code S g w C) (e : ∀ i, g ≤ i → i ≤ g + 11 → S1.2.1 i = S.2.1 i) : cx_code S1 g w C := by
  obtain ⟨fr, f0, f1, f2, f3, f4⟩ := h
  refine ⟨fr, f0, f1, by rw [e _ (by omega) (by omega)]; exact f2, by rw [e _ (by omega) (by omega)]; exact f3, fun i hi => by rw [e _ (by omega) (by omega)]; exact f4 i hi⟩
theorem cx_gt.keep (h : cx_gt G K S g) (e : ∀ i, g ≤ i → i ≤ g + 11 → S1.2.1 i = S.2.1 i) (e2 : ∀ b, zI S1 g b = zI S g b) : cx_gt G K S1 g := by
  obtain ⟨h1, h2, h3, h4⟩ := h
  exact ⟨h1, by rw [e2]; exact h2, by rw [e2]; exact h3, fun w hw => (h4 w hw).keep e⟩
theorem cx_pit.keep (h : cx_pit G A S p) (e : ∀ i, p < i → i ≤ p + 6 → S1.2.1 i = S.2.1 i) (e2 : ∀ b, b < 2 → zI S1 p b = zI S p b) : cx_pit G A S1 p := by
  obtain ⟨h1, h2, h3, h4, h5, h6, h7⟩ := h
  refine ⟨h1.keep (e _ (by omega) (by omega)), by rw [e2 0 (by omega)]; exact h2, by rw [e2 1 (by omega)]; exact h3, fun k hk => by rw [e _ (by omega) (by omega)]; exact h4 k hk, fun k hk => by rw [e _ (by omega) (by omega), e _ (by omega) (by omega)]; exact h5 k hk, fun k hk => by rw [e _ (by omega) (by omega)]; exact h6 k hk, fun k hk => by rw [e _ (by omega) (by omega)]; exact h7 k hk⟩
theorem cx_clamp {x : Int32} : (if (0 : Int32) < (if x < (9 : Int32) then x else (9 : Int32)) then (if x < (9 : Int32) then x else (9 : Int32)) else (0 : Int32)).toInt = max 0 (min 9 x.toInt) := by
  have z0 : (0 : Int32).toInt = 0 := by decide +kernel
  have z9 : (9 : Int32).toInt = 9 := by decide +kernel
  by_cases q : x < (9 : Int32)
  · have q1 := dk_ltc (k := 9) z9 q
    rw [if_pos q]
    by_cases q2 : (0 : Int32) < x
    · have := dk_gtc (k := 0) z0 q2
      rw [if_pos q2]
      omega
    · have := dk_ngtc (k := 0) z0 q2
      rw [if_neg q2, z0]
      omega
  · have q1 := dk_nltc (k := 9) z9 q
    rw [if_neg q, if_pos (by decide +kernel), z9]
    omega
theorem cx_dig (hp : pX p) (hS : zR o S 214 7 = p) (hgr : zR o S 214 6 = g) (hG : s_gw G) (hK : s_cd K) (hw : s_wf G A) (hg : cx_gt G K S g) (hpit : cx_pit G A S p) (hl : cx_light G A r S) : ∃ S1, F_w_digByPlan o S = S1 ∧ k_dg p S S1 ∧ cx_pit G (s_dg G K r A).1 S1 p ∧ ((zI S1 214 9).toInt ≠ 0 ∨ (zI S1 214 9 = zI S 214 9 ∧ cx_light G (s_dg G K r A).1 r S1)) ∧ (((s_dg G K r A).2.1 = -1 ∧ zI S1 214 10 = zI S 214 10) ∨ ((s_dg G K r A).2.1 ≠ -1 ∧ (zI S1 214 10).toInt = (s_dg G K r A).2.1 ∧ (zI S1 214 11).toInt = (s_dg G K r A).2.2.1 + 8 ∧ (zI S1 214 12).toInt = (s_dg G K r A).2.2.2)) := by
  have sep := pX_sep hp
  have sepg := rX_sep hg.1
  have z0 : (0 : Int32).toInt = 0 := by decide +kernel
  have z1 : (1 : Int32).toInt = 1 := by decide +kernel
  obtain ⟨hce, hsh, hpu, hhu, hpl, hso, htu⟩ := hpit
  obtain ⟨w0, w1, w2, w3, w4, w5⟩ := hw
  have hfp := hg.2.2.1
  have none : s_no G A → F_w_digByPlan o S = S → ∃ S1, F_w_digByPlan o S = S1 ∧ k_dg p S S1 ∧ cx_pit G (s_dg G K r A).1 S1 p ∧ ((zI S1 214 9).toInt ≠ 0 ∨ (zI S1 214 9 = zI S 214 9 ∧ cx_light G (s_dg G K r A).1 r S1)) ∧ (((s_dg G K r A).2.1 = -1 ∧ zI S1 214 10 = zI S 214 10) ∨ ((s_dg G K r A).2.1 ≠ -1 ∧ (zI S1 214 10).toInt = (s_dg G K r A).2.1 ∧ (zI S1 214 11).toInt = (s_dg G K r A).2.2.1 + 8 ∧ (zI S1 214 12).toInt = (s_dg G K r A).2.2.2)) := fun hn e => by
    have ed : s_dg G K r A = (A, -1, 0, 0) := by
      unfold s_dg
      exact s_if_y hn
    rw [ed]
    exact ⟨S, e, kp.rf, ⟨hce, hsh, hpu, hhu, hpl, hso, htu⟩, Or.inr ⟨rfl, hl⟩, Or.inl ⟨rfl, rfl⟩⟩
  by_cases q0 : zI S g 8 = (0 : Int32)
  · have := dk_eqc (k := 0) z0 q0
    exact none (Or.inl (by omega)) (F_w_digByPlan_p6 hgr.symm rfl q0)
  have q0' := dk_neqc (k := 0) z0 q0
  have hG6 := hG.2.2
  obtain ⟨x6, hx6⟩ : ∃ x6, x6 = zI S p 0 - zI S p 0 / zI S g 8 * zI S g 8 := ⟨_, rfl⟩
  have e6 : x6.toInt = A 0 0 % G 0 6 := by
    rw [hx6, i_rem (by omega) (by omega), hsh, hfp]
  have m0 := Int.emod_nonneg (A 0 0) (show G 0 6 ≠ 0 by omega)
  have m1 := Int.emod_lt_of_pos (A 0 0) (show 0 < G 0 6 by omega)
  have ek : x6.toNatClampNeg = s_k G A := by
    rw [dk_clN, e6]
    rfl
  have hk : ((s_k G A : Nat) : Int) < G 0 6 := by
    unfold s_k
    omega
  obtain ⟨pm, pc⟩ := hpl _ hk
  obtain ⟨wm, wc⟩ := w3 _ hk
  have wc56 := s_in_56 hG.1.2 wc
  obtain ⟨x8, hx8⟩ : ∃ x8, x8 = S.2.1 (p + 3) x6.toNatClampNeg := ⟨_, rfl⟩
  obtain ⟨x10, hx10⟩ : ∃ x10, x10 = S.2.1 (p + 4) x6.toNatClampNeg := ⟨_, rfl⟩
  obtain ⟨m, hm⟩ : ∃ m, m = A 3 (s_k G A) := ⟨_, rfl⟩
  obtain ⟨c, hcc⟩ : ∃ c, c = A 4 (s_k G A) := ⟨_, rfl⟩
  rw [← hm] at pm wm
  rw [← hcc] at pc wc wc56
  have e8 : x8.toInt = m := by rw [hx8, ek]; exact pm
  have e10 : x10.toInt = c + 8 := by rw [hx10, ek]; exact pc
  have e8n : x8.toNatClampNeg = m.toNat := by rw [dk_clN, e8]
  have e10n : x10.toNatClampNeg = (c + 8).toNat := by rw [dk_clN, e10]
  have hhm := hhu m.toNat (by omega)
  by_cases q1 : S.2.1 (p + 2) x8.toNatClampNeg = (1 : Int32)
  · have q1' := dk_eqc (k := 1) z1 q1
    rw [e8n] at q1'
    exact none (Or.inr (Or.inl (by rw [← hm]; omega))) (F_w_digByPlan_p0 hgr.symm rfl q0 hS.symm rfl hx6 hx8 rfl q1)
  have q1' := dk_neqc (k := 1) z1 q1
  rw [e8n] at q1'
  have ecd := cx_canBeDug (o := o) (a := x10) hce (by omega) (by omega)
  rw [e10, show c + 8 - 8 = c by omega] at ecd
  by_cases q2 : F_p_canBeDug o S p x10 = (0 : Int32)
  · refine none (Or.inr (Or.inr (fun z => ?_))) (F_w_digByPlan_p5 hgr.symm rfl q0 hS.symm rfl hx6 hx8 hx10 rfl q1 rfl q2)
    rw [← hcc] at z
    rw [q2, s_b1 z] at ecd
    exact absurd ecd (by decide +kernel)
  have hcd : s_so G A c ∧ 0 < s_ob G A c := by
    apply Classical.byContradiction
    intro z
    rw [s_b0 z] at ecd
    exact q2 (dk_eqp (k := 0) z0 ecd)
  have nno : ¬ s_no G A := fun z => by
    rcases z with z | z | z
    · omega
    · rw [← hm] at z
      omega
    · rw [← hcc] at z
      exact z hcd
  obtain ⟨S17, hS17⟩ : ∃ S17, S17 = dg_uF S 214 10 (.int x8) := ⟨_, rfl⟩
  obtain ⟨S18, hS18⟩ : ∃ S18, S18 = dg_uF S17 214 11 (.int x10) := ⟨_, rfl⟩
  have r18 : S18.2.1 = S.2.1 := by rw [hS18, hS17]; rfl
  have k18 : k_dg p S S18 := by rw [hS18, hS17]; exact kp.uF (kp.uF kp.rf (Or.inr ⟨rfl, by decide⟩)) (Or.inr ⟨rfl, by decide⟩)
  have R18 : ∀ b, b < 9 → zR o S18 214 b = zR o S 214 b := fun b hb => k18.R (fun z => by omega)
  have l18 : cx_light G A r S18 := hl.sm rfl rfl rfl (by rw [r18]) (by rw [r18]) (by rw [r18]) (k18.I (fun z => by omega))
  obtain ⟨S19, e19, k19, env19⟩ := cx_tell (o := o) (a := x10) hp (by rw [R18 7 (by omega)]; exact hS) (hce.keep (by rw [r18])) l18 (by omega) (by rw [e10, show c + 8 - 8 = c by omega]; exact hcd.1) (by rw [k18.I (fun z => by omega)]; exact hsh)
  rw [e10, show c + 8 - 8 = c by omega] at env19
  have t19 : k_dg p S S19 := k18.tr (k19.w (fun a b z => Or.inl z) (fun a z => absurd z id))
  have sc9 := (((hce (c + 8) (by omega) (by omega)).1 (by rw [show c + 8 - 8 = c by omega]; exact wc)).2).2
  rw [show c + 8 - 8 = c by omega] at sc9
  have eb : ∀ (C : List Int) (S' : dg_S), cx_env S' = cx_env S19 → -4 ∉ C → ∀ s ∈ C, -6 ≤ s → s < 0 → -1000000 ≤ cx_env S' s ∧ cx_env S' s ≤ 1000000 := fun C S' hE h4 s hs h6 h0 => by
    have n4 : s ≠ -4 := fun z => h4 (by rw [← z]; exact hs)
    rw [hE, env19 s n4 (by omega) h0]
    exact s_env_b ⟨w0, w1, w2, w3, w4, w5⟩ wc.1 ⟨hcd.1.2, sc9⟩ n4
  have evs : ∀ (C : List Int) (S' : dg_S), cx_env S' = cx_env S19 → -4 ∉ C → s_ev (cx_env S') C = s_ev (s_env G A r c) C := fun C S' hE h4 => by
    rw [hE]
    exact s_ev_congr (fun s hs h7 h0 => env19 s (fun z => h4 (by rw [← z]; exact hs)) h7 h0)
  have row19 : ∀ i, i ≠ 216 → i ≠ p + 1 → i ≠ p + 2 → i ≠ p + 6 → S19.2.1 i = S.2.1 i := fun i a1 a2 a3 a4 => (t19.2 i (fun z => by omega)).1
  have row19' : S19.2.1 = S.2.1 := by
    funext i
    rw [(k19.2 i id).1, r18]
  -- falls: does it fall
  obtain ⟨S22, x21, e22, k22, fa⟩ : ∃ (S22 : dg_S) (x21 : Int32), F_r_valueOf o S19 g (1 : Int32) (0 : Int32) = (S22, x21) ∧ k_ru S19 S22 ∧ (x21 = (1 : Int32) ↔ s_fa G K r A c) := by
    have w1n : (1 : Int32).toNatClampNeg = 1 := by decide +kernel
    have hcode := (hg.2.2.2 1 (by decide)).keep (S1 := S19) (fun i _ _ => by rw [row19'])
    by_cases hK1 : K 1 = []
    · rw [hK1] at hcode
      exact ⟨S19, 0, cx_value0 w1n hcode, kp.rf, fun z => absurd z (by decide +kernel), fun z => absurd hK1 z.1⟩
    · obtain ⟨ty, -, n4⟩ := hK 1 (by decide) hK1
      obtain ⟨S22, v, e, ev, k⟩ := cx_value (o := o) (a2 := 0) hg.1 w1n hcode hK1 ty (eb _ S19 rfl (n4 (by decide)))
      refine ⟨S22, v, e, k, ?_⟩
      rw [evs _ S19 rfl (n4 (by decide))] at ev
      unfold s_fa
      rw [← ev]
      exact ⟨fun z => ⟨hK1, dk_eqc (k := 1) z1 z⟩, fun z => dk_eqp (k := 1) z1 z.2⟩
  have t22 : k_dg p S S22 := t19.tr (k22.w (fun a b z => Or.inl z.1) (fun a z => Or.inl z))
  have row22 : ∀ i, i ≠ 216 → S22.2.1 i = S.2.1 i := fun i hi => by rw [k22.row hi, row19']
  have F4 := F_w_digByPlan_p4 (o := o) (S := S) hgr.symm rfl q0 hS.symm rfl hx6 hx8 hx10 rfl q1 rfl q2 hS17 hS18 e19.symm rfl rfl
  rw [e22] at F4
  have i10 : zI S22 214 10 = x8 := by
    have a1 : zI S18 214 10 = x8 := by rw [hS18, w_I, if_neg (by decide), hS17, w_I, if_pos ⟨rfl, rfl⟩]
    have a2 : zI S19 214 10 = x8 := by rw [k19.I (fun z => absurd z (by decide))]; exact a1
    rw [k22.I (fun z => absurd z.1 (by decide))]
    exact a2
  have i11 : zI S22 214 11 = x10 := by
    have a1 : zI S18 214 11 = x10 := by rw [hS18, w_I, if_pos ⟨rfl, rfl⟩]
    have a2 : zI S19 214 11 = x10 := by rw [k19.I (fun z => absurd z (by decide))]; exact a1
    rw [k22.I (fun z => absurd z.1 (by decide))]
    exact a2
  by_cases q3 : x21 = (1 : Int32)
  · -- it falls
    have hf := fa.mp q3
    obtain ⟨S39, hS39⟩ : ∃ S39, S39 = dg_uF S22 214 12 (.int (-1 : Int32)) := ⟨_, rfl⟩
    obtain ⟨S41, hS41⟩ : ∃ S41, S41 = dg_uf S39 (p + 1) (upd (S39.2.1 (p + 1)) x10.toNatClampNeg (0 : Int32)) := ⟨_, rfl⟩
    obtain ⟨S44, hS44⟩ : ∃ S44, S44 = dg_uf S41 (p + 2) (upd (S41.2.1 (p + 2)) x8.toNatClampNeg (1 : Int32)) := ⟨_, rfl⟩
    have ed : s_dg G K r A = (s_up (s_up A 1 c.toNat 0) 2 m.toNat 1, m, c, -1) := by
      unfold s_dg
      rw [s_if_n nno, ← hcc, ← hm, s_if_y hf]
    rw [ed]
    dsimp only
    have t44 : k_dg p S S44 := by
      rw [hS44, hS41, hS39]
      exact kp.uf (kp.uf (kp.uF t22 (Or.inr ⟨rfl, by decide⟩)) (Or.inr (Or.inl rfl))) (Or.inr (Or.inr (Or.inl rfl)))
    have rc : S44.2.1 (p + 1) = upd (S.2.1 (p + 1)) (c + 8).toNat (0 : Int32) := by
      rw [hS44, w_f, if_neg (by omega), hS41, w_f, if_pos rfl, hS39, w_Ff, row22 _ (by omega), e10n]
    have rh : S44.2.1 (p + 2) = upd (S.2.1 (p + 2)) m.toNat (1 : Int32) := by
      rw [hS44, w_f, if_pos rfl, hS41, w_f, if_neg (by omega), hS39, w_Ff, row22 _ (by omega), e8n]
    have ro : ∀ i, i ≠ 216 → i ≠ p + 1 → i ≠ p + 2 → S44.2.1 i = S.2.1 i := fun i a1 a2 a3 => by
      rw [hS44, w_f, if_neg a3, hS41, w_f, if_neg a2, hS39, w_Ff, row22 _ a1]
    have cE : cx_ce G (s_up A 1 c.toNat 0) S44 p := by
      have := hce.up (S1 := S44) (x := c + 8) (v := 0) (by omega) (by rw [show c + 8 - 8 = c by omega]; exact wc) rc (by rw [z0]; decide) (by omega)
      rw [show c + 8 - 8 = c by omega] at this
      exact this
    have cE2 : cx_ce G (s_up (s_up A 1 c.toNat 0) 2 m.toNat 1) S44 p := by
      intro z a b
      rw [s_c_o (by decide)]
      exact cE z a b
    have sc : ∀ d, 0 ≤ d → s_c (s_up (s_up A 1 c.toNat 0) 2 m.toNat 1) d = if d = c then 0 else s_c A d := fun d hd => by rw [s_c_o (by decide), s_c_up wc.1.1 hd]
    refine ⟨S44, ?_, t44, ⟨cE2, ?_, ?_, fun k hk => ?_, fun k hk => ?_, fun k hk => ?_, fun k hk => ?_⟩, Or.inr ⟨?_, ?_⟩, Or.inr ⟨by omega, ?_, ?_, ?_⟩⟩
    · rw [F4]
      exact F_w_digByPlan_p3 q3 hS39 hS41 hS44
    · rw [t44.I (fun z => by omega)]
      rw [s_up_ne (fun z => absurd z.1 (by decide)), s_up_ne (fun z => absurd z.1 (by decide))]
      exact hsh
    · rw [t44.I (fun z => by omega)]
      rw [s_up_ne (fun z => absurd z.1 (by decide)), s_up_ne (fun z => absurd z.1 (by decide))]
      exact hpu
    · rw [rh, w_u]
      by_cases y : k = m.toNat
      · rw [if_pos y, y, s_up_at]
        exact z1
      · rw [if_neg y, s_up_ne (fun z => y z.2), s_up_ne (fun z => absurd z.1 (by decide))]
        exact hhu k hk
    · rw [ro _ (by omega) (by omega) (by omega), ro _ (by omega) (by omega) (by omega), s_up_ne (fun z => absurd z.1 (by decide)), s_up_ne (fun z => absurd z.1 (by decide)), s_up_ne (fun z => absurd z.1 (by decide)), s_up_ne (fun z => absurd z.1 (by decide))]
      exact hpl k hk
    · rw [ro _ (by omega) (by omega) (by omega), s_up_ne (fun z => absurd z.1 (by decide)), s_up_ne (fun z => absurd z.1 (by decide))]
      exact hso k hk
    · rw [ro _ (by omega) (by omega) (by omega), s_up_ne (fun z => absurd z.1 (by decide)), s_up_ne (fun z => absurd z.1 (by decide))]
      exact htu k hk
    · have a1 : zI S44 214 9 = zI S22 214 9 := by rw [hS44, w_If, hS41, w_If, hS39, w_I0 (by decide)]
      rw [a1, k22.I (fun z => absurd z.1 (by decide)), k19.I (fun z => absurd z (by decide)), hS18, w_I0 (by decide), hS17, w_I0 (by decide)]
    · refine hl.sm ?_ ?_ ?_ (ro _ (by omega) (by omega) (by omega)) (ro _ (by omega) (by omega) (by omega)) (ro _ (by omega) (by omega) (by omega)) (t44.I (fun z => by omega))
      · funext d
        apply propext
        unfold s_op
        refine ⟨fun z => ⟨z.1, ?_⟩, fun z => ⟨z.1, ?_⟩⟩
        · have h2 := z.2
          rw [sc d z.1.1.1] at h2
          by_cases y : d = c
          · rw [if_pos y] at h2
            omega
          · rw [if_neg y] at h2
            exact h2
        · rw [sc d z.1.1.1, if_neg (fun y => by have h2 := z.2; have h3 := hcd.1.2; rw [y] at h2; omega)]
          exact z.2
      · funext d
        apply propext
        unfold s_ps
        refine ⟨fun z => ⟨z.1, ?_⟩, fun z => ⟨z.1, ?_⟩⟩
        · have h2 := z.2
          rw [sc d z.1.1.1] at h2
          by_cases y : d = c
          · rw [if_pos y] at h2
            omega
          · rw [if_neg y] at h2
            exact h2
        · rw [sc d z.1.1.1, if_neg (fun y => by have h2 := z.2; have h3 := hcd.1.2; rw [y] at h2; omega)]
          exact z.2
      · funext d
        apply propext
        unfold s_so
        refine ⟨fun z => ⟨z.1, ?_⟩, fun z => ⟨z.1, ?_⟩⟩
        · have h2 := z.2
          rw [sc d z.1.1.1] at h2
          by_cases y : d = c
          · rw [y]
            exact hcd.1.2
          · rw [if_neg y] at h2
            exact h2
        · rw [sc d z.1.1.1]
          split
          · omega
          · exact z.2
    · rw [hS44, w_If, hS41, w_If, hS39, w_I0 (by decide), i10]
      exact e8
    · rw [hS44, w_If, hS41, w_If, hS39, w_I0 (by decide), i11]
      exact e10
    · rw [hS44, w_If, hS41, w_If, hS39, w_I, if_pos ⟨rfl, rfl⟩]
      decide +kernel
  · -- a tub
    have hf : ¬ s_fa G K r A c := fun z => q3 (fa.mpr z)
    obtain ⟨gr, hgrd⟩ : ∃ gr, gr = s_gr G K r A c := ⟨_, rfl⟩
    have row22' : S22.2.1 (p + 1) = S.2.1 (p + 1) := row22 _ (by omega)
    have e25 : (S22.2.1 (p + 1) x10.toNatClampNeg).toInt = s_c A c := by
      rw [row22', e10n]
      have := hce.val (x := c + 8) (by omega) (by omega) (by rw [show c + 8 - 8 = c by omega]; exact hcd.1)
      rw [show c + 8 - 8 = c by omega] at this
      exact this
    obtain ⟨S28, x27, e28, k28, v27⟩ : ∃ (S28 : dg_S) (x27 : Int32), F_r_valueOf o S22 g (2 : Int32) (S22.2.1 (p + 1) x10.toNatClampNeg) = (S28, x27) ∧ k_ru S22 S28 ∧ max 0 (min 9 x27.toInt) = gr := by
      have w2n : (2 : Int32).toNatClampNeg = 2 := by decide +kernel
      have hcode := (hg.2.2.2 2 (by decide)).keep (S1 := S22) (fun i _ _ => row22 i (by omega))
      by_cases hK2 : K 2 = []
      · rw [hK2] at hcode
        refine ⟨S22, _, cx_value0 w2n hcode, kp.rf, ?_⟩
        rw [hgrd, e25]
        unfold s_gr
        rw [s_if_y hK2]
        have := hcd.1.2
        omega
      · obtain ⟨ty, -, n4⟩ := hK 2 (by decide) hK2
        obtain ⟨S28, v, e, ev, k⟩ := cx_value (o := o) (a2 := S22.2.1 (p + 1) x10.toNatClampNeg) hg.1 w2n hcode hK2 ty (eb _ S22 k22.env (n4 (by decide)))
        refine ⟨S28, v, e, k, ?_⟩
        rw [evs _ S22 k22.env (n4 (by decide))] at ev
        rw [hgrd, ev]
        unfold s_gr
        rw [s_if_n hK2]
    obtain ⟨x29, hx29⟩ : ∃ x29, x29 = if x27 < (9 : Int32) then x27 else (9 : Int32) := ⟨_, rfl⟩
    obtain ⟨x30, hx30⟩ : ∃ x30, x30 = if (0 : Int32) < x29 then x29 else (0 : Int32) := ⟨_, rfl⟩
    have e30 : x30.toInt = gr := by
      rw [hx30, hx29, cx_clamp]
      exact v27
    have g09 : 0 ≤ gr ∧ gr ≤ 9 := by omega
    have e30n : x30.toNatClampNeg = gr.toNat := by rw [dk_clN, e30]
    obtain ⟨S31, hS31⟩ : ∃ S31, S31 = dg_uF S28 214 12 (.int x30) := ⟨_, rfl⟩
    obtain ⟨x4, hx4⟩ : ∃ x4, x4 = if S31.2.1 (p + 6) x30.toNatClampNeg + (1 : Int32) < (99 : Int32) then S31.2.1 (p + 6) x30.toNatClampNeg + (1 : Int32) else (99 : Int32) := ⟨_, rfl⟩
    obtain ⟨S32, hS32⟩ : ∃ S32, S32 = dg_uf S31 (p + 6) (upd (S31.2.1 (p + 6)) x30.toNatClampNeg x4) := ⟨_, rfl⟩
    have eS32 : F_p_addTub o S31 p x30 = S32 := F_p_addTub_p0 rfl rfl hx4 hS32
    obtain ⟨S34, hS34⟩ : ∃ S34, S34 = dg_uf S32 (p + 1) (upd (S32.2.1 (p + 1)) x10.toNatClampNeg (255 : Int32)) := ⟨_, rfl⟩
    obtain ⟨S37, hS37⟩ : ∃ S37, S37 = dg_uF S34 214 9 (.int (1 : Int32)) := ⟨_, rfl⟩
    have ed : s_dg G K r A = (s_up (s_up A 6 gr.toNat (min 99 (A 6 gr.toNat + 1))) 1 c.toNat (-1), m, c, gr) := by
      unfold s_dg
      rw [s_if_n nno, ← hcc, ← hm, s_if_n hf, ← hgrd]
    rw [ed]
    dsimp only
    have t28 : k_dg p S S28 := t22.tr (k28.w (fun a b z => Or.inl z.1) (fun a z => Or.inl z))
    have row28 : ∀ i, i ≠ 216 → S28.2.1 i = S.2.1 i := fun i hi => by rw [k28.row hi, row22 i hi]
    have t37 : k_dg p S S37 := by
      rw [hS37, hS34, hS32, hS31]
      exact kp.uF (kp.uf (kp.uf (kp.uF t28 (Or.inr ⟨rfl, by decide⟩)) (Or.inr (Or.inr (Or.inr rfl)))) (Or.inr (Or.inl rfl))) (Or.inr ⟨rfl, by decide⟩)
    have rc : S37.2.1 (p + 1) = upd (S.2.1 (p + 1)) (c + 8).toNat (255 : Int32) := by
      rw [hS37, w_Ff, hS34, w_f, if_pos rfl, hS32, w_f, if_neg (by omega), hS31, w_Ff, row28 _ (by omega), e10n]
    have ro : ∀ i, i ≠ 216 → i ≠ p + 1 → i ≠ p + 6 → S37.2.1 i = S.2.1 i := fun i a1 a2 a3 => by
      rw [hS37, w_Ff, hS34, w_f, if_neg a2, hS32, w_f, if_neg a3, hS31, w_Ff, row28 _ a1]
    have rt0 : S31.2.1 (p + 6) = S.2.1 (p + 6) := by rw [hS31, w_Ff, row28 _ (by omega)]
    have rt : S37.2.1 (p + 6) = upd (S.2.1 (p + 6)) gr.toNat x4 := by
      rw [hS37, w_Ff, hS34, w_f, if_neg (by omega), hS32, w_f, if_pos rfl, rt0, e30n]
    have ht := htu gr.toNat (by omega)
    have hwt := w5 gr.toNat (by omega)
    have e4 : x4.toInt = min 99 (A 6 gr.toNat + 1) := by
      have e3 : (S31.2.1 (p + 6) x30.toNatClampNeg + (1 : Int32)).toInt = A 6 gr.toNat + 1 := by
        rw [rt0, e30n]
        rw [dk_addT rfl z1 (by omega) (by omega), ht]
      have z99 : (99 : Int32).toInt = 99 := by decide +kernel
      rw [hx4]
      by_cases y : S31.2.1 (p + 6) x30.toNatClampNeg + (1 : Int32) < (99 : Int32)
      · have := dk_ltc (k := 99) z99 y
        rw [if_pos y, e3]
        omega
      · have := dk_nltc (k := 99) z99 y
        rw [if_neg y, z99]
        omega
    have cE : cx_ce G (s_up A 1 c.toNat (-1)) S37 p := by
      have := hce.up (S1 := S37) (x := c + 8) (v := -1) (by omega) (by rw [show c + 8 - 8 = c by omega]; exact wc) rc (by decide +kernel) (by omega)
      rw [show c + 8 - 8 = c by omega] at this
      exact this
    refine ⟨S37, ?_, t37, ⟨?_, ?_, ?_, fun k hk => ?_, fun k hk => ?_, fun k hk => ?_, fun k hk => ?_⟩, Or.inl ?_, Or.inr ⟨by omega, ?_, ?_, ?_⟩⟩
    · rw [F4]
      have e28a : S28 = (F_r_valueOf o S22 g (2 : Int32) (S22.2.1 (p + 1) x10.toNatClampNeg)).1 := by rw [e28]
      have e28b : x27 = (F_r_valueOf o S22 g (2 : Int32) (S22.2.1 (p + 1) x10.toNatClampNeg)).2 := by rw [e28]
      rw [F_w_digByPlan_p2 q3 rfl e28a e28b hx29 hx30 hS31 eS32.symm hS34]
      exact F_w_digByPlan_p1 hS37
    · intro z a b
      have := cE z a b
      have e : ∀ d, s_c (s_up (s_up A 6 gr.toNat (min 99 (A 6 gr.toNat + 1))) 1 c.toNat (-1)) d = s_c (s_up A 1 c.toNat (-1)) d := fun d => by
        unfold s_c s_up
        by_cases y : (1 : Nat) = 1 ∧ d.toNat = c.toNat
        · rw [if_pos y, if_pos y]
        · rw [if_neg y, if_neg y, if_neg (fun z => absurd z.1 (by decide))]
      rw [e]
      exact this
    · rw [t37.I (fun z => by omega)]
      rw [s_up_ne (fun z => absurd z.1 (by decide)), s_up_ne (fun z => absurd z.1 (by decide))]
      exact hsh
    · rw [t37.I (fun z => by omega)]
      rw [s_up_ne (fun z => absurd z.1 (by decide)), s_up_ne (fun z => absurd z.1 (by decide))]
      exact hpu
    · rw [ro _ (by omega) (by omega) (by omega), s_up_ne (fun z => absurd z.1 (by decide)), s_up_ne (fun z => absurd z.1 (by decide))]
      exact hhu k hk
    · rw [ro _ (by omega) (by omega) (by omega), ro _ (by omega) (by omega) (by omega), s_up_ne (fun z => absurd z.1 (by decide)), s_up_ne (fun z => absurd z.1 (by decide)), s_up_ne (fun z => absurd z.1 (by decide)), s_up_ne (fun z => absurd z.1 (by decide))]
      exact hpl k hk
    · rw [ro _ (by omega) (by omega) (by omega), s_up_ne (fun z => absurd z.1 (by decide)), s_up_ne (fun z => absurd z.1 (by decide))]
      exact hso k hk
    · rw [rt, w_u, s_up_ne (fun z => absurd z.1 (by decide))]
      by_cases y : k = gr.toNat
      · rw [if_pos y, y, s_up_at]
        exact e4
      · rw [if_neg y, s_up_ne (fun z => y z.2)]
        exact htu k hk
    · rw [hS37, w_I, if_pos ⟨rfl, rfl⟩, z1]
      decide
    · have a1 : zI S37 214 10 = zI S22 214 10 := by rw [hS37, w_I0 (by decide), hS34, w_If, hS32, w_If, hS31, w_I0 (by decide), k28.I (fun z => absurd z.1 (by decide))]
      rw [a1, i10]
      exact e8
    · have a1 : zI S37 214 11 = zI S22 214 11 := by rw [hS37, w_I0 (by decide), hS34, w_If, hS32, w_If, hS31, w_I0 (by decide), k28.I (fun z => absurd z.1 (by decide))]
      rw [a1, i11]
      exact e10
    · rw [hS37, w_I0 (by decide), hS34, w_If, hS32, w_If, hS31, w_I, if_pos ⟨rfl, rfl⟩]
      exact e30
end XM
end
section
/-! light spoils what lies beside it -/
theorem e_run_vt {env : Int → Int} (h7 : env (-7) = 1) : ∀ (C : List Int) (q : e_S) (t t' : List Bool), (∀ s ∈ C, -6 ≤ s → s < 0 → -1000000 ≤ env s ∧ env s ≤ 1000000) → e_ty C t = some t' → e_vt q.1 t → q.2 = t.length → t.length ≤ 60 → e_vt (e_run env C q).1 t'
  | [], q, t, t', hb, ht, hv, hn, h60 => by
    have e : t = t' := Option.some.inj ht
    subst e
    exact hv
  | s :: C, q, t, t', hb, ht, hv, hn, h60 => by
    obtain ⟨t1, ht1, hty1⟩ := Option.bind_eq_some_iff.mp (show (e_t1 s t).bind (e_ty C) = some t' from ht)
    rcases e_step (hb s (List.mem_cons_self ..)) h7 ht1 hv hn with ⟨v1, n1, l1⟩ | h
    · exact e_run_vt h7 C (e_st env s q) t1 t' (fun s' hs => hb s' (List.mem_cons_of_mem _ hs)) hty1 v1 n1 l1
    · omega
theorem s_ev_b {env : Int → Int} {C : List Int} {b : Bool} (h7 : env (-7) = 1) (hb : ∀ s ∈ C, -6 ≤ s → s < 0 → -1000000 ≤ env s ∧ env s ≤ 1000000) (ht : e_ty C [] = some [b]) : -1000000 ≤ s_ev env C ∧ s_ev env C ≤ 1000000 := by
  have h := e_run_vt h7 C (fun _ => 0, 0) [] [b] hb ht trivial rfl (by decide)
  exact (show e_v1 b _ from h.1).any
noncomputable def s_sv (G : aR) (K : Nat → List Int) (r : Int) (A : aR) (c : Int) : Int := s_if (K 0 = []) 1 (s_ev (s_env G A r c) (K 0))
noncomputable def s_spD (G : aR) (K : Nat → List Int) (r : Int) (A : aR) (D : Int → Prop) : aR := fun a b => s_if (a = 1 ∧ D b ∧ s_so G A b ∧ s_nl G A r b ≠ -1) (max 0 (s_c A b - max 0 (s_sv G K r A b))) (A a b)
/-- what light spoils -/
noncomputable def s_sp (G : aR) (K : Nat → List Int) (r : Int) (A : aR) : aR := s_spD G K r A (fun _ => True)
def k_ex (p : Nat) (S S1 : dg_S) : Prop := kp (fun a _ => a = 215) (fun a => a = 216 ∨ a = p + 1) S S1
section XN
variable {G A A' : aR} {K : Nat → List Int} {S0 S S1 : dg_S} {o g p : Nat} {r c x v : Int} {D D' : Int → Prop}
theorem s_spD_c {d : Int} (hd : 0 ≤ d) : s_c (s_spD G K r A D) d = s_if (D d ∧ s_so G A d ∧ s_nl G A r d ≠ -1) (max 0 (s_c A d - max 0 (s_sv G K r A d))) (s_c A d) := by
  have e : ((d.toNat : Nat) : Int) = d := by omega
  show s_spD G K r A D 1 d.toNat = _
  unfold s_spD
  rw [e]
  by_cases h : D d ∧ s_so G A d ∧ s_nl G A r d ≠ -1
  · rw [s_if_y ⟨rfl, h⟩, s_if_y h]
  · rw [s_if_n (fun z => h z.2), s_if_n h]
    rfl
theorem s_spD_congr (h : ∀ c, s_so G A c → s_nl G A r c ≠ -1 → (D c ↔ D' c)) : s_spD G K r A D = s_spD G K r A D' := by
  funext a b
  unfold s_spD
  by_cases q : a = 1 ∧ D b ∧ s_so G A b ∧ s_nl G A r b ≠ -1
  · rw [s_if_y q, s_if_y ⟨q.1, (h _ q.2.2.1 q.2.2.2).mp q.2.1, q.2.2⟩]
  · rw [s_if_n q, s_if_n (fun z => q ⟨z.1, (h _ z.2.2.1 z.2.2.2).mpr z.2.1, z.2.2⟩)]
theorem cx_sp1 (hp : pX p) (hS : zR o S0 214 7 = p) (hgr : zR o S0 214 6 = g) (hG : s_gw G) (hK : s_cd K) (hw : s_wf G A) (hg : cx_gt G K S g) (hsh : (zI S0 p 0).toInt = A 0 0) (hl : cx_light G A r S) (h4 : zI S0 214 4 = zI S 214 4) (hc : cx_ce G (s_spD G K r A D) S p) (hA : cx_ce G A S0 p) {i : Nat} {k : Int32} (hk : k.toInt = i) (hi : (i : Int) < (zI S 214 4).toInt) (hD : ¬ D (cx_ex S i - 8)) : ∃ S1, F_w_spoilExposed_B1 S0 o (k, S) = .inl (k + 1, S1) ∧ k_ex p S S1 ∧ cx_ce G (s_spD G K r A (fun c => D c ∨ c = cx_ex S i - 8)) S1 p := by
  have sep := pX_sep hp
  have sepg := rX_sep hg.1
  have z0 : (0 : Int32).toInt = 0 := by decide +kernel
  obtain ⟨-, lb, ec, hec, e72, le1, le2, le3⟩ := id hl
  obtain ⟨x, hx⟩ : ∃ x, x = cx_ex S i := ⟨_, rfl⟩
  obtain ⟨x0, xs, xb⟩ := le1 i (by omega)
  rw [← hx] at x0 xs xb hD
  have x56 := s_in_56 hG.1.2 xs.1
  have ekn : k.toNatClampNeg = i := by rw [dk_clN]; omega
  have c0 : ¬ zI S0 214 4 ≤ k := fun z => by
    have := dk_lec (k := k.toInt) rfl z
    rw [h4] at this
    omega
  obtain ⟨a, ha⟩ : ∃ a, a = S.2.1 219 k.toNatClampNeg := ⟨_, rfl⟩
  have ea : a.toInt = x := by rw [ha, ekn, hx]; rfl
  have ean : a.toNatClampNeg = x.toNat := by rw [dk_clN, ea]
  have nl1 : s_nl G A r (x - 8) ≠ -1 := fun z => by
    rcases lb x x0.1 x0.2 with y | y
    · exact xb y.1
    · omega
  have scn : s_c (s_spD G K r A D) (x - 8) = s_c A (x - 8) := by
    rw [s_spD_c (by omega), s_if_n (fun z => hD z.1)]
  have sc9 := ((hA x x0.1 x0.2).1 xs.1).2.2
  have xs2 := xs.2
  have cell : (S.2.1 (p + 1) a.toNatClampNeg).toInt = s_c A (x - 8) := by
    have h := ((hc x x0.1 x0.2).1 xs.1).1
    rw [scn] at h
    rw [ean]
    unfold cx_at cx_en at h
    rw [if_neg (by omega), if_neg (by omega)] at h
    exact h
  have newD : ∀ d, d ≠ x - 8 → 0 ≤ d → s_c (s_spD G K r A (fun c => D c ∨ c = x - 8)) d = s_c (s_spD G K r A D) d := fun d hd h0 => by
    rw [s_spD_c h0, s_spD_c h0]
    by_cases y : D d ∧ s_so G A d ∧ s_nl G A r d ≠ -1
    · rw [s_if_y y, s_if_y ⟨Or.inl y.1, y.2⟩]
    · rw [s_if_n y, s_if_n (fun z => by
        rcases z.1 with q | q
        · exact y ⟨q, z.2⟩
        · exact hd q)]
  have newx : s_c (s_spD G K r A (fun c => D c ∨ c = x - 8)) (x - 8) = max 0 (s_c A (x - 8) - max 0 (s_sv G K r A (x - 8))) := by
    rw [s_spD_c (by omega), s_if_y ⟨Or.inr rfl, xs, nl1⟩]
  rw [← hx]
  by_cases q1 : S.2.1 (p + 1) a.toNatClampNeg ≤ (0 : Int32)
  · have q1' := dk_lec (k := 0) z0 q1
    refine ⟨S, (F_w_spoilExposed_p2 rfl c0 ha hS.symm rfl q1).trans (F_w_spoilExposed_p1 rfl), kp.rf, fun z a0 a1 => ?_⟩
    obtain ⟨h1, h2⟩ := hc z a0 a1
    refine ⟨fun hz => ?_, h2⟩
    by_cases y : z = x
    · subst y
      rw [newx]
      rw [scn] at h1
      rw [show max 0 (s_c A (z - 8) - max 0 (s_sv G K r A (z - 8))) = s_c A (z - 8) by omega]
      exact h1 hz
    · rw [newD _ (by omega) hz.1.1]
      exact h1 hz
  · have q1' := dk_nlec (k := 0) z0 q1
    obtain ⟨S5, hS5⟩ : ∃ S5, S5 = dg_uF S 215 0 (.int (S.2.1 (p + 1) a.toNatClampNeg)) := ⟨_, rfl⟩
    obtain ⟨S7, hS7⟩ : ∃ S7, S7 = dg_uF S5 215 1 (.int (F_rowOf o S5 a)) := ⟨_, rfl⟩
    obtain ⟨S8, hS8⟩ : ∃ S8, S8 = dg_uF S7 215 2 (.int (zI S0 p 0)) := ⟨_, rfl⟩
    obtain ⟨S9, hS9⟩ : ∃ S9, S9 = dg_uF S8 215 3 (.int (S8.2.1 218 a.toNatClampNeg)) := ⟨_, rfl⟩
    have r8 : S8.2.1 = S.2.1 := by rw [hS8, hS7, hS5]; rfl
    have r9 : S9.2.1 = S.2.1 := by rw [hS9]; exact r8
    have k9 : k_te S S9 := by
      rw [hS9, hS8, hS7, hS5]
      exact kp.uF (kp.uF (kp.uF (kp.uF kp.rf rfl) rfl) rfl) rfl
    have ebm : (S8.2.1 218 a.toNatClampNeg).toInt = s_nl G A r (x - 8) := by
      rw [r8, ean]
      rcases lb x x0.1 x0.2 with y | y
      · exact absurd y.1 xb
      · exact y.1
    have env9 : ∀ s, s ≠ -5 → s ≠ -6 → cx_env S9 s = s_env G A r (x - 8) s := by
      intro s s5 s6
      have v0 : zI S9 215 0 = S.2.1 (p + 1) a.toNatClampNeg := by
        rw [hS9, w_I0 (by decide), hS8, w_I0 (by decide), hS7, w_I0 (by decide), hS5, w_I, if_pos ⟨rfl, rfl⟩]
      have v1 : zI S9 215 1 = F_rowOf o S5 a := by
        rw [hS9, w_I0 (by decide), hS8, w_I0 (by decide), hS7, w_I, if_pos ⟨rfl, rfl⟩]
      have v2 : zI S9 215 2 = zI S0 p 0 := by
        rw [hS9, w_I0 (by decide), hS8, w_I, if_pos ⟨rfl, rfl⟩]
      have v3 : zI S9 215 3 = S8.2.1 218 a.toNatClampNeg := by
        rw [hS9, w_I, if_pos ⟨rfl, rfl⟩]
      have ero := cx_rowOf (o := o) (S := S5) (a := a) (by omega) (by omega)
      unfold cx_env s_env
      rw [v0, v1, v2, v3, cell, ero, hsh, ebm, ea, show x / 8 - 1 = (x - 8) / 8 by omega]
      by_cases c1 : s = -1
      · rw [if_pos c1, if_pos c1]
      rw [if_neg c1, if_neg c1]
      by_cases c2 : s = -2
      · rw [if_pos c2, if_pos c2]
      rw [if_neg c2, if_neg c2]
      by_cases c3 : s = -3
      · rw [if_pos c3, if_pos c3]
      rw [if_neg c3, if_neg c3]
      by_cases c4 : s = -4
      · rw [if_pos c4, if_pos c4]
      rw [if_neg c4, if_neg c4, if_neg s5, if_neg s5, if_neg s6, if_neg s6]
    have bnd : ∀ s, s ≠ -5 → s ≠ -6 → -1000000 ≤ s_env G A r (x - 8) s ∧ s_env G A r (x - 8) s ≤ 1000000 := fun s s5 s6 => by
      by_cases c4 : s = -4
      · rw [c4]
        show -1000000 ≤ s_nl G A r (x - 8) ∧ s_nl G A r (x - 8) ≤ 1000000
        rcases lb x x0.1 x0.2 with y | y <;> omega
      · exact s_env_b hw ⟨by omega, by omega⟩ ⟨xs2, sc9⟩ c4
    obtain ⟨S3, x2, e3, k3, v2⟩ : ∃ (S3 : dg_S) (x2 : Int32), F_r_valueOf o S9 g (0 : Int32) (1 : Int32) = (S3, x2) ∧ k_ru S9 S3 ∧ x2.toInt = s_sv G K r A (x - 8) := by
      have w0n : (0 : Int32).toNatClampNeg = 0 := by decide +kernel
      have hcode := (hg.2.2.2 0 (by decide)).keep (S1 := S9) (fun i _ _ => by rw [r9])
      unfold s_sv
      by_cases hK0 : K 0 = []
      · rw [hK0] at hcode
        refine ⟨S9, 1, cx_value0 w0n hcode, kp.rf, ?_⟩
        rw [s_if_y hK0]
        decide +kernel
      · obtain ⟨ty, n56, -⟩ := hK 0 (by decide) hK0
        obtain ⟨n5, n6⟩ := n56 rfl
        obtain ⟨S3, v, e, ev, k⟩ := cx_value (o := o) (a2 := 1) hg.1 w0n hcode hK0 ty (fun s hs _ _ => by
          rw [env9 s (fun z => n5 (by rw [← z]; exact hs)) (fun z => n6 (by rw [← z]; exact hs))]
          exact bnd s (fun z => n5 (by rw [← z]; exact hs)) (fun z => n6 (by rw [← z]; exact hs)))
        refine ⟨S3, v, e, k, ?_⟩
        rw [s_if_n hK0, ev]
        exact s_ev_congr (fun s hs _ _ => env9 s (fun z => n5 (by rw [← z]; exact hs)) (fun z => n6 (by rw [← z]; exact hs)))
    have svb : -1000000 ≤ s_sv G K r A (x - 8) ∧ s_sv G K r A (x - 8) ≤ 1000000 := by
      unfold s_sv
      by_cases hK0 : K 0 = []
      · rw [s_if_y hK0]
        omega
      · obtain ⟨ty, n56, -⟩ := hK 0 (by decide) hK0
        obtain ⟨n5, n6⟩ := n56 rfl
        rw [s_if_n hK0]
        exact s_ev_b rfl (fun s hs _ _ => bnd s (fun z => n5 (by rw [← z]; exact hs)) (fun z => n6 (by rw [← z]; exact hs))) ty
    obtain ⟨x4, hx4⟩ : ∃ x4, x4 = if (0 : Int32) < x2 then x2 else (0 : Int32) := ⟨_, rfl⟩
    obtain ⟨x7, hx7⟩ : ∃ x7, x7 = if (0 : Int32) < S.2.1 (p + 1) a.toNatClampNeg - x4 then S.2.1 (p + 1) a.toNatClampNeg - x4 else (0 : Int32) := ⟨_, rfl⟩
    have mx : ∀ y : Int32, (if (0 : Int32) < y then y else (0 : Int32)).toInt = max 0 y.toInt := fun y => by
      by_cases q : (0 : Int32) < y
      · have := dk_gtc (k := 0) z0 q
        rw [if_pos q]
        omega
      · have := dk_ngtc (k := 0) z0 q
        rw [if_neg q, z0]
        omega
    have e4 : x4.toInt = max 0 (s_sv G K r A (x - 8)) := by rw [hx4, mx, v2]
    have e6 : (S.2.1 (p + 1) a.toNatClampNeg - x4).toInt = s_c A (x - 8) - max 0 (s_sv G K r A (x - 8)) := dk_subT cell e4 (by omega) (by omega)
    have e7 : x7.toInt = max 0 (s_c A (x - 8) - max 0 (s_sv G K r A (x - 8))) := by rw [hx7, mx, e6]
    obtain ⟨S2, hS2⟩ : ∃ S2, S2 = dg_uf S3 (p + 1) (upd (S3.2.1 (p + 1)) a.toNatClampNeg x7) := ⟨_, rfl⟩
    have row3 : ∀ i, i ≠ 216 → S3.2.1 i = S.2.1 i := fun i hi => by rw [k3.row hi, r9]
    have e3a : S3 = (F_r_valueOf o S9 g (0 : Int32) (1 : Int32)).1 := by rw [e3]
    have e3b : x2 = (F_r_valueOf o S9 g (0 : Int32) (1 : Int32)).2 := by rw [e3]
    refine ⟨S2, ?_, ?_, fun z a0 a1 => ?_⟩
    · rw [F_w_spoilExposed_p4 rfl c0 ha hS.symm rfl q1 hS5 rfl hS7 rfl hS8 rfl hS9, F_w_spoilExposed_p3 hgr.symm e3a e3b hx4 rfl hx7 hS2]
      exact F_w_spoilExposed_p1 rfl
    · rw [hS2]
      exact kp.uf ((k9.w (fun a b z => z) (fun a z => absurd z id)).tr (k3.w (fun a b z => z.1) (fun a z => Or.inl z))) (Or.inr rfl)
    · have ec2 : cx_at S2 p z = if z = x then x7.toInt else cx_at S p z := by
        unfold cx_at
        rw [hS2, w_f, if_pos rfl, w_u, row3 _ (by omega), ean]
        by_cases y : z = x
        · rw [if_pos (by omega), if_pos y]
        · rw [if_neg (by omega), if_neg y]
      obtain ⟨h1, h2⟩ := hc z a0 a1
      rw [ec2]
      by_cases y : z = x
      · subst y
        rw [if_pos rfl, newx, e7]
        refine ⟨fun _ => ⟨?_, by omega, by omega⟩, fun n => absurd xs.1 n⟩
        unfold cx_en
        rw [if_neg (by omega), if_neg (by omega)]
      · rw [if_neg y]
        refine ⟨fun hz => ?_, h2⟩
        rw [newD _ (by omega) hz.1.1]
        exact h1 hz
end XN
end
section
/-! a shift of the class -/
def k_wp (p : Nat) (S S1 : dg_S) : Prop := kp (fun a b => a = 215 ∨ (a = 214 ∧ (b = 4 ∨ 9 ≤ b)) ∨ (a = p ∧ b = 0)) (fun a => (216 ≤ a ∧ a ≤ 220) ∨ a = p + 1 ∨ a = p + 2 ∨ a = p + 6) S S1
theorem k_sp.wp {p : Nat} {S S1 : dg_S} (h : k_sp S S1) : k_wp p S S1 := h.w (fun a b z => by omega) (fun a z => by omega)
theorem k_dg.wp {p : Nat} {S S1 : dg_S} (h : k_dg p S S1) : k_wp p S S1 := h.w (fun a b z => by omega) (fun a z => by omega)
theorem k_ex.wp {p : Nat} {S S1 : dg_S} (h : k_ex p S S1) : k_wp p S S1 := h.w (fun a b z => by omega) (fun a z => by omega)
section XO
variable {G A A' : aR} {K : Nat → List Int} {S0 S S1 : dg_S} {o g p : Nat} {r c x v : Int} {D D' : Int → Prop}
theorem cx_spoil (hp : pX p) (hS : zR o S0 214 7 = p) (hgr : zR o S0 214 6 = g) (hG : s_gw G) (hK : s_cd K) (hw : s_wf G A) (hg : cx_gt G K S0 g) (hpit : cx_pit G A S0 p) (hl : cx_light G A r S0) : ∃ S1, F_w_spoilExposed o S0 = S1 ∧ k_ex p S0 S1 ∧ cx_pit G (s_sp G K r A) S1 p := by
  have sep := pX_sep hp
  have sepg := rX_sep hg.1
  obtain ⟨-, lb, ec, hec, e72, le1, le2, le3⟩ := id hl
  have loop : ∀ (n i : Nat) (k : Int32) (S : dg_S), 73 ≤ n + i → i ≤ ec → k.toInt = i → k_ex p S0 S → cx_ce G (s_spD G K r A (fun c => ∃ j, j < i ∧ c = cx_ex S0 j - 8)) S p → ∃ S1, lp (F_w_spoilExposed_B1 S0 o) S0 n (k, S) = S1 ∧ k_ex p S0 S1 ∧ cx_ce G (s_spD G K r A (fun c => ∃ j, j < ec ∧ c = cx_ex S0 j - 8)) S1 p := by
    intro n
    induction n with
    | zero => intro i k S h1 h2; omega
    | succ n ih =>
      intro i k S h1 h2 hk kx hc
      by_cases q : i < ec
      · have e4 : zI S 214 4 = zI S0 214 4 := kx.I (fun z => absurd z (by decide))
        have lS : cx_light G A r S := hl.sm rfl rfl rfl (kx.2 217 (fun z => by omega)).1 (kx.2 218 (fun z => by omega)).1 (kx.2 219 (fun z => by omega)).1 e4
        have ex : cx_ex S = cx_ex S0 := by
          funext j
          unfold cx_ex
          rw [(kx.2 219 (fun z => by omega)).1]
        obtain ⟨S1, e1, k1, c1⟩ := cx_sp1 (o := o) (S0 := S0) hp hS hgr hG hK hw (hg.keep (fun j _ _ => (kx.2 j (fun z => by omega)).1) (fun b => kx.I (fun z => by omega))) hpit.2.1 lS e4.symm hc hpit.1 (i := i) hk (by rw [e4, hec]; omega) (fun z => by
          obtain ⟨j, hj, ej⟩ := z
          rw [ex] at ej
          have := le2 i j q (by omega) (by omega)
          omega)
        rw [ex] at c1
        have ek : (k + 1).toInt = ((i + 1 : Nat) : Int) := by
          rw [dk_addT (a := (i : Int)) (b := 1) hk (by decide +kernel) (by omega) (by omega)]
          omega
        have cc : cx_ce G (s_spD G K r A (fun c => ∃ j, j < i + 1 ∧ c = cx_ex S0 j - 8)) S1 p := by
          rw [s_spD_congr (D' := fun c => (∃ j, j < i ∧ c = cx_ex S0 j - 8) ∨ c = cx_ex S0 i - 8) (fun c _ _ => ?_)]
          · exact c1
          · constructor
            · rintro ⟨j, hj, ej⟩
              by_cases y : j < i
              · exact Or.inl ⟨j, y, ej⟩
              · have y1 : j = i := by omega
                rw [y1] at ej
                exact Or.inr ej
            · rintro (⟨j, hj, ej⟩ | ej)
              · exact ⟨j, by omega, ej⟩
              · exact ⟨i, by omega, ej⟩
        obtain ⟨S2, e2, k2, c2⟩ := ih (i + 1) (k + 1) S1 (by omega) (by omega) ek (kx.tr k1) cc
        exact ⟨S2, by rw [lp_sl e1]; exact e2, k2, c2⟩
      · have y1 : i = ec := by omega
        subst y1
        have c0 : zI S0 214 4 ≤ k := dk_lep (k := k.toInt) rfl (by omega)
        exact ⟨S, lp_sr (F_w_spoilExposed_p0 rfl c0), kx, hc⟩
  obtain ⟨hce, hsh, hpu, hhu, hpl, hso, htu⟩ := id hpit
  have c0 : cx_ce G (s_spD G K r A (fun c => ∃ j, j < 0 ∧ c = cx_ex S0 j - 8)) S0 p := by
    intro z a b
    obtain ⟨h1, h2⟩ := hce z a b
    refine ⟨fun hz => ?_, h2⟩
    rw [s_spD_c hz.1.1, s_if_n (fun y => by obtain ⟨⟨j, hj, -⟩, -⟩ := y; exact absurd hj (Nat.not_lt_zero j))]
    exact h1 hz
  obtain ⟨S1, e1, k1, c1⟩ := loop 74 0 (0 : Int32) S0 (by omega) (by omega) (by decide +kernel) kp.rf c0
  have es : s_sp G K r A = s_spD G K r A (fun c => ∃ j, j < ec ∧ c = cx_ex S0 j - 8) := by
    unfold s_sp
    refine s_spD_congr (fun c hs hn => ⟨fun _ => ?_, fun _ => trivial⟩)
    have c56 := s_in_56 hG.1.2 hs.1
    have hb := lb (c + 8) (by omega) (by omega)
    rw [show c + 8 - 8 = c by omega] at hb
    obtain ⟨j, hj, ej⟩ := le3 (c + 8) (by omega) (by omega) (by rw [show c + 8 - 8 = c by omega]; exact hs) (fun z => by
      rcases hb with y | y
      · exact hn y.2
      · omega)
    exact ⟨j, hj, by omega⟩
  have oth : ∀ a b, a ≠ 1 → s_sp G K r A a b = A a b := fun a b h => by
    unfold s_sp s_spD
    rw [s_if_n (fun z => h z.1)]
  refine ⟨S1, ?_, k1, ?_⟩
  · rw [F_w_spoilExposed_p5]
    exact e1
  · have row : ∀ i, i ≠ 216 → i ≠ p + 1 → S1.2.1 i = S0.2.1 i := fun i a b => (k1.2 i (fun z => by omega)).1
    have fl : ∀ b, zI S1 p b = zI S0 p b := fun b => k1.I (fun z => by omega)
    refine ⟨by rw [es]; exact c1, ?_, ?_, fun k hk => ?_, fun k hk => ?_, fun k hk => ?_, fun k hk => ?_⟩
    · rw [fl, oth _ _ (by decide)]; exact hsh
    · rw [fl, oth _ _ (by decide)]; exact hpu
    · rw [row _ (by omega) (by omega), oth _ _ (by decide)]; exact hhu k hk
    · rw [row _ (by omega) (by omega), row _ (by omega) (by omega), oth _ _ (by decide), oth _ _ (by decide)]; exact hpl k hk
    · rw [row _ (by omega) (by omega), oth _ _ (by decide)]; exact hso k hk
    · rw [row _ (by omega) (by omega), oth _ _ (by decide)]; exact htu k hk
/-- light where it is stale, or is as it should be -/
def cx_LI (G A : aR) (r : Int) (S : dg_S) : Prop := (zI S 214 9).toInt ≠ 0 ∨ cx_light G A r S
theorem cx_spread2 (hp : pX p) (hS : zR o S 214 7 = p) (hgr : zR o S 214 6 = g) (hG : s_gw G) (hg : cx_gt G K S g) (hr : (zI S 214 8).toInt = r) (hr9 : 0 ≤ r ∧ r ≤ 900) (hc : cx_ce G A S p) (hps : s_ps G A (G 0 2)) (hl : cx_LI G A r S) : ∃ S1, F_w_spreadLight o S = S1 ∧ cx_light G A r S1 ∧ k_sp S S1 := by
  have sepg := rX_sep hg.1
  by_cases q : (zI S 214 9).toInt = 0
  · rcases hl with z | z
    · exact absurd q z
    · exact ⟨S, F_w_spreadLight_p7 rfl (dk_eqp (k := 0) (by decide +kernel) q), z, kp.rf⟩
  · obtain ⟨S1, e1, l1, k1, -⟩ := cx_spread (o := o) hG.1 hp hS hgr (by omega) hr hr9 hc hg.2.1 hG.2.1.1 hps q
    exact ⟨S1, e1, l1, k1⟩
/-- the shaft stays open, the grades between their bounds: what a shift keeps -/
noncomputable def s_tk (G : aR) (K : Nat → List Int) (r : Int) (A : aR) : aR := s_up (s_sp G K r (s_dg G K r A).1) 0 0 (min 999 (A 0 0 + 1))
theorem s_dg_ps (hps : s_ps G A (G 0 2)) (hG : s_gw G) (hw : s_wf G A) : s_ps G (s_dg G K r A).1 (G 0 2) := by
  have h2 : 0 ≤ G 0 2 := hG.2.1.1
  unfold s_dg
  by_cases q : s_no G A
  · rw [s_if_y q]
    exact hps
  · rw [s_if_n q]
    have hd : s_so G A (A 4 (s_k G A)) := by
      apply Classical.byContradiction
      intro z
      exact q (Or.inr (Or.inr (fun y => z y.1)))
    have hne : G 0 2 ≠ A 4 (s_k G A) := fun z => by
      have := hd.2
      rw [← z] at this
      have := hps.2
      omega
    have h4 : 0 ≤ A 4 (s_k G A) := hd.1.1.1
    by_cases q2 : s_fa G K r A (A 4 (s_k G A))
    · rw [s_if_y q2]
      refine ⟨hps.1, ?_⟩
      rw [s_c_o (by decide), s_c_up h4 h2, if_neg hne]
      exact hps.2
    · rw [s_if_n q2]
      refine ⟨hps.1, ?_⟩
      rw [s_c_up h4 h2, if_neg hne, s_c_o (by decide)]
      exact hps.2
end XO
end
section
/-! one shift of the class, all of it -/
section XP2
variable {G A A' : aR} {K : Nat → List Int} {S0 S S1 : dg_S} {o g p : Nat} {r c x v : Int}
theorem s_gr_b (hs : 0 ≤ s_c A c ∧ s_c A c ≤ 9) : 0 ≤ s_gr G K r A c ∧ s_gr G K r A c ≤ 9 := by
  unfold s_gr
  by_cases q : K 2 = []
  · rw [s_if_y q]
    exact hs
  · rw [s_if_n q]
    omega
/-- what holds of cells -/
def s_cw (G A : aR) : Prop := (∀ c, s_in G c → -2 ≤ s_c A c ∧ s_c A c ≤ 9) ∧ s_ps G A (G 0 2)
theorem s_dg_wf (hG : s_gw G) (hw : s_wf G A) (hc : s_cw G A) : s_wf G (s_dg G K r A).1 := by
  obtain ⟨w0, w1, w2, w3, w4, w5⟩ := id hw
  unfold s_dg
  by_cases q : s_no G A
  · rw [s_if_y q]
    exact hw
  · rw [s_if_n q]
    have hd : s_so G A (A 4 (s_k G A)) := by
      apply Classical.byContradiction
      intro z
      exact q (Or.inr (Or.inr (fun y => z y.1)))
    by_cases q2 : s_fa G K r A (A 4 (s_k G A))
    · rw [s_if_y q2]
      dsimp only
      have E : ∀ a b, a ≠ 1 → a ≠ 2 → s_up (s_up A 1 (A 4 (s_k G A)).toNat 0) 2 (A 3 (s_k G A)).toNat 1 a b = A a b := fun a b h1 h2 => by rw [s_up_ne (fun z => h2 z.1), s_up_ne (fun z => h1 z.1)]
      refine ⟨by rw [E _ _ (by decide) (by decide)]; exact w0, by rw [E _ _ (by decide) (by decide)]; exact w1, fun k hk => ?_, fun k hk => by rw [E _ _ (by decide) (by decide), E _ _ (by decide) (by decide)]; exact w3 k hk, fun k hk => by rw [E _ _ (by decide) (by decide)]; exact w4 k hk, fun k hk => by rw [E _ _ (by decide) (by decide)]; exact w5 k hk⟩
      by_cases y : k = (A 3 (s_k G A)).toNat
      · have g6 : G 0 6 ≠ 0 := fun z => q (Or.inl z)
        have hG6 := hG.2.2
        have hk6 : ((s_k G A : Nat) : Int) < G 0 6 := by
          have h1 := Int.emod_lt_of_pos (A 0 0) (show 0 < G 0 6 by omega)
          have h2 := Int.emod_nonneg (A 0 0) g6
          unfold s_k
          omega
        have := (w3 _ hk6).1
        rw [y, s_up_at]
        exact Or.inr ⟨rfl, by omega⟩
      · rw [s_up_ne (fun z => y z.2), s_up_ne (fun z => absurd z.1 (by decide))]
        exact w2 k hk
    · rw [s_if_n q2]
      obtain ⟨gr, hgr⟩ : ∃ gr, gr = s_gr G K r A (A 4 (s_k G A)) := ⟨_, rfl⟩
      have hgb := s_gr_b (G := G) (K := K) (r := r) ⟨hd.2, (hc.1 _ hd.1).2⟩
      rw [← hgr] at hgb ⊢
      dsimp only
      have E : ∀ a b, a ≠ 1 → a ≠ 6 → s_up (s_up A 6 gr.toNat (min 99 (A 6 gr.toNat + 1))) 1 (A 4 (s_k G A)).toNat (-1) a b = A a b := fun a b h1 h2 => by rw [s_up_ne (fun z => h1 z.1), s_up_ne (fun z => h2 z.1)]
      refine ⟨by rw [E _ _ (by decide) (by decide)]; exact w0, by rw [E _ _ (by decide) (by decide)]; exact w1, fun k hk => by rw [E _ _ (by decide) (by decide)]; exact w2 k hk, fun k hk => by rw [E _ _ (by decide) (by decide), E _ _ (by decide) (by decide)]; exact w3 k hk, fun k hk => by rw [E _ _ (by decide) (by decide)]; exact w4 k hk, fun k hk => ?_⟩
      rw [s_up_ne (fun z => absurd z.1 (by decide))]
      by_cases y : k = gr.toNat
      · rw [y, s_up_at]
        have := w5 gr.toNat (by omega)
        omega
      · rw [s_up_ne (fun z => y z.2)]
        exact w5 k hk
theorem s_dg_cw (hG : s_gw G) (hw : s_wf G A) (hc : s_cw G A) : s_cw G (s_dg G K r A).1 := by
  refine ⟨fun d hd => ?_, s_dg_ps hc.2 hG hw⟩
  have h0 : 0 ≤ d := hd.1.1
  have hb := hc.1 d hd
  unfold s_dg
  by_cases q : s_no G A
  · rw [s_if_y q]
    exact hb
  · rw [s_if_n q]
    have h4 : 0 ≤ A 4 (s_k G A) := by
      apply Classical.byContradiction
      intro z
      exact q (Or.inr (Or.inr (fun y => z y.1.1.1.1)))
    by_cases q2 : s_fa G K r A (A 4 (s_k G A))
    · rw [s_if_y q2]
      dsimp only
      rw [s_c_o (by decide), s_c_up h4 h0]
      split <;> omega
    · rw [s_if_n q2]
      dsimp only
      rw [s_c_up h4 h0, s_c_o (by decide)]
      split <;> omega
theorem s_sp_o {a b : Nat} (h : a ≠ 1) : s_sp G K r A a b = A a b := by
  unfold s_sp s_spD
  rw [s_if_n (fun z => h z.1)]
theorem s_sp_c {d : Int} (hd : 0 ≤ d) : s_c (s_sp G K r A) d = s_if (s_so G A d ∧ s_nl G A r d ≠ -1) (max 0 (s_c A d - max 0 (s_sv G K r A d))) (s_c A d) := by
  unfold s_sp
  rw [s_spD_c hd]
  by_cases q : s_so G A d ∧ s_nl G A r d ≠ -1
  · rw [s_if_y ⟨trivial, q⟩, s_if_y q]
  · rw [s_if_n (fun z => q z.2), s_if_n q]
theorem s_sp_cw (hc : s_cw G A) : s_cw G (s_sp G K r A) := by
  have h2 := hc.2.1.1.1
  refine ⟨fun d hd => ?_, hc.2.1, ?_⟩
  · have hb := hc.1 d hd
    rw [s_sp_c hd.1.1]
    by_cases q : s_so G A d ∧ s_nl G A r d ≠ -1
    · rw [s_if_y q]
      omega
    · rw [s_if_n q]
      exact hb
  · rw [s_sp_c h2, s_if_n (fun z => by have := z.1.2; have := hc.2.2; omega)]
    exact hc.2.2
theorem s_sp_sets : s_op G (s_sp G K r A) = s_op G A ∧ s_ps G (s_sp G K r A) = s_ps G A ∧ s_so G (s_sp G K r A) = s_so G A := by
  have E : ∀ d, s_in G d → (s_c (s_sp G K r A) d = s_c A d ∨ (0 ≤ s_c (s_sp G K r A) d ∧ 0 ≤ s_c A d)) := fun d hd => by
    rw [s_sp_c hd.1.1]
    by_cases q : s_so G A d ∧ s_nl G A r d ≠ -1
    · rw [s_if_y q]
      exact Or.inr ⟨by omega, q.1.2⟩
    · rw [s_if_n q]
      exact Or.inl rfl
  refine ⟨?_, ?_, ?_⟩
  · funext d
    apply propext
    unfold s_op
    refine ⟨fun z => ⟨z.1, ?_⟩, fun z => ⟨z.1, ?_⟩⟩ <;> (have h := E d z.1; have h2 := z.2; omega)
  · funext d
    apply propext
    unfold s_ps
    refine ⟨fun z => ⟨z.1, ?_⟩, fun z => ⟨z.1, ?_⟩⟩ <;> (have h := E d z.1; have h2 := z.2; omega)
  · funext d
    apply propext
    unfold s_so
    refine ⟨fun z => ⟨z.1, ?_⟩, fun z => ⟨z.1, ?_⟩⟩ <;> (have h := E d z.1; have h2 := z.2; omega)
theorem s_tk_c (d : Int) : s_c (s_tk G K r A) d = s_c (s_sp G K r (s_dg G K r A).1) d := s_c_o (by decide)
theorem s_tk_cw (hG : s_gw G) (hw : s_wf G A) (hc : s_cw G A) : s_cw G (s_tk G K r A) := by
  have h := s_sp_cw (K := K) (r := r) (s_dg_cw (K := K) (r := r) hG hw hc)
  refine ⟨fun d hd => by rw [s_tk_c]; exact h.1 d hd, h.2.1, by rw [s_tk_c]; exact h.2.2⟩
theorem s_tk_wf (hG : s_gw G) (hw : s_wf G A) (hc : s_cw G A) : s_wf G (s_tk G K r A) := by
  obtain ⟨w0, w1, w2, w3, w4, w5⟩ := s_dg_wf (K := K) (r := r) hG hw hc
  have h0 := hw.1
  have E : ∀ a b, a ≠ 0 → a ≠ 1 → s_tk G K r A a b = (s_dg G K r A).1 a b := fun a b h1 h2 => by
    unfold s_tk
    rw [s_up_ne (fun z => h1 z.1), s_sp_o h2]
  refine ⟨?_, ?_, fun k hk => by rw [E _ _ (by decide) (by decide)]; exact w2 k hk, fun k hk => by rw [E _ _ (by decide) (by decide), E _ _ (by decide) (by decide)]; exact w3 k hk, fun k hk => by rw [E _ _ (by decide) (by decide)]; exact w4 k hk, fun k hk => by rw [E _ _ (by decide) (by decide)]; exact w5 k hk⟩
  · unfold s_tk
    rw [s_up_at]
    omega
  · unfold s_tk
    rw [s_up_ne (by decide), s_sp_o (by decide)]
    exact w1
/-- one turn of pass -/
theorem cx_tick (hp : pX p) (hS0 : zR o S0 214 7 = p) (hS : zR o S 214 7 = p) (hgr : zR o S 214 6 = g) (hG : s_gw G) (hK : s_cd K) (hw : s_wf G A) (hcw : s_cw G A) (hg : cx_gt G K S g) (hr : (zI S 214 8).toInt = r) (hr9 : 0 ≤ r ∧ r ≤ 900) (hpit : cx_pit G A S p) (hl : cx_LI G A r S) {a k : Int32} (hk : ¬ a ≤ k) :
    ∃ S1, F_w_pass_B1 a o S0 (k, S) = .inl (k + 1, S1) ∧ k_wp p S S1 ∧ cx_pit G (s_tk G K r A) S1 p ∧ cx_LI G (s_tk G K r A) r S1 ∧ (((s_dg G K r A).2.1 = -1 ∧ (zI S1 214 10).toInt = -1) ∨ ((s_dg G K r A).2.1 ≠ -1 ∧ (zI S1 214 10).toInt = (s_dg G K r A).2.1 ∧ (zI S1 214 11).toInt = (s_dg G K r A).2.2.1 + 8 ∧ (zI S1 214 12).toInt = (s_dg G K r A).2.2.2)) := by
  have sep := pX_sep hp
  have sepg := rX_sep hg.1
  obtain ⟨S5, hS5⟩ : ∃ S5, S5 = dg_uF S 214 10 (.int (-1 : Int32)) := ⟨_, rfl⟩
  have t5 : k_wp p S S5 := by rw [hS5]; exact kp.uF kp.rf (by omega)
  have r5 : S5.2.1 = S.2.1 := by rw [hS5]; rfl
  have I5 : ∀ a b, ¬ (a = 214 ∧ b = 10) → zI S5 a b = zI S a b := fun a b h => by rw [hS5, w_I0 h]
  have hR : ∀ {S1 : dg_S}, k_wp p S S1 → zR o S1 214 7 = p ∧ zR o S1 214 6 = g ∧ cx_gt G K S1 g ∧ (zI S1 214 8).toInt = r := fun {S1} t => ⟨by rw [t.R (fun z => by omega)]; exact hS, by rw [t.R (fun z => by omega)]; exact hgr, hg.keep (fun i _ _ => (t.2 i (fun z => by omega)).1) (fun b => t.I (fun z => by omega)), by rw [t.I (fun z => by omega)]; exact hr⟩
  have p5 : cx_pit G A S5 p := hpit.keep (fun i _ _ => by rw [r5]) (fun b _ => I5 _ _ (fun z => by omega))
  have l5 : cx_LI G A r S5 := by
    rcases hl with z | z
    · exact Or.inl (by rw [I5 _ _ (by decide)]; exact z)
    · exact Or.inr (z.sm rfl rfl rfl (by rw [r5]) (by rw [r5]) (by rw [r5]) (I5 _ _ (by decide)))
  obtain ⟨a1, a2, a3, a4⟩ := hR t5
  obtain ⟨S6, e6, l6, k6⟩ := cx_spread2 (o := o) hp a1 a2 hG a3 a4 hr9 p5.1 hcw.2 l5
  have t6 := t5.tr k6.wp
  have p6 : cx_pit G A S6 p := p5.keep (fun i _ _ => (k6.2 i (fun z => by omega)).1) (fun b _ => k6.I (fun z => by omega))
  obtain ⟨b1, b2, b3, b4⟩ := hR t6
  obtain ⟨S7, e7, k7, p7, l7, d7⟩ := cx_dig (o := o) hp b1 b2 hG hK hw b3 p6 l6
  have t7 := t6.tr k7.wp
  obtain ⟨c1, c2, c3, c4⟩ := hR t7
  have cw1 := s_dg_cw (K := K) (r := r) hG hw hcw
  have l7' : cx_LI G (s_dg G K r A).1 r S7 := by
    rcases l7 with z | z
    · exact Or.inl z
    · exact Or.inr z.2
  obtain ⟨S8, e8, l8, k8⟩ := cx_spread2 (o := o) hp c1 c2 hG c3 c4 hr9 p7.1 cw1.2 l7'
  have t8 := t7.tr k8.wp
  have p8 : cx_pit G (s_dg G K r A).1 S8 p := p7.keep (fun i _ _ => (k8.2 i (fun z => by omega)).1) (fun b _ => k8.I (fun z => by omega))
  obtain ⟨f1, f2, f3, f4⟩ := hR t8
  obtain ⟨S9, e9, k9, p9⟩ := cx_spoil (o := o) hp f1 f2 hG hK (s_dg_wf (K := K) (r := r) hG hw hcw) f3 p8 l8
  have t9 := t8.tr k9.wp
  obtain ⟨x83, hx83⟩ : ∃ x83, x83 = if zI S9 p 0 + (1 : Int32) < (999 : Int32) then zI S9 p 0 + (1 : Int32) else (999 : Int32) := ⟨_, rfl⟩
  obtain ⟨S10, hS10⟩ : ∃ S10, S10 = dg_uF S9 p 0 (.int x83) := ⟨_, rfl⟩
  have h00 : (s_sp G K r (s_dg G K r A).1) 0 0 = A 0 0 := by
    rw [s_sp_o (by decide)]
    unfold s_dg
    by_cases q : s_no G A
    · rw [s_if_y q]
    · rw [s_if_n q]
      by_cases q2 : s_fa G K r A (A 4 (s_k G A))
      · rw [s_if_y q2]
        dsimp only
        rw [s_up_ne (fun z => absurd z.1 (by decide)), s_up_ne (fun z => absurd z.1 (by decide))]
      · rw [s_if_n q2]
        dsimp only
        rw [s_up_ne (fun z => absurd z.1 (by decide)), s_up_ne (fun z => absurd z.1 (by decide))]
  have esh : (zI S9 p 0).toInt = A 0 0 := by rw [p9.2.1, h00]
  have w00 := hw.1
  have e83 : x83.toInt = min 999 (A 0 0 + 1) := by
    have e3 : (zI S9 p 0 + (1 : Int32)).toInt = A 0 0 + 1 := dk_addT esh (by decide +kernel) (by omega) (by omega)
    have z99 : (999 : Int32).toInt = 999 := by decide +kernel
    rw [hx83]
    by_cases y : zI S9 p 0 + (1 : Int32) < (999 : Int32)
    · have := dk_ltc (k := 999) z99 y
      rw [if_pos y, e3]
      omega
    · have := dk_nltc (k := 999) z99 y
      rw [if_neg y, z99]
      omega
  have r10 : S10.2.1 = S9.2.1 := by rw [hS10]; rfl
  have I10 : ∀ a b, ¬ (a = p ∧ b = 0) → zI S10 a b = zI S9 a b := fun a b h => by rw [hS10, w_I0 h]
  refine ⟨S10, ?_, by rw [hS10]; exact kp.uF t9 (by omega), ?_, Or.inr ?_, ?_⟩
  · rw [F_w_pass_p2 hk hS5 e6.symm e7.symm e8.symm]
    exact F_w_pass_p1 e9.symm hS0.symm rfl rfl hx83 hS10 rfl
  · obtain ⟨q1, q2, q3, q4, q5, q6, q7⟩ := p9
    have E : ∀ a b, ¬ (a = 0 ∧ b = 0) → s_tk G K r A a b = s_sp G K r (s_dg G K r A).1 a b := fun a b h => by
      unfold s_tk
      rw [s_up_ne h]
    refine ⟨?_, ?_, ?_, fun k hk => ?_, fun k hk => ?_, fun k hk => ?_, fun k hk => ?_⟩
    · intro z a b
      rw [s_tk_c]
      exact (q1.keep (S1 := S10) (by rw [r10])) z a b
    · rw [hS10, w_I, if_pos ⟨rfl, rfl⟩, e83]
      unfold s_tk
      rw [s_up_at]
    · rw [I10 _ _ (by omega), E _ _ (by decide)]; exact q3
    · rw [r10, E _ _ (fun z => absurd z.1 (by decide))]; exact q4 k hk
    · rw [r10, E _ _ (fun z => absurd z.1 (by decide)), E _ _ (fun z => absurd z.1 (by decide))]; exact q5 k hk
    · rw [r10, E _ _ (fun z => absurd z.1 (by decide))]; exact q6 k hk
    · rw [r10, E _ _ (fun z => absurd z.1 (by decide))]; exact q7 k hk
  · obtain ⟨s1, s2, s3⟩ := s_sp_sets (G := G) (K := K) (r := r) (A := (s_dg G K r A).1)
    have T : ∀ (P : aR → Int → Prop), True := fun _ => trivial
    have o1 : s_op G (s_tk G K r A) = s_op G (s_dg G K r A).1 := by rw [← s1]; funext d; unfold s_op; rw [s_tk_c]
    have o2 : s_ps G (s_tk G K r A) = s_ps G (s_dg G K r A).1 := by rw [← s2]; funext d; unfold s_ps; rw [s_tk_c]
    have o3 : s_so G (s_tk G K r A) = s_so G (s_dg G K r A).1 := by rw [← s3]; funext d; unfold s_so; rw [s_tk_c]
    exact l8.sm o1 o2 o3 (by rw [r10, (k9.2 217 (fun z => by omega)).1]) (by rw [r10, (k9.2 218 (fun z => by omega)).1]) (by rw [r10, (k9.2 219 (fun z => by omega)).1]) (by rw [I10 _ _ (by omega)]; exact k9.I (fun z => absurd z (by decide)))
  · have J : ∀ b, 10 ≤ b → zI S10 214 b = zI S7 214 b := fun b hb => by
      rw [I10 _ _ (by omega), k9.I (fun z => absurd z (by decide)), k8.I (fun z => by omega)]
    rw [J 10 (by decide), J 11 (by decide), J 12 (by decide)]
    rcases d7 with ⟨z1, z2⟩ | z
    · refine Or.inl ⟨z1, ?_⟩
      rw [z2, k6.I (fun z => by omega), hS5, w_I, if_pos ⟨rfl, rfl⟩]
      decide +kernel
    · exact Or.inr z
end XP2
end
section
/-! the reference: cells, and what lies next to them -/
def mx_ad (v : Nat) (c : Int) : Nat := (64 * (v : Int) + c).toNat
def mx_cu (x : Int) : Int := if x = -2 then 1 else 0
def mx_en (x : Int) : Int := if x < 0 then -1 else x
/-- the cells of layer v are those of A -/
def mx_ce (G A : aR) (S : dg_S) (v : Nat) : Prop := ∀ c : Int, s_in G c → (S.2.1 31 (mx_ad v c)).toInt = mx_en (s_c A c) ∧ (S.2.1 32 (mx_ad v c)).toInt = mx_cu (s_c A c) ∧ -2 ≤ s_c A c ∧ s_c A c ≤ 9
/-- the ground that is read is G -/
def mx_gd (G : aR) (S : dg_S) : Prop := (zI S 0 47).toInt ≠ 0 ∧ (S.2.1 2 (zI S 0 13).toNatClampNeg).toInt = G 0 0 ∧ (S.2.1 3 (zI S 0 13).toNatClampNeg).toInt = G 0 1 ∧ (S.2.1 4 (zI S 0 13).toNatClampNeg).toInt = G 0 2 ∧ (S.2.1 9 (zI S 0 13).toNatClampNeg).toInt = G 0 6
def s_gb (G : aR) : Prop := (0 < G 0 0 ∧ 0 < G 0 1) ∧ G 0 0 ≤ 7 ∧ G 0 1 ≤ 7
def mx_dd (w : Int) : Int := if w = 1 then 1 else if w = 3 then -1 else if w = 2 then 8 else -8
section MA
variable {G A : aR} {S : dg_S} {v o : Nat} {a b c a1 a2 : Int32}
theorem mx_is : F_m_is o S a b c = 1 ∧ b.toInt ≤ a.toInt ∧ a.toInt ≤ c.toInt ∨ F_m_is o S a b c = 0 ∧ ¬ (b.toInt ≤ a.toInt ∧ a.toInt ≤ c.toInt) := by
  by_cases h0 : a < b
  · refine Or.inr ⟨F_m_is_p0 h0, fun z => ?_⟩
    have := w_lt.mp h0
    omega
  · have h0' : ¬ a.toInt < b.toInt := fun z => h0 (w_lt.mpr z)
    by_cases h1 : c < a
    · refine Or.inr ⟨F_m_is_p1 h0 h1, fun z => ?_⟩
      have := w_lt.mp h1
      omega
    · have : ¬ c.toInt < a.toInt := fun z => h1 (w_lt.mpr z)
      exact Or.inl ⟨F_m_is_p2 h0 h1, by omega, by omega⟩
theorem mx_isCell (hg : mx_gd G S) (hb : s_gb G) : F_m_isCell o S a b = 1 ∧ (0 ≤ a.toInt ∧ a.toInt < G 0 0) ∧ 0 ≤ b.toInt ∧ b.toInt < G 0 1 ∨ F_m_isCell o S a b = 0 ∧ ¬ ((0 ≤ a.toInt ∧ a.toInt < G 0 0) ∧ 0 ≤ b.toInt ∧ b.toInt < G 0 1) := by
  obtain ⟨g0, g1, g2, -, -⟩ := hg
  obtain ⟨⟨b0, b1⟩, b2, b3⟩ := hb
  have z0 : (0 : Int32).toInt = 0 := by decide +kernel
  have n0 : ¬ zI S 0 47 = (0 : Int32) := fun z => g0 (dk_eqc z0 z)
  have e1 : (S.2.1 2 (zI S 0 13).toNatClampNeg - (1 : Int32)).toInt = G 0 0 - 1 := dk_subT g1 (by decide +kernel) (by omega) (by omega)
  have e2 : (S.2.1 3 (zI S 0 13).toNatClampNeg - (1 : Int32)).toInt = G 0 1 - 1 := dk_subT g2 (by decide +kernel) (by omega) (by omega)
  rcases mx_is (o := o) (S := S) (a := a) (b := 0) (c := S.2.1 2 (zI S 0 13).toNatClampNeg - (1 : Int32)) with ⟨e, h⟩ | ⟨e, h⟩
  · have m1 : ¬ F_m_is o S a (0 : Int32) (S.2.1 2 (zI S 0 13).toNatClampNeg - (1 : Int32)) = (0 : Int32) := by rw [e]; decide +kernel
    rw [e1, z0] at h
    rcases mx_is (o := o) (S := S) (a := b) (b := 0) (c := S.2.1 3 (zI S 0 13).toNatClampNeg - (1 : Int32)) with ⟨f, k⟩ | ⟨f, k⟩
    · rw [e2, z0] at k
      exact Or.inl ⟨F_m_isCell_p3 rfl rfl rfl rfl n0 rfl rfl m1 rfl rfl (by rw [f]; decide +kernel), by omega, by omega⟩
    · rw [e2, z0] at k
      exact Or.inr ⟨F_m_isCell_p2 rfl rfl rfl rfl n0 rfl rfl m1 rfl rfl f, by omega⟩
  · rw [e1, z0] at h
    exact Or.inr ⟨F_m_isCell_p1 rfl rfl rfl n0 rfl rfl e, by omega⟩
theorem mx_isCellOf (hg : mx_gd G S) (hb : s_gb G) : F_m_isCellOf o S a = 1 ∧ s_in G a.toInt ∨ F_m_isCellOf o S a = 0 ∧ ¬ s_in G a.toInt := by
  have z0 : (0 : Int32).toInt = 0 := by decide +kernel
  obtain ⟨⟨b0, b1⟩, b2, b3⟩ := id hb
  by_cases h0 : a < (0 : Int32)
  · exact Or.inr ⟨F_m_isCellOf_p0 h0, fun z => by have := dk_ltc z0 h0; have := z.1.1; omega⟩
  · have h0' := dk_nltc z0 h0
    have r1 : (a - a / (8 : Int32) * (8 : Int32)).toInt = a.toInt % 8 := dk_remL h0' (by decide +kernel) (by omega)
    have r2 : (a / (8 : Int32)).toInt = a.toInt / 8 := dk_divL h0' (by decide +kernel) (by omega)
    rcases mx_isCell (o := o) (a := a - a / (8 : Int32) * (8 : Int32)) (b := a / (8 : Int32)) hg hb with ⟨e, h⟩ | ⟨e, h⟩
    · rw [r1, r2] at h
      exact Or.inl ⟨F_m_isCellOf_p2 h0 rfl rfl rfl (by rw [e]; decide +kernel), ⟨⟨h0', by omega⟩, h.1.2, h.2.2⟩⟩
    · rw [r1, r2] at h
      exact Or.inr ⟨F_m_isCellOf_p1 h0 rfl rfl rfl e, fun z => h ⟨⟨by omega, z.2.1⟩, by omega, z.2.2⟩⟩
end MA
end
