/-! the reference: ahead of each act, and back -/
abbrev s_U : Type := List (aR × s_L)
/-- the last 20 -/
def s_ud (U : s_U) (e : aR × s_L) : s_U := (if U.length = 20 then U.tail else U) ++ [e]
theorem s_ud_len {U : s_U} {e : aR × s_L} (h : U.length ≤ 20) : (s_ud U e).length = min 20 (U.length + 1) := by
  unfold s_ud
  by_cases q : U.length = 20
  · rw [if_pos q, List.length_append, List.length_tail]
    simp only [List.length_cons, List.length_nil]
    omega
  · rw [if_neg q, List.length_append]
    simp only [List.length_cons, List.length_nil]
    omega
theorem tl_get {α : Type} (U : List α) (i : Nat) : U.tail[i]? = U[i + 1]? := by
  cases U <;> simp
theorem ap_get {α : Type} {X : List α} {e y : α} {i : Nat} (h : (X ++ [e])[i]? = some y) : (i < X.length ∧ X[i]? = some y) ∨ (i = X.length ∧ y = e) := by
  by_cases q : i < X.length
  · rw [List.getElem?_append_left q] at h
    exact Or.inl ⟨q, h⟩
  · rw [List.getElem?_append_right (by omega)] at h
    by_cases z : i = X.length
    · subst z
      rw [Nat.sub_self] at h
      exact Or.inr ⟨rfl, (Option.some.inj h).symm⟩
    · exfalso
      obtain ⟨m, hm⟩ : ∃ m, i - X.length = m + 1 := ⟨i - X.length - 1, by omega⟩
      rw [hm] at h
      simp at h
theorem get_lt {α : Type} {X : List α} {y : α} {i : Nat} (h : X[i]? = some y) : i < X.length := by
  apply Classical.byContradiction
  intro q
  rw [List.getElem?_eq_none (by omega)] at h
  cases h
def mx_ud (G : aR) (S : dg_S) (U : s_U) : Prop := (zI S 0 61).toInt = U.length ∧ U.length ≤ 20 ∧ ∃ f : Nat, f < 20 ∧ (zI S 0 60).toInt = f ∧ ∀ i e, U[i]? = some e → mx_lay G e.1 e.2 S (2 + (f + i) % 20)
section UD
variable {v u o : Nat} {S S0 S1 T : dg_S} {G A : aR} {L : s_L} {U : s_U} {K : Nat → List Int} {a1 a2 : Int32}
theorem k_v.ud (t : k_v v S S1) (h : mx_ud G S U) (hv : v ≤ 1) (hb : G 0 6 ≤ 16) : mx_ud G S1 U := by
  obtain ⟨h1, h2, f, h3, h4, h5⟩ := h
  exact ⟨by rw [t.I]; exact h1, h2, f, h3, by rw [t.I]; exact h4, fun i e he => t.lay (h5 i e he) (by omega) hb⟩
theorem mx_slot {f n : Nat} (hf : f < 20) (h60 : (zI S 0 60).toInt = f) (hn : n ≤ 20) (ha : a1.toInt = n) : (F_m_slot o S a1).toInt = ((2 + (f + n) % 20 : Nat) : Int) := by
  have e1 : (zI S 0 60 + a1).toInt = ((f + n : Nat) : Int) := by
    rw [dk_addT h60 ha (by omega) (by omega)]
    omega
  have e2 : (zI S 0 60 + a1 - (zI S 0 60 + a1) / (20 : Int32) * (20 : Int32)).toInt = (((f + n) % 20 : Nat) : Int) := by
    rw [dk_remL (b := 20) (by omega) (by decide +kernel) (by omega), e1]
    omega
  rw [F_m_slot_p0 rfl rfl rfl rfl, dk_addT (a := 2) (by decide +kernel) e2 (by omega) (by omega)]
  omega
/-- fields 60, 61 and the layers from 2 on -/
def k_u (S S1 : dg_S) : Prop := kp (fun a b => a = 0 ∧ (b = 60 ∨ b = 61)) (fun a => 29 ≤ a ∧ a ≤ 44) S S1 ∧ ∀ a, 29 ≤ a → a ≤ 39 → ∀ j, j < 2 * mx_w a → S1.2.1 a j = S.2.1 a j
theorem mx_w1 (a : Nat) : 1 ≤ mx_w a := by
  unfold mx_w
  split
  · decide
  · split
    · decide
    · split
      · decide
      · split <;> decide
theorem k_v.ku (t : k_v v S S1) (hv : 2 ≤ v) : k_u S S1 := by
  refine ⟨t.1.w (fun _ _ z => absurd z id) (fun a z => z), fun a a0 a1 j hj => t.2 a a0 a1 j (fun z => ?_)⟩
  have h := Nat.mul_le_mul_left (mx_w a) hv
  rw [Nat.mul_comm (mx_w a) 2] at h
  omega
theorem k_u.tr (t : k_u S S0) (t1 : k_u S0 S1) : k_u S S1 := ⟨t.1.tr t1.1, fun a a0 a1 j hj => (t1.2 a a0 a1 j hj).trans (t.2 a a0 a1 j hj)⟩
theorem k_u.F {b : Nat} {w : Value} (hb : b = 60 ∨ b = 61) : k_u S (dg_uF S 0 b w) := ⟨kp.uF kp.rf ⟨rfl, hb⟩, fun _ _ _ _ _ => rfl⟩
theorem k_u.lay (t : k_u S S1) (h : mx_lay G A L S v) (hv : v < 2) (hb : G 0 6 ≤ 16) : mx_lay G A L S1 v := h.keep hb (fun a a0 a1 j j0 j1 => t.2 a a0 a1 j (by
  have h9 := Nat.mul_le_mul_left (mx_w a) (show v + 1 ≤ 2 by omega)
  rw [Nat.mul_comm (mx_w a) 2, Nat.mul_add, Nat.mul_one] at h9
  omega))
theorem k_u.gd (t : k_u S S1) (h : mx_gd G S) : mx_gd G S1 := by
  obtain ⟨h1, h2, h3, h4, h5⟩ := h
  have e : ∀ i, i ≤ 19 → S1.2.1 i = S.2.1 i := fun i hi => (t.1.2 i (by omega)).1
  have e47 : zI S1 0 47 = zI S 0 47 := t.1.I (by decide)
  have e13 : zI S1 0 13 = zI S 0 13 := t.1.I (by decide)
  refine ⟨by rw [e47]; exact h1, ?_, ?_, ?_, ?_⟩
  · rw [e13, e 2 (by decide)]; exact h2
  · rw [e13, e 3 (by decide)]; exact h3
  · rw [e13, e 4 (by decide)]; exact h4
  · rw [e13, e 9 (by decide)]; exact h5
theorem k_u.g (t : k_u S S1) (h : mx_g G K S) : mx_g G K S1 := by
  obtain ⟨h1, b, h2, h3, h4⟩ := h
  exact ⟨t.gd h1, b, h2, by rw [t.1.I (by decide)]; exact h3, fun w hw => (h4 w hw).keep (fun i hi => (t.1.2 i (by omega)).1)⟩
/-- ahead of an act -/
theorem mx_keeps1 {f n : Nat} (hb : G 0 6 ≤ 16) (hl : mx_lay G A L S 0) (hn : n = U.length) (hn9 : n ≤ 19) (hf : f < 20) (h60 : (zI S 0 60).toInt = f) (ha : a1.toInt = n) (hU : ∀ i e, U[i]? = some e → mx_lay G e.1 e.2 S (2 + (f + i) % 20)) : ∃ S1, F_m_keeps_J1 o S a1 = S1 ∧ k_u S S1 ∧ mx_ud G S1 (U ++ [(A, L)]) := by
  have z0 : (0 : Int32).toInt = 0 := by decide +kernel
  have es := mx_slot (o := o) hf h60 (by omega) ha
  obtain ⟨S2, e2, k2, l2⟩ := mx_copies (o := o) (S := S) (v := 2 + (f + n) % 20) (u := 0) (a1 := F_m_slot o S a1) (a2 := 0) es z0 (by omega) (by omega) (by omega) hl hb
  obtain ⟨S3, h3⟩ : ∃ T, T = dg_uF S2 0 61 (.int (a1 + (1 : Int32))) := ⟨_, rfl⟩
  have r3 : S3.2.1 = S2.2.1 := by rw [h3]; rfl
  refine ⟨S3, F_m_keeps_p0 rfl e2.symm rfl h3, ?_, ?_, ?_, f, hf, ?_, fun i e he => ?_⟩
  · rw [h3]
    exact (k2.ku (by omega)).tr (k_u.F (Or.inr rfl))
  · rw [h3, w_I, if_pos ⟨rfl, rfl⟩, dk_addT ha (b := 1) (by decide +kernel) (by omega) (by omega), List.length_append]
    simp only [List.length_cons, List.length_nil]
    omega
  · rw [List.length_append]
    simp only [List.length_cons, List.length_nil]
    omega
  · rw [h3, w_I, if_neg (by decide), k2.I]
    exact h60
  · have L3 : ∀ {B : aR} {M : s_L} {w : Nat}, mx_lay G B M S2 w → mx_lay G B M S3 w := fun h => h.keep hb (fun a _ _ j _ _ => by rw [r3])
    rcases ap_get he with ⟨q, y⟩ | ⟨q, y⟩
    · exact L3 (k2.lay (hU i e y) (by omega) hb)
    · subst y
      rw [q, ← hn]
      exact L3 l2
theorem mx_keeps (hb : G 0 6 ≤ 16) (hl : mx_lay G A L S 0) (hu : mx_ud G S U) : ∃ S1, F_m_keeps o S = S1 ∧ k_u S S1 ∧ mx_ud G S1 (s_ud U (A, L)) := by
  obtain ⟨h1, h2, f, h3, h4, h5⟩ := hu
  unfold s_ud
  by_cases q : zI S 0 61 = (20 : Int32)
  · have d := dk_eqc (k := 20) (by decide +kernel) q
    have hl20 : U.length = 20 := by omega
    rw [if_pos hl20]
    have e1 : (zI S 0 60 + (1 : Int32)).toInt = (f : Int) + 1 := dk_addT h4 (by decide +kernel) (by omega) (by omega)
    have e2 : (zI S 0 60 + (1 : Int32) - (zI S 0 60 + (1 : Int32)) / (20 : Int32) * (20 : Int32)).toInt = (((f + 1) % 20 : Nat) : Int) := by
      rw [dk_remL (b := 20) (by omega) (by decide +kernel) (by omega), e1]
      omega
    obtain ⟨S41, h41⟩ : ∃ T, T = dg_uF S 0 60 (.int (zI S 0 60 + (1 : Int32) - (zI S 0 60 + (1 : Int32)) / (20 : Int32) * (20 : Int32))) := ⟨_, rfl⟩
    obtain ⟨S43, h43⟩ : ∃ T, T = dg_uF S41 0 61 (.int (zI S 0 61 - (1 : Int32))) := ⟨_, rfl⟩
    have t43 : k_u S S43 := by
      rw [h43, h41]
      exact (k_u.F (Or.inl rfl)).tr (k_u.F (Or.inr rfl))
    have r43 : S43.2.1 = S.2.1 := by rw [h43, h41]; rfl
    have L3 : ∀ {B : aR} {M : s_L} {w : Nat}, mx_lay G B M S w → mx_lay G B M S43 w := fun h => h.keep hb (fun a _ _ j _ _ => by rw [r43])
    have ht : U.tail.length = 19 := by rw [List.length_tail, hl20]
    obtain ⟨S1, g1, g2, g3⟩ := mx_keeps1 (o := o) (S := S43) (n := 19) (f := (f + 1) % 20) (U := U.tail) (a1 := zI S 0 61 - (1 : Int32)) hb (L3 hl) ht.symm (by omega) (by omega) (by rw [h43, w_I, if_neg (by decide), h41, w_I, if_pos ⟨rfl, rfl⟩]; exact e2) (by rw [dk_subT d (b := 1) (by decide +kernel) (by omega) (by omega)]; rfl) (fun i e he => by
      rw [tl_get] at he
      have := L3 (h5 (i + 1) e he)
      rw [show (f + 1) % 20 + i = (f + 1) % 20 + i by rfl, show ((f + 1) % 20 + i) % 20 = (f + (i + 1)) % 20 by omega]
      exact this)
    exact ⟨S1, (F_m_keeps_p2 rfl q rfl rfl rfl h41 rfl h43).trans g1, t43.tr g2, g3⟩
  · have d := dk_neqc (k := 20) (by decide +kernel) q
    rw [if_neg (fun z => d (by rw [h1, z]; rfl))]
    obtain ⟨S1, g1, g2, g3⟩ := mx_keeps1 (o := o) (S := S) (n := U.length) (f := f) (U := U) (a1 := zI S 0 61) hb hl rfl (by omega) h3 h4 h1 h5
    exact ⟨S1, (F_m_keeps_p1 rfl q).trans g1, g2, g3⟩
/-- an act is undone -/
theorem mx_undo1 (hb : G 0 6 ≤ 16) (hu : mx_ud G S (U ++ [(A, L)])) : ∃ S1, F_m_undo o S = (S1, (1 : Int32)) ∧ mx_lay G A L S1 0 ∧ mx_ud G S1 U ∧ kp (fun a b => a = 0 ∧ b = 61) (fun a => 29 ≤ a ∧ a ≤ 44) S S1 := by
  have z0 : (0 : Int32).toInt = 0 := by decide +kernel
  obtain ⟨h1, h2, f, h3, h4, h5⟩ := hu
  rw [List.length_append] at h1 h2
  simp only [List.length_cons, List.length_nil] at h1 h2
  have q : ¬ zI S 0 61 = (0 : Int32) := fun z => by
    have := dk_eqc z0 z
    omega
  have e3 : (zI S 0 61 - (1 : Int32)).toInt = (U.length : Int) := by
    rw [dk_subT h1 (b := 1) (by decide +kernel) (by omega) (by omega)]
    omega
  obtain ⟨S4, h9⟩ : ∃ T, T = dg_uF S 0 61 (.int (zI S 0 61 - (1 : Int32))) := ⟨_, rfl⟩
  have r4 : S4.2.1 = S.2.1 := by rw [h9]; rfl
  have i60 : (zI S4 0 60).toInt = f := by rw [h9, w_I, if_neg (by decide)]; exact h4
  have es := mx_slot (o := o) h3 i60 (by omega) e3
  have L4 : ∀ {B : aR} {M : s_L} {w : Nat}, mx_lay G B M S w → mx_lay G B M S4 w := fun h => h.keep hb (fun a _ _ j _ _ => by rw [r4])
  have hl := L4 (h5 U.length (A, L) (by rw [List.getElem?_append_right (Nat.le_refl _), Nat.sub_self]; rfl))
  obtain ⟨S5, e5, k5, l5⟩ := mx_copies (o := o) (S := S4) (v := 0) (u := 2 + (f + U.length) % 20) (a1 := 0) (a2 := F_m_slot o S4 (zI S 0 61 - (1 : Int32))) z0 es (by omega) (by omega) (by omega) hl hb
  refine ⟨S5, F_m_undo_p0 rfl q rfl h9 rfl e5.symm, l5, ⟨?_, by omega, f, h3, by rw [k5.I]; exact i60, fun i e he => ?_⟩, ?_⟩
  · rw [k5.I, h9, w_I, if_pos ⟨rfl, rfl⟩]
    exact e3
  · refine k5.lay (L4 (h5 i e ?_)) (by omega) hb
    rw [List.getElem?_append_left (get_lt he)]
    exact he
  · have t4 : kp (fun a b => a = 0 ∧ b = 61) (fun a => 29 ≤ a ∧ a ≤ 44) S S4 := by
      rw [h9]
      exact kp.uF kp.rf ⟨rfl, rfl⟩
    exact t4.tr (k5.1.w (fun _ _ z => absurd z id) (fun _ z => z))
end UD
