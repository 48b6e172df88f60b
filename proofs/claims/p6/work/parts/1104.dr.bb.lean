/-! reading and writing a state -/
theorem w_lt {x y : Int32} : x < y ↔ x.toInt < y.toInt := Int32.lt_iff_toInt_lt
theorem w_le {x y : Int32} : x ≤ y ↔ x.toInt ≤ y.toInt := Int32.le_iff_toInt_le
theorem w_eq {x y : Int32} : x = y ↔ x.toInt = y.toInt := Int32.toInt_inj.symm
theorem w_cl (x : Int32) : x.toNatClampNeg = x.toInt.toNat := rfl
section WS
variable {S : dg_S} {i k a b o d : Nat} {v : Value} {x : Int32} {r : Nat → Int32} {l : Nat → Int64}
theorem w_F : (dg_uF S i k v).1 a b = if a = i ∧ b = k then v else S.1 a b := rfl
theorem w_Ff : (dg_uF S i k v).2.1 a = S.2.1 a := rfl
theorem w_Fl : (dg_uF S i k v).2.2 a = S.2.2 a := rfl
theorem w_fF : (dg_uf S i r).1 a b = S.1 a b := rfl
theorem w_f : (dg_uf S i r).2.1 a = if a = i then r else S.2.1 a := rfl
theorem w_fl : (dg_uf S i r).2.2 a = S.2.2 a := rfl
theorem w_lF : (dg_ul S i l).1 a b = S.1 a b := rfl
theorem w_lf : (dg_ul S i l).2.1 a = S.2.1 a := rfl
theorem w_l : (dg_ul S i l).2.2 a = if a = i then l else S.2.2 a := rfl
theorem w_I : zI (dg_uF S i k (.int x)) a b = if a = i ∧ b = k then x else zI S a b := by
  unfold zI
  rw [w_F]
  split <;> rfl
theorem w_I0 (h : ¬ (a = i ∧ b = k)) : zI (dg_uF S i k v) a b = zI S a b := by
  unfold zI
  rw [w_F, if_neg h]
theorem w_If : zI (dg_uf S i r) a b = zI S a b := rfl
theorem w_Il : zI (dg_ul S i l) a b = zI S a b := rfl
theorem w_R : zR o (dg_uF S i k (.ref (o + d))) a b = if a = i ∧ b = k then d else zR o S a b := by
  unfold zR
  rw [w_F]
  by_cases h : a = i ∧ b = k
  · rw [if_pos h, if_pos h]
    exact Nat.add_sub_cancel_left o d
  · rw [if_neg h, if_neg h]
theorem w_R0 (h : ¬ (a = i ∧ b = k)) : zR o (dg_uF S i k v) a b = zR o S a b := by
  unfold zR
  rw [w_F, if_neg h]
theorem w_Rf : zR o (dg_uf S i r) a b = zR o S a b := rfl
theorem w_Rl : zR o (dg_ul S i l) a b = zR o S a b := rfl
end WS
theorem w_u {f : Nat → Int32} {k j : Nat} {x : Int32} : upd f k x j = if j = k then x else f j := rfl
theorem w_uL {f : Nat → Int64} {k j : Nat} {x : Int64} : vp_updL f k x j = if j = k then x else f j := rfl
/-! what a method leaves as it was: all but some fields (by cell and number) and some rows -/
def kp (LF : Nat → Nat → Prop) (LA : Nat → Prop) (S S' : dg_S) : Prop := (∀ a b, ¬ LF a b → S'.1 a b = S.1 a b) ∧ ∀ a, ¬ LA a → S'.2.1 a = S.2.1 a ∧ S'.2.2 a = S.2.2 a
section KP
variable {LF LF' : Nat → Nat → Prop} {LA LA' : Nat → Prop} {S S1 S2 : dg_S} {i k a b o : Nat} {v : Value} {r : Nat → Int32} {l : Nat → Int64}
theorem kp.rf : kp LF LA S S := ⟨fun _ _ _ => rfl, fun _ _ => ⟨rfl, rfl⟩⟩
theorem kp.tr (h : kp LF LA S S1) (h2 : kp LF LA S1 S2) : kp LF LA S S2 := ⟨fun a b n => (h2.1 a b n).trans (h.1 a b n), fun a n => ⟨((h2.2 a n).1).trans (h.2 a n).1, ((h2.2 a n).2).trans (h.2 a n).2⟩⟩
theorem kp.w (h : kp LF LA S S1) (hF : ∀ a b, LF a b → LF' a b) (hA : ∀ a, LA a → LA' a) : kp LF' LA' S S1 := ⟨fun a b n => h.1 a b (fun z => n (hF a b z)), fun a n => h.2 a (fun z => n (hA a z))⟩
theorem kp.uF (h : kp LF LA S S1) (hm : LF i k) : kp LF LA S (dg_uF S1 i k v) := by
  refine ⟨fun a b n => ?_, fun a n => h.2 a n⟩
  rw [w_F, if_neg (fun z => n (by rw [z.1, z.2]; exact hm))]
  exact h.1 a b n
theorem kp.uf (h : kp LF LA S S1) (hm : LA i) : kp LF LA S (dg_uf S1 i r) := by
  refine ⟨fun a b n => h.1 a b n, fun a n => ⟨?_, (h.2 a n).2⟩⟩
  rw [w_f, if_neg (fun z => n (by rw [z]; exact hm))]
  exact (h.2 a n).1
theorem kp.ul (h : kp LF LA S S1) (hm : LA i) : kp LF LA S (dg_ul S1 i l) := by
  refine ⟨fun a b n => h.1 a b n, fun a n => ⟨(h.2 a n).1, ?_⟩⟩
  rw [w_l, if_neg (fun z => n (by rw [z]; exact hm))]
  exact (h.2 a n).2
theorem kp.I (h : kp LF LA S S1) (n : ¬ LF a b) : zI S1 a b = zI S a b := by
  unfold zI
  rw [h.1 a b n]
theorem kp.R (h : kp LF LA S S1) (n : ¬ LF a b) : zR o S1 a b = zR o S a b := by
  unfold zR
  rw [h.1 a b n]
theorem kp.L (h : kp LF LA S S1) (n : ¬ LF a b) : zL S1 a b = zL S a b := by
  unfold zL
  rw [h.1 a b n]
end KP
/-- a loop keeps what each turn keeps -/
theorem lp_kp {σ ρ : Type} {f : σ → σ ⊕ ρ} {z : ρ} {p : σ → dg_S} {q : ρ → dg_S} {LF : Nat → Nat → Prop} {LA : Nat → Prop} {S : dg_S} (hz : kp LF LA S (q z)) (hl : ∀ s s', f s = .inl s' → kp LF LA (p s) (p s')) (hr : ∀ s r, f s = .inr r → kp LF LA (p s) (q r)) : ∀ (n : Nat) (s : σ), kp LF LA S (p s) → kp LF LA S (q (lp f z n s))
  | 0, s, h => by rw [lp_z]; exact hz
  | n + 1, s, h => by
    rw [lp_s]
    cases e : f s with
    | inl s' => exact lp_kp hz hl hr n s' (h.tr (hl s s' e))
    | inr r => exact h.tr (hr s r e)
