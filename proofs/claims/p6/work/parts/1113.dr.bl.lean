/-! the class digs -/
def cx_pit (G A : aR) (S : dg_S) (p : Nat) : Prop := cx_ce G A S p ∧ (zI S p 0).toInt = A 0 0 ∧ (zI S p 1).toInt = A 0 1 ∧ (∀ k, k < 6 → (S.2.1 (p + 2) k).toInt = A 2 k) ∧ (∀ k : Nat, (k : Int) < G 0 6 → (S.2.1 (p + 3) k).toInt = A 3 k ∧ (S.2.1 (p + 4) k).toInt = A 4 k + 8) ∧ (∀ k, k < 5 → (S.2.1 (p + 5) k).toInt = A 5 k) ∧ ∀ k, k < 10 → (S.2.1 (p + 6) k).toInt = A 6 k
def s_wf (G A : aR) : Prop := (0 ≤ A 0 0 ∧ A 0 0 ≤ 999) ∧ (0 ≤ A 0 1 ∧ A 0 1 ≤ 99999) ∧ (∀ k : Nat, k < 6 → A 2 k = 0 ∨ (A 2 k = 1 ∧ (k : Int) < G 0 5)) ∧ (∀ k : Nat, (k : Int) < G 0 6 → (0 ≤ A 3 k ∧ A 3 k < min 6 (G 0 5)) ∧ s_in G (A 4 k)) ∧ (∀ k, k < 5 → A 5 k = 0 ∨ A 5 k = 1) ∧ ∀ k, k < 10 → 0 ≤ A 6 k ∧ A 6 k ≤ 99
def s_gw (G : aR) : Prop := ((0 < G 0 0 ∧ 0 < G 0 1) ∧ G 0 0 ≤ 7 ∧ G 0 1 ≤ 7) ∧ (0 ≤ G 0 2 ∧ G 0 2 < G 0 0) ∧ (0 ≤ G 0 6 ∧ G 0 6 ≤ 16)
/-- rules: 0 spoils, 1 falls, 2 gets -/
def s_cd (K : Nat → List Int) : Prop := ∀ w, w < 3 → K w ≠ [] → e_ty (K w) [] = some [w == 1] ∧ (w = 0 → -5 ∉ K w ∧ -6 ∉ K w) ∧ (w ≠ 0 → -4 ∉ K w)
def cx_gt (G : aR) (K : Nat → List Int) (S : dg_S) (g : Nat) : Prop := rX g ∧ (zI S g 2).toInt = G 0 2 + 8 ∧ (zI S g 8).toInt = G 0 6 ∧ ∀ w, w < 3 → cx_code S g w (K w)
noncomputable def s_if {α : Type} (P : Prop) (a b : α) : α := @ite α P (Classical.propDecidable P) a b
theorem s_if_y {α : Type} {P : Prop} {a b : α} (h : P) : s_if P a b = a := by
  unfold s_if
  exact if_pos h
theorem s_if_n {α : Type} {P : Prop} {a b : α} (h : ¬ P) : s_if P a b = b := by
  unfold s_if
  exact if_neg h
def s_k (G A : aR) : Nat := (A 0 0 % G 0 6).toNat
/-- a digging: what is behind it; who dug (-1: nobody), where, which grade (-1: it fell) -/
noncomputable def s_fa (G : aR) (K : Nat → List Int) (r : Int) (A : aR) (c : Int) : Prop := K 1 ≠ [] ∧ s_ev (s_env G A r c) (K 1) = 1
noncomputable def s_gr (G : aR) (K : Nat → List Int) (r : Int) (A : aR) (c : Int) : Int := s_if (K 2 = []) (s_c A c) (max 0 (min 9 (s_ev (s_env G A r c) (K 2))))
def s_no (G A : aR) : Prop := G 0 6 = 0 ∨ A 2 (A 3 (s_k G A)).toNat = 1 ∨ ¬ (s_so G A (A 4 (s_k G A)) ∧ 0 < s_ob G A (A 4 (s_k G A)))
noncomputable def s_dg (G : aR) (K : Nat → List Int) (r : Int) (A : aR) : aR × Int × Int × Int :=
  s_if (s_no G A) (A, -1, 0, 0)
    (s_if (s_fa G K r A (A 4 (s_k G A))) (s_up (s_up A 1 (A 4 (s_k G A)).toNat 0) 2 (A 3 (s_k G A)).toNat 1, A 3 (s_k G A), A 4 (s_k G A), -1)
      (s_up (s_up A 6 (s_gr G K r A (A 4 (s_k G A))).toNat (min 99 (A 6 (s_gr G K r A (A 4 (s_k G A))).toNat + 1))) 1 (A 4 (s_k G A)).toNat (-1), A 3 (s_k G A), A 4 (s_k G A), s_gr G K r A (A 4 (s_k G A))))
theorem s_c_up {A : aR} {c d v : Int} (hc : 0 ≤ c) (hd : 0 ≤ d) : s_c (s_up A 1 c.toNat v) d = if d = c then v else s_c A d := by
  unfold s_c
  by_cases h : d = c
  · rw [if_pos h, h, s_up_at]
  · rw [if_neg h, s_up_ne (fun z => h (by omega))]
theorem s_c_o {A : aR} {a b : Nat} {c v : Int} (h : a ≠ 1) : s_c (s_up A a b v) c = s_c A c := by
  unfold s_c
  rw [s_up_ne (fun z => h z.1.symm)]
theorem i_rem {x y : Int32} (hx : 0 ≤ x.toInt) (hy : 0 < y.toInt) : (x - x / y * y).toInt = x.toInt % y.toInt := by
  have hx2 := dk_full x
  have e1 : (x / y).toInt = x.toInt / y.toInt := by
    rw [Int32.toInt_div_of_ne_left x y (fun z => by rw [z] at hx; exact absurd hx (by decide +kernel))]
    exact Int.tdiv_eq_ediv_of_nonneg hx
  have h1 := Int.ediv_mul_le x.toInt (show y.toInt ≠ 0 by omega)
  have h2 : 0 ≤ x.toInt / y.toInt * y.toInt := Int.mul_nonneg (Int.ediv_nonneg hx (by omega)) (by omega)
  have e2 : (x / y * y).toInt = x.toInt / y.toInt * y.toInt := dk_mulT e1 rfl (by omega) (by omega)
  have e3 : (x - x / y * y).toInt = x.toInt - x.toInt / y.toInt * y.toInt := dk_subT rfl e2 (by omega) (by omega)
  rw [e3, Int.emod_def, Int.mul_comm]
section XL
variable {G A A' : aR} {K : Nat → List Int} {S S1 : dg_S} {o g p : Nat} {r c x v : Int}
theorem cx_ce.up (h : cx_ce G A S p) {y : Int32} (hx : 0 ≤ x ∧ x < 72) (hi : s_in G (x - 8)) (e : S1.2.1 (p + 1) = upd (S.2.1 (p + 1)) x.toNat y) (hy : y.toInt = cx_en v) (hv : -2 ≤ v ∧ v ≤ 9) : cx_ce G (s_up A 1 (x - 8).toNat v) S1 p := by
  intro z z0 z1
  obtain ⟨h1, h2⟩ := h z z0 z1
  have hx8 : 0 ≤ x - 8 := hi.1.1
  have ea : cx_at S1 p z = if z = x then y.toInt else cx_at S p z := by
    unfold cx_at
    rw [e, w_u]
    by_cases q : z = x
    · rw [if_pos (by omega), if_pos q]
    · rw [if_neg (by omega), if_neg q]
  rw [ea]
  by_cases q : z = x
  · subst q
    rw [if_pos rfl]
    refine ⟨fun _ => ?_, fun n => absurd hi n⟩
    rw [s_c_up hx8 hx8, if_pos rfl]
    exact ⟨hy, hv⟩
  · rw [if_neg q]
    refine ⟨fun hz => ?_, h2⟩
    rw [s_c_up hx8 hz.1.1, if_neg (by omega)]
    exact h1 hz
theorem s_sm (ho : s_op G A' = s_op G A) (hp : s_ps G A' = s_ps G A) : s_fd G A' = s_fd G A ∧ s_nl G A' = s_nl G A ∧ s_ob G A' = s_ob G A := by
  have e1 : s_fd G A' = s_fd G A := by
    unfold s_fd
    rw [ho, hp]
  have e2 : s_lit G A' = s_lit G A := by
    funext r c
    unfold s_lit
    rw [hp, e1]
  have e3 : s_l1 G A' = s_l1 G A := by
    funext r c
    unfold s_l1
    rw [e1, e2]
  refine ⟨e1, ?_, ?_⟩
  · funext r c
    unfold s_nl
    rw [e3]
  · funext c
    unfold s_ob
    rw [ho]
theorem cx_light.sm (h : cx_light G A r S) (ho : s_op G A' = s_op G A) (hp : s_ps G A' = s_ps G A) (hs : s_so G A' = s_so G A) (e7 : S1.2.1 217 = S.2.1 217) (e8 : S1.2.1 218 = S.2.1 218) (e9 : S1.2.1 219 = S.2.1 219) (e4 : zI S1 214 4 = zI S 214 4) : cx_light G A' r S1 := by
  obtain ⟨s1, s2, -⟩ := s_sm ho hp
  have b1 : cx_far S1 = cx_far S := by
    funext x
    unfold cx_far
    rw [e7]
  have b2 : cx_bm S1 = cx_bm S := by
    funext x
    unfold cx_bm
    rw [e8]
  have b3 : cx_ex S1 = cx_ex S := by
    funext x
    unfold cx_ex
    rw [e9]
  unfold cx_light at h ⊢
  rw [b1, b2, b3, e4, s1, s2, hs]
  exact h
end XL
