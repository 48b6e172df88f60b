/-! the class works out a rule, from its first step to its last -/
section XV
variable {S0 S S1 : dg_S} {o g : Nat} {a1 k : Int32} {env : Int → Int}
theorem e_vt.at {f : Nat → Int} {b : Bool} {r : List Bool} (h : e_vt f (b :: r)) : e_v1 b (f r.length) := h.1
theorem k_ru.row {S S1 : dg_S} (h : k_ru S S1) {i : Nat} (hi : i ≠ 216) : S1.2.1 i = S.2.1 i := (h.2 i hi).1
theorem cx_vstep {f : Nat → Int} {n : Nat} {s : Int32} {t t' : List Bool} (hst : cx_st S (f, n)) (hg : g + 9 ≠ 216 ∧ g + 11 ≠ 216) (hs : s = S.2.1 (g + 9) k.toNatClampNeg) (hk : ¬ S.2.1 (g + 11) a1.toNatClampNeg ≤ k) (ht : e_t1 s.toInt t = some t') (hv : e_vt f t) (hn : n = t.length) (h60 : t.length ≤ 60) (hE : cx_env S = env) :
    ∃ S1, F_r_valueOf_B1 g a1 o (k, S) = .inl (k + 1, S1) ∧ cx_st S1 (e_st env s.toInt (f, n)) ∧ k_ru S S1 := by
  subst hn
  have vb : ∀ (b : Bool) (r : List Bool), t = b :: r → -1000000 ≤ f r.length ∧ f r.length ≤ 1000000 := fun b r e => by
    rw [e] at hv
    exact hv.1.any
  unfold e_t1 at ht
  unfold e_st
  have z7 : (-7 : Int32).toInt = -7 := by decide +kernel
  by_cases c0 : 0 ≤ s.toInt
  · rw [if_pos c0] at ht ⊢
    split at ht
    · rename_i c
      obtain ⟨S1, e1, x1, k1⟩ := cx_push (o := o) (a := s) hst (by omega)
      refine ⟨S1, ?_, x1, k1⟩
      have a0 : ¬ s < (-7 : Int32) := fun z => by have := dk_ltc (k := -7) z7 z; omega
      have a2 : ¬ s < (0 : Int32) := fun z => by have := dk_ltc (k := 0) (by decide +kernel) z; omega
      rw [F_r_valueOf_p8 rfl hk hs a0 a2, F_r_valueOf_p6 e1.symm]
      exact F_r_valueOf_p1 rfl
    · cases ht
  rw [if_neg c0] at ht ⊢
  by_cases c1 : -7 ≤ s.toInt
  · rw [if_pos c1]
    have hlen : t.length < 60 := by
      by_cases c2 : -6 ≤ s.toInt
      · rw [if_pos c2] at ht
        split at ht
        · assumption
        · cases ht
      · rw [if_neg c2, if_pos (by omega)] at ht
        split at ht
        · assumption
        · cases ht
    have ef := cx_fact (S := S) (o := o) c1 (by omega)
    obtain ⟨S1, e1, x1, k1⟩ := cx_push (o := o) (a := F_r_fact o S s) hst (by omega)
    rw [ef, hE] at x1
    refine ⟨S1, ?_, x1, k1⟩
    have a0 : ¬ s < (-7 : Int32) := fun z => by have := dk_ltc (k := -7) z7 z; omega
    have a2 : s < (0 : Int32) := dk_ltp (k := 0) (by decide +kernel) (by omega)
    rw [F_r_valueOf_p7 rfl hk hs a0 a2 rfl, F_r_valueOf_p6 e1.symm]
    exact F_r_valueOf_p1 rfl
  rw [if_neg c1]
  rw [if_neg (by omega), if_neg (by omega)] at ht
  have a0 : s < (-7 : Int32) := dk_ltp (k := -7) z7 (by omega)
  by_cases c8 : s.toInt = -8
  · rw [if_pos c8] at ht ⊢
    split at ht
    · rename_i r
      have hb := vb true r rfl
      obtain ⟨S1, v, e1, ev, x1, k1⟩ := cx_pop (o := o) (n := r.length) hst (by simp at h60; omega)
      have en : ((1 : Int32) - v).toInt = 1 - f r.length := by
        rw [← ev]
        exact dk_subT (by decide +kernel) rfl (by omega) (by omega)
      obtain ⟨S2, e2, x2, k2⟩ := cx_push (o := o) (a := (1 : Int32) - v) x1 (by simp at h60; omega)
      rw [en] at x2
      refine ⟨S2, ?_, x2, k1.tr k2⟩
      rw [F_r_valueOf_p5 rfl hk hs a0 (dk_eqp (k := -8) (by decide +kernel) c8) rfl rfl rfl rfl, e1]
      show F_r_valueOf_J2 k (F_r_push o S1 ((1 : Int32) - v)) = _
      rw [e2]
      exact F_r_valueOf_p1 rfl
    · cases ht
  rw [if_neg c8] at ht ⊢
  have d8 : ¬ s = (-8 : Int32) := fun z => c8 (dk_eqc (k := -8) (by decide +kernel) z)
  by_cases c9 : s.toInt = -9
  · rw [if_pos c9] at ht ⊢
    split at ht
    · rename_i r
      simp only [List.length_cons] at h60
      obtain ⟨S1, v1, e1, ev1, x1, k1⟩ := cx_pop (o := o) (n := r.length + 2) hst (by omega)
      obtain ⟨S2, v2, e2, ev2, x2, k2⟩ := cx_pop (o := o) (n := r.length + 1) x1 (by omega)
      obtain ⟨S3, v3, e3, ev3, x3, k3⟩ := cx_pop (o := o) (n := r.length) x2 (by omega)
      obtain ⟨S4, e4, x4, k4⟩ := cx_push (o := o) (a := F_r_chosen o S3 v3 v2 v1) x3 (by omega)
      have ec : (F_r_chosen o S3 v3 v2 v1).toInt = if f r.length = 1 then f (r.length + 1) else f (r.length + 2) := by
        by_cases q : v3 = (1 : Int32)
        · rw [F_r_chosen_p1 q, if_pos (by rw [← ev3]; exact dk_eqc (k := 1) (by decide +kernel) q)]
          exact ev2
        · rw [F_r_chosen_p0 q, if_neg (by rw [← ev3]; exact dk_neqc (k := 1) (by decide +kernel) q)]
          exact ev1
      rw [ec] at x4
      refine ⟨S4, ?_, ?_, ((k1.tr k2).tr k3).tr k4⟩
      · rw [F_r_valueOf_p4 rfl hk hs a0 d8 rfl rfl rfl rfl (dk_eqp (k := -9) (by decide +kernel) c9) rfl rfl rfl, e1]
        show F_r_valueOf_J3 o (F_r_pop o (F_r_pop o S1).1).1 (F_r_chosen o (F_r_pop o (F_r_pop o S1).1).1 (F_r_pop o (F_r_pop o S1).1).2 (F_r_pop o S1).2 v1) k = _
        rw [e2]
        show F_r_valueOf_J3 o (F_r_pop o S2).1 (F_r_chosen o (F_r_pop o S2).1 (F_r_pop o S2).2 v2 v1) k = _
        rw [e3]
        show F_r_valueOf_J3 o S3 (F_r_chosen o S3 v3 v2 v1) k = _
        rw [F_r_valueOf_p2 e4.symm]
        exact F_r_valueOf_p1 rfl
      · show cx_st S4 (e_w f (r.length + 1 + 1 + 1 - 3) (if f (r.length + 1 + 1 + 1 - 3) = 1 then f (r.length + 1 + 1 + 1 - 2) else f (r.length + 1 + 1 + 1 - 1)), r.length + 1 + 1 + 1 - 2)
        rw [show r.length + 1 + 1 + 1 - 3 = r.length by omega, show r.length + 1 + 1 + 1 - 2 = r.length + 1 by omega, show r.length + 1 + 1 + 1 - 1 = r.length + 2 by omega]
        exact x4
    · cases ht
  rw [if_neg c9] at ht ⊢
  have d9 : ¬ s = (-9 : Int32) := fun z => c9 (dk_eqc (k := -9) (by decide +kernel) z)
  have two : ∀ (b1 b2 : Bool) (r : List Bool), t = b1 :: b2 :: r → -21 ≤ s.toInt → ∃ S1, F_r_valueOf_B1 g a1 o (k, S) = .inl (k + 1, S1) ∧ cx_st S1 (e_w f (t.length - 2) (e_op s.toInt (f (t.length - 2)) (f (t.length - 1))), t.length - 1) ∧ k_ru S S1 := by
    intro b1 b2 r et hs21
    subst et
    simp only [List.length_cons] at h60
    have hb1 := vb b1 (b2 :: r) rfl
    have hb2 : -1000000 ≤ f r.length ∧ f r.length ≤ 1000000 := hv.2.1.any
    obtain ⟨S1, v1, e1, ev1, x1, k1⟩ := cx_pop (o := o) (n := r.length + 1) hst (by omega)
    obtain ⟨S2, v2, e2, ev2, x2, k2⟩ := cx_pop (o := o) (n := r.length) x1 (by omega)
    obtain ⟨S3, e3, x3, k3⟩ := cx_push (o := o) (a := F_r_result o S2 s v2 v1) x2 (by omega)
    simp only [List.length_cons] at hb1
    rw [cx_result ⟨hs21, by omega⟩ (by rw [ev2]; exact hb2) (by rw [ev1]; exact hb1), ev1, ev2] at x3
    refine ⟨S3, ?_, ?_, (k1.tr k2).tr k3⟩
    · rw [F_r_valueOf_p3 rfl hk hs a0 d8 rfl rfl rfl rfl d9 rfl, e1]
      show F_r_valueOf_J3 o (F_r_pop o S1).1 (F_r_result o (F_r_pop o S1).1 s (F_r_pop o S1).2 v1) k = _
      rw [e2]
      show F_r_valueOf_J3 o S2 (F_r_result o S2 s v2 v1) k = _
      rw [F_r_valueOf_p2 e3.symm]
      exact F_r_valueOf_p1 rfl
    · show cx_st S3 (e_w f (r.length + 1 + 1 - 2) (e_op s.toInt (f (r.length + 1 + 1 - 2)) (f (r.length + 1 + 1 - 1))), r.length + 1 + 1 - 1)
      rw [show r.length + 1 + 1 - 2 = r.length by omega, show r.length + 1 + 1 - 1 = r.length + 1 by omega]
      exact x3
  by_cases c16 : -16 ≤ s.toInt
  · rw [if_pos c16] at ht
    split at ht
    · exact two _ _ _ rfl (by omega)
    · cases ht
  rw [if_neg c16] at ht
  by_cases c19 : -19 ≤ s.toInt
  · rw [if_pos c19] at ht
    split at ht
    · exact two _ _ _ rfl (by omega)
    · cases ht
  rw [if_neg c19] at ht
  by_cases c21 : -21 ≤ s.toInt
  · rw [if_pos c21] at ht
    split at ht
    · exact two _ _ _ rfl c21
    · cases ht
  · rw [if_neg c21] at ht
    cases ht
end XV
section XW
variable {o g : Nat} {a1 : Int32} {env : Int → Int} {z : dg_S × Int32} {b : Bool}
theorem cx_vrun (hg : g + 9 ≠ 216 ∧ g + 11 ≠ 216) (h7 : env (-7) = 1) : ∀ (C : List Int) (k : Int32) (S : dg_S) (f : Nat → Int) (t : List Bool) (fuel : Nat), (∀ i, i < C.length → (S.2.1 (g + 9) (k.toNatClampNeg + i)).toInt = C.getD i 0) → (S.2.1 (g + 11) a1.toNatClampNeg).toInt = k.toInt + C.length → 0 ≤ k.toInt → k.toInt + C.length ≤ 1600 → cx_st S (f, t.length) → e_vt f t → t.length ≤ 60 → e_ty C t = some [b] → (∀ s ∈ C, -6 ≤ s → s < 0 → -1000000 ≤ env s ∧ env s ≤ 1000000) → cx_env S = env → C.length < fuel → ∃ (S1 : dg_S) (v : Int32), lp (F_r_valueOf_B1 g a1 o) z fuel (k, S) = (S1, v) ∧ v.toInt = (e_run env C (f, t.length)).1 0 ∧ k_ru S S1
  | [], k, S, f, t, fuel, hC, he, hk0, hk1, hst, hv, h60, hty, hb, hE, hf => by
    have et : t = [b] := Option.some.inj hty
    subst et
    obtain ⟨S1, v, e1, ev, x1, k1⟩ := cx_pop (o := o) (n := 0) hst (by omega)
    obtain ⟨n, hn⟩ : ∃ n, fuel = n + 1 := ⟨fuel - 1, by have : ([] : List Int).length < fuel := hf; omega⟩
    have c0 : S.2.1 (g + 11) a1.toNatClampNeg ≤ k := dk_lep (k := k.toInt) rfl (by rw [he]; simp)
    refine ⟨S1, v, ?_, ev, k1⟩
    rw [hn, lp_sr (F_r_valueOf_p0 rfl c0 rfl rfl), e1]
  | s :: C, k, S, f, t, fuel, hC, he, hk0, hk1, hst, hv, h60, hty, hb, hE, hf => by
    simp only [List.length_cons] at he hk1 hf
    obtain ⟨t1, ht1, hty1⟩ := Option.bind_eq_some_iff.mp (show (e_t1 s t).bind (e_ty C) = some [b] from hty)
    have h0 := hC 0 (by simp)
    rw [Nat.add_zero] at h0
    have h0 : (S.2.1 (g + 9) k.toNatClampNeg).toInt = s := h0
    have c0 : ¬ S.2.1 (g + 11) a1.toNatClampNeg ≤ k := fun q => by
      have := dk_lec (k := k.toInt) rfl q
      omega
    have ek : (k + 1).toInt = k.toInt + 1 := dk_addT rfl (by decide +kernel) (by omega) (by omega)
    obtain ⟨S1, e1, x1, k1⟩ := cx_vstep (o := o) (a1 := a1) (k := k) (s := S.2.1 (g + 9) k.toNatClampNeg) hst hg rfl c0 (by rw [h0]; exact ht1) hv rfl h60 hE
    rw [h0] at x1
    have hs := e_step (q := (f, t.length)) (hb s (List.mem_cons_self ..)) h7 ht1 hv rfl
    rcases hs with ⟨v1, n1, l1⟩ | hs
    · obtain ⟨n, hn⟩ : ∃ n, fuel = n + 1 := ⟨fuel - 1, by omega⟩
      have x1 : cx_st S1 ((e_st env s (f, t.length)).1, t1.length) := by rw [← n1]; exact x1
      obtain ⟨S2, v, e2, ev, k2⟩ := cx_vrun hg h7 C (k + 1) S1 (e_st env s (f, t.length)).1 t1 n (fun i hi => by
        rw [k1.row hg.1, show (k + 1).toNatClampNeg + i = k.toNatClampNeg + (i + 1) by rw [dk_clN, dk_clN]; omega]
        exact hC (i + 1) (by simp; omega)) (by rw [k1.row hg.2]; omega) (by omega) (by omega) x1 v1 l1 hty1 (fun s' hs' => hb s' (List.mem_cons_of_mem _ hs')) (by rw [k1.env]; exact hE) (by omega)
      refine ⟨S2, v, ?_, ?_, k1.tr k2⟩
      · rw [hn, lp_sl e1]
        exact e2
      · rw [ev]
        show (e_run env C ((e_st env s (f, t.length)).1, t1.length)).1 0 = (e_run env C (e_st env s (f, t.length))).1 0
        rw [← n1]
    · omega
end XW
