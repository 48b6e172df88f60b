/-! the reference works out a rule, 6 -/
section MV2
variable {o : Nat} {x1 : Int32} {env : Int → Int}
theorem mx_end2 {S : dg_S} {b : Nat} {l : Int} (hx : x1.toInt = b) (hb : b ≤ 1) (h : (S.2.1 17 (3 * b + 2)).toInt = l) (h0 : 0 ≤ l ∧ l ≤ 1600) : ((1600 : Int32) * x1 + S.2.1 17 ((3 : Int32) * x1 + (2 : Int32)).toNatClampNeg).toInt = 1600 * b + l := by
  have e1 : ((1600 : Int32) * x1).toInt = 1600 * (b : Int) := dk_mulT (by decide +kernel) hx (by omega) (by omega)
  have e2 : ((3 : Int32) * x1).toInt = 3 * (b : Int) := dk_mulT (by decide +kernel) hx (by omega) (by omega)
  have e3 : ((3 : Int32) * x1 + (2 : Int32)).toInt = 3 * (b : Int) + 2 := dk_addT e2 (by decide +kernel) (by omega) (by omega)
  exact dk_addT e1 (by rw [dk_clN, e3, show (3 * (b : Int) + 2 : Int).toNat = 3 * b + 2 by omega]; exact h) (by omega) (by omega)
theorem mx_rstep2 {S : dg_S} {f : Nat → Int} {k n : Int32} {s : Int} {t t' : List Bool} (hst : mx_st S (f, t.length)) (hn : n.toInt = t.length) (hk : ¬ (1600 : Int32) * x1 + S.2.1 17 ((3 : Int32) * x1 + (2 : Int32)).toNatClampNeg ≤ k) (hc : mx_c1 S k.toInt s) (ht : e_t1 s t = some t') (hv : e_vt f t) (h60 : t.length ≤ 60) (hE : mx_env S = env) :
    ∃ (n1 : Int32) (S1 : dg_S), F_m_reckons_2_B1 x1 o (k, n, S) = .inl (k + 1, n1, S1) ∧ n1.toInt = (e_st env s (f, t.length)).2 ∧ mx_st S1 (e_st env s (f, t.length)) ∧ k_rk S S1 := by
  obtain ⟨hc1, hc2⟩ := hc
  have kn : k.toNatClampNeg = k.toInt.toNat := rfl
  rw [← kn] at hc1 hc2
  unfold mx_so at hc1
  have z1 : (1 : Int64).toInt = 1 := by decide +kernel
  have z30 : (30 : Int32).toInt = 30 := by decide +kernel
  have vb : ∀ (b : Bool) (r : List Bool), t = b :: r → -1000000 ≤ f r.length ∧ f r.length ≤ 1000000 := fun b r e => by
    rw [e] at hv
    exact hv.1.any
  unfold e_t1 at ht
  unfold e_st
  by_cases c0 : 0 ≤ s
  · rw [if_pos c0] at ht hc1 ⊢
    split at ht
    · rename_i c
      have a30 : ¬ (30 : Int32) < S.2.1 18 k.toNatClampNeg := fun z => by have := dk_gtc z30 z; omega
      have a0 : S.2.1 18 k.toNatClampNeg = (0 : Int32) := dk_eqp (k := 0) (by decide +kernel) hc1
      obtain ⟨x1', k1'⟩ := mx_st_up (m := t.length + 1) (x := Int32.toInt64 (S.2.1 19 k.toNatClampNeg)) (v := s) hst hn (by rw [Int32.toInt_toInt64]; exact hc2 c0) (Or.inr ⟨rfl, rfl⟩) rfl
      refine ⟨n + 1, _, F_m_reckons_2_p7 rfl rfl rfl rfl rfl hk rfl a30 a0 rfl rfl rfl rfl rfl, ?_, x1', k1'⟩
      show (n + 1).toInt = ((t.length + 1 : Nat) : Int)
      rw [dk_addT hn (b := 1) (by decide +kernel) (by omega) (by omega)]
      omega
    · cases ht
  rw [if_neg c0] at ht hc1 ⊢
  by_cases c1 : -7 ≤ s
  · rw [if_pos c1]
    have hlen : t.length < 60 := by
      by_cases c2 : -6 ≤ s
      · rw [if_pos c2] at ht
        split at ht
        · assumption
        · cases ht
      · rw [if_neg c2, if_pos (by omega)] at ht
        split at ht
        · assumption
        · cases ht
    have en : (n + 1).toInt = ((t.length + 1 : Nat) : Int) := by
      rw [dk_addT hn (b := 1) (by decide +kernel) (by omega) (by omega)]
      omega
    by_cases c2 : -6 ≤ s
    · rw [if_pos c2] at hc1
      have a30 : ¬ (30 : Int32) < S.2.1 18 k.toNatClampNeg := fun z => by have := dk_gtc z30 z; omega
      have a0 : ¬ S.2.1 18 k.toNatClampNeg = (0 : Int32) := fun z => by have := dk_eqc (k := 0) (by decide +kernel) z; omega
      have a3 : ¬ S.2.1 18 k.toNatClampNeg = (30 : Int32) := fun z => by have := dk_eqc z30 z; omega
      have ev : (S.2.1 41 (S.2.1 18 k.toNatClampNeg).toNatClampNeg).toInt = env s := by
        rw [← hE, dk_clN, hc1]
        unfold mx_env
        rw [if_pos ⟨c2, by omega⟩]
      obtain ⟨x1', k1'⟩ := mx_st_up (m := t.length + 1) (x := Int32.toInt64 (S.2.1 41 (S.2.1 18 k.toNatClampNeg).toNatClampNeg)) (v := env s) hst hn (by rw [Int32.toInt_toInt64]; exact ev) (Or.inr ⟨rfl, rfl⟩) rfl
      exact ⟨n + 1, _, F_m_reckons_2_p5 rfl rfl rfl rfl rfl hk rfl a30 a0 a3 rfl rfl rfl rfl rfl, en, x1', k1'⟩
    · have c7 : s = -7 := by omega
      rw [if_neg c2, if_pos c7] at hc1
      have a30 : ¬ (30 : Int32) < S.2.1 18 k.toNatClampNeg := fun z => by have := dk_gtc z30 z; omega
      have a0 : ¬ S.2.1 18 k.toNatClampNeg = (0 : Int32) := fun z => by have := dk_eqc (k := 0) (by decide +kernel) z; omega
      have a3 : S.2.1 18 k.toNatClampNeg = (30 : Int32) := dk_eqp z30 hc1
      have ev : (1 : Int64).toInt = env s := by
        rw [← hE]
        unfold mx_env
        rw [if_neg (by omega)]
        exact z1
      obtain ⟨x1', k1'⟩ := mx_st_up (m := t.length + 1) (x := (1 : Int64)) (v := env s) hst hn ev (Or.inr ⟨rfl, rfl⟩) rfl
      exact ⟨n + 1, _, F_m_reckons_2_p6 rfl rfl rfl rfl rfl hk rfl a30 a0 a3 rfl rfl rfl, en, x1', k1'⟩
  rw [if_neg c1]
  rw [if_neg (by omega), if_neg (by omega)] at ht hc1
  by_cases c8 : s = -8
  · rw [if_pos c8] at ht hc1 ⊢
    obtain ⟨r, et, et'⟩ := e_m1 ht
    subst et
    simp only [List.length_cons] at h60 hn
    have hb := vb true r rfl
    have a30 : (30 : Int32) < S.2.1 18 k.toNatClampNeg := dk_gtp z30 (by omega)
    have a43 : S.2.1 18 k.toNatClampNeg = (43 : Int32) := dk_eqp (k := 43) (by decide +kernel) hc1
    have e1 : (n - (1 : Int32)).toInt = (r.length : Int) := by
      rw [dk_subT hn (b := 1) (by decide +kernel) (by omega) (by omega)]
      omega
    have g1 := mx_st_at (n := r.length + 1) hst e1 (by omega)
    obtain ⟨x1', k1'⟩ := mx_st_up (m := r.length + 1) (n := r.length + 1) (x := (1 : Int64) - S.2.2 40 (n - (1 : Int32)).toNatClampNeg) (v := 1 - f r.length) hst e1 (l_sub z1 g1 (by omega) (by omega)) (Or.inl (Nat.le_refl _)) rfl
    refine ⟨n, _, F_m_reckons_2_p4 rfl rfl rfl rfl rfl hk rfl a30 a43 rfl rfl rfl rfl rfl rfl, hn, ?_, k1'⟩
    show mx_st _ (e_w f (r.length + 1 - 1) (1 - f (r.length + 1 - 1)), r.length + 1)
    rw [n_u1]
    exact x1'
  rw [if_neg c8] at ht hc1 ⊢
  by_cases c9 : s = -9
  · rw [if_pos c9] at ht hc1 ⊢
    obtain ⟨r, et, et'⟩ := e_m3 ht
    subst et
    simp only [List.length_cons] at h60 hn
    have a30 : (30 : Int32) < S.2.1 18 k.toNatClampNeg := dk_gtp z30 (by omega)
    have a43 : ¬ S.2.1 18 k.toNatClampNeg = (43 : Int32) := fun z => by have := dk_eqc (k := 43) (by decide +kernel) z; omega
    have a44 : S.2.1 18 k.toNatClampNeg = (44 : Int32) := dk_eqp (k := 44) (by decide +kernel) hc1
    have e2 : (n + (-2)).toInt = ((r.length + 1 : Nat) : Int) := by
      rw [dk_addT hn (b := -2) (by decide +kernel) (by omega) (by omega)]
      omega
    have e1 : (n + (-2) - (1 : Int32)).toInt = (r.length : Int) := by
      rw [dk_subT e2 (b := 1) (by decide +kernel) (by omega) (by omega)]
      omega
    have e3 : (n + (-2) + (1 : Int32)).toInt = ((r.length + 2 : Nat) : Int) := by
      rw [dk_addT e2 (b := 1) (by decide +kernel) (by omega) (by omega)]
      omega
    have u1 : r.length < r.length + 1 + 1 + 1 := by omega
    have u2 : r.length + 1 < r.length + 1 + 1 + 1 := by omega
    have u3 : r.length + 2 < r.length + 1 + 1 + 1 := by omega
    have u4 : r.length + 1 ≤ r.length + 1 + 1 + 1 := by omega
    have v3 : r.length + 1 + 1 + 1 - 3 = r.length := n_s3 _
    have v2 : r.length + 1 + 1 + 1 - 2 = r.length + 1 := n_s2 _
    have v1 : r.length + 1 + 1 + 1 - 1 = r.length + 2 := n_s1 _
    have fn : ((r.length + 1 : Nat) : Int) = ((r.length + 1 + 1 + 1 - 2 : Nat) : Int) := by rw [n_s2]
    have g1 := mx_st_at (n := r.length + 1 + 1 + 1) hst e1 u1
    have g2 := mx_st_at (n := r.length + 1 + 1 + 1) hst e2 u2
    have g3 := mx_st_at (n := r.length + 1 + 1 + 1) hst e3 u3
    have fin : ∀ (S1 : dg_S) (v : Int), v = (if f r.length = 1 then f (r.length + 1) else f (r.length + 2)) → mx_st S1 (e_w f r.length v, r.length + 1) → mx_st S1 (e_w f (r.length + 1 + 1 + 1 - 3) (if f (r.length + 1 + 1 + 1 - 3) = 1 then f (r.length + 1 + 1 + 1 - 2) else f (r.length + 1 + 1 + 1 - 1)), r.length + 1 + 1 + 1 - 2) := fun S1 v hv9 h9 => by
      rw [v3, v2, v1, ← hv9]
      exact h9
    by_cases q : lg_cmp (S.2.2 40 (n + (-2) - (1 : Int32)).toNatClampNeg) (1 : Int64) = (0 : Int32)
    · have d := l_eq.mp q
      rw [g1, z1] at d
      obtain ⟨x1', k1'⟩ := mx_st_up (m := r.length + 1) (n := r.length + 1 + 1 + 1) hst e1 g2 (Or.inl u4) rfl
      exact ⟨n + (-2), _, F_m_reckons_2_p3 rfl rfl rfl rfl rfl hk rfl a30 a43 a44 rfl rfl rfl rfl rfl q rfl rfl rfl, e2.trans fn, fin _ _ (by rw [if_pos d]) x1', k1'⟩
    · have d : ¬ f r.length = 1 := fun z => q (l_eq.mpr (by rw [g1, z1, z]))
      obtain ⟨x1', k1'⟩ := mx_st_up (m := r.length + 1) (n := r.length + 1 + 1 + 1) hst e1 g3 (Or.inl u4) rfl
      exact ⟨n + (-2), _, F_m_reckons_2_p2 rfl rfl rfl rfl rfl hk rfl a30 a43 a44 rfl rfl rfl rfl rfl q rfl rfl rfl rfl, e2.trans fn, fin _ _ (by rw [if_neg d]) x1', k1'⟩
  rw [if_neg c9] at ht hc1 ⊢
  have two : ∀ (b1 b2 : Bool) (r : List Bool), t = b1 :: b2 :: r → -21 ≤ s → (s < -19 → (b1 = true ∧ b2 = true)) → ∃ (n1 : Int32) (S1 : dg_S), F_m_reckons_2_B1 x1 o (k, n, S) = .inl (k + 1, n1, S1) ∧ n1.toInt = ((t.length - 1 : Nat) : Int) ∧ mx_st S1 (e_w f (t.length - 2) (e_op s (f (t.length - 2)) (f (t.length - 1))), t.length - 1) ∧ k_rk S S1 := by
    intro b1 b2 r et hs21 hbb
    subst et
    simp only [List.length_cons] at h60 hn
    have a30 : (30 : Int32) < S.2.1 18 k.toNatClampNeg := dk_gtp z30 (by omega)
    have a43 : ¬ S.2.1 18 k.toNatClampNeg = (43 : Int32) := fun z => by have := dk_eqc (k := 43) (by decide +kernel) z; omega
    have a44 : ¬ S.2.1 18 k.toNatClampNeg = (44 : Int32) := fun z => by have := dk_eqc (k := 44) (by decide +kernel) z; omega
    have e2 : (n + (-1)).toInt = ((r.length + 1 : Nat) : Int) := by
      rw [dk_addT hn (b := -1) (by decide +kernel) (by omega) (by omega)]
      omega
    have e1 : (n + (-1) - (1 : Int32)).toInt = (r.length : Int) := by
      rw [dk_subT e2 (b := 1) (by decide +kernel) (by omega) (by omega)]
      omega
    have u1 : r.length < r.length + 1 + 1 := by omega
    have u2 : r.length + 1 < r.length + 1 + 1 := by omega
    have u4 : r.length + 1 ≤ r.length + 1 + 1 := by omega
    have v2 : r.length + 1 + 1 - 2 = r.length := n_t2 _
    have v1 : r.length + 1 + 1 - 1 = r.length + 1 := n_t1 _
    have w1 : 31 ≤ (S.2.1 18 k.toNatClampNeg).toInt ∧ (S.2.1 18 k.toNatClampNeg).toInt ≤ 42 := ⟨by omega, by omega⟩
    have w2 : 41 ≤ (S.2.1 18 k.toNatClampNeg).toInt → s < -19 := fun z => by omega
    have w3 : 21 - (21 - s) = s := by omega
    have fn : ((r.length + 1 : Nat) : Int) = ((r.length + 1 + 1 - 1 : Nat) : Int) := by rw [n_t1]
    have hb1 := vb b1 (b2 :: r) rfl
    have hb2 : -1000000 ≤ f r.length ∧ f r.length ≤ 1000000 := hv.2.1.any
    simp only [List.length_cons] at hb1
    have g1 := mx_st_at (n := r.length + 1 + 1) hst e1 u1
    have g2 := mx_st_at (n := r.length + 1 + 1) hst e2 u2
    have et2 := mx_two (o := o) (S := S) (a1 := S.2.1 18 k.toNatClampNeg) (x := S.2.2 40 (n + (-1) - (1 : Int32)).toNatClampNeg) (y := S.2.2 40 (n + (-1)).toNatClampNeg) w1 (by rw [g1]; exact hb2) (by rw [g2]; exact hb1) (fun z => by
      obtain ⟨y1, y2⟩ := hbb (w2 z)
      subst y1
      subst y2
      rw [g1, g2]
      exact ⟨hv.2.1.tst, hv.1.tst⟩)
    rw [g1, g2, hc1, w3] at et2
    obtain ⟨x1', k1'⟩ := mx_st_up (m := r.length + 1) (n := r.length + 1 + 1) hst e1 et2 (Or.inl u4) rfl
    refine ⟨n + (-1), _, F_m_reckons_2_p1 rfl rfl rfl rfl rfl hk rfl a30 a43 a44 rfl rfl rfl rfl rfl rfl rfl rfl, e2.trans fn, ?_, k1'⟩
    show mx_st _ (e_w f (r.length + 1 + 1 - 2) (e_op s (f (r.length + 1 + 1 - 2)) (f (r.length + 1 + 1 - 1))), r.length + 1 + 1 - 1)
    rw [v2, v1]
    exact x1'
  by_cases c16 : -16 ≤ s
  · rw [if_pos c16] at ht
    obtain ⟨r, et, et'⟩ := e_m2 ht
    exact two _ _ r et (by omega) (fun z => by omega)
  rw [if_neg c16] at ht
  by_cases c19 : -19 ≤ s
  · rw [if_pos c19] at ht
    obtain ⟨r, et, et'⟩ := e_m2 ht
    exact two _ _ r et (by omega) (fun z => by omega)
  rw [if_neg c19] at ht
  by_cases c21 : -21 ≤ s
  · rw [if_pos c21] at ht
    obtain ⟨r, et, et'⟩ := e_m4 ht
    exact two _ _ r et c21 (fun _ => ⟨rfl, rfl⟩)
  · rw [if_neg c21] at ht
    cases ht
theorem mx_rrun2 {z : dg_S × Int64} {b : Nat} {l : Int} {bb : Bool} (hx : x1.toInt = b) (hb : b ≤ 1) (h0 : 0 ≤ l ∧ l ≤ 1600) (h7 : env (-7) = 1) : ∀ (C : List Int) (k n : Int32) (S : dg_S) (f : Nat → Int) (t : List Bool) (fuel : Nat), (∀ i, i < C.length → mx_c1 S (k.toInt + i) (C.getD i 0)) → (S.2.1 17 (3 * b + 2)).toInt = l → k.toInt + C.length = 1600 * b + l → 0 ≤ k.toInt → mx_st S (f, t.length) → n.toInt = t.length → e_vt f t → t.length ≤ 60 → e_ty C t = some [bb] → (∀ s ∈ C, -6 ≤ s → s < 0 → -1000000 ≤ env s ∧ env s ≤ 1000000) → mx_env S = env → C.length < fuel → ∃ (S1 : dg_S) (v : Int64), lp (F_m_reckons_2_B1 x1 o) z fuel (k, n, S) = (S1, v) ∧ v.toInt = (e_run env C (f, t.length)).1 0 ∧ k_rk S S1
  | [], k, n, S, f, t, fuel, hC, he, hk1, hk0, hst, hn, hv, h60, hty, hbn, hE, hf => by
    have et : t = [bb] := Option.some.inj hty
    subst et
    obtain ⟨m, hm⟩ : ∃ m, fuel = m + 1 := ⟨fuel - 1, by have : ([] : List Int).length < fuel := hf; omega⟩
    have ee := mx_end2 hx hb he h0
    have hk1 : k.toInt + ((0 : Nat) : Int) = 1600 * b + l := hk1
    have c0 : (1600 : Int32) * x1 + S.2.1 17 ((3 : Int32) * x1 + (2 : Int32)).toNatClampNeg ≤ k := dk_lep (k := k.toInt) rfl (by rw [ee]; omega)
    refine ⟨S, S.2.2 40 (0 : Int32).toNatClampNeg, ?_, mx_st_at (n := 1) hst (by decide +kernel) (by decide), kp.rf⟩
    rw [hm, lp_sr (F_m_reckons_2_p0 rfl rfl rfl rfl rfl c0 rfl)]
  | s :: C, k, n, S, f, t, fuel, hC, he, hk1, hk0, hst, hn, hv, h60, hty, hbn, hE, hf => by
    simp only [List.length_cons] at hk1 hf
    obtain ⟨t1, ht1, hty1⟩ := Option.bind_eq_some_iff.mp (show (e_t1 s t).bind (e_ty C) = some [bb] from hty)
    have hc0 := hC 0 (by simp)
    have hc0 : mx_c1 S (k.toInt + ((0 : Nat) : Int)) s := hc0
    rw [show k.toInt + ((0 : Nat) : Int) = k.toInt by omega] at hc0
    have ee := mx_end2 hx hb he h0
    have c0 : ¬ (1600 : Int32) * x1 + S.2.1 17 ((3 : Int32) * x1 + (2 : Int32)).toNatClampNeg ≤ k := fun q => by
      have := dk_lec (k := k.toInt) rfl q
      rw [ee] at this
      omega
    have ek : (k + 1).toInt = k.toInt + 1 := dk_addT rfl (by decide +kernel) (by omega) (by omega)
    obtain ⟨n1, S1, e1, en1, x1', k1'⟩ := mx_rstep2 (o := o) (x1 := x1) (k := k) (n := n) hst hn c0 hc0 ht1 hv h60 hE
    have hs := e_step (q := (f, t.length)) (hbn s (List.mem_cons_self ..)) h7 ht1 hv rfl
    rcases hs with ⟨v1, m1, l1⟩ | hs
    · obtain ⟨m, hm⟩ : ∃ m, fuel = m + 1 := ⟨fuel - 1, by omega⟩
      have x1' : mx_st S1 ((e_st env s (f, t.length)).1, t1.length) := by rw [← m1]; exact x1'
      obtain ⟨S2, v, e2, ev, k2⟩ := mx_rrun2 (z := z) hx hb h0 h7 C (k + 1) n1 S1 (e_st env s (f, t.length)).1 t1 m (fun i hi => by
        have := hC (i + 1) (by simp; omega)
        have this : mx_c1 S (k.toInt + ((i + 1 : Nat) : Int)) (C.getD i 0) := this
        unfold mx_c1 at this ⊢
        rw [k1'.row (by decide), k1'.row (by decide), ek, show k.toInt + 1 + (i : Int) = k.toInt + ((i + 1 : Nat) : Int) by omega]
        exact this) (by rw [k1'.row (by decide)]; exact he) (by rw [ek]; omega) (by omega) x1' (by rw [en1, m1]) v1 l1 hty1 (fun s' hs' => hbn s' (List.mem_cons_of_mem _ hs')) (by rw [k1'.env]; exact hE) (by omega)
      refine ⟨S2, v, ?_, ?_, k1'.tr k2⟩
      · rw [hm, lp_sl e1]
        exact e2
      · rw [ev]
        show (e_run env C ((e_st env s (f, t.length)).1, t1.length)).1 0 = (e_run env C (e_st env s (f, t.length))).1 0
        rw [← m1]
    · omega
theorem mx_told2 {S : dg_S} {b : Nat} {C : List Int} (hx : (zI S 0 13).toInt = b) (hb : b ≤ 1) (h : mx_code S b 2 C) : F_m_isTold_2 o S = 0 ∧ C = [] ∨ F_m_isTold_2 o S = 1 ∧ C ≠ [] := by
  have e2 : ((3 : Int32) * zI S 0 13).toInt = 3 * (b : Int) := dk_mulT (by decide +kernel) hx (by omega) (by omega)
  have e3 : ((3 : Int32) * zI S 0 13 + (2 : Int32)).toInt = 3 * (b : Int) + 2 := dk_addT e2 (by decide +kernel) (by omega) (by omega)
  have en : ((3 : Int32) * zI S 0 13 + (2 : Int32)).toNatClampNeg = 3 * b + 2 := by rw [dk_clN, e3]; omega
  rcases h with ⟨h1, h2⟩ | ⟨h1, fr, f0, f1, f2, -, -⟩
  · exact Or.inl ⟨F_m_isTold_2_p0 rfl rfl rfl rfl (by rw [en]; exact dk_eqp (k := -1) (by decide +kernel) h2), h1⟩
  · refine Or.inr ⟨F_m_isTold_2_p1 rfl rfl rfl rfl (fun z => ?_), h1⟩
    rw [en] at z
    have := dk_eqc (k := -1) (by decide +kernel) z
    omega
theorem mx_reckons2 {S : dg_S} {b : Nat} {C : List Int} {bb : Bool} (hx : (zI S 0 13).toInt = b) (hb : b ≤ 1) (h : mx_code S b 2 C) (hC : C ≠ []) (hty : e_ty C [] = some [bb]) (hbn : ∀ s ∈ C, -6 ≤ s → s < 0 → -1000000 ≤ mx_env S s ∧ mx_env S s ≤ 1000000) : ∃ (S1 : dg_S) (v : Int64), F_m_reckons_2 o S = (S1, v) ∧ v.toInt = s_ev (mx_env S) C ∧ k_rk S S1 := by
  rcases h with ⟨h1, -⟩ | ⟨-, fr, f0, f1, f2, f3, f4⟩
  · exact absurd h1 hC
  have e1 : ((1600 : Int32) * zI S 0 13).toInt = 1600 * (b : Int) := dk_mulT (by decide +kernel) hx (by omega) (by omega)
  have e2 : ((3 : Int32) * zI S 0 13).toInt = 3 * (b : Int) := dk_mulT (by decide +kernel) hx (by omega) (by omega)
  have e3 : ((3 : Int32) * zI S 0 13 + (2 : Int32)).toInt = 3 * (b : Int) + 2 := dk_addT e2 (by decide +kernel) (by omega) (by omega)
  have en : ((3 : Int32) * zI S 0 13 + (2 : Int32)).toNatClampNeg = 3 * b + 2 := by rw [dk_clN, e3]; omega
  have e4 : ((1600 : Int32) * zI S 0 13 + S.2.1 16 ((3 : Int32) * zI S 0 13 + (2 : Int32)).toNatClampNeg).toInt = 1600 * b + fr := dk_addT e1 (by rw [en]; exact f2) (by omega) (by omega)
  obtain ⟨S1, v, r1, r2, r3⟩ := mx_rrun2 (o := o) (x1 := zI S 0 13) (z := (S, (0 : Int64))) (env := mx_env S) hx hb (l := fr + C.length) (by omega) (show mx_env S (-7) = 1 from rfl) C ((1600 : Int32) * zI S 0 13 + S.2.1 16 ((3 : Int32) * zI S 0 13 + (2 : Int32)).toNatClampNeg) 0 S (fun _ => 0) [] ((3201 - (((1600 : Int32) * zI S 0 13 + S.2.1 16 ((3 : Int32) * zI S 0 13 + (2 : Int32)).toNatClampNeg : Int32)).toInt).toNat + 1) (fun i hi => by rw [e4]; exact f4 i hi) f3 (by rw [e4]; omega) (by rw [e4]; omega) (fun i hi => absurd hi (Nat.not_lt_zero i)) (by decide +kernel) trivial (by decide) hty hbn rfl (by rw [e4]; omega)
  exact ⟨S1, v, (F_m_reckons_2_p8 rfl rfl rfl rfl rfl rfl).trans r1, r2, r3⟩
end MV2
