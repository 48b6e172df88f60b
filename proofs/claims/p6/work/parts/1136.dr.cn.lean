/-! the class: a pit is copied; what is kept; ahead of each act, and back -/
theorem va_c0 {f g : Nat → Int32} {n j : Nat} : va_cpy f g 0 0 n j = if j < n then f j else g j := by
  unfold va_cpy
  by_cases h : j < n
  · rw [if_pos ⟨Nat.zero_le _, by omega⟩, if_pos h, show 0 + (j - 0) = j by omega]
  · rw [if_neg (by omega), if_neg h]
theorem pX_ne {p q : Nat} (hp : pX p) (hq : pX q) (h : p ≠ q) : p + 6 < q ∨ q + 6 < p := by
  have h1 : ∀ p ∈ alX.getD 1 [], ∀ q ∈ alX.getD 1 [], p ≠ q → p + 6 < q ∨ q + 6 < p := by decide +kernel
  exact h1 p hp q hq h
theorem pX_h {k : Nat} (h : k < 20) : pX (42 + 7 * k) := by
  have h1 : ∀ k : Nat, k < 20 → (42 + 7 * k) ∈ alX.getD 1 [] := by decide +kernel
  exact h1 k h
theorem pX_3' : pX 3 := by
  have h1 : (3 : Nat) ∈ alX.getD 1 [] := by decide +kernel
  exact h1
section XC
variable {G A : aR} {S S0 S1 T : dg_S} {p q o : Nat} {L : s_L} {U : s_U} {a1 a2 a3 a4 : Int32}
def k_pt (p : Nat) (S S1 : dg_S) : Prop := kp (fun a b => a = p ∧ b < 2) (fun a => p < a ∧ a ≤ p + 6) S S1
theorem cx_copy (hp : pX p) (hq : pX q) (hne : p ≠ q) (h : cx_pit G A S q) (hb : G 0 6 ≤ 16) : ∃ S1, F_p_copy o S p q = S1 ∧ k_pt p S S1 ∧ cx_pit G A S1 p := by
  have sep := pX_ne hp hq hne
  obtain ⟨y1, y2, y3, y4, y5, y6, y7⟩ := h
  obtain ⟨S2, h2⟩ : ∃ T, T = dg_uF S p 0 (.int (zI S q 0)) := ⟨_, rfl⟩
  obtain ⟨S4, h4⟩ : ∃ T, T = dg_uF S2 p 1 (.int (zI S2 q 1)) := ⟨_, rfl⟩
  obtain ⟨S10, h10⟩ : ∃ T, T = dg_uf S4 (p + 1) (va_cpy (S4.2.1 (q + 1)) (S4.2.1 (p + 1)) (0 : Int32).toNatClampNeg (0 : Int32).toNatClampNeg (72 : Int32).toNatClampNeg) := ⟨_, rfl⟩
  obtain ⟨S17, h17⟩ : ∃ T, T = dg_uf S10 (p + 2) (va_cpy (S10.2.1 (q + 2)) (S10.2.1 (p + 2)) (0 : Int32).toNatClampNeg (0 : Int32).toNatClampNeg (6 : Int32).toNatClampNeg) := ⟨_, rfl⟩
  obtain ⟨S24, h24⟩ : ∃ T, T = dg_uf S17 (p + 3) (va_cpy (S17.2.1 (q + 3)) (S17.2.1 (p + 3)) (0 : Int32).toNatClampNeg (0 : Int32).toNatClampNeg (16 : Int32).toNatClampNeg) := ⟨_, rfl⟩
  obtain ⟨S31, h31⟩ : ∃ T, T = dg_uf S24 (p + 4) (va_cpy (S24.2.1 (q + 4)) (S24.2.1 (p + 4)) (0 : Int32).toNatClampNeg (0 : Int32).toNatClampNeg (16 : Int32).toNatClampNeg) := ⟨_, rfl⟩
  obtain ⟨S38, h38⟩ : ∃ T, T = dg_uf S31 (p + 5) (va_cpy (S31.2.1 (q + 5)) (S31.2.1 (p + 5)) (0 : Int32).toNatClampNeg (0 : Int32).toNatClampNeg (5 : Int32).toNatClampNeg) := ⟨_, rfl⟩
  obtain ⟨S45, h45⟩ : ∃ T, T = dg_uf S38 (p + 6) (va_cpy (S38.2.1 (q + 6)) (S38.2.1 (p + 6)) (0 : Int32).toNatClampNeg (0 : Int32).toNatClampNeg (10 : Int32).toNatClampNeg) := ⟨_, rfl⟩
  have n0 : (0 : Int32).toNatClampNeg = 0 := by decide +kernel
  have n72 : (72 : Int32).toNatClampNeg = 72 := by decide +kernel
  have n6 : (6 : Int32).toNatClampNeg = 6 := by decide +kernel
  have n16 : (16 : Int32).toNatClampNeg = 16 := by decide +kernel
  have n5 : (5 : Int32).toNatClampNeg = 5 := by decide +kernel
  have n10 : (10 : Int32).toNatClampNeg = 10 := by decide +kernel
  have k45 : k_pt p S S45 := by
    rw [h45, h38, h31, h24, h17, h10, h4, h2]
    exact kp.uf (kp.uf (kp.uf (kp.uf (kp.uf (kp.uf (kp.uF (kp.uF kp.rf ⟨rfl, by decide⟩) ⟨rfl, by decide⟩) ⟨by omega, by omega⟩) ⟨by omega, by omega⟩) ⟨by omega, by omega⟩) ⟨by omega, by omega⟩) ⟨by omega, by omega⟩) ⟨by omega, by omega⟩
  have F4 : S4.2.1 = S.2.1 := by rw [h4, h2]; rfl
  have o10 : ∀ i, i ≠ p + 1 → S10.2.1 i = S.2.1 i := fun i hi => by rw [h10, w_f, if_neg hi, F4]
  have o17 : ∀ i, i ≠ p + 1 → i ≠ p + 2 → S17.2.1 i = S.2.1 i := fun i i1 i2 => by rw [h17, w_f, if_neg i2, o10 i i1]
  have o24 : ∀ i, i ≠ p + 1 → i ≠ p + 2 → i ≠ p + 3 → S24.2.1 i = S.2.1 i := fun i i1 i2 i3 => by rw [h24, w_f, if_neg i3, o17 i i1 i2]
  have o31 : ∀ i, i ≠ p + 1 → i ≠ p + 2 → i ≠ p + 3 → i ≠ p + 4 → S31.2.1 i = S.2.1 i := fun i i1 i2 i3 i4 => by rw [h31, w_f, if_neg i4, o24 i i1 i2 i3]
  have o38 : ∀ i, i ≠ p + 1 → i ≠ p + 2 → i ≠ p + 3 → i ≠ p + 4 → i ≠ p + 5 → S38.2.1 i = S.2.1 i := fun i i1 i2 i3 i4 i5 => by rw [h38, w_f, if_neg i5, o31 i i1 i2 i3 i4]
  have r1 : ∀ j, j < 72 → S45.2.1 (p + 1) j = S.2.1 (q + 1) j := fun j hj => by
    rw [h45, w_f, if_neg (by omega), h38, w_f, if_neg (by omega), h31, w_f, if_neg (by omega), h24, w_f, if_neg (by omega), h17, w_f, if_neg (by omega), h10, w_f, if_pos rfl, n0, n72, va_c0, if_pos hj, F4]
  have r2 : ∀ j, j < 6 → S45.2.1 (p + 2) j = S.2.1 (q + 2) j := fun j hj => by
    rw [h45, w_f, if_neg (by omega), h38, w_f, if_neg (by omega), h31, w_f, if_neg (by omega), h24, w_f, if_neg (by omega), h17, w_f, if_pos rfl, n0, n6, va_c0, if_pos hj, o10 _ (by omega)]
  have r3 : ∀ j, j < 16 → S45.2.1 (p + 3) j = S.2.1 (q + 3) j := fun j hj => by
    rw [h45, w_f, if_neg (by omega), h38, w_f, if_neg (by omega), h31, w_f, if_neg (by omega), h24, w_f, if_pos rfl, n0, n16, va_c0, if_pos hj, o17 _ (by omega) (by omega)]
  have r4 : ∀ j, j < 16 → S45.2.1 (p + 4) j = S.2.1 (q + 4) j := fun j hj => by
    rw [h45, w_f, if_neg (by omega), h38, w_f, if_neg (by omega), h31, w_f, if_pos rfl, n0, n16, va_c0, if_pos hj, o24 _ (by omega) (by omega) (by omega)]
  have r5 : ∀ j, j < 5 → S45.2.1 (p + 5) j = S.2.1 (q + 5) j := fun j hj => by
    rw [h45, w_f, if_neg (by omega), h38, w_f, if_pos rfl, n0, n5, va_c0, if_pos hj, o31 _ (by omega) (by omega) (by omega) (by omega)]
  have r6 : ∀ j, j < 10 → S45.2.1 (p + 6) j = S.2.1 (q + 6) j := fun j hj => by
    rw [h45, w_f, if_pos rfl, n0, n10, va_c0, if_pos hj, o38 _ (by omega) (by omega) (by omega) (by omega) (by omega)]
  have f0 : zI S45 p 0 = zI S q 0 := by
    rw [h45, w_If, h38, w_If, h31, w_If, h24, w_If, h17, w_If, h10, w_If, h4, w_I, if_neg (by omega), h2, w_I, if_pos ⟨rfl, rfl⟩]
  have f1 : zI S45 p 1 = zI S q 1 := by
    rw [h45, w_If, h38, w_If, h31, w_If, h24, w_If, h17, w_If, h10, w_If, h4, w_I, if_pos ⟨rfl, rfl⟩, h2, w_I, if_neg (by omega)]
  refine ⟨S45, ?_, k45, fun x x0 x1 => ?_, by rw [f0]; exact y2, by rw [f1]; exact y3, fun k hk => by rw [r2 k hk]; exact y4 k hk, fun k hk => by rw [r3 k (by omega), r4 k (by omega)]; exact y5 k hk, fun k hk => by rw [r5 k hk]; exact y6 k hk, fun k hk => by rw [r6 k hk]; exact y7 k hk⟩
  · rw [F_p_copy_p2 rfl h2 rfl h4 h10 h17, F_p_copy_p1 h24 h31 h38 h45]
    exact F_p_copy_p0
  · have e : cx_at S45 p x = cx_at S q x := by
      unfold cx_at
      rw [r1 _ (by omega)]
    rw [e]
    exact y1 x x0 x1
/-- a row of what is kept -/
def kr (r : Nat → Int32) (L : s_L) : Prop := ∀ i, i < L.length → (r (4 * i)).toInt = (L.getD i (0, 0, 0, 0)).1 ∧ (r (4 * i + 1)).toInt = (L.getD i (0, 0, 0, 0)).2.1 ∧ (r (4 * i + 2)).toInt = (L.getD i (0, 0, 0, 0)).2.2.1 ∧ (r (4 * i + 3)).toInt = (L.getD i (0, 0, 0, 0)).2.2.2
theorem kr.congr {r r' : Nat → Int32} (h : kr r L) (e : ∀ j, j < 4 * L.length → r' j = r j) : kr r' L := by
  intro i hi
  rw [e _ (by omega), e _ (by omega), e _ (by omega), e _ (by omega)]
  exact h i hi
def cx_kp (S : dg_S) (L : s_L) : Prop := (zI S 17 1).toInt = L.length ∧ L.length ≤ 40 ∧ kr (S.2.1 18) L
theorem cx_keep1 {x : Int32} (hx : x.toInt = L.length) (hL : L.length < 40) (h : kr (S.2.1 18) L) : ∃ S1, F_h_keep_J1 x S a1 a2 a3 a4 = S1 ∧ cx_kp S1 (L ++ [(a1.toInt, a2.toInt, a3.toInt, a4.toInt)]) ∧ kp (fun a b => a = 17 ∧ b = 1) (fun a => a = 18) S S1 := by
  have e3 : ((4 : Int32) * x).toInt = 4 * (L.length : Int) := dk_mulT (by decide +kernel) hx (by omega) (by omega)
  obtain ⟨y, hy⟩ : ∃ y, y = (4 : Int32) * x := ⟨_, rfl⟩
  rw [← hy] at e3
  obtain ⟨m, hm⟩ : ∃ m, m = 4 * L.length := ⟨_, rfl⟩
  have n0 : y.toNatClampNeg = m := by rw [dk_clN]; omega
  have n1 : (y + (1 : Int32)).toNatClampNeg = m + 1 := by rw [dk_clN, dk_addT e3 (b := 1) (by decide +kernel) (by omega) (by omega)]; omega
  have n2 : (y + (2 : Int32)).toNatClampNeg = m + 2 := by rw [dk_clN, dk_addT e3 (b := 2) (by decide +kernel) (by omega) (by omega)]; omega
  have n3 : (y + (3 : Int32)).toNatClampNeg = m + 3 := by rw [dk_clN, dk_addT e3 (b := 3) (by decide +kernel) (by omega) (by omega)]; omega
  obtain ⟨S4, h4⟩ : ∃ S', S' = dg_uf S 18 (upd (S.2.1 18) y.toNatClampNeg a1) := ⟨_, rfl⟩
  obtain ⟨S7, h7⟩ : ∃ S', S' = dg_uf S4 18 (upd (S4.2.1 18) (y + (1 : Int32)).toNatClampNeg a2) := ⟨_, rfl⟩
  obtain ⟨S10, h10⟩ : ∃ S', S' = dg_uf S7 18 (upd (S7.2.1 18) (y + (2 : Int32)).toNatClampNeg a3) := ⟨_, rfl⟩
  obtain ⟨S13, h13⟩ : ∃ S', S' = dg_uf S10 18 (upd (S10.2.1 18) (y + (3 : Int32)).toNatClampNeg a4) := ⟨_, rfl⟩
  obtain ⟨S18, h18⟩ : ∃ S', S' = dg_uF S13 17 1 (.int (x + (1 : Int32))) := ⟨_, rfl⟩
  have ex : (x + (1 : Int32)).toInt = (L.length : Int) + 1 := dk_addT hx (by decide +kernel) (by omega) (by omega)
  have R : ∀ j, S18.2.1 18 j = if j = m + 3 then a4 else if j = m + 2 then a3 else if j = m + 1 then a2 else if j = m then a1 else S.2.1 18 j := fun j => by
    rw [h18, w_Ff, h13, w_f, if_pos rfl, w_u, n3, h10, w_f, if_pos rfl, w_u, n2, h7, w_f, if_pos rfl, w_u, n1, h4, w_f, if_pos rfl, w_u, n0]
  refine ⟨S18, ?_, ⟨?_, ?_, fun i hi => ?_⟩, ?_⟩
  · rw [F_h_keep_p1 hy h4 rfl h7 rfl h10 rfl h13]
    exact F_h_keep_p0 rfl h18
  · rw [h18, w_I, if_pos ⟨rfl, rfl⟩, ex]
    simp
  · simp
    omega
  · simp only [List.length_append, List.length_cons, List.length_nil] at hi
    by_cases q : i < L.length
    · rw [R, R, R, R]
      rw [if_neg (show ¬ 4 * i = m + 3 by omega), if_neg (show ¬ 4 * i = m + 2 by omega), if_neg (show ¬ 4 * i = m + 1 by omega), if_neg (show ¬ 4 * i = m by omega)]
      rw [if_neg (show ¬ 4 * i + 1 = m + 3 by omega), if_neg (show ¬ 4 * i + 1 = m + 2 by omega), if_neg (show ¬ 4 * i + 1 = m + 1 by omega), if_neg (show ¬ 4 * i + 1 = m by omega)]
      rw [if_neg (show ¬ 4 * i + 2 = m + 3 by omega), if_neg (show ¬ 4 * i + 2 = m + 2 by omega), if_neg (show ¬ 4 * i + 2 = m + 1 by omega), if_neg (show ¬ 4 * i + 2 = m by omega)]
      rw [if_neg (show ¬ 4 * i + 3 = m + 3 by omega), if_neg (show ¬ 4 * i + 3 = m + 2 by omega), if_neg (show ¬ 4 * i + 3 = m + 1 by omega), if_neg (show ¬ 4 * i + 3 = m by omega)]
      have eg : (L ++ [(a1.toInt, a2.toInt, a3.toInt, a4.toInt)]).getD i (0, 0, 0, 0) = L.getD i (0, 0, 0, 0) := by
        rw [List.getD_eq_getElem?_getD, List.getD_eq_getElem?_getD, List.getElem?_append_left q]
      rw [eg]
      exact h i q
    · have ei : i = L.length := by omega
      subst ei
      have eg : (L ++ [(a1.toInt, a2.toInt, a3.toInt, a4.toInt)]).getD L.length (0, 0, 0, 0) = (a1.toInt, a2.toInt, a3.toInt, a4.toInt) := by
        rw [List.getD_eq_getElem?_getD, List.getElem?_append_right (Nat.le_refl _), Nat.sub_self]
        rfl
      rw [eg, R, R, R, R]
      rw [if_neg (show ¬ 4 * L.length = m + 3 by omega), if_neg (show ¬ 4 * L.length = m + 2 by omega), if_neg (show ¬ 4 * L.length = m + 1 by omega), if_pos (show 4 * L.length = m by omega)]
      rw [if_neg (show ¬ 4 * L.length + 1 = m + 3 by omega), if_neg (show ¬ 4 * L.length + 1 = m + 2 by omega), if_pos (show 4 * L.length + 1 = m + 1 by omega)]
      rw [if_neg (show ¬ 4 * L.length + 2 = m + 3 by omega), if_pos (show 4 * L.length + 2 = m + 2 by omega)]
      rw [if_pos (show 4 * L.length + 3 = m + 3 by omega)]
      exact ⟨rfl, rfl, rfl, rfl⟩
  · rw [h18, h13, h10, h7, h4]
    exact kp.uF (kp.uf (kp.uf (kp.uf (kp.uf kp.rf rfl) rfl) rfl) rfl) ⟨rfl, rfl⟩
/-- a digging is kept -/
theorem cx_keep (h : cx_kp S L) : ∃ S1, F_h_keep o S a1 a2 a3 a4 = S1 ∧ cx_kp S1 (s_kp L (a1.toInt, a2.toInt, a3.toInt, a4.toInt)) ∧ kp (fun a b => a = 17 ∧ b = 1) (fun a => a = 18) S S1 := by
  obtain ⟨h1, h2, h3⟩ := h
  unfold s_kp
  by_cases q : zI S 17 1 = (40 : Int32)
  · have d := dk_eqc (k := 40) (by decide +kernel) q
    have hl : L.length = 40 := by omega
    rw [if_pos hl]
    have n4 : (4 : Int32).toNatClampNeg = 4 := by decide +kernel
    have n0 : (0 : Int32).toNatClampNeg = 0 := by decide +kernel
    have n156 : (156 : Int32).toNatClampNeg = 156 := by decide +kernel
    obtain ⟨S50, h50⟩ : ∃ S', S' = dg_uf S 18 (va_cpy (S.2.1 18) (S.2.1 18) (4 : Int32).toNatClampNeg (0 : Int32).toNatClampNeg (156 : Int32).toNatClampNeg) := ⟨_, rfl⟩
    obtain ⟨S53, h53⟩ : ∃ S', S' = dg_uF S50 17 1 (.int (zI S 17 1 - (1 : Int32))) := ⟨_, rfl⟩
    have ht : L.tail.length = 39 := by rw [List.length_tail, hl]
    have ex : (zI S 17 1 - (1 : Int32)).toInt = (L.tail.length : Int) := by
      rw [dk_subT d (b := 1) (by decide +kernel) (by omega) (by omega), ht]
      rfl
    have r18 : ∀ j, j < 156 → S53.2.1 18 j = S.2.1 18 (j + 4) := fun j hj => by
      rw [h53, w_Ff, h50, w_f, if_pos rfl, n4, n0, n156]
      unfold va_cpy
      rw [if_pos ⟨Nat.zero_le _, by omega⟩, show 4 + (j - 0) = j + 4 by omega]
    obtain ⟨S1, g1, g2, g3⟩ := cx_keep1 (S := S53) (a1 := a1) (a2 := a2) (a3 := a3) (a4 := a4) ex (by omega) (fun i hi => by
      rw [ht] at hi
      rw [r18 _ (by omega), r18 _ (by omega), r18 _ (by omega), r18 _ (by omega), tl_getD]
      have := h3 (i + 1) (by omega)
      rw [show 4 * (i + 1) = 4 * i + 4 by omega] at this
      rw [show 4 * i + 1 + 4 = 4 * i + 4 + 1 by omega, show 4 * i + 2 + 4 = 4 * i + 4 + 2 by omega, show 4 * i + 3 + 4 = 4 * i + 4 + 3 by omega]
      exact this)
    refine ⟨S1, (F_h_keep_p3 rfl q h50 rfl h53).trans g1, g2, ?_⟩
    have k53 : kp (fun a b => a = 17 ∧ b = 1) (fun a => a = 18) S S53 := by
      rw [h53, h50]
      exact kp.uF (kp.uf kp.rf rfl) ⟨rfl, rfl⟩
    exact k53.tr g3
  · have d := dk_neqc (k := 40) (by decide +kernel) q
    have hl : ¬ L.length = 40 := fun z => d (by rw [h1, z]; rfl)
    rw [if_neg hl]
    obtain ⟨S1, g1, g2, g3⟩ := cx_keep1 (S := S) (x := zI S 17 1) (a1 := a1) (a2 := a2) (a3 := a3) (a4 := a4) h1 (by omega) h3
    exact ⟨S1, (F_h_keep_p2 rfl q).trans g1, g2, g3⟩
/-- how all was ahead of the last acts -/
def cx_ud (G : aR) (S : dg_S) (U : s_U) : Prop := (zI S 17 2).toInt = U.length ∧ U.length ≤ 20 ∧ ∃ nx : Nat, nx < 20 ∧ (zI S 17 3).toInt = nx ∧ ∀ i e, U[i]? = some e → cx_pit G e.1 S (42 + 7 * ((nx + 20 - U.length + i) % 20)) ∧ (S.2.1 41 ((nx + 20 - U.length + i) % 20)).toInt = e.2.length ∧ e.2.length ≤ 40 ∧ kr (S.2.1 (21 + (nx + 20 - U.length + i) % 20)) e.2
/-- the ring alone -/
def k_h (S S1 : dg_S) : Prop := kp (fun a b => (a = 17 ∧ (b = 2 ∨ b = 3)) ∨ (42 ≤ a ∧ a < 182)) (fun a => 21 ≤ a ∧ a < 182) S S1
theorem cx_put (hb : G 0 6 ≤ 16) (hp : pX p) (hp3 : p + 6 < 42 ∨ 182 ≤ p) (hpit : cx_pit G A S p) (hk : cx_kp S L) (hu : cx_ud G S U) : ∃ S1, F_h_put o S p = S1 ∧ k_h S S1 ∧ cx_ud G S1 (s_ud U (A, L)) := by
  obtain ⟨h1, h2, nx, h3, h4, h5⟩ := hu
  obtain ⟨c1, c2, c3⟩ := hk
  have n0 : (0 : Int32).toNatClampNeg = 0 := by decide +kernel
  have en : (zI S 17 3).toNatClampNeg = nx := by rw [dk_clN]; omega
  obtain ⟨S4, e4, k4, p4⟩ := cx_copy (o := o) (S := S) (p := 42 + 7 * nx) (q := p) (pX_h h3) hp (by omega) hpit hb
  have x8 : ((4 : Int32) * zI S 17 1).toInt = 4 * (L.length : Int) := dk_mulT (by decide +kernel) c1 (by omega) (by omega)
  have n8 : ((4 : Int32) * zI S 17 1).toNatClampNeg = 4 * L.length := by rw [dk_clN]; omega
  obtain ⟨S13, h13⟩ : ∃ T, T = dg_uf S4 (21 + nx) (va_cpy (S4.2.1 18) (S4.2.1 (21 + nx)) (0 : Int32).toNatClampNeg (0 : Int32).toNatClampNeg ((4 : Int32) * zI S 17 1).toNatClampNeg) := ⟨_, rfl⟩
  obtain ⟨S16, h16⟩ : ∃ T, T = dg_uf S13 41 (upd (S13.2.1 41) (zI S 17 3).toNatClampNeg (zI S 17 1)) := ⟨_, rfl⟩
  have e17 : (zI S 17 3 + (1 : Int32)).toInt = (nx : Int) + 1 := dk_addT h4 (by decide +kernel) (by omega) (by omega)
  obtain ⟨x18, hx18⟩ : ∃ x, x = zI S 17 3 + (1 : Int32) - (zI S 17 3 + (1 : Int32)) / (20 : Int32) * (20 : Int32) := ⟨_, rfl⟩
  have e18 : x18.toInt = (((nx + 1) % 20 : Nat) : Int) := by
    rw [hx18, dk_remL (b := 20) (by omega) (by decide +kernel) (by omega), e17]
    omega
  obtain ⟨S20, h20⟩ : ∃ T, T = dg_uF S16 17 3 (.int x18) := ⟨_, rfl⟩
  obtain ⟨x22, hx22⟩ : ∃ x, x = if zI S16 17 2 + (1 : Int32) < (20 : Int32) then zI S16 17 2 + (1 : Int32) else (20 : Int32) := ⟨_, rfl⟩
  obtain ⟨S23, h23⟩ : ∃ T, T = dg_uF S20 17 2 (.int x22) := ⟨_, rfl⟩
  have i16 : ∀ a b, ¬ (42 ≤ a ∧ a < 182) → zI S16 a b = zI S a b := fun a b hab => by
    rw [h16, w_If, h13, w_If, k4.I (fun z => by omega)]
  have e22 : x22.toInt = ((s_ud U (A, L)).length : Int) := by
    have e : (zI S16 17 2 + (1 : Int32)).toInt = (U.length : Int) + 1 := by
      rw [i16 17 2 (by decide)]
      exact dk_addT h1 (by decide +kernel) (by omega) (by omega)
    have z20 : (20 : Int32).toInt = 20 := by decide +kernel
    rw [hx22, s_ud_len h2]
    by_cases y : zI S16 17 2 + (1 : Int32) < (20 : Int32)
    · have := dk_ltc z20 y
      rw [if_pos y, e]
      omega
    · have := dk_nltc z20 y
      rw [if_neg y, z20]
      omega
  have t13 : k_h S S13 := by
    rw [h13]
    exact kp.uf (k4.w (fun a b z => by omega) (fun a z => by omega)) ⟨by omega, by omega⟩
  have t23 : k_h S S23 := by
    rw [h23, h20, h16]
    exact kp.uF (kp.uF (kp.uf t13 ⟨by decide, by decide⟩) (Or.inl ⟨rfl, Or.inr rfl⟩)) (Or.inl ⟨rfl, Or.inl rfl⟩)
  have ro : ∀ i, i ≠ 41 → i ≠ 21 + nx → S23.2.1 i = S4.2.1 i := fun i i1 i2 => by rw [h23, w_Ff, h20, w_Ff, h16, w_f, if_neg i1, h13, w_f, if_neg i2]
  have r41 : ∀ j, S23.2.1 41 j = if j = nx then zI S 17 1 else S.2.1 41 j := fun j => by
    rw [h23, w_Ff, h20, w_Ff, h16, w_f, if_pos rfl, w_u, en, h13, w_f, if_neg (show ¬ (41 : Nat) = 21 + nx by omega), (k4.2 41 (by omega)).1]
  have rk : S23.2.1 (21 + nx) = va_cpy (S.2.1 18) (S.2.1 (21 + nx)) 0 0 (4 * L.length) := by
    rw [h23, w_Ff, h20, w_Ff, h16, w_f, if_neg (by omega), h13, w_f, if_pos rfl, n0, n8, (k4.2 18 (by omega)).1, (k4.2 (21 + nx) (by omega)).1]
  have I23 : ∀ a b, a ≠ 17 → zI S23 a b = zI S4 a b := fun a b ha => by rw [h23, w_I0 (fun z => ha z.1), h20, w_I0 (fun z => ha z.1), h16, w_If, h13, w_If]
  have new : cx_pit G A S23 (42 + 7 * nx) := p4.keep (fun i _ _ => ro i (by omega) (by omega)) (fun b _ => I23 _ _ (by omega))
  have old : ∀ B k, k < 20 → k ≠ nx → cx_pit G B S (42 + 7 * k) → cx_pit G B S23 (42 + 7 * k) := fun B k hk hkn h => h.keep (fun i _ _ => by rw [ro i (by omega) (by omega), (k4.2 i (by omega)).1]) (fun b _ => by rw [I23 _ _ (by omega), k4.I (fun z => by omega)])
  have oldr : ∀ k, k < 20 → k ≠ nx → S23.2.1 (21 + k) = S.2.1 (21 + k) := fun k hk hkn => by rw [ro _ (by omega) (by omega), (k4.2 (21 + k) (by omega)).1]
  have F : F_h_put o S p = S23 := by
    rw [F_h_put_p1 rfl (by rw [en]) e4.symm (by rw [en]) rfl rfl h13 h16 rfl hx18 rfl h20]
    exact F_h_put_p0 rfl hx22 h23
  have len := s_ud_len (e := (A, L)) h2
  refine ⟨S23, F, t23, by rw [h23, w_I, if_pos ⟨rfl, rfl⟩]; exact e22, by omega, (nx + 1) % 20, by omega, by rw [h23, w_I, if_neg (by decide), h20, w_I, if_pos ⟨rfl, rfl⟩]; exact e18, fun i e he => ?_⟩
  -- the newest
  have last : ∀ m : Nat, m = nx → cx_pit G A S23 (42 + 7 * m) ∧ (S23.2.1 41 m).toInt = L.length ∧ L.length ≤ 40 ∧ kr (S23.2.1 (21 + m)) L := fun m hm => by
    subst hm
    refine ⟨new, by rw [r41, if_pos rfl]; exact c1, c2, c3.congr (fun j hj => ?_)⟩
    rw [rk, va_c0, if_pos hj]
  have keep : ∀ (m : Nat) (e : aR × s_L), m < 20 → m ≠ nx → (cx_pit G e.1 S (42 + 7 * m) ∧ (S.2.1 41 m).toInt = e.2.length ∧ e.2.length ≤ 40 ∧ kr (S.2.1 (21 + m)) e.2) → cx_pit G e.1 S23 (42 + 7 * m) ∧ (S23.2.1 41 m).toInt = e.2.length ∧ e.2.length ≤ 40 ∧ kr (S23.2.1 (21 + m)) e.2 := fun m e hm hmn h => ⟨old _ m hm hmn h.1, by rw [r41, if_neg hmn]; exact h.2.1, h.2.2.1, by rw [oldr m hm hmn]; exact h.2.2.2⟩
  rw [len]
  unfold s_ud at he
  by_cases q : U.length = 20
  · rw [if_pos q] at he
    have ht : U.tail.length = 19 := by rw [List.length_tail, q]
    rcases ap_get he with ⟨a, b⟩ | ⟨a, b⟩
    · rw [tl_get] at b
      have := h5 (i + 1) e b
      rw [show (nx + 20 - U.length + (i + 1)) % 20 = ((nx + 1) % 20 + 20 - min 20 (U.length + 1) + i) % 20 by omega] at this
      exact keep _ e (by omega) (by omega) this
    · rw [b]
      exact last _ (by omega)
  · rw [if_neg q] at he
    rcases ap_get he with ⟨a, b⟩ | ⟨a, b⟩
    · have := h5 i e b
      rw [show (nx + 20 - U.length + i) % 20 = ((nx + 1) % 20 + 20 - min 20 (U.length + 1) + i) % 20 by omega] at this
      exact keep _ e (by omega) (by omega) this
    · rw [b]
      exact last _ (by omega)
/-- an act is undone -/
theorem cx_back (hb : G 0 6 ≤ 16) (hp : pX p) (hp3 : p + 6 < 17) (hu : cx_ud G S (U ++ [(A, L)])) : ∃ S1, F_h_takeBack o S p = (S1, (1 : Int32)) ∧ cx_pit G A S1 p ∧ cx_kp S1 L ∧ cx_ud G S1 U ∧ kp (fun a b => (a = p ∧ b < 2) ∨ (a = 17 ∧ (b = 1 ∨ b = 2 ∨ b = 3))) (fun a => (p < a ∧ a ≤ p + 6) ∨ a = 18) S S1 := by
  obtain ⟨h1, h2, nx, h3, h4, h5⟩ := hu
  have n0 : (0 : Int32).toNatClampNeg = 0 := by decide +kernel
  have z0 : (0 : Int32).toInt = 0 := by decide +kernel
  have len : (U ++ [(A, L)]).length = U.length + 1 := by rw [List.length_append]; rfl
  rw [len] at h1 h2 h5
  have q : ¬ zI S 17 2 = (0 : Int32) := fun z => by
    have := dk_eqc z0 z
    omega
  have e4 : (zI S 17 2 - (1 : Int32)).toInt = (U.length : Int) := by
    rw [dk_subT h1 (b := 1) (by decide +kernel) (by omega) (by omega)]
    omega
  obtain ⟨S5, g5⟩ : ∃ T, T = dg_uF S 17 2 (.int (zI S 17 2 - (1 : Int32))) := ⟨_, rfl⟩
  have e6 : (zI S 17 3 + (20 : Int32)).toInt = (nx : Int) + 20 := dk_addT h4 (by decide +kernel) (by omega) (by omega)
  have e7 : (zI S 17 3 + (20 : Int32) - (1 : Int32)).toInt = (nx : Int) + 20 - 1 := dk_subT e6 (by decide +kernel) (by omega) (by omega)
  obtain ⟨x8, hx8⟩ : ∃ x, x = zI S 17 3 + (20 : Int32) - (1 : Int32) - (zI S 17 3 + (20 : Int32) - (1 : Int32)) / (20 : Int32) * (20 : Int32) := ⟨_, rfl⟩
  obtain ⟨m, hm⟩ : ∃ m, m = (nx + 19) % 20 := ⟨_, rfl⟩
  have e8 : x8.toInt = (m : Int) := by
    rw [hx8, dk_remL (b := 20) (by omega) (by decide +kernel) (by omega), e7]
    omega
  have n8 : x8.toNatClampNeg = m := by rw [dk_clN]; omega
  obtain ⟨S9, g9⟩ : ∃ T, T = dg_uF S5 17 3 (.int x8) := ⟨_, rfl⟩
  have r9 : S9.2.1 = S.2.1 := by rw [g9, g5]; rfl
  have I9 : ∀ a b, a ≠ 17 → zI S9 a b = zI S a b := fun a b ha => by rw [g9, w_I0 (fun z => ha z.1), g5, w_I0 (fun z => ha z.1)]
  have hlast := h5 U.length (A, L) (by rw [List.getElem?_append_right (Nat.le_refl _), Nat.sub_self]; rfl)
  rw [show (nx + 20 - (U.length + 1) + U.length) % 20 = m by omega] at hlast
  obtain ⟨l1, l2, l3, l4⟩ := hlast
  have l3 : L.length ≤ 40 := l3
  have l1' : cx_pit G A S9 (42 + 7 * m) := l1.keep (fun i _ _ => by rw [r9]) (fun b _ => I9 _ _ (by omega))
  obtain ⟨S12, e12, k12, p12⟩ := cx_copy (o := o) (S := S9) (p := p) (q := 42 + 7 * m) hp (pX_h (by omega)) (by omega) l1' hb
  have r12 : ∀ i, ¬ (p < i ∧ i ≤ p + 6) → S12.2.1 i = S.2.1 i := fun i hi => by rw [(k12.2 i hi).1, r9]
  obtain ⟨S15, g15⟩ : ∃ T, T = dg_uF S12 17 1 (.int (S12.2.1 41 x8.toNatClampNeg)) := ⟨_, rfl⟩
  have c41 : (S12.2.1 41 x8.toNatClampNeg).toInt = L.length := by rw [n8, r12 41 (by omega)]; exact l2
  have x18 : ((4 : Int32) * S12.2.1 41 x8.toNatClampNeg).toInt = 4 * (L.length : Int) := dk_mulT (by decide +kernel) c41 (by omega) (by omega)
  have n18 : ((4 : Int32) * S12.2.1 41 x8.toNatClampNeg).toNatClampNeg = 4 * L.length := by rw [dk_clN]; omega
  obtain ⟨S23, g23⟩ : ∃ T, T = dg_uf S15 18 (va_cpy (S15.2.1 (21 + m)) (S15.2.1 18) (0 : Int32).toNatClampNeg (0 : Int32).toNatClampNeg ((4 : Int32) * S12.2.1 41 x8.toNatClampNeg).toNatClampNeg) := ⟨_, rfl⟩
  have r15 : S15.2.1 = S12.2.1 := by rw [g15]; rfl
  have ro : ∀ i, i ≠ 18 → S23.2.1 i = S12.2.1 i := fun i hi => by rw [g23, w_f, if_neg hi, r15]
  have r18 : S23.2.1 18 = va_cpy (S.2.1 (21 + m)) (S.2.1 18) 0 0 (4 * L.length) := by
    rw [g23, w_f, if_pos rfl, n0, n18, r15, r12 _ (by omega), r12 18 (by omega)]
  have I23 : ∀ a b, a ≠ 17 → zI S23 a b = zI S12 a b := fun a b ha => by rw [g23, w_If, g15, w_I0 (fun z => ha z.1)]
  refine ⟨S23, ?_, p12.keep (fun i _ _ => ro i (by omega)) (fun b _ => I23 _ _ (by omega)), ⟨?_, l3, l4.congr (fun j hj => by rw [r18, va_c0, if_pos hj])⟩, ⟨?_, by omega, m, by omega, ?_, fun i e he => ?_⟩, ?_⟩
  · rw [F_h_takeBack_p1 rfl q rfl rfl g5 rfl rfl hx8 g9 (by rw [n8]) e12.symm rfl g15]
    exact F_h_takeBack_p0 (by rw [n8]) rfl g23
  · rw [g23, w_If, g15, w_I, if_pos ⟨rfl, rfl⟩]
    exact c41
  · rw [g23, w_If, g15, w_I, if_neg (by decide), k12.I (fun z => by omega), g9, w_I, if_neg (by decide), g5, w_I, if_pos ⟨rfl, rfl⟩]
    exact e4
  · rw [g23, w_If, g15, w_I, if_neg (by decide), k12.I (fun z => by omega), g9, w_I, if_pos ⟨rfl, rfl⟩]
    exact e8
  · have hi := get_lt he
    have := h5 i e (by rw [List.getElem?_append_left hi]; exact he)
    rw [show (nx + 20 - (U.length + 1) + i) % 20 = (m + 20 - U.length + i) % 20 by omega] at this
    obtain ⟨a1, a2, a3, a4⟩ := this
    refine ⟨a1.keep (fun j _ _ => by rw [ro j (by omega), r12 j (by omega)]) (fun b _ => by rw [I23 _ _ (by omega), k12.I (fun z => by omega), I9 _ _ (by omega)]), ?_, a3, ?_⟩
    · rw [ro 41 (by decide), r12 41 (by omega)]; exact a2
    · rw [ro _ (by omega), r12 _ (by omega)]; exact a4
  · have t9 : kp (fun a b => (a = p ∧ b < 2) ∨ (a = 17 ∧ (b = 1 ∨ b = 2 ∨ b = 3))) (fun a => (p < a ∧ a ≤ p + 6) ∨ a = 18) S S9 := by
      rw [g9, g5]
      exact kp.uF (kp.uF kp.rf (Or.inr ⟨rfl, by omega⟩)) (Or.inr ⟨rfl, by omega⟩)
    have t12 := t9.tr (k12.w (LF' := fun a b => (a = p ∧ b < 2) ∨ (a = 17 ∧ (b = 1 ∨ b = 2 ∨ b = 3))) (LA' := fun a => (p < a ∧ a ≤ p + 6) ∨ a = 18) (fun a b z => Or.inl z) (fun a z => Or.inl z))
    rw [g23, g15]
    exact kp.uf (kp.uF t12 (Or.inr ⟨rfl, by omega⟩)) (Or.inr rfl)
end XC
