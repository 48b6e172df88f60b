section
/-! what was FELT, REACHES: the class -/
abbrev s_F : Type := List (Int × Int × Int)
def s_fe (F : s_F) (i : Nat) : Int × Int × Int := F.getD i (0, 0, 0)
def s_gr9 (A : aR) (c : Int) : Int := if s_c A c < 0 then -1 else s_c A c
/-- one row holds, if the light reaches so far -/
def s_f1 (G : aR) (K : Nat → List Int) (A : aR) (r : Int) (e : Int × Int × Int) : Prop := s_gr9 (s_n G K r e.1.toNat A) e.2.1 = e.2.2
def s_rc (G : aR) (K : Nat → List Int) (A : aR) (F : s_F) (r : Int) : Prop := ∀ i, i < F.length → A 0 0 + (s_fe F i).1 ≤ 999 ∧ s_f1 G K A r (s_fe F i)
/-- REACHES, as bits -/
noncomputable def s_rs (G : aR) (K : Nat → List Int) (A : aR) (F : s_F) : Nat → Int
  | 0 => 0
  | r + 1 => s_rs G K A F r + s_if (s_rc G K A F (r : Int)) ((2 ^ r : Nat) : Int) 0
theorem s_rs_b {G A : aR} {K : Nat → List Int} {F : s_F} : ∀ r : Nat, 0 ≤ s_rs G K A F r ∧ s_rs G K A F r < ((2 ^ r : Nat) : Int)
  | 0 => ⟨Int.le_refl _, by show (0 : Int) < ((2 ^ 0 : Nat) : Int); decide⟩
  | r + 1 => by
    have ih := s_rs_b (G := G) (K := K) (A := A) (F := F) r
    have e : ((2 ^ (r + 1) : Nat) : Int) = 2 * ((2 ^ r : Nat) : Int) := by
      rw [Nat.pow_succ]
      omega
    show 0 ≤ s_rs G K A F r + s_if (s_rc G K A F (r : Int)) ((2 ^ r : Nat) : Int) 0 ∧ s_rs G K A F r + s_if (s_rc G K A F (r : Int)) ((2 ^ r : Nat) : Int) 0 < ((2 ^ (r + 1) : Nat) : Int)
    rw [e]
    generalize ((2 ^ r : Nat) : Int) = w at ih ⊢
    by_cases q : s_rc G K A F (r : Int)
    · rw [s_if_y q]
      omega
    · rw [s_if_n q]
      omega
/-- what is felt can be -/
def s_fk (G : aR) (F : s_F) : Prop := F.length ≤ 16 ∧ ∀ i, i < F.length → (0 ≤ (s_fe F i).1 ∧ (s_fe F i).1 ≤ 30) ∧ s_in G (s_fe F i).2.1 ∧ -1 ≤ (s_fe F i).2.2 ∧ (s_fe F i).2.2 ≤ 9
/-- as the class holds it -/
def cx_fe (F : s_F) (S : dg_S) : Prop := (zI S 229 5).toInt = F.length ∧ ∀ i, i < F.length → (S.2.1 230 (4 * i)).toInt = (s_fe F i).1 ∧ (S.2.1 230 (4 * i + 1)).toInt = (s_fe F i).2.1 % 8 ∧ (S.2.1 230 (4 * i + 2)).toInt = (s_fe F i).2.1 / 8 ∧ (S.2.1 230 (4 * i + 3)).toInt = (if (s_fe F i).2.2 = -1 then 255 else (s_fe F i).2.2)
theorem pX_f {k : Nat} (h : k < 21) : pX (233 + 7 * k) := by
  have h1 : ∀ k, k < 21 → (233 + 7 * k) ∈ alX.getD 1 [] := by decide +kernel
  exact h1 k h
/-- one bit more -/
theorem w_or2 {x y : Int32} {r : Nat} (hr : r ≤ 29) (hx : 0 ≤ x.toInt ∧ x.toInt < ((2 ^ r : Nat) : Int)) (hy : y.toInt = ((2 ^ r : Nat) : Int)) : (x ||| y).toInt = x.toInt + ((2 ^ r : Nat) : Int) := by
  obtain ⟨m, hm⟩ : ∃ m : Nat, x.toInt = m := ⟨x.toInt.toNat, by omega⟩
  have p30 : 2 ^ r ≤ 2 ^ 29 := Nat.pow_le_pow_right (by decide) hr
  have p29 : (2 : Nat) ^ 29 = 536870912 := by decide
  rw [p29] at p30
  have c1 := BitVec.toInt_eq_toNat_cond x.toBitVec
  have c2 := BitVec.toInt_eq_toNat_cond y.toBitVec
  have c3 := BitVec.toInt_eq_toNat_cond (x ||| y).toBitVec
  rw [Int32.toInt_toBitVec] at c1 c2 c3
  have b1 := x.toBitVec.isLt
  have b2 := y.toBitVec.isLt
  have e32 : (2 : Nat) ^ 32 = 4294967296 := by decide
  rw [e32] at c1 c2 c3 b1 b2
  generalize hp : 2 ^ r = p at *
  have n1 : x.toBitVec.toNat = m := by
    split at c1 <;> omega
  have n2 : y.toBitVec.toNat = p := by
    split at c2 <;> omega
  have eo : (x ||| y).toBitVec.toNat = m + p := by
    show (x.toBitVec ||| y.toBitVec).toNat = m + p
    rw [BitVec.toNat_or, n1, n2, Nat.or_comm]
    have := Nat.two_pow_add_eq_or_of_lt (i := r) (b := m) (by omega) 1
    rw [Nat.mul_one, hp] at this
    omega
  rw [eo] at c3
  rw [if_pos (by omega)] at c3
  rw [c3, hm]
  omega
theorem w_sh21 {a : Int32} {r : Nat} (h : a.toInt = r) (hr : r < 21) : ((1 : Int32) <<< (a &&& 31)).toInt = ((2 ^ r : Nat) : Int) := by
  have key : ∀ n : Nat, n < 21 → ((1 : Int32) <<< (Int32.ofInt (n : Int) &&& 31)).toInt = ((2 ^ n : Nat) : Int) := by decide +kernel
  have e1 := key r hr
  rw [← h, Int32.ofInt_toInt] at e1
  exact e1
section EI
variable {o oX oM g n p : Nat} {G A A' : aR} {K : Nat → List Int} {L L' : s_L} {U : s_U} {F : s_F} {S S0 S1 SX SM : dg_S} {x x' r c v t : Int} {a a1 a2 a3 a4 y : Int32}
theorem cx_fe.keep (h : cx_fe F S) (k : k_sk S S1) : cx_fe F S1 := by
  obtain ⟨h1, h2⟩ := h
  refine ⟨by rw [k.2.1]; exact h1, fun i hi => ?_⟩
  rw [k.2.2]
  exact h2 i hi
theorem s_gr9_b (hc : s_cw G A) (h : s_in G c) : -1 ≤ s_gr9 A c ∧ s_gr9 A c ≤ 9 := by
  have := hc.1 c h
  unfold s_gr9
  split <;> omega
/-- do the rows of n shifts hold -/
theorem cx_agB (ok : s_ok G K A U) (fk : s_fk G F) (h : RX o g G K A L U x S) (hf : cx_fe F S) {d : Nat} (ht : cx_tr o g d G K r (s_n G K r n A) S) (hn : a1.toInt = n) : F_e_agreesBehind o S g d a1 = 1 ∧ (∀ i, i < F.length → (s_fe F i).1 = n → s_f1 G K A r (s_fe F i)) ∨ F_e_agreesBehind o S g d a1 = 0 ∧ ¬ (∀ i, i < F.length → (s_fe F i).1 = n → s_f1 G K A r (s_fe F i)) := by
  have z0 : (0 : Int32).toInt = 0 := by decide +kernel
  have z4 : (4 : Int32).toInt = 4 := by decide +kernel
  have m1 : (-1 : Int32).toInt = -1 := by decide +kernel
  have z255 : (255 : Int32).toInt = 255 := by decide +kernel
  obtain ⟨f1, f2⟩ := hf
  obtain ⟨k1, k2⟩ := fk
  have hgb := ok.1.1.1
  have okn := s_n_ok (K := K) (r := r) ok.1.1 ok.2.2.1.1 ok.2.2.1.2 n
  rw [F_e_agreesBehind_p8]
  refine lp_cnt1 (f := F_e_agreesBehind_B1 S a1 g o d) (z := (0 : Int32)) (W := F.length) (P := fun k => ∀ i, i < k → (s_fe F i).1 = n → s_f1 G K A r (s_fe F i)) (Q := fun q => q = 1 ∧ (∀ i, i < F.length → (s_fe F i).1 = n → s_f1 G K A r (s_fe F i)) ∨ q = 0 ∧ ¬ (∀ i, i < F.length → (s_fe F i).1 = n → s_f1 G K A r (s_fe F i))) (by omega) (fun k kI hk hkI hP => ?_) (fun kI hkI hP => ⟨1, F_e_agreesBehind_p0 rfl (w_le.mpr (by omega)), Or.inl ⟨rfl, hP⟩⟩) ((17 - ((0 : Int32)).toInt).toNat + 1) 0 0 (by rw [z0]; omega) (by omega) z0 (fun i hi => absurd hi (Nat.not_lt_zero i))
  have q0 : ¬ zI S 229 5 ≤ kI := fun z => by have := w_le.mp z; omega
  obtain ⟨v1, v2, v3, v4⟩ := f2 k hk
  obtain ⟨u1, u2, u3⟩ := k2 k hk
  have e4 : ((4 : Int32) * kI).toInt = 4 * (k : Int) := dk_mulT z4 hkI (by omega) (by omega)
  have n0 : ((4 : Int32) * kI).toNatClampNeg = 4 * k := by rw [dk_clN, e4]; omega
  have n1 : ((4 : Int32) * kI + (1 : Int32)).toNatClampNeg = 4 * k + 1 := by rw [dk_clN, dk_addT e4 (b := 1) (by decide +kernel) (by omega) (by omega)]; omega
  have n2 : ((4 : Int32) * kI + (2 : Int32)).toNatClampNeg = 4 * k + 2 := by rw [dk_clN, dk_addT e4 (b := 2) (by decide +kernel) (by omega) (by omega)]; omega
  have n3 : ((4 : Int32) * kI + (3 : Int32)).toNatClampNeg = 4 * k + 3 := by rw [dk_clN, dk_addT e4 (b := 3) (by decide +kernel) (by omega) (by omega)]; omega
  by_cases q1 : S.2.1 230 ((4 : Int32) * kI).toNatClampNeg = a1
  rotate_left
  · refine Or.inl ⟨(F_e_agreesBehind_p7 rfl q0 rfl rfl q1).trans (F_e_agreesBehind_p1 rfl), fun i hi he => ?_⟩
    by_cases w : i = k
    · subst w
      exact absurd (Int32.toInt_inj.mp (by rw [n0, v1, he, hn])) q1
    · exact hP i (by omega) he
  have d1 : (s_fe F k).1 = n := by
    have := w_eq.mp q1
    rw [n0, v1, hn] at this
    exact this
  have u20 := u2.1
  rcases cx_place (o := o) (a1 := S.2.1 230 ((4 : Int32) * kI + (1 : Int32)).toNatClampNeg) (a2 := S.2.1 230 ((4 : Int32) * kI + (2 : Int32)).toNatClampNeg) h.2.1 hgb with ⟨p1, p2, p3, p4⟩ | ⟨p1, p2⟩
  rotate_left
  · exfalso
    rw [n1, n2, v2, v3] at p1
    have := u2.2
    exact p1 ⟨⟨by omega, this.1⟩, by omega, this.2⟩
  rw [n1, n2, v2, v3] at p3
  have ec : 8 * ((s_fe F k).2.1 / 8) + (s_fe F k).2.1 % 8 = (s_fe F k).2.1 := by omega
  rw [ec] at p3
  rw [← n1, ← n2] at p3
  have np : ¬ F_g_placeOf o S g (S.2.1 230 ((4 : Int32) * kI + (1 : Int32)).toNatClampNeg) (S.2.1 230 ((4 : Int32) * kI + (2 : Int32)).toNatClampNeg) = (-1 : Int32) := fun z => by have := dk_eqc (k := -1) m1 z; omega
  have eg := cx_gradeAt (o := o) (a1 := F_g_placeOf o S g (S.2.1 230 ((4 : Int32) * kI + (1 : Int32)).toNatClampNeg) (S.2.1 230 ((4 : Int32) * kI + (2 : Int32)).toNatClampNeg)) ht.2.2.2.2.1 u2 p3
  have es : s_f1 G K A r (s_fe F k) ↔ s_gr9 (s_n G K r n A) (s_fe F k).2.1 = (s_fe F k).2.2 := by
    unfold s_f1
    rw [d1, show ((n : Int)).toNat = n by omega]
  have fin : ∀ w : Int32, w.toInt = (s_fe F k).2.2 → F_e_agreesBehind_B1 S a1 g o d kI = F_e_agreesBehind_J3 (F_g_placeOf o S g (S.2.1 230 ((4 : Int32) * kI + (1 : Int32)).toNatClampNeg) (S.2.1 230 ((4 : Int32) * kI + (2 : Int32)).toNatClampNeg)) o S d w kI → (F_e_agreesBehind_B1 S a1 g o d kI = .inl (kI + 1) ∧ ∀ i, i < k + 1 → (s_fe F i).1 = n → s_f1 G K A r (s_fe F i)) ∨ ∃ q, F_e_agreesBehind_B1 S a1 g o d kI = .inr q ∧ (q = 1 ∧ (∀ i, i < F.length → (s_fe F i).1 = n → s_f1 G K A r (s_fe F i)) ∨ q = 0 ∧ ¬ (∀ i, i < F.length → (s_fe F i).1 = n → s_f1 G K A r (s_fe F i))) := fun w hw e => by
    by_cases q3 : F_p_gradeAt o S d (F_g_placeOf o S g (S.2.1 230 ((4 : Int32) * kI + (1 : Int32)).toNatClampNeg) (S.2.1 230 ((4 : Int32) * kI + (2 : Int32)).toNatClampNeg)) = w
    · have d3 := w_eq.mp q3
      rw [eg, hw] at d3
      refine Or.inl ⟨(e.trans (F_e_agreesBehind_p3 np rfl q3)).trans (F_e_agreesBehind_p1 rfl), fun i hi he => ?_⟩
      by_cases w : i = k
      · subst w
        exact es.mpr d3
      · exact hP i (by omega) he
    · have d3 : ¬ (F_p_gradeAt o S d (F_g_placeOf o S g (S.2.1 230 ((4 : Int32) * kI + (1 : Int32)).toNatClampNeg) (S.2.1 230 ((4 : Int32) * kI + (2 : Int32)).toNatClampNeg))).toInt = w.toInt := fun z => q3 (w_eq.mpr z)
      rw [eg, hw] at d3
      exact Or.inr ⟨0, e.trans (F_e_agreesBehind_p4 np rfl q3), Or.inr ⟨rfl, fun z => d3 (es.mp (z k hk d1))⟩⟩
  by_cases q2 : S.2.1 230 ((4 : Int32) * kI + (3 : Int32)).toNatClampNeg = (255 : Int32)
  · have d2 := dk_eqc z255 q2
    rw [n3, v4] at d2
    refine fin (-1) ?_ (F_e_agreesBehind_p6 rfl q0 rfl rfl q1 rfl rfl rfl rfl rfl rfl rfl q2)
    rw [m1]
    by_cases w : (s_fe F k).2.2 = -1
    · exact w.symm
    · rw [if_neg w] at d2
      omega
  · have d2 := dk_neqc z255 q2
    rw [n3, v4] at d2
    refine fin _ ?_ (F_e_agreesBehind_p5 rfl q0 rfl rfl q1 rfl rfl rfl rfl rfl rfl rfl q2 rfl rfl)
    rw [n3, v4]
    by_cases w : (s_fe F k).2.2 = -1
    · rw [if_pos w] at d2
      exact absurd rfl d2
    · rw [if_neg w]
/-- one reach -/
theorem cx_agrees (ok : s_ok G K A U) (fk : s_fk G F) (h : RX o g G K A L U x S) (hf : cx_fe F S) {m : Nat} (hm : a1.toInt = m) (hm20 : m ≤ 20) (hn : a2.toInt = n) (hn30 : n ≤ 30) (h9 : A 0 0 + n ≤ 999) (hl : ∀ i, i < F.length → (s_fe F i).1 ≤ n) : ∃ S1, (F_e_agrees o S g 3 a1 a2 = (S1, 1) ∧ s_rc G K A F m ∨ F_e_agrees o S g 3 a1 a2 = (S1, 0) ∧ ¬ s_rc G K A F m) ∧ RX o g G K A L U x S1 ∧ k_sk S S1 := by
  have z0 : (0 : Int32).toInt = 0 := by decide +kernel
  have z1 : (1 : Int32).toInt = 1 := by decide +kernel
  have sep := rX_sep h.2.1.1.1
  have mn : a1.toNatClampNeg = m := by rw [dk_clN]; omega
  obtain ⟨d, hd⟩ : ∃ d, d = 233 + 7 * m := ⟨_, rfl⟩
  have pd : pX d := by rw [hd]; exact pX_f (by omega)
  have dd : d = 233 + 7 * a1.toNatClampNeg := by rw [mn]; exact hd
  obtain ⟨S3, e3, k3, p3⟩ := cx_copy (o := o) (S := S) (p := d) (q := 3) pd pX_3' (by omega) h.2.2.1 ok.1.1.2.2.2
  have r3 : RX o g G K A L U x S3 := h.keep k3 (by omega) (by omega) (fun a b _ _ => by omega) (fun b => by omega) (fun b => by omega) (fun a b _ _ => by omega) (fun a _ _ => by omega) (fun a _ _ => by omega) (by omega) (fun a _ _ => by omega)
  have s3 : k_sk S S3 := k3.sk (fun b => by omega) (fun b => by omega) (by omega)
  obtain ⟨S4, e4, f7, f6, f8, f9, k4⟩ := cx_enter (o := o) (S := S3) (g := g) (p := d) (a := a1)
  have r4 : RX o g G K A L U x S4 := r3.keep k4 (by decide) (by decide) (fun a b _ _ => by omega) (fun b => by omega) (fun b => by omega) (fun a b _ _ => by omega) (fun a _ _ => id) (fun a _ _ => id) id (fun a _ _ => id)
  have s4 : k_sk S S4 := s3.tr (k4.sk (fun b => by omega) (fun b => by omega) id)
  have p4 : cx_pit G A S4 d := p3.keep (fun i _ _ => (k4.2 i id).1) (fun b _ => k4.I (fun z => by omega))
  have t4 : cx_tr o g d G K (m : Int) (s_n G K (m : Int) 0 A) S4 := ⟨f7, f6, by rw [f8]; exact hm, r4.2.1.1, p4, Or.inl f9⟩
  have main := lp_cnt2 (f := F_e_agrees_B1 a2 o g d) (z := (S, (0 : Int32))) (W := n + 1) (P := fun k T => RX o g G K A L U x T ∧ (k ≤ n → cx_tr o g d G K (m : Int) (s_n G K (m : Int) k A) T) ∧ k_sk S T ∧ ∀ i, i < F.length → (s_fe F i).1 < k → s_f1 G K A (m : Int) (s_fe F i)) (Q := fun q => (q.2 = 1 ∧ s_rc G K A F m ∨ q.2 = 0 ∧ ¬ s_rc G K A F m) ∧ RX o g G K A L U x q.1 ∧ k_sk S q.1) (by omega) (fun k kI T hk hkI hP => by
    obtain ⟨t1, t2, t3, t5⟩ := hP
    have t2 := t2 (by omega)
    have q0 : ¬ a2 < kI := fun z => by have := w_lt.mp z; omega
    rcases cx_agB (o := o) (a1 := kI) (n := k) (d := d) ok fk t1 (hf.keep t3) t2 hkI with ⟨e, v⟩ | ⟨e, v⟩
    · have ne : ¬ F_e_agreesBehind o T g d kI = (0 : Int32) := by rw [e]; decide +kernel
      have okc := s_n_ok (K := K) (r := (m : Int)) ok.1.1 ok.2.2.1.1 ok.2.2.1.2 k
      obtain ⟨T1, e1, r1, l1, k1⟩ := cx_pass (o := o) (p := d) (a1 := 1) (n := 1) (r := (m : Int)) pd (by omega) ok.1.1 ok.2.1 okc.1 okc.2 ⟨by omega, by omega⟩ t1 t2 z1 (by decide)
      refine Or.inl ⟨T1, F_e_agrees_p1 q0 rfl ne e1.symm rfl, r1, fun _ => l1, t3.tr (k1.sk (fun b => by omega) (fun b => by omega) (by omega)), fun i hi he => ?_⟩
      by_cases w : (s_fe F i).1 = k
      · exact v i hi w
      · exact t5 i hi (by omega)
    · refine Or.inr ⟨(T, 0), F_e_agrees_p2 q0 rfl e, Or.inr ⟨rfl, fun z => v (fun i hi _ => (z i hi).2)⟩, t1, t3⟩) (fun kI T hkI hP => by
    obtain ⟨t1, t2, t3, t5⟩ := hP
    refine ⟨(T, 1), F_e_agrees_p0 (w_lt.mpr (by omega)), Or.inl ⟨rfl, fun i hi => ?_⟩, t1, t3⟩
    have := hl i hi
    exact ⟨by omega, t5 i hi (by omega)⟩) ((257 - ((0 : Int32)).toInt).toNat + 1) 0 0 S4 (by rw [z0]; omega) (by omega) z0 ⟨r4, fun _ => t4, s4, fun i hi he => by have := (fk.2 i hi).1; omega⟩
  rw [F_e_agrees_p3 dd e3.symm e4.symm]
  obtain ⟨n1, n2, n3⟩ := main
  refine ⟨_, ?_, n2, n3⟩
  rcases n1 with ⟨q, w⟩ | ⟨q, w⟩
  · exact Or.inl ⟨Prod.ext rfl q, w⟩
  · exact Or.inr ⟨Prod.ext rfl q, w⟩
/-- REACHES of the class -/
theorem cx_reachBits (ok : s_ok G K A U) (fk : s_fk G F) (h : RX o g G K A L U x S) (hf : cx_fe F S) : ∃ (S1 : dg_S) (y : Int32), F_e_reachBits o S g 3 = (S1, y) ∧ y.toInt = s_rs G K A F 21 ∧ RX o g G K A L U x S1 ∧ k_sk S S1 := by
  have z0 : (0 : Int32).toInt = 0 := by decide +kernel
  have z4 : (4 : Int32).toInt = 4 := by decide +kernel
  have z21 : (21 : Int32).toInt = 21 := by decide +kernel
  have z999 : (999 : Int32).toInt = 999 := by decide +kernel
  have hw0 := ok.2.2.1.1.1
  have k1 := fk.1
  have p0 : (zI S 3 0).toInt = A 0 0 := h.2.2.1.2.1
  have first := lp_cnt (f := F_e_reachBits_B4 S 3 o g) (z := (S, (0 : Int32))) (W := F.length) (P := fun k u => (0 ≤ u.toInt ∧ u.toInt ≤ 30) ∧ (∀ i, i < k → (s_fe F i).1 ≤ u.toInt) ∧ (u.toInt = 0 ∨ ∃ i, i < k ∧ (s_fe F i).1 = u.toInt)) (Q := fun q => ∃ u : Int32, q = F_e_reachBits_J1 S 3 u o g ∧ (0 ≤ u.toInt ∧ u.toInt ≤ 30) ∧ (∀ i, i < F.length → (s_fe F i).1 ≤ u.toInt) ∧ (u.toInt = 0 ∨ ∃ i, i < F.length ∧ (s_fe F i).1 = u.toInt)) (by omega) (fun k kI u hk hkI hP => by
    obtain ⟨t1, t2, t3⟩ := hP
    have q0 : ¬ zI S 229 5 ≤ kI := fun z => by have := w_le.mp z; have := hf.1; omega
    have e4 : ((4 : Int32) * kI).toInt = 4 * (k : Int) := dk_mulT z4 hkI (by omega) (by omega)
    have n0 : ((4 : Int32) * kI).toNatClampNeg = 4 * k := by rw [dk_clN, e4]; omega
    have v1 : (S.2.1 230 ((4 : Int32) * kI).toNatClampNeg).toInt = (s_fe F k).1 := by rw [n0]; exact (hf.2 k hk).1
    have u1 := (fk.2 k hk).1
    by_cases q1 : u < S.2.1 230 ((4 : Int32) * kI).toNatClampNeg
    · have d1 := w_lt.mp q1
      rw [v1] at d1
      refine ⟨S.2.1 230 ((4 : Int32) * kI).toNatClampNeg, F_e_reachBits_p7 rfl q0 rfl rfl (if_pos q1).symm rfl, ?_, fun i hi => ?_, Or.inr ⟨k, by omega, v1.symm⟩⟩
      · rw [v1]
        exact u1
      · rw [v1]
        by_cases w : i = k
        · rw [w]
          exact Int.le_refl _
        · have := t2 i (by omega)
          omega
    · have d1 : ¬ u.toInt < (S.2.1 230 ((4 : Int32) * kI).toNatClampNeg).toInt := fun z => q1 (w_lt.mpr z)
      rw [v1] at d1
      refine ⟨u, F_e_reachBits_p7 rfl q0 rfl rfl (if_neg q1).symm rfl, t1, fun i hi => ?_, ?_⟩
      · by_cases w : i = k
        · rw [w]
          omega
        · exact t2 i (by omega)
      · rcases t3 with t3 | ⟨i, hi, he⟩
        · exact Or.inl t3
        · exact Or.inr ⟨i, by omega, he⟩) (fun kI u hkI hP => ⟨_, F_e_reachBits_p6 rfl (w_le.mpr (by have := hf.1; omega)), u, rfl, hP⟩) ((17 - ((0 : Int32)).toInt).toNat + 1) 0 0 0 (by rw [z0]; omega) (by omega) z0 ⟨⟨by rw [z0]; decide, by rw [z0]; decide⟩, fun i hi => absurd hi (Nat.not_lt_zero i), Or.inl z0⟩
  obtain ⟨u, eu, ⟨b1, b2⟩, hl, hx⟩ := first
  rw [F_e_reachBits_p8, eu]
  have es : (zI S 3 0 + u).toInt = A 0 0 + u.toInt := dk_addT p0 rfl (by omega) (by omega)
  by_cases q9 : zI S 3 0 + u ≤ (999 : Int32)
  rotate_left
  · have d9 := dk_nlec z999 q9
    rw [es] at d9
    refine ⟨S, 0, F_e_reachBits_p5 rfl rfl q9, ?_, h, k_sk.rf⟩
    have nn : ∀ r : Int, ¬ s_rc G K A F r := fun r z => by
      rcases hx with hx | ⟨i, hi, he⟩
      · omega
      · have := (z i hi).1
        omega
    have zz : ∀ m : Nat, s_rs G K A F m = 0 := fun m => by
      induction m with
      | zero => rfl
      | succ m ih =>
        show s_rs G K A F m + s_if (s_rc G K A F (m : Int)) ((2 ^ m : Nat) : Int) 0 = 0
        rw [ih, s_if_n (nn _)]
        rfl
    rw [zz, z0]
  have d9 := dk_lec z999 q9
  rw [es] at d9
  rw [F_e_reachBits_p4 rfl rfl q9]
  have main := lp_cnt (f := F_e_reachBits_B2 o g 3 u) (z := (S, (0 : Int32))) (W := 21) (P := fun k s => RX o g G K A L U x s.2 ∧ k_sk S s.2 ∧ s.1.toInt = s_rs G K A F k) (Q := fun q => RX o g G K A L U x q.1 ∧ k_sk S q.1 ∧ q.2.toInt = s_rs G K A F 21) (by decide) (fun k kI s hk hkI hP => by
    obtain ⟨w, T⟩ := s
    obtain ⟨t1, t2, t3⟩ := hP
    have t1 : RX o g G K A L U x T := t1
    have t2 : k_sk S T := t2
    have t3 : w.toInt = s_rs G K A F k := t3
    have q0 : ¬ (21 : Int32) ≤ kI := fun z => by have := dk_gec z21 z; omega
    obtain ⟨T1, e, r1, k9⟩ := cx_agrees (o := o) (a1 := kI) (a2 := u) (n := u.toInt.toNat) (m := k) ok fk t1 (hf.keep t2) hkI (by omega) (by omega) (by omega) (by omega) (fun i hi => by have := hl i hi; omega)
    have rb := s_rs_b (G := G) (K := K) (A := A) (F := F) k
    rcases e with ⟨e, v⟩ | ⟨e, v⟩
    · refine ⟨(w ||| ((1 : Int32) <<< (kI &&& 31)), T1), (F_e_reachBits_p3 q0 (by rw [e]) (show (1 : Int32) = _ by rw [e]) (by decide +kernel) rfl rfl).trans (F_e_reachBits_p1 rfl), r1, t2.tr k9, ?_⟩
      show (w ||| ((1 : Int32) <<< (kI &&& 31))).toInt = s_rs G K A F k + s_if (s_rc G K A F (k : Int)) ((2 ^ k : Nat) : Int) 0
      rw [s_if_y v, w_or2 (r := k) (by omega) (by rw [t3]; exact rb) (w_sh21 hkI hk), t3]
    · refine ⟨(w, T1), (F_e_reachBits_p2 q0 (by rw [e]) (show (0 : Int32) = _ by rw [e]) rfl).trans (F_e_reachBits_p1 rfl), r1, t2.tr k9, ?_⟩
      show w.toInt = s_rs G K A F k + s_if (s_rc G K A F (k : Int)) ((2 ^ k : Nat) : Int) 0
      rw [s_if_n v, t3]
      omega) (fun kI s hkI hP => by
    obtain ⟨w, T⟩ := s
    exact ⟨(T, w), F_e_reachBits_p0 (dk_gep z21 (by omega)), hP.1, hP.2.1, hP.2.2⟩) ((22 - ((0 : Int32)).toInt).toNat + 1) 0 0 (0, S) (by rw [z0]; decide) (by decide) z0 ⟨h, k_sk.rf, z0⟩
  exact ⟨_, _, rfl, main.2.2, main.1, main.2.1⟩
theorem cx_hasSeam (h : RX o g G K A L U x S) (ok : s_ok G K A U) : ¬ F_g_hasSeam o S g = (0 : Int32) := by
  have hc := h.2.1.2.1.1
  have hgb := ok.1.1.1
  rw [F_g_hasSeam_p1 rfl (fun z => by have := dk_lec (k := 0) (by decide +kernel) z; omega)]
  decide +kernel
theorem cx_reaches (ok : s_ok G K A U) (fk : s_fk G F) (h : RX o g G K A L U x S) (hf : cx_fe F S) : ∃ (S1 : dg_S) (y : Int32), F_d_reaches o S = (S1, y) ∧ y.toInt = s_rs G K A F 21 ∧ RX o g G K A L U x S1 ∧ k_sk S S1 := by
  obtain ⟨S1, y, e, v, r, k⟩ := cx_reachBits (o := o) ok fk h hf
  exact ⟨S1, y, F_d_reaches_p1 h.1.symm rfl (cx_hasSeam h ok) (by rw [e]) (by rw [e]), v, r, k⟩
end EI
end
section
/-! REACHES: the reference; both sides -/
/-- how many of the first n -/
noncomputable def s_ct (P : Nat → Prop) : Nat → Int
  | 0 => 0
  | n + 1 => s_ct P n + s_b (P n)
theorem s_ct_b {P : Nat → Prop} : ∀ n : Nat, 0 ≤ s_ct P n ∧ s_ct P n ≤ n
  | 0 => ⟨Int.le_refl _, by show (0 : Int) ≤ ((0 : Nat) : Int); omega⟩
  | n + 1 => by
    have ih := s_ct_b (P := P) n
    have := s_b01 (P n)
    show 0 ≤ s_ct P n + s_b (P n) ∧ s_ct P n + s_b (P n) ≤ ((n + 1 : Nat) : Int)
    omega
theorem s_ct_all {P : Nat → Prop} : ∀ n : Nat, s_ct P n = n ↔ ∀ i, i < n → P i
  | 0 => ⟨fun _ i hi => absurd hi (Nat.not_lt_zero i), fun _ => rfl⟩
  | n + 1 => by
    have ih := s_ct_all (P := P) n
    have b := s_ct_b (P := P) n
    constructor
    · intro h i hi
      have h : s_ct P n + s_b (P n) = ((n + 1 : Nat) : Int) := h
      have hp : P n := by
        apply Classical.byContradiction
        intro z
        rw [s_b0 z] at h
        omega
      by_cases w : i = n
      · rw [w]
        exact hp
      · rw [s_b1 hp] at h
        exact ih.mp (by omega) i (by omega)
    · intro h
      show s_ct P n + s_b (P n) = ((n + 1 : Nat) : Int)
      rw [s_b1 (h n (by omega)), ih.mpr (fun i hi => h i (by omega))]
      omega
theorem s_ct_add {P Q R : Nat → Prop} (h : ∀ i, R i ↔ P i ∨ Q i) (hd : ∀ i, ¬ (P i ∧ Q i)) : ∀ n : Nat, s_ct R n = s_ct P n + s_ct Q n
  | 0 => rfl
  | n + 1 => by
    have ih := s_ct_add h hd n
    show s_ct R n + s_b (R n) = s_ct P n + s_b (P n) + (s_ct Q n + s_b (Q n))
    have e : s_b (R n) = s_b (P n) + s_b (Q n) := by
      by_cases hp : P n
      · rw [s_b1 ((h n).mpr (Or.inl hp)), s_b1 hp, s_b0 (fun z => hd n ⟨hp, z⟩)]
        rfl
      · by_cases hq : Q n
        · rw [s_b1 ((h n).mpr (Or.inr hq)), s_b0 hp, s_b1 hq]
          rfl
        · rw [s_b0 (fun z => by
            rcases (h n).mp z with z | z
            · exact hp z
            · exact hq z), s_b0 hp, s_b0 hq]
          rfl
    rw [ih, e]
    omega
/-- as the reference holds what is felt -/
def mx_fe (F : s_F) (S : dg_S) : Prop := (zI S 0 69).toInt = F.length ∧ ∀ i, i < F.length → (S.2.1 45 i).toInt = (s_fe F i).1 ∧ (S.2.1 46 i).toInt = (s_fe F i).2.1 ∧ (S.2.1 47 i).toInt = (s_fe F i).2.2
/-- a state of the reference where the light reaches r -/
def RMr (G : aR) (K : Nat → List Int) (A : aR) (L : s_L) (U : s_U) (x r : Int) (S : dg_S) : Prop := mx_gf G K S ∧ mx_lay G A L S 0 ∧ mx_ud G S U ∧ (zI S 0 63).toInt = r ∧ (zL S 0 62).toInt = x
/-- what these looks leave -/
def k_y (S S1 : dg_S) : Prop := (∀ b, b ≠ 63 → zI S1 0 b = zI S 0 b) ∧ ∀ a, ¬ (29 ≤ a ∧ a ≤ 44) → a ≠ 48 → S1.2.1 a = S.2.1 a
section EJ
variable {o oX oM g n p m k : Nat} {G A A' : aR} {K : Nat → List Int} {L L' : s_L} {U : s_U} {F : s_F} {S S0 S1 SX SM T : dg_S} {x x' r c v t : Int} {a a1 a2 a3 a4 y : Int32}
theorem k_y.rf : k_y S S := ⟨fun _ _ => rfl, fun _ _ _ => rfl⟩
theorem k_y.tr (h : k_y S S0) (k : k_y S0 S1) : k_y S S1 := ⟨fun b hb => (k.1 b hb).trans (h.1 b hb), fun a h1 h2 => (k.2 a h1 h2).trans (h.2 a h1 h2)⟩
theorem k_v.ky {v : Nat} (h : k_v v S S1) : k_y S S1 := ⟨fun _ _ => h.I, fun a h1 _ => h.row h1⟩
theorem mx_fe.keep (h : mx_fe F S) (k : k_y S S1) : mx_fe F S1 := by
  obtain ⟨h1, h2⟩ := h
  refine ⟨by rw [k.1 69 (by decide)]; exact h1, fun i hi => ?_⟩
  rw [k.2 45 (by decide) (by decide), k.2 46 (by decide) (by decide), k.2 47 (by decide) (by decide)]
  exact h2 i hi
theorem RMr.rv {v : Nat} (h : RMr G K A L U x r S) (hb : G 0 6 ≤ 16) (t : k_v v S S1) (hv : v ≤ 1) (hl : mx_lay G A' L' S1 0) : RMr G K A' L' U x r S1 := by
  obtain ⟨h1, h2, h3, h4, h5⟩ := h
  exact ⟨h1.keep t.I t.I (fun i hi => t.row (by omega)), hl, t.ud h3 hv hb, by rw [t.I]; exact h4, by rw [t.1.L id]; exact h5⟩
/-- row 48 alone -/
theorem RMr.row48 (h : RMr G K A L U x r S) (hb : G 0 6 ≤ 16) (t : kp (fun _ _ => False) (fun a => a = 48) S S1) : RMr G K A L U x r S1 := by
  obtain ⟨h1, h2, h3, h4, h5⟩ := h
  exact ⟨h1.keep (t.I id) (t.I id) (fun i hi => (t.2 i (by omega)).1), h2.keep hb (fun a a0 a1 j _ _ => by rw [(t.2 a (by omega)).1]), h3.keep hb (t.I id) (t.I id) (fun a a0 a1 j _ => by rw [(t.2 a (by omega)).1]), by rw [t.I id]; exact h4, by rw [t.L id]; exact h5⟩
/-- the light reaches otherwise -/
theorem RMr.to (h : RMr G K A L U x r S) (hb : G 0 6 ≤ 16) (hr : a.toInt = v) : RMr G K A L U x v (dg_uF S 0 63 (.int a)) ∧ k_y S (dg_uF S 0 63 (.int a)) := by
  obtain ⟨h1, h2, h3, h4, h5⟩ := h
  have t : kp (fun a b => a = 0 ∧ b = 63) (fun _ => False) S (dg_uF S 0 63 (.int a)) := kp.uF kp.rf ⟨rfl, rfl⟩
  exact ⟨⟨h1.keep (t.I (by decide)) (t.I (by decide)) (fun i hi => (t.2 i id).1), h2.keep hb (fun a a0 a1 j _ _ => by rw [(t.2 a id).1]), h3.keep hb (t.I (by decide)) (t.I (by decide)) (fun a a0 a1 j _ => by rw [(t.2 a id).1]), by rw [w_I, if_pos ⟨rfl, rfl⟩]; exact hr, by rw [t.L (by decide)]; exact h5⟩, fun b hb => t.I (fun z => hb z.2), fun a _ _ => (t.2 a id).1⟩
theorem mx_tickr (ok : s_ok G K A U) (h : RMr G K A L U x r S) (hr : r ≤ 900) (hw : s_wf G A') (hcw : s_cw G A') (hl : mx_lay G A' L' S 1) : ∃ (S1 : dg_S) (y : Int32), F_m_ticks o S (1 : Int32) = (S1, y) ∧ RMr G K A L U x r S1 ∧ mx_lay G (s_tu G K r A') (s_dL G K r A' L') S1 1 ∧ k_v 1 S S1 := by
  have hb := ok.1.1.2.2.2
  obtain ⟨S1, y, e1, k1, l1, y1⟩ := mx_tick (o := o) (v := 1) (a1 := 1) ok.1.1 ok.2.1 hw hcw h.1.1 hl (by decide +kernel) (by decide) h.2.2.2.1 hr
  exact ⟨S1, y, e1, h.rv hb k1 (by decide) (k1.lay h.2.1 (by decide) hb), l1, k1⟩
theorem mx_tryr (ok : s_ok G K A U) (h : RMr G K A L U x r S) : ∃ S1, F_m_copies o S (1 : Int32) (0 : Int32) = S1 ∧ RMr G K A L U x r S1 ∧ mx_lay G A L S1 1 ∧ k_v 1 S S1 := by
  have hb := ok.1.1.2.2.2
  obtain ⟨S1, e1, k1, l1⟩ := mx_copies (o := o) (S := S) (v := 1) (u := 0) (a1 := 1) (a2 := 0) (by decide +kernel) (by decide +kernel) (by decide) (by decide) (by decide) h.2.1 hb
  exact ⟨S1, e1, h.rv hb k1 (by decide) (k1.lay h.2.1 (by decide) hb), l1, k1⟩
/-- grades that were written down for a reach, behind k shifts -/
def mx_gb (G : aR) (K : Nat → List Int) (A : aR) (m k : Nat) (S : dg_S) : Prop := ∀ c : Int, s_in G c → (S.2.1 48 (64 * (31 * m + k) + c.toNat)).toInt = s_gr9 (s_n G K (m : Int) k A) c
theorem mx_gb.keep (h : mx_gb G K A m k S) (e : ∀ j, j < 64 * (31 * m + k) + 64 → S1.2.1 48 j = S.2.1 48 j) : mx_gb G K A m k S1 := fun c hc => by
  have := hc.1
  rw [e _ (by omega)]
  exact h c hc
/-- cells are written down -/
theorem mx_note (ok : s_ok G K A U) (h : RMr G K A L U x r S) (hl : mx_lay G A' L' S 1) {mI kI metI : Int32} (hm : mI.toInt = m) (hm20 : m ≤ 20) (hk : kI.toInt = k) (hk30 : k ≤ 30) {z : (Int32 × Int32 × Int32 × dg_S) ⊕ ((Int32 × Int32 × dg_S) ⊕ (dg_S × Int32))} {S9 : dg_S} : ∃ T, lp (F_m_reachBits_B10 S9 o kI metI mI) z ((65 - ((0 : Int32)).toInt).toNat + 1) ((0 : Int32), S) = F_m_reachBits_J5 S9 o T kI metI ∧ RMr G K A L U x r T ∧ mx_lay G A' L' T 1 ∧ k_y S T ∧ (∀ c : Int, s_in G c → (T.2.1 48 (64 * (31 * m + k) + c.toNat)).toInt = s_gr9 A' c) ∧ ∀ j, j < 64 * (31 * m + k) → T.2.1 48 j = S.2.1 48 j := by
  have z0 : (0 : Int32).toInt = 0 := by decide +kernel
  have z64 : (64 : Int32).toInt = 64 := by decide +kernel
  have z31 : (31 : Int32).toInt = 31 := by decide +kernel
  have hb := ok.1.1.2.2.2
  have e1 : ((31 : Int32) * mI).toInt = 31 * (m : Int) := dk_mulT z31 hm (by omega) (by omega)
  have e2 : ((31 : Int32) * mI + kI).toInt = 31 * (m : Int) + k := dk_addT e1 hk (by omega) (by omega)
  have e3 : ((64 : Int32) * ((31 : Int32) * mI + kI)).toInt = 64 * (31 * (m : Int) + k) := dk_mulT z64 e2 (by omega) (by omega)
  have main := lp_cnt (f := F_m_reachBits_B10 S9 o kI metI mI) (z := z) (W := 64) (P := fun c T => kp (fun _ _ => False) (fun a => a = 48) S T ∧ (∀ i, i < c → T.2.1 48 (64 * (31 * m + k) + i) = S.2.1 31 (64 + i)) ∧ ∀ j, j < 64 * (31 * m + k) → T.2.1 48 j = S.2.1 48 j) (Q := fun q => ∃ T, q = F_m_reachBits_J5 S9 o T kI metI ∧ kp (fun _ _ => False) (fun a => a = 48) S T ∧ (∀ i, i < 64 → T.2.1 48 (64 * (31 * m + k) + i) = S.2.1 31 (64 + i)) ∧ ∀ j, j < 64 * (31 * m + k) → T.2.1 48 j = S.2.1 48 j) (by decide) (fun c cI T hc hcI hP => by
    obtain ⟨t1, t2, t3⟩ := hP
    have q0 : ¬ (64 : Int32) ≤ cI := fun z => by have := dk_gec z64 z; omega
    have e4 : ((64 : Int32) * ((31 : Int32) * mI + kI) + cI).toInt = 64 * (31 * (m : Int) + k) + c := dk_addT e3 hcI (by omega) (by omega)
    have n4 : ((64 : Int32) * ((31 : Int32) * mI + kI) + cI).toNatClampNeg = 64 * (31 * m + k) + c := by rw [dk_clN, e4]; omega
    have e5 : ((64 : Int32) + cI).toInt = 64 + (c : Int) := dk_addT z64 hcI (by omega) (by omega)
    have n5 : ((64 : Int32) + cI).toNatClampNeg = 64 + c := by rw [dk_clN, e5]; omega
    obtain ⟨T1, h1⟩ : ∃ X, X = dg_uf T 48 (upd (T.2.1 48) ((64 : Int32) * ((31 : Int32) * mI + kI) + cI).toNatClampNeg (T.2.1 31 ((64 : Int32) + cI).toNatClampNeg)) := ⟨_, rfl⟩
    have r31 : T.2.1 31 = S.2.1 31 := (t1.2 31 (by decide)).1
    refine ⟨T1, F_m_reachBits_p14 q0 rfl rfl rfl rfl rfl rfl h1 rfl, by rw [h1]; exact t1.uf rfl, fun i hi => ?_, fun j hj => ?_⟩
    · rw [h1, w_f, if_pos rfl, w_u, n4, n5, r31]
      by_cases w : i = c
      · rw [if_pos (by omega), w]
      · rw [if_neg (by omega)]
        exact t2 i (by omega)
    · rw [h1, w_f, if_pos rfl, w_u, n4, if_neg (by omega)]
      exact t3 j hj) (fun cI T hcI hP => ⟨_, F_m_reachBits_p13 (dk_gep z64 (by omega)), T, rfl, hP⟩) ((65 - ((0 : Int32)).toInt).toNat + 1) 0 0 S (by rw [z0]; decide) (by decide) z0 ⟨kp.rf, fun i hi => absurd hi (Nat.not_lt_zero i), fun _ _ => rfl⟩
  obtain ⟨T, eT, t1, t2, t3⟩ := main
  refine ⟨T, eT, h.row48 hb t1, hl.keep hb (fun a a0 a1 j _ _ => by rw [(t1.2 a (by omega)).1]), ⟨fun b _ => t1.I id, fun a _ h => (t1.2 a h).1⟩, fun c hc => ?_, t3⟩
  have hc0 := hc.1
  rw [t2 c.toNat (by omega)]
  have := (hl.1 c hc).1
  unfold mx_ad at this
  rw [show (64 * ((1 : Nat) : Int) + c).toNat = 64 + c.toNat by omega] at this
  exact this
/-- the rows that hold behind k shifts are counted -/
theorem mx_count (ok : s_ok G K A U) (fk : s_fk G F) (hf : mx_fe F S) {S9 : dg_S} (h69 : zI S9 0 69 = zI S 0 69) (hl : mx_ce G (s_n G K r k A) S 1) {kI metI : Int32} (hk : kI.toInt = k) {w : Int} (hw : metI.toInt = w) (hwb : 0 ≤ w ∧ w ≤ 100) : ∃ y : Int32, F_m_reachBits_J5 S9 o S kI metI = F_m_reachBits_J6 o S kI y ∧ y.toInt = w + s_ct (fun i => (s_fe F i).1 = k ∧ s_f1 G K A r (s_fe F i)) F.length := by
  have z0 : (0 : Int32).toInt = 0 := by decide +kernel
  have z1 : (1 : Int32).toInt = 1 := by decide +kernel
  have z64 : (64 : Int32).toInt = 64 := by decide +kernel
  obtain ⟨f1, f2⟩ := hf
  obtain ⟨k1, k2⟩ := fk
  rw [F_m_reachBits_p12]
  refine lp_cnt (f := F_m_reachBits_B7 S9 o S kI) (z := Sum.inr (Sum.inr (S9, (0 : Int32)))) (W := F.length) (P := fun i u => u.toInt = w + s_ct (fun i => (s_fe F i).1 = k ∧ s_f1 G K A r (s_fe F i)) i) (Q := fun q => ∃ y : Int32, q = F_m_reachBits_J6 o S kI y ∧ y.toInt = w + s_ct (fun i => (s_fe F i).1 = k ∧ s_f1 G K A r (s_fe F i)) F.length) (by omega) (fun i iI u hi hiI hP => ?_) (fun iI u hiI hP => ⟨_, F_m_reachBits_p6 rfl (w_le.mpr (by rw [h69]; omega)), u, rfl, hP⟩) ((17 - ((0 : Int32)).toInt).toNat + 1) 0 0 metI (by rw [z0]; omega) (by omega) z0 (by show metI.toInt = w + 0; omega)
  have hP : u.toInt = w + s_ct (fun i => (s_fe F i).1 = k ∧ s_f1 G K A r (s_fe F i)) i := hP
  have cb := s_ct_b (P := fun i => (s_fe F i).1 = k ∧ s_f1 G K A r (s_fe F i)) i
  have q0 : ¬ zI S9 0 69 ≤ iI := fun z => by have := w_le.mp z; rw [h69] at this; omega
  have iN : iI.toNatClampNeg = i := by rw [dk_clN]; omega
  obtain ⟨v1, v2, v3⟩ := f2 i hi
  obtain ⟨u1, u2, u3⟩ := k2 i hi
  have u20 := u2.1
  have add : ∀ d : Int32, d.toInt = s_b ((s_fe F i).1 = k ∧ s_f1 G K A r (s_fe F i)) → F_m_reachBits_B7 S9 o S kI (iI, u) = F_m_reachBits_J8 u d iI → ∃ s1, F_m_reachBits_B7 S9 o S kI (iI, u) = .inl (iI + 1, s1) ∧ s1.toInt = w + s_ct (fun i => (s_fe F i).1 = k ∧ s_f1 G K A r (s_fe F i)) (i + 1) := fun d hd e => by
    have db := s_b01 ((s_fe F i).1 = k ∧ s_f1 G K A r (s_fe F i))
    refine ⟨u + d, e.trans (F_m_reachBits_p7 rfl rfl), ?_⟩
    show (u + d).toInt = w + (s_ct (fun i => (s_fe F i).1 = k ∧ s_f1 G K A r (s_fe F i)) i + s_b ((s_fe F i).1 = k ∧ s_f1 G K A r (s_fe F i)))
    rw [dk_addT hP hd (by omega) (by omega)]
    omega
  by_cases q1 : S.2.1 45 iI.toNatClampNeg = kI
  rotate_left
  · have d1 : ¬ (s_fe F i).1 = k := fun z => q1 (Int32.toInt_inj.mp (by rw [iN, v1, hk]; exact z))
    exact add 0 (by rw [z0, s_b0 (fun z => d1 z.1)]) ((F_m_reachBits_p9 rfl q0 rfl q1).trans F_m_reachBits_p8)
  have d1 : (s_fe F i).1 = k := by
    have := w_eq.mp q1
    rw [iN, v1, hk] at this
    exact this
  have e64 : ((64 : Int32) + S.2.1 46 iI.toNatClampNeg).toInt = 64 + (s_fe F i).2.1 := dk_addT z64 (by rw [iN]; exact v2) (by omega) (by omega)
  have n64 : ((64 : Int32) + S.2.1 46 iI.toNatClampNeg).toNatClampNeg = mx_ad 1 (s_fe F i).2.1 := by
    rw [dk_clN, e64]
    unfold mx_ad
    omega
  have g31 : (S.2.1 31 ((64 : Int32) + S.2.1 46 iI.toNatClampNeg).toNatClampNeg).toInt = s_gr9 (s_n G K r k A) (s_fe F i).2.1 := by
    rw [n64]
    exact (hl _ u2).1
  have es : s_f1 G K A r (s_fe F i) ↔ s_gr9 (s_n G K r k A) (s_fe F i).2.1 = (s_fe F i).2.2 := by
    unfold s_f1
    rw [d1, show ((k : Int)).toNat = k by omega]
  by_cases q2 : S.2.1 31 ((64 : Int32) + S.2.1 46 iI.toNatClampNeg).toNatClampNeg = S.2.1 47 iI.toNatClampNeg
  · have d2 := w_eq.mp q2
    rw [g31, iN, v3] at d2
    exact add 1 (by rw [z1, s_b1 ⟨d1, es.mpr d2⟩]) (F_m_reachBits_p11 rfl q0 rfl q1 rfl rfl rfl rfl q2)
  · have d2 : ¬ (S.2.1 31 ((64 : Int32) + S.2.1 46 iI.toNatClampNeg).toNatClampNeg).toInt = (S.2.1 47 iI.toNatClampNeg).toInt := fun z => q2 (w_eq.mpr z)
    rw [g31, iN, v3] at d2
    exact add 0 (by rw [z0, s_b0 (fun z => d2 (es.mp z.2))]) ((F_m_reachBits_p10 rfl q0 rfl q1 rfl rfl rfl rfl q2).trans F_m_reachBits_p8)
/-- how many shifts can come at most -/
def s_W (A : aR) : Nat := (min 30 (999 - A 0 0)).toNat
theorem mx_comer (h : RMr G K A L U x r S) (hw : s_wf G A) (hk : a.toInt = k) : F_m_isAhead o S a (0 : Int32) (30 : Int32) = 1 ∧ k ≤ s_W A ∨ F_m_isAhead o S a (0 : Int32) (30 : Int32) = 0 ∧ ¬ k ≤ s_W A := by
  have z0 : (0 : Int32).toInt = 0 := by decide +kernel
  have z30 : (30 : Int32).toInt = 30 := by decide +kernel
  have hw0 := hw.1
  have := mx_come (o := o) (a1 := a) (a2 := 0) (a3 := 30) h.1.1.1 h.2.1 hw (by decide +kernel) (by decide +kernel)
  rw [z0, z30] at this
  unfold s_W
  rcases this with ⟨e, w⟩ | ⟨e, w⟩
  · exact Or.inl ⟨e, by omega⟩
  · exact Or.inr ⟨e, by omega⟩
/-- one reach -/
theorem mx_reach1 (ok : s_ok G K A U) (fk : s_fk G F) (h : RMr G K A L U x (m : Int) S) (hl : mx_lay G A L S 1) (hf : mx_fe F S) {S9 : dg_S} (hy : k_y S9 S) {mI bI : Int32} (hm : mI.toInt = m) (hm20 : m ≤ 20) {z : (Int32 × Int32 × dg_S) ⊕ (dg_S × Int32)} {rw9 : Int32} : ∃ (T : dg_S) (u : Int32), lp (F_m_reachBits_B4 S9 o mI bI) z ((32 - ((0 : Int32)).toInt).toNat + 1) ((0 : Int32), (0 : Int32), rw9, S) = F_m_reachBits_J2 S9 u mI bI T ∧ RMr G K A L U x (m : Int) T ∧ k_y S T ∧ (u.toInt = F.length ↔ s_rc G K A F (m : Int)) ∧ (∀ k, k ≤ s_W A → mx_gb G K A m k T) ∧ ∀ j, j < 64 * (31 * m) → T.2.1 48 j = S.2.1 48 j := by
  have z0 : (0 : Int32).toInt = 0 := by decide +kernel
  have hb := ok.1.1.2.2.2
  have hw0 := ok.2.2.1.1.1
  obtain ⟨k1, k2⟩ := fk
  have hW : s_W A ≤ 30 := by unfold s_W; omega
  have main := lp_cnt2 (f := F_m_reachBits_B4 S9 o mI bI) (z := z) (W := s_W A + 1) (P := fun k s => (RMr G K A L U x (m : Int) s.2.2 ∧ k_y S s.2.2) ∧ (k ≤ s_W A → ∃ L1, mx_lay G (s_n G K (m : Int) k A) L1 s.2.2 1) ∧ s.1.toInt = s_ct (fun i => (s_fe F i).1 < k ∧ s_f1 G K A (m : Int) (s_fe F i)) F.length ∧ (∀ k', k' < k → mx_gb G K A m k' s.2.2) ∧ ∀ j, j < 64 * (31 * m) → s.2.2.2.1 48 j = S.2.1 48 j) (Q := fun q => ∃ (T : dg_S) (u : Int32), q = F_m_reachBits_J2 S9 u mI bI T ∧ RMr G K A L U x (m : Int) T ∧ k_y S T ∧ (u.toInt = F.length ↔ s_rc G K A F (m : Int)) ∧ (∀ k, k ≤ s_W A → mx_gb G K A m k T) ∧ ∀ j, j < 64 * (31 * m) → T.2.1 48 j = S.2.1 48 j) (by omega) (fun k kI s hk hkI hP => by
    obtain ⟨u, rw8, T⟩ := s
    obtain ⟨⟨t1, t2⟩, t3, t4, t5, t6⟩ := hP
    have t1 : RMr G K A L U x (m : Int) T := t1
    have t2 : k_y S T := t2
    have t4 : u.toInt = s_ct (fun i => (s_fe F i).1 < k ∧ s_f1 G K A (m : Int) (s_fe F i)) F.length := t4
    have t5 : ∀ k', k' < k → mx_gb G K A m k' T := t5
    have t6 : ∀ j, j < 64 * (31 * m) → T.2.1 48 j = S.2.1 48 j := t6
    obtain ⟨L1, t3⟩ := t3 (by omega)
    have t3 : mx_lay G (s_n G K (m : Int) k A) L1 T 1 := t3
    rcases mx_comer (o := o) (a := kI) t1 ok.2.2.1.1 hkI with ⟨e, -⟩ | ⟨-, e⟩
    rotate_left
    · omega
    have ne : ¬ F_m_isAhead o T kI (0 : Int32) (30 : Int32) = (0 : Int32) := by rw [e]; decide +kernel
    have cb := s_ct_b (P := fun i => (s_fe F i).1 < k ∧ s_f1 G K A (m : Int) (s_fe F i)) F.length
    obtain ⟨T1, e1, r1, l1, y1, g1, o1⟩ := mx_note (o := o) (z := Sum.inr (Sum.inr (S9, (0 : Int32)))) (S9 := S9) (metI := u) ok t1 t3 hm hm20 hkI (by omega)
    have y9 : k_y S9 T1 := hy.tr (t2.tr y1)
    obtain ⟨w, e2, c2⟩ := mx_count (o := o) (A := A) (r := (m : Int)) (k := k) (S := T1) (S9 := S9) (kI := kI) (metI := u) ok ⟨k1, k2⟩ (hf.keep (t2.tr y1)) (y9.1 69 (by decide)).symm l1.1 hkI t4 ⟨by omega, by omega⟩
    have okc := s_n_ok (K := K) (r := (m : Int)) ok.1.1 ok.2.2.1.1 ok.2.2.1.2 k
    obtain ⟨T2, y, e3, r2, l2, k9⟩ := mx_tickr (o := o) ok r1 (by omega) okc.1 okc.2 l1
    refine Or.inl ⟨(w, _, T2), (((F_m_reachBits_p15 rfl ne).trans e1).trans e2).trans (F_m_reachBits_p5 (by rw [e3]) rfl rfl), ⟨r2, t2.tr (y1.tr k9.ky)⟩, fun hk1 => ?_, ?_, fun k' hk' => ?_, fun j hj => ?_⟩
    · have e00 := s_n_00 (n := k) (G := G) (K := K) (r := (m : Int)) (A := A) (by unfold s_W at hk1; omega)
      rw [s_tu_tk (by rw [e00]; unfold s_W at hk1; omega)] at l2
      exact ⟨_, l2⟩
    · show w.toInt = _
      rw [c2]
      refine (s_ct_add (fun i => ?_) (fun i z => by omega) F.length).symm
      constructor
      · rintro ⟨h1, h2⟩
        by_cases w : (s_fe F i).1 < (k : Int)
        · exact Or.inl ⟨w, h2⟩
        · exact Or.inr ⟨by omega, h2⟩
      · rintro (⟨h1, h2⟩ | ⟨h1, h2⟩)
        · exact ⟨by omega, h2⟩
        · exact ⟨by omega, h2⟩
    · have e48 : T2.2.1 48 = T1.2.1 48 := k9.row (by decide)
      by_cases w : k' = k
      · subst w
        intro c hc
        show (T2.2.1 48 _).toInt = _
        rw [e48]
        exact g1 c hc
      · refine (t5 k' (by omega)).keep (fun j hj => ?_)
        show T2.2.1 48 j = T.2.1 48 j
        rw [e48]
        exact o1 j (by omega)
    · show T2.2.1 48 j = S.2.1 48 j
      rw [k9.row (by decide), o1 j (by omega)]
      exact t6 j hj) (fun kI s hkI hP => by
    obtain ⟨u, rw8, T⟩ := s
    obtain ⟨⟨t1, t2⟩, t3, t4, t5, t6⟩ := hP
    have t1 : RMr G K A L U x (m : Int) T := t1
    have t4 : u.toInt = s_ct (fun i => (s_fe F i).1 < ((s_W A + 1 : Nat) : Int) ∧ s_f1 G K A (m : Int) (s_fe F i)) F.length := t4
    rcases mx_comer (o := o) (a := kI) t1 ok.2.2.1.1 hkI with ⟨-, e⟩ | ⟨e, -⟩
    · omega
    refine ⟨_, F_m_reachBits_p4 rfl e, T, u, rfl, t1, t2, ?_, fun k hk => t5 k (by omega), t6⟩
    rw [t4, s_ct_all]
    constructor
    · intro hh i hi
      have h1 := hh i hi
      have h2 := (k2 i hi).1
      have h3 := h1.1
      unfold s_W at h3
      exact ⟨by omega, h1.2⟩
    · intro hh i hi
      have := hh i hi
      have := (k2 i hi).1
      unfold s_W
      exact ⟨by omega, (hh i hi).2⟩) ((32 - ((0 : Int32)).toInt).toNat + 1) 0 0 ((0 : Int32), rw9, S) (by rw [z0]; omega) (by omega) z0 ⟨⟨h, k_y.rf⟩, fun _ => ⟨L, hl⟩, ?_, fun k' hk' => absurd hk' (Nat.not_lt_zero k'), fun _ _ => rfl⟩
  · exact main
  · show (0 : Int32).toInt = _
    have zz : ∀ m' : Nat, m' ≤ F.length → s_ct (fun i => (s_fe F i).1 < ((0 : Nat) : Int) ∧ s_f1 G K A (m : Int) (s_fe F i)) m' = 0 := fun m' => by
      induction m' with
      | zero => intro _; rfl
      | succ m' ih =>
        intro hm'
        show s_ct _ m' + s_b _ = 0
        have := (k2 m' (by omega)).1
        rw [ih (by omega), s_b0 (fun z => by omega)]
        rfl
    rw [zz _ (Nat.le_refl _), z0]
theorem mx_reachBits (ok : s_ok G K A U) (fk : s_fk G F) (h : RM G K A L U x S) (hf : mx_fe F S) : ∃ (S1 : dg_S) (y : Int32), F_m_reachBits o S = (S1, y) ∧ y.toInt = s_rs G K A F 21 ∧ RM G K A L U x S1 ∧ k_y S S1 ∧ ∀ m, m < 21 → ∀ k, k ≤ s_W A → mx_gb G K A m k S1 := by
  have z0 : (0 : Int32).toInt = 0 := by decide +kernel
  have z20 : (20 : Int32).toInt = 20 := by decide +kernel
  have hb := ok.1.1.2.2.2
  have hW : s_W A ≤ 30 := by unfold s_W; omega
  have h5 : (S.2.1 5 (zI S 0 13).toNatClampNeg).toInt = G 0 3 := h.1.2.1.1
  rw [F_m_reachBits_p17]
  have main := lp_cnt (f := F_m_reachBits_B1 S o) (z := (S, (0 : Int32))) (W := 21) (P := fun m s => (∃ r, RMr G K A L U x r s.2) ∧ k_y S s.2 ∧ s.1.toInt = s_rs G K A F m ∧ ∀ m', m' < m → ∀ k, k ≤ s_W A → mx_gb G K A m' k s.2) (Q := fun q => RM G K A L U x q.1 ∧ k_y S q.1 ∧ q.2.toInt = s_rs G K A F 21 ∧ ∀ m', m' < 21 → ∀ k, k ≤ s_W A → mx_gb G K A m' k q.1) (by decide) (fun m mI s hm hmI hP => by
    obtain ⟨u, T⟩ := s
    obtain ⟨⟨r, t1⟩, t2, t3, t4⟩ := hP
    have t1 : RMr G K A L U x r T := t1
    have t2 : k_y S T := t2
    have t3 : u.toInt = s_rs G K A F m := t3
    have t4 : ∀ m', m' < m → ∀ k, k ≤ s_W A → mx_gb G K A m' k T := t4
    have q0 : ¬ (20 : Int32) < mI := fun z => by have := dk_gtc z20 z; omega
    obtain ⟨T1, e1, r1, l1, k1⟩ := mx_tryr (o := o) ok t1
    obtain ⟨T2, h2⟩ : ∃ X, X = dg_uF T1 0 63 (.int mI) := ⟨_, rfl⟩
    obtain ⟨r2, y2⟩ := r1.to (a := mI) (v := (m : Int)) hb hmI
    have l2 : mx_lay G A L (dg_uF T1 0 63 (.int mI)) 1 := l1.keep hb (fun a _ _ j _ _ => rfl)
    rw [← h2] at r2 y2 l2
    have yy : k_y S T2 := t2.tr (k1.ky.tr y2)
    obtain ⟨T3, w, e3, r3, y3, c3, g3, o3⟩ := mx_reach1 (o := o) (S9 := S) (mI := mI) (bI := u) (z := Sum.inr (S, (0 : Int32))) (rw9 := T1.2.1 29 (1 : Int32).toNatClampNeg) ok fk r2 l2 (hf.keep yy) yy hmI (by omega)
    have rb := s_rs_b (G := G) (K := K) (A := A) (F := F) m
    have h69 : (zI S 0 69).toInt = F.length := hf.1
    have e48 : T2.2.1 48 = T.2.1 48 := by
      rw [h2]
      exact k1.row (by decide)
    have old : ∀ m', m' < m + 1 → ∀ k, k ≤ s_W A → mx_gb G K A m' k T3 := fun m' hm' k hk => by
      by_cases q : m' = m
      · rw [q]
        exact g3 k hk
      · refine (t4 m' (by omega) k hk).keep (fun j hj => ?_)
        rw [o3 j (by omega), e48]
    by_cases q1 : w = zI S 0 69
    · have d1 := w_eq.mp q1
      rw [h69] at d1
      have v := c3.mp d1
      refine ⟨(u ||| ((1 : Int32) <<< (mI &&& 31)), T3), (((F_m_reachBits_p16 q0 e1.symm rfl h2).trans e3).trans (F_m_reachBits_p3 rfl q1 rfl)).trans (F_m_reachBits_p1 rfl rfl), ⟨_, r3⟩, yy.tr y3, ?_, old⟩
      show (u ||| ((1 : Int32) <<< (mI &&& 31))).toInt = s_rs G K A F m + s_if (s_rc G K A F (m : Int)) ((2 ^ m : Nat) : Int) 0
      rw [s_if_y v, w_or2 (r := m) (by omega) (by rw [t3]; exact rb) (w_sh21 hmI hm), t3]
    · have d1 : ¬ w.toInt = (zI S 0 69).toInt := fun z => q1 (w_eq.mpr z)
      rw [h69] at d1
      refine ⟨(u ||| (0 : Int32), T3), (((F_m_reachBits_p16 q0 e1.symm rfl h2).trans e3).trans (F_m_reachBits_p2 rfl q1)).trans (F_m_reachBits_p1 rfl rfl), ⟨_, r3⟩, yy.tr y3, ?_, old⟩
      show (u ||| (0 : Int32)).toInt = s_rs G K A F m + s_if (s_rc G K A F (m : Int)) ((2 ^ m : Nat) : Int) 0
      rw [s_if_n (fun z => d1 (c3.mpr z)), show u ||| (0 : Int32) = u from Int32.or_zero, t3]
      omega) (fun mI s hmI hP => by
    obtain ⟨u, T⟩ := s
    obtain ⟨⟨r, t1⟩, t2, t3, t4⟩ := hP
    have t1 : RMr G K A L U x r T := t1
    have t2 : k_y S T := t2
    have e13 : zI T 0 13 = zI S 0 13 := t2.1 13 (by decide)
    have v5 : (T.2.1 5 (zI S 0 13).toNatClampNeg).toInt = G 0 3 := by rw [t2.2 5 (by decide) (by decide)]; exact h5
    obtain ⟨r2, y2⟩ := t1.to (a := T.2.1 5 (zI S 0 13).toNatClampNeg) (v := G 0 3) hb v5
    exact ⟨(_, u), F_m_reachBits_p0 (dk_gtp z20 (by omega)) rfl rfl rfl, r2, t2.tr y2, t3, fun m' hm' k hk => (t4 m' hm' k hk).keep (fun j _ => rfl)⟩) ((22 - ((0 : Int32)).toInt).toNat + 1) 0 0 (0, S) (by rw [z0]; decide) (by decide) z0 ⟨⟨_, h⟩, k_y.rf, z0, fun m' hm' => absurd hm' (Nat.not_lt_zero m')⟩
  exact ⟨_, _, rfl, main.2.2.1, main.1, main.2.1, main.2.2.2⟩
theorem mx_reaches (ok : s_ok G K A U) (fk : s_fk G F) (h : RM G K A L U x S) (hf : mx_fe F S) : ∃ (S1 : dg_S) (y : Int32), F_m_reaches o S = (S1, y) ∧ y.toInt = s_rs G K A F 21 ∧ RM G K A L U x S1 ∧ k_y S S1 := by
  obtain ⟨S1, y, e, v, r, k, -⟩ := mx_reachBits (o := o) ok fk h hf
  have n47 : ¬ zI S 0 47 = (0 : Int32) := fun z => h.1.1.1.1 (dk_eqc (by decide +kernel) z)
  refine ⟨S1, y, ?_, v, r, k⟩
  have := F_m_reaches_p1 (o := o) (S := S) rfl n47 (by rw [e]) (by rw [e])
  exact this
/-- REACHES on both sides -/
theorem sim_reaches (ok : s_ok G K A U) (fk : s_fk G F) (hX : RX oX g G K A L U x SX) (hfX : cx_fe F SX) (hM : RM G K A L U x SM) (hfM : mx_fe F SM) : (F_d_reaches oX SX).2 = (F_m_reaches oM SM).2 ∧ RX oX g G K A L U x (F_d_reaches oX SX).1 ∧ k_sk SX (F_d_reaches oX SX).1 ∧ RM G K A L U x (F_m_reaches oM SM).1 ∧ k_y SM (F_m_reaches oM SM).1 := by
  obtain ⟨S1, y1, e1, v1, r1, k1⟩ := cx_reaches (o := oX) ok fk hX hfX
  obtain ⟨S2, y2, e2, v2, r2, k2⟩ := mx_reaches (o := oM) ok fk hM hfM
  rw [e1, e2]
  exact ⟨Int32.toInt_inj.mp (v1.trans v2.symm), r1, k1, r2, k2⟩
end EJ
end
section
/-! TELLS: what it is; the class -/
/-- bit m of a word -/
theorem w_bt {y b : Int32} {m V : Nat} (hy : y.toInt = V) (hV : V < 2 ^ 31) (hb : b.toInt = m) (hm : m < 21) : (y >>> (b &&& 31)) &&& 1 = 1 ↔ V / 2 ^ m % 2 = 1 := by
  have ks : ∀ n : Nat, n < 21 → ((Int32.ofInt (n : Int) &&& 31).toBitVec.smod 32).toNat = n := by decide +kernel
  have k1 := ks m hm
  rw [← hb, Int32.ofInt_toInt] at k1
  have e : y = nI V := Int32.toInt_inj.mp (by rw [hy, nI_toInt hV])
  have h2 : V / 2 ^ m ≤ V := Nat.div_le_self _ _
  have hV2 : V < 2147483648 := hV
  rw [e, pk_shrN hV _ m k1]
  generalize V / 2 ^ m = Q at h2 ⊢
  rw [pk_andN (n := Q) (m := 1) (by omega) 1 (by decide), show (1 : Int32) = nI 1 from rfl, nI_eq (by omega) (by decide)]
theorem s_rs_bit {G A : aR} {K : Nat → List Int} {F : s_F} : ∀ (r V : Nat), s_rs G K A F r = V → ∀ m, m < r → (V / 2 ^ m % 2 = 1 ↔ s_rc G K A F (m : Int))
  | 0, _, _, m, hm => absurd hm (Nat.not_lt_zero m)
  | r + 1, V, hV, m, hm => by
    have hb := s_rs_b (G := G) (K := K) (A := A) (F := F) r
    obtain ⟨W, hW⟩ : ∃ W : Nat, s_rs G K A F r = W := ⟨(s_rs G K A F r).toNat, by omega⟩
    have ih := s_rs_bit r W hW
    have hV : s_rs G K A F r + s_if (s_rc G K A F (r : Int)) ((2 ^ r : Nat) : Int) 0 = V := hV
    rw [hW] at hV hb
    have pos : 0 < 2 ^ r := Nat.two_pow_pos r
    have lt : W < 2 ^ r := by omega
    by_cases q : s_rc G K A F (r : Int)
    · rw [s_if_y q] at hV
      have eV : V = W + 2 ^ r := by omega
      by_cases e : m = r
      · subst e
        rw [eV, Nat.add_div_right _ pos, Nat.div_eq_of_lt lt]
        exact ⟨fun _ => q, fun _ => rfl⟩
      · have ep : 2 ^ r = 2 ^ m * (2 * 2 ^ (r - m - 1)) := by
          rw [← Nat.pow_succ', ← Nat.pow_add]
          exact congrArg (fun t => 2 ^ t) (by omega)
        rw [eV, ep, Nat.add_mul_div_left _ _ (Nat.two_pow_pos m), ← ih m (by omega)]
        generalize W / 2 ^ m = x
        generalize 2 ^ (r - m - 1) = t
        omega
    · rw [s_if_n q] at hV
      have eV : V = W := by omega
      rw [eV]
      by_cases e : m = r
      · subst e
        rw [Nat.div_eq_of_lt lt]
        exact ⟨fun z => absurd z (by decide), fun z => absurd z q⟩
      · exact ih m (by omega)
/-- of the first m, as many as are alike at most -/
noncomputable def s_most (P : Nat → Prop) (g : Nat → Int) : Nat → Int
  | 0 => 0
  | m + 1 => s_if (P m) (max (s_most P g m) (s_ct (fun i => P i ∧ g i = g m) m + 1)) (s_most P g m)
theorem s_most_b {P : Nat → Prop} {g : Nat → Int} : ∀ m : Nat, 0 ≤ s_most P g m ∧ s_most P g m ≤ m
  | 0 => ⟨Int.le_refl _, Int.le_refl _⟩
  | m + 1 => by
    have ih := s_most_b (P := P) (g := g) m
    have c := s_ct_b (P := fun i => P i ∧ g i = g m) m
    show 0 ≤ s_if (P m) (max (s_most P g m) (s_ct (fun i => P i ∧ g i = g m) m + 1)) (s_most P g m) ∧ s_if (P m) (max (s_most P g m) (s_ct (fun i => P i ∧ g i = g m) m + 1)) (s_most P g m) ≤ ((m + 1 : Nat) : Int)
    by_cases q : P m
    · rw [s_if_y q]
      omega
    · rw [s_if_n q]
      omega
theorem s_most_y {P : Nat → Prop} {g : Nat → Int} {m : Nat} (q : P m) : s_most P g (m + 1) = max (s_most P g m) (s_ct (fun i => P i ∧ g i = g m) m + 1) := s_if_y q
theorem s_most_n {P : Nat → Prop} {g : Nat → Int} {m : Nat} (q : ¬ P m) : s_most P g (m + 1) = s_most P g m := s_if_n q
/-- behind k shifts, by cell c: how many are left at most -/
noncomputable def s_lf (G : aR) (K : Nat → List Int) (A : aR) (F : s_F) (k : Nat) (c : Int) : Int := s_most (fun r : Nat => s_rc G K A F (r : Int)) (fun r : Nat => s_gr9 (s_n G K (r : Int) k A) c) 21
theorem s_lf_b {G A : aR} {K : Nat → List Int} {F : s_F} {k : Nat} {c : Int} : 0 ≤ s_lf G K A F k c ∧ s_lf G K A F k c ≤ 21 := s_most_b 21
def s_tP (G : aR) (i : Nat) : Prop := 64 ≤ i ∧ s_in G ((i % 64 : Nat) : Int)
/-- what is found among the first i: shift and cell as one number; how many -/
noncomputable def s_tl (G : aR) (K : Nat → List Int) (A : aR) (F : s_F) : Nat → Int × Int
  | 0 => (-1, 22)
  | i + 1 => s_if (s_tP G i ∧ s_lf G K A F (i / 64) ((i % 64 : Nat) : Int) < (s_tl G K A F i).2) ((i : Int), s_lf G K A F (i / 64) ((i % 64 : Nat) : Int)) (s_tl G K A F i)
/-- TELLING -/
noncomputable def s_te (G : aR) (K : Nat → List Int) (A : aR) (F : s_F) : Int × Int := s_if (s_rs G K A F 21 = 0) (-1, 22) (s_tl G K A F (64 * (s_W A + 1)))
/-- as the class holds it -/
def cx_tA (b : Int × Int) (S : dg_S) : Prop := (zI S 229 8).toInt = b.2 ∧ (zI S 229 7).toInt = (if b.1 < 0 then -1 else b.1 % 64 + 8) ∧ (0 ≤ b.1 → (zI S 229 6).toInt = b.1 / 64)
def cx_ct (G : aR) (K : Nat → List Int) (A : aR) (F : s_F) (S : dg_S) : Prop := (zI S 229 4).toInt = 0 ∨ cx_tA (s_te G K A F) S
/-- what else was sought stays -/
def k_s8 (S S1 : dg_S) : Prop := (∀ b, zI S1 221 b = zI S 221 b) ∧ (∀ b, b ≠ 4 → b ≠ 6 → b ≠ 7 → b ≠ 8 → zI S1 229 b = zI S 229 b) ∧ S1.2.1 230 = S.2.1 230
/-- the pits of all that are left, behind k shifts -/
def cx_ps (G : aR) (K : Nat → List Int) (A : aR) (F : s_F) (k : Nat) (S : dg_S) : Prop := ∀ r : Nat, r < 21 → s_rc G K A F (r : Int) → cx_pit G (s_n G K (r : Int) k A) S (233 + 7 * r)
def s_ix (v : Int) : Nat := if v = -1 then 10 else v.toNat
theorem s_ix_j {v w : Int} (hv : -1 ≤ v ∧ v ≤ 9) (hw : -1 ≤ w ∧ w ≤ 9) (h : s_ix v = s_ix w) : v = w := by
  unfold s_ix at h
  split at h <;> split at h <;> omega
theorem s_ix_b {v : Int} (hv : -1 ≤ v ∧ v ≤ 9) : s_ix v < 11 := by
  unfold s_ix
  split <;> omega
section EK
variable {o oX oM g n p k : Nat} {G A A' : aR} {K : Nat → List Int} {L L' : s_L} {U : s_U} {F : s_F} {S S0 S1 SX SM T : dg_S} {x x' r c v t : Int} {a a1 a2 a3 a4 y : Int32}
theorem k_s8.rf : k_s8 S S := ⟨fun _ => rfl, fun _ _ _ _ _ => rfl, rfl⟩
theorem k_s8.tr (h : k_s8 S S0) (k : k_s8 S0 S1) : k_s8 S S1 := ⟨fun b => (k.1 b).trans (h.1 b), fun b b4 b6 b7 b8 => (k.2.1 b b4 b6 b7 b8).trans (h.2.1 b b4 b6 b7 b8), k.2.2.trans h.2.2⟩
theorem k_sk.s8 (h : k_sk S S1) : k_s8 S S1 := ⟨h.1, fun b _ _ _ _ => h.2.1 b, h.2.2⟩
theorem cx_tA.keep {b : Int × Int} (h : cx_tA b S) (k : k_sk S S1) : cx_tA b S1 := ⟨by rw [k.2.1]; exact h.1, by rw [k.2.1]; exact h.2.1, fun z => by rw [k.2.1]; exact h.2.2 z⟩
theorem s_tl_b : ∀ i : Nat, s_tl G K A F i = (-1, 22) ∨ (64 ≤ (s_tl G K A F i).1 ∧ (s_tl G K A F i).1 < i ∧ 0 ≤ (s_tl G K A F i).2 ∧ (s_tl G K A F i).2 ≤ 21)
  | 0 => Or.inl rfl
  | i + 1 => by
    have ih := s_tl_b i
    have lb := s_lf_b (G := G) (K := K) (A := A) (F := F) (k := i / 64) (c := ((i % 64 : Nat) : Int))
    by_cases q : s_tP G i ∧ s_lf G K A F (i / 64) ((i % 64 : Nat) : Int) < (s_tl G K A F i).2
    · have e : s_tl G K A F (i + 1) = ((i : Int), s_lf G K A F (i / 64) ((i % 64 : Nat) : Int)) := s_if_y q
      rw [e]
      refine Or.inr ⟨?_, ?_, lb.1, lb.2⟩
      · have := q.1.1
        show (64 : Int) ≤ (i : Int)
        omega
      · show (i : Int) < ((i + 1 : Nat) : Int)
        omega
    · have e : s_tl G K A F (i + 1) = s_tl G K A F i := s_if_n q
      rw [e]
      rcases ih with ih | ⟨h1, h2, h3⟩
      · exact Or.inl ih
      · exact Or.inr ⟨h1, by omega, h3⟩
theorem s_tl_n {i : Nat} (h : ¬ (s_tP G i ∧ s_lf G K A F (i / 64) ((i % 64 : Nat) : Int) < (s_tl G K A F i).2)) : s_tl G K A F (i + 1) = s_tl G K A F i := s_if_n h
theorem s_tl_y {i : Nat} (h1 : s_tP G i) (h2 : s_lf G K A F (i / 64) ((i % 64 : Nat) : Int) < (s_tl G K A F i).2) : s_tl G K A F (i + 1) = ((i : Int), s_lf G K A F (i / 64) ((i % 64 : Nat) : Int)) := s_if_y ⟨h1, h2⟩
theorem s_tl_same {i : Nat} : ∀ d : Nat, (∀ j, i ≤ j → j < i + d → ¬ s_tP G j) → s_tl G K A F (i + d) = s_tl G K A F i
  | 0, _ => rfl
  | d + 1, h => by
    have ih := s_tl_same d (fun j h1 h2 => h j h1 (by omega))
    rw [show i + (d + 1) = (i + d) + 1 from rfl, s_tl_n (fun z => h (i + d) (by omega) (by omega) z.1), ih]
theorem s_tl_64 : s_tl G K A F 64 = (-1, 22) := (s_tl_same (i := 0) 64 (fun j _ h2 z => by have := z.1; omega)).trans rfl
theorem cx_ps.kp {LF : Nat → Nat → Prop} {LA : Nat → Prop} (h : cx_ps G K A F k S) (t : kp LF LA S S1) (f : ∀ a b, 233 ≤ a → ¬ LF a b) (l : ∀ a, 233 ≤ a → ¬ LA a) : cx_ps G K A F k S1 := fun r h1 h2 => (h r h1 h2).keep (fun i _ _ => (t.2 i (l i (by omega))).1) (fun b _ => t.I (f _ b (by omega)))
/-- how many are left at most, by one cell -/
theorem cx_mostLeft (ok : s_ok G K A U) (hp : cx_ps G K A F k S) {V : Nat} (hV : s_rs G K A F 21 = V) (h1 : a1.toInt = V) (hc : s_in G c) (h2 : a2.toInt = c + 8) : ∃ (S1 : dg_S) (y : Int32), F_e_mostLeft o S a1 a2 = (S1, y) ∧ y.toInt = s_lf G K A F k c ∧ kp (fun _ _ => False) (fun a => a = 232) S S1 := by
  have z0 : (0 : Int32).toInt = 0 := by decide +kernel
  have z1 : (1 : Int32).toInt = 1 := by decide +kernel
  have z21 : (21 : Int32).toInt = 21 := by decide +kernel
  have m1 : (-1 : Int32).toInt = -1 := by decide +kernel
  have n10 : (10 : Int32).toNatClampNeg = 10 := by decide +kernel
  have V31 : V < 2 ^ 31 := by
    have := (s_rs_b (G := G) (K := K) (A := A) (F := F) 21).2
    rw [hV] at this
    have : V < 2 ^ 21 := by omega
    exact Nat.lt_trans this (by decide)
  obtain ⟨P, eP⟩ : ∃ P : Nat → Prop, P = fun r : Nat => s_rc G K A F (r : Int) := ⟨_, rfl⟩
  obtain ⟨gg, eg⟩ : ∃ gg : Nat → Int, gg = fun r : Nat => s_gr9 (s_n G K (r : Int) k A) c := ⟨_, rfl⟩
  have hl : s_lf G K A F k c = s_most P gg 21 := by rw [eP, eg]; rfl
  have gb : ∀ r : Nat, -1 ≤ gg r ∧ gg r ≤ 9 := fun r => by
    rw [eg]
    exact s_gr9_b (s_n_ok ok.1.1 ok.2.2.1.1 ok.2.2.1.2 k).2 hc
  obtain ⟨S2, hS2⟩ : ∃ X, X = dg_uf S 232 (dk_fl (S.2.1 232) (0 : Int32) 11) := ⟨_, rfl⟩
  rw [F_e_mostLeft_p6 rfl hS2, hl]
  have main := lp_cnt (f := F_e_mostLeft_B1 a1 o a2) (z := (S, (0 : Int32))) (W := 21) (P := fun m s => s.1.toInt = s_most P gg m ∧ kp (fun _ _ => False) (fun a => a = 232) S s.2 ∧ ∀ v : Int, (-1 ≤ v ∧ v ≤ 9) → (s.2.2.1 232 (s_ix v)).toInt = s_ct (fun i => P i ∧ gg i = v) m) (Q := fun q => q.2.toInt = s_most P gg 21 ∧ kp (fun _ _ => False) (fun a => a = 232) S q.1) (by decide) (fun m mI s hm hmI hP => by
    obtain ⟨u, T⟩ := s
    obtain ⟨t1, t2, t3⟩ := hP
    have t1 : u.toInt = s_most P gg m := t1
    have t2 : kp (fun _ _ => False) (fun a => a = 232) S T := t2
    have t3 : ∀ v : Int, (-1 ≤ v ∧ v ≤ 9) → (T.2.1 232 (s_ix v)).toInt = s_ct (fun i => P i ∧ gg i = v) m := t3
    have q0 : ¬ (21 : Int32) ≤ mI := fun z => by have := dk_gec z21 z; omega
    have hbit : (a1 >>> (mI &&& 31)) &&& 1 = 1 ↔ P m := by
      rw [w_bt h1 V31 hmI hm, s_rs_bit 21 V hV m hm, eP]
    by_cases q : P m
    rotate_left
    · refine ⟨(u, T), (F_e_mostLeft_p2 q0 rfl rfl (fun z => q (hbit.mp z))).trans (F_e_mostLeft_p1 rfl), ?_, t2, fun v hv => ?_⟩
      · show u.toInt = s_most P gg (m + 1)
        rw [s_most_n q]
        exact t1
      · show (T.2.1 232 (s_ix v)).toInt = s_ct (fun i => P i ∧ gg i = v) m + s_b (P m ∧ gg m = v)
        rw [s_b0 (fun z => q z.1), t3 v hv]
        omega
    have mn : mI.toNatClampNeg = m := by rw [dk_clN]; omega
    have rc : s_rc G K A F (m : Int) := by
      have := q
      rw [eP] at this
      exact this
    have pit := (hp m hm rc).keep (S1 := T) (fun i i1 i2 => (t2.2 i (by omega)).1) (fun b _ => t2.I id)
    have eg9 : (F_p_gradeAt o T (233 + 7 * mI.toNatClampNeg) a2).toInt = gg m := by
      rw [mn, cx_gradeAt pit hc h2, eg]
      rfl
    have fin : ∀ w : Int32, w.toNatClampNeg = s_ix (gg m) → F_e_mostLeft_B1 a1 o a2 (mI, u, T) = F_e_mostLeft_J3 T w u mI → ∃ s1, F_e_mostLeft_B1 a1 o a2 (mI, u, T) = .inl (mI + 1, s1) ∧ s1.1.toInt = s_most P gg (m + 1) ∧ kp (fun _ _ => False) (fun a => a = 232) S s1.2 ∧ ∀ v : Int, (-1 ≤ v ∧ v ≤ 9) → (s1.2.2.1 232 (s_ix v)).toInt = s_ct (fun i => P i ∧ gg i = v) (m + 1) := fun w hw e => by
      have cb := s_ct_b (P := fun i => P i ∧ gg i = gg m) m
      have e1 : (T.2.1 232 w.toNatClampNeg + 1).toInt = s_ct (fun i => P i ∧ gg i = gg m) m + 1 := dk_addT (by rw [hw]; exact t3 _ (gb m)) z1 (by omega) (by omega)
      obtain ⟨T1, hT1⟩ : ∃ X, X = dg_uf T 232 (upd (T.2.1 232) w.toNatClampNeg (T.2.1 232 w.toNatClampNeg + 1)) := ⟨_, rfl⟩
      refine ⟨(if u < T.2.1 232 w.toNatClampNeg + 1 then T.2.1 232 w.toNatClampNeg + 1 else u, T1), e.trans ((F_e_mostLeft_p3 rfl rfl hT1 rfl).trans (F_e_mostLeft_p1 rfl)), ?_, by rw [hT1]; exact t2.uf rfl, fun v hv => ?_⟩
      · show (if u < T.2.1 232 w.toNatClampNeg + 1 then T.2.1 232 w.toNatClampNeg + 1 else u).toInt = s_most P gg (m + 1)
        rw [s_most_y q]
        by_cases q3 : u < T.2.1 232 w.toNatClampNeg + 1
        · have d3 := w_lt.mp q3
          rw [if_pos q3, e1]
          rw [e1, t1] at d3
          omega
        · have d3 : ¬ u.toInt < (T.2.1 232 w.toNatClampNeg + 1).toInt := fun z => q3 (w_lt.mpr z)
          rw [if_neg q3, t1]
          rw [e1, t1] at d3
          omega
      · show (T1.2.1 232 (s_ix v)).toInt = s_ct (fun i => P i ∧ gg i = v) m + s_b (P m ∧ gg m = v)
        rw [hT1, w_f, if_pos rfl, w_u, hw]
        by_cases q4 : gg m = v
        · subst q4
          rw [if_pos rfl, s_b1 ⟨q, rfl⟩, ← hw]
          exact e1
        · rw [if_neg (fun z => q4 (s_ix_j (gb m) hv z.symm)), s_b0 (fun z => q4 z.2), t3 v hv]
          omega
    by_cases q5 : F_p_gradeAt o T (233 + 7 * mI.toNatClampNeg) a2 = (-1 : Int32)
    · have d5 := dk_eqc m1 q5
      rw [eg9] at d5
      refine fin 10 ?_ (F_e_mostLeft_p5 q0 rfl rfl (hbit.mpr q) rfl rfl q5)
      rw [n10, d5]
      rfl
    · have d5 := dk_neqc m1 q5
      rw [eg9] at d5
      refine fin _ ?_ (F_e_mostLeft_p4 q0 rfl rfl (hbit.mpr q) rfl rfl q5)
      rw [dk_clN, eg9]
      unfold s_ix
      rw [if_neg d5]) (fun mI s hmI hP => by
    obtain ⟨u, T⟩ := s
    exact ⟨_, F_e_mostLeft_p0 (dk_gep z21 (by omega)), hP.1, hP.2.1⟩) ((22 - ((0 : Int32)).toInt).toNat + 1) 0 0 ((0 : Int32), S2) (by rw [z0]; decide) (by decide) z0 ⟨z0, by rw [hS2]; exact kp.rf.uf rfl, fun v hv => ?_⟩
  · exact ⟨_, _, rfl, main.1, main.2⟩
  · show (S2.2.1 232 (s_ix v)).toInt = 0
    rw [hS2, w_f, if_pos rfl]
    unfold dk_fl
    rw [if_pos (s_ix_b hv)]
    exact z0
/-- all cells, behind k shifts -/
theorem cx_tryAll (ok : s_ok G K A U) (h : RX o g G K A L U x S) (hp : cx_ps G K A F k S) {V : Nat} (hV : s_rs G K A F 21 = V) (h1 : a1.toInt = V) (h2 : a2.toInt = k) (hk1 : 1 ≤ k) (hk30 : k ≤ 30) (ht : cx_tA (s_tl G K A F (64 * k)) S) : ∃ S1, F_e_tryAllCells o S g 3 a1 a2 = S1 ∧ kp (fun a b => a = 229 ∧ (b = 6 ∨ b = 7 ∨ b = 8)) (fun a => a = 232) S S1 ∧ cx_tA (s_tl G K A F (64 * (k + 1))) S1 := by
  have z8 : (8 : Int32).toInt = 8 := by decide +kernel
  have z100 : (100 : Int32).toInt = 100 := by decide +kernel
  have hgb := ok.1.1.1
  have g1 : (zI S g 1).toInt = G 0 1 := h.2.1.2.1.2.1
  have rg : rX g := h.2.1.1.1
  have sep := rX_sep rg
  obtain ⟨R, hR⟩ : ∃ R : Nat, (R : Int) = G 0 1 := ⟨(G 0 1).toNat, by omega⟩
  have eend : ∀ T, kp (fun a b => a = 229 ∧ (b = 6 ∨ b = 7 ∨ b = 8)) (fun a => a = 232) S T → (F_g_endOfPlaces o T g).toInt = 8 * (R : Int) + 8 := fun T t => by
    have e1 : (zI T g 1).toInt = R := by rw [t.I (fun z => by omega), g1, hR]
    exact dk_addT (dk_mulT z8 e1 (by omega) (by omega)) z8 (by omega) (by omega)
  rw [F_e_tryAllCells_p6]
  refine lp_cnt (f := F_e_tryAllCells_B1 o g 3 a2 a1) (z := S) (W := 8 * R + 8) (P := fun p T => 8 ≤ p ∧ kp (fun a b => a = 229 ∧ (b = 6 ∨ b = 7 ∨ b = 8)) (fun a => a = 232) S T ∧ cx_tA (s_tl G K A F (64 * k + (p - 8))) T) (Q := fun T => ∃ S1, T = S1 ∧ kp (fun a b => a = 229 ∧ (b = 6 ∨ b = 7 ∨ b = 8)) (fun a => a = 232) S S1 ∧ cx_tA (s_tl G K A F (64 * (k + 1))) S1) (by omega) (fun p pI T hp9 hpI hP => ?_) (fun pI T hpI hP => ?_) ((65 - ((8 : Int32)).toInt).toNat + 1) 8 8 S (by rw [z8]; omega) (by omega) z8 ⟨Nat.le_refl 8, kp.rf, ht⟩
  rotate_left
  · obtain ⟨t0, t1, t2⟩ := hP
    refine ⟨T, F_e_tryAllCells_p0 rfl (w_le.mpr (by rw [eend T t1]; omega)), T, rfl, t1, ?_⟩
    have e := s_tl_same (G := G) (K := K) (A := A) (F := F) (i := 64 * k + 8 * R) (64 - 8 * R) (fun j j1 j2 z => by
      have := z.2.2.2
      omega)
    rw [show 64 * k + 8 * R + (64 - 8 * R) = 64 * (k + 1) by omega] at e
    rw [e]
    rw [show 64 * k + (8 * R + 8 - 8) = 64 * k + 8 * R by omega] at t2
    exact t2
  obtain ⟨t0, t1, t2⟩ := hP
  have q0 : ¬ F_g_endOfPlaces o T g ≤ pI := fun z => by have := w_le.mp z; rw [eend T t1] at this; omega
  have pn : pI.toNatClampNeg = p := by rw [dk_clN]; omega
  have ce := h.2.2.1.1 (p : Int) (by omega) (by omega)
  have e4 : (T.2.1 (3 + 1) pI.toNatClampNeg).toInt = cx_at S 3 (p : Int) := by
    rw [(t1.2 (3 + 1) (by decide)).1, pn]
    unfold cx_at
    rw [show ((p : Int)).toNat = p by omega]
  obtain ⟨i, hi⟩ : ∃ i, i = 64 * k + (p - 8) := ⟨_, rfl⟩
  have i1 : i / 64 = k := by omega
  have i2 : i % 64 = p - 8 := by omega
  have ei : 64 * k + (p + 1 - 8) = i + 1 := by omega
  rw [ei]
  rw [← hi] at t2
  by_cases q1 : T.2.1 (3 + 1) pI.toNatClampNeg = (100 : Int32)
  · have d1 := dk_eqc z100 q1
    rw [e4] at d1
    have nin : ¬ s_in G ((p : Int) - 8) := fun z => by
      have := ce.1 z
      rw [d1] at this
      unfold cx_en at this
      split at this
      · omega
      · split at this <;> omega
    refine ⟨T, (F_e_tryAllCells_p5 rfl q0 rfl q1 rfl).trans ((F_e_tryAllCells_p2 rfl (w_le.mpr (Int.le_refl _))).trans (F_e_tryAllCells_p1 rfl)), by omega, t1, ?_⟩
    rw [s_tl_n (fun z => nin (by have := z.1.2; rw [i2, show ((p - 8 : Nat) : Int) = (p : Int) - 8 by omega] at this; exact this))]
    exact t2
  have d1 := dk_neqc z100 q1
  rw [e4] at d1
  have hin : s_in G ((p : Int) - 8) := by
    apply Classical.byContradiction
    intro z
    exact d1 (ce.2 z)
  obtain ⟨T1, y, e1, v1, k1⟩ := cx_mostLeft (o := o) (S := T) (a1 := a1) (a2 := pI) (c := (p : Int) - 8) ok (hp.kp t1 (fun a b h z => by omega) (fun a h z => by omega)) hV h1 hin (by omega)
  have Q := F_e_tryAllCells_p4 (o := o) (gr := g) (pt := 3) (a2 := a2) (a1 := a1) (S_124 := T) (x_123 := pI) rfl q0 rfl q1 (show T1 = _ by rw [e1]) (show y = _ by rw [e1])
  have t9 : kp (fun a b => a = 229 ∧ (b = 6 ∨ b = 7 ∨ b = 8)) (fun a => a = 232) S T1 := t1.tr (k1.w (fun a b z => z.elim) (fun a z => z))
  have hP9 : s_tP G i := ⟨by omega, by rw [i2, show ((p - 8 : Nat) : Int) = (p : Int) - 8 by omega]; exact hin⟩
  have el : s_lf G K A F (i / 64) ((i % 64 : Nat) : Int) = s_lf G K A F k ((p : Int) - 8) := by
    rw [i1, i2, show ((p - 8 : Nat) : Int) = (p : Int) - 8 by omega]
  have e8 : (zI T1 229 8).toInt = (s_tl G K A F i).2 := by rw [k1.I id]; exact t2.1
  by_cases q2 : zI T1 229 8 ≤ y
  · have d2 := w_le.mp q2
    rw [e8, v1, ← el] at d2
    refine ⟨T1, Q.trans ((F_e_tryAllCells_p2 rfl q2).trans (F_e_tryAllCells_p1 rfl)), by omega, t9, ?_⟩
    rw [s_tl_n (fun z => by have := z.2; omega)]
    exact ⟨e8, by rw [k1.I id]; exact t2.2.1, fun z => by rw [k1.I id]; exact t2.2.2 z⟩
  · have d2 : ¬ (zI T1 229 8).toInt ≤ y.toInt := fun z => q2 (w_le.mpr z)
    rw [e8, v1, ← el] at d2
    obtain ⟨S2, hS2⟩ : ∃ X, X = dg_uF T1 229 6 (.int a2) := ⟨_, rfl⟩
    obtain ⟨S3, hS3⟩ : ∃ X, X = dg_uF S2 229 7 (.int pI) := ⟨_, rfl⟩
    obtain ⟨S4, hS4⟩ : ∃ X, X = dg_uF S3 229 8 (.int y) := ⟨_, rfl⟩
    refine ⟨S4, Q.trans ((F_e_tryAllCells_p3 rfl q2 hS2 hS3 hS4).trans (F_e_tryAllCells_p1 rfl)), by omega, ?_, ?_⟩
    · rw [hS4, hS3, hS2]
      exact kp.uF (kp.uF (kp.uF t9 ⟨rfl, Or.inl rfl⟩) ⟨rfl, Or.inr (Or.inl rfl)⟩) ⟨rfl, Or.inr (Or.inr rfl)⟩
    · rw [s_tl_y hP9 (by omega), el]
      refine ⟨?_, ?_, fun _ => ?_⟩
      · rw [hS4, w_I, if_pos ⟨rfl, rfl⟩]
        exact v1
      · rw [hS4, w_I0 (by decide), hS3, w_I, if_pos ⟨rfl, rfl⟩]
        show pI.toInt = if (i : Int) < 0 then -1 else (i : Int) % 64 + 8
        rw [if_neg (by omega)]
        omega
      · rw [hS4, w_I0 (by decide), hS3, w_I0 (by decide), hS2, w_I, if_pos ⟨rfl, rfl⟩]
        show a2.toInt = (i : Int) / 64
        omega
/-- all that are left pass one shift -/
theorem cx_passAll (ok : s_ok G K A U) (h : RX o g G K A L U x S) (hp : cx_ps G K A F k S) {V : Nat} (hV : s_rs G K A F 21 = V) (h1 : a1.toInt = V) : ∃ S1, F_e_passAll o S g a1 = S1 ∧ RX o g G K A L U x S1 ∧ cx_ps G K A F (k + 1) S1 ∧ k_sk S S1 := by
  have z0 : (0 : Int32).toInt = 0 := by decide +kernel
  have z1 : (1 : Int32).toInt = 1 := by decide +kernel
  have z21 : (21 : Int32).toInt = 21 := by decide +kernel
  have sep := rX_sep h.2.1.1.1
  have V31 : V < 2 ^ 31 := by
    have := (s_rs_b (G := G) (K := K) (A := A) (F := F) 21).2
    rw [hV] at this
    have : V < 2 ^ 21 := by omega
    exact Nat.lt_trans this (by decide)
  rw [F_e_passAll_p4]
  have main := lp_cnt (f := F_e_passAll_B1 a1 o g) (z := S) (W := 21) (P := fun m T => RX o g G K A L U x T ∧ k_sk S T ∧ (∀ r : Nat, r < m → s_rc G K A F (r : Int) → cx_pit G (s_n G K (r : Int) (k + 1) A) T (233 + 7 * r)) ∧ ∀ r : Nat, m ≤ r → r < 21 → s_rc G K A F (r : Int) → cx_pit G (s_n G K (r : Int) k A) T (233 + 7 * r)) (Q := fun T => RX o g G K A L U x T ∧ k_sk S T ∧ cx_ps G K A F (k + 1) T) (by decide) (fun m mI T hm hmI hP => by
    obtain ⟨t1, t2, t3, t4⟩ := hP
    have q0 : ¬ (21 : Int32) ≤ mI := fun z => by have := dk_gec z21 z; omega
    have hbit : (a1 >>> (mI &&& 31)) &&& 1 = 1 ↔ s_rc G K A F (m : Int) := by
      rw [w_bt h1 V31 hmI hm, s_rs_bit 21 V hV m hm]
    by_cases q : s_rc G K A F (m : Int)
    rotate_left
    · refine ⟨T, (F_e_passAll_p2 q0 rfl rfl (fun z => q (hbit.mp z))).trans (F_e_passAll_p1 rfl), t1, t2, fun r hr hc => ?_, fun r hr h21 hc => t4 r (by omega) h21 hc⟩
      by_cases w : r = m
      · subst w
        exact absurd hc q
      · exact t3 r (by omega) hc
    have mn : mI.toNatClampNeg = m := by rw [dk_clN]; omega
    obtain ⟨d, hd⟩ : ∃ d, d = 233 + 7 * m := ⟨_, rfl⟩
    have pd : pX d := by rw [hd]; exact pX_f hm
    have dd : d = 233 + 7 * mI.toNatClampNeg := by rw [mn]; exact hd
    obtain ⟨S4, e4, f7, f6, f8, f9, k4⟩ := cx_enter (o := o) (S := T) (g := g) (p := d) (a := mI)
    have r4 : RX o g G K A L U x S4 := t1.keep k4 (by decide) (by decide) (fun a b _ _ => by omega) (fun b => by omega) (fun b => by omega) (fun a b _ _ => by omega) (fun a _ _ => id) (fun a _ _ => id) id (fun a _ _ => id)
    have p4 : cx_pit G (s_n G K (m : Int) k A) S4 d := by
      rw [hd]
      exact (t4 m (Nat.le_refl m) hm q).keep (fun i _ _ => (k4.2 i id).1) (fun b _ => k4.I (fun z => by omega))
    have okc := s_n_ok (K := K) (r := (m : Int)) ok.1.1 ok.2.2.1.1 ok.2.2.1.2 k
    obtain ⟨T1, e1, r1, l1, k1⟩ := cx_pass (o := o) (p := d) (a1 := 1) (n := 1) (r := (m : Int)) pd (by omega) ok.1.1 ok.2.1 okc.1 okc.2 ⟨by omega, by omega⟩ r4 ⟨f7, f6, by rw [f8]; exact hmI, r4.2.1.1, p4, Or.inl f9⟩ z1 (by decide)
    have oth : ∀ (r' : Nat) (A9 : aR), r' ≠ m → cx_pit G A9 T (233 + 7 * r') → cx_pit G A9 T1 (233 + 7 * r') := fun r' A9 hr hh => (hh.keep (S1 := S4) (fun i _ _ => (k4.2 i id).1) (fun b _ => k4.I (fun z => by omega))).keep (fun i i1 i2 => (k1.2 i (by omega)).1) (fun b b2 => k1.I (fun z => by omega))
    refine ⟨T1, (F_e_passAll_p3 q0 rfl rfl (hbit.mpr q) dd e4.symm e1.symm).trans (F_e_passAll_p1 rfl), r1, t2.tr ((k4.sk (fun b => by omega) (fun b => by omega) id).tr (k1.sk (fun b => by omega) (fun b => by omega) (by omega))), fun r hr hc => ?_, fun r hr h21 hc => oth r _ (by omega) (t4 r (by omega) h21 hc)⟩
    by_cases w : r = m
    · rw [w, ← hd]
      exact l1.2.2.2.2.1
    · exact oth r _ w (t3 r (by omega) hc)) (fun mI T hmI hP => by
    obtain ⟨t1, t2, t3, t4⟩ := hP
    exact ⟨T, F_e_passAll_p0 (dk_gep z21 (by omega)), t1, t2, t3⟩) ((22 - ((0 : Int32)).toInt).toNat + 1) 0 0 S (by rw [z0]; decide) (by decide) z0 ⟨h, k_sk.rf, fun r hr => absurd hr (Nat.not_lt_zero r), fun r _ h2 h3 => hp r h2 h3⟩
  exact ⟨_, rfl, main.1, main.2.2, main.2.1⟩
end EK
end
section
/-! TELLS: the class's answer; the reference; both sides -/
/-- what is told of it -/
def s_tv (b : Int × Int) (w : Int) : Int := if b.1 < 0 then -1 else if w = 0 then b.1 / 64 else if w = 1 then b.1 % 64 else if w = 2 then b.2 else -1
/-- what these looks of the reference leave -/
def k_z (S S1 : dg_S) : Prop := (∀ b, b ≠ 63 → zI S1 0 b = zI S 0 b) ∧ ∀ a, ¬ (29 ≤ a ∧ a ≤ 44) → a ≠ 48 → a ≠ 49 → S1.2.1 a = S.2.1 a
/-- as the reference holds what it has found -/
def mx_tA (b : Int × Int) (u y : Int32) : Prop := u.toInt = (if b.1 < 0 then 100000000 else b.2) ∧ y.toInt = b.1
section EL
variable {o oX oM g n p k : Nat} {G A A' : aR} {K : Nat → List Int} {L L' : s_L} {U : s_U} {F : s_F} {S S0 S1 SX SM T : dg_S} {x x' r c v t : Int} {a a1 a2 a3 a4 y : Int32}
theorem k_z.rf : k_z S S := ⟨fun _ _ => rfl, fun _ _ _ _ => rfl⟩
theorem k_z.tr (h : k_z S S0) (k : k_z S0 S1) : k_z S S1 := ⟨fun b hb => (k.1 b hb).trans (h.1 b hb), fun a h1 h2 h3 => (k.2 a h1 h2 h3).trans (h.2 a h1 h2 h3)⟩
theorem k_y.kz (h : k_y S S1) : k_z S S1 := ⟨h.1, fun a h1 h2 _ => h.2 a h1 h2⟩
theorem s_te_b : s_te G K A F = (-1, 22) ∨ (64 ≤ (s_te G K A F).1 ∧ (s_te G K A F).1 < 64 * ((s_W A : Int) + 1) ∧ 0 ≤ (s_te G K A F).2 ∧ (s_te G K A F).2 ≤ 21) := by
  unfold s_te
  by_cases q : s_rs G K A F 21 = 0
  · rw [s_if_y q]
    exact Or.inl rfl
  · rw [s_if_n q]
    rcases s_tl_b (G := G) (K := K) (A := A) (F := F) (64 * (s_W A + 1)) with h | ⟨h1, h2, h3⟩
    · exact Or.inl h
    · exact Or.inr ⟨h1, by omega, h3⟩
theorem cx_seekTelling (ok : s_ok G K A U) (h : RX o g G K A L U x S) {V : Nat} (hV : s_rs G K A F 21 = V) (h1 : a1.toInt = V) : ∃ S1, F_e_seekTelling o S g 3 a1 = S1 ∧ RX o g G K A L U x S1 ∧ cx_tA (s_te G K A F) S1 ∧ k_s8 S S1 := by
  have z0 : (0 : Int32).toInt = 0 := by decide +kernel
  have z1 : (1 : Int32).toInt = 1 := by decide +kernel
  have z21 : (21 : Int32).toInt = 21 := by decide +kernel
  have z22 : (22 : Int32).toInt = 22 := by decide +kernel
  have z30 : (30 : Int32).toInt = 30 := by decide +kernel
  have z999 : (999 : Int32).toInt = 999 := by decide +kernel
  have m1 : (-1 : Int32).toInt = -1 := by decide +kernel
  have hw0 := ok.2.2.1.1.1
  have sep := rX_sep h.2.1.1.1
  obtain ⟨S2, h2⟩ : ∃ X, X = dg_uF S 229 4 (.int (1 : Int32)) := ⟨_, rfl⟩
  obtain ⟨S4, h4⟩ : ∃ X, X = dg_uF S2 229 7 (.int (-1 : Int32)) := ⟨_, rfl⟩
  obtain ⟨S6, h6⟩ : ∃ X, X = dg_uF S4 229 8 (.int (22 : Int32)) := ⟨_, rfl⟩
  have t6 : kp (fun a b => a = 229 ∧ (b = 4 ∨ b = 7 ∨ b = 8)) (fun _ => False) S S6 := by
    rw [h6, h4, h2]
    exact kp.uF (kp.uF (kp.uF kp.rf ⟨rfl, Or.inl rfl⟩) ⟨rfl, Or.inr (Or.inl rfl)⟩) ⟨rfl, Or.inr (Or.inr rfl)⟩
  have r6 : RX o g G K A L U x S6 := h.keep t6 (by omega) (by omega) (fun a b _ _ => by omega) (fun b => by omega) (fun b => by omega) (fun a b _ _ => by omega) (fun a _ _ => id) (fun a _ _ => id) id (fun a _ _ => id)
  have s6 : k_s8 S S6 := ⟨fun b => t6.I (fun z => by omega), fun b b4 b6 b7 b8 => t6.I (fun z => by omega), (t6.2 230 id).1⟩
  have A6 : cx_tA (-1, 22) S6 := by
    refine ⟨?_, ?_, fun z => absurd z (by decide)⟩
    · rw [h6, w_I, if_pos ⟨rfl, rfl⟩]
      exact z22
    · rw [h6, w_I0 (by decide), h4, w_I, if_pos ⟨rfl, rfl⟩]
      exact m1
  by_cases q : a1 = (0 : Int32)
  · have d := dk_eqc z0 q
    rw [h1] at d
    refine ⟨S6, F_e_seekTelling_p6 h2 h4 h6 q, r6, ?_, s6⟩
    unfold s_te
    rw [s_if_y (by rw [hV]; exact d)]
    exact A6
  have d := dk_neqc z0 q
  rw [h1] at d
  have ete : s_te G K A F = s_tl G K A F (64 * (s_W A + 1)) := s_if_n (by rw [hV]; exact d)
  rw [F_e_seekTelling_p5 h2 h4 h6 q, ete]
  have first := lp_cnt (f := F_e_seekTelling_B3 3 o g a1 S) (z := S) (W := 21) (P := fun m T => RX o g G K A L U x T ∧ k_sk S6 T ∧ ∀ r : Nat, r < m → cx_pit G A T (233 + 7 * r)) (Q := fun q => ∃ T, q = F_e_seekTelling_J1 T 3 o g a1 S ∧ RX o g G K A L U x T ∧ k_sk S6 T ∧ ∀ r : Nat, r < 21 → cx_pit G A T (233 + 7 * r)) (by decide) (fun m mI T hm hmI hP => by
    obtain ⟨t1, t2, t3⟩ := hP
    have q0 : ¬ (21 : Int32) ≤ mI := fun z => by have := dk_gec z21 z; omega
    have mn : mI.toNatClampNeg = m := by rw [dk_clN]; omega
    obtain ⟨d, hd⟩ : ∃ d, d = 233 + 7 * m := ⟨_, rfl⟩
    have pd : pX d := by rw [hd]; exact pX_f hm
    have dd : d = 233 + 7 * mI.toNatClampNeg := by rw [mn]; exact hd
    obtain ⟨S3, e3, k3, p3⟩ := cx_copy (o := o) (S := T) (p := d) (q := 3) pd pX_3' (by omega) t1.2.2.1 ok.1.1.2.2.2
    have r3 : RX o g G K A L U x S3 := t1.keep k3 (by omega) (by omega) (fun a b _ _ => by omega) (fun b => by omega) (fun b => by omega) (fun a b _ _ => by omega) (fun a _ _ => by omega) (fun a _ _ => by omega) (by omega) (fun a _ _ => by omega)
    refine ⟨S3, F_e_seekTelling_p4 q0 dd e3.symm rfl, r3, t2.tr (k3.sk (fun b => by omega) (fun b => by omega) (by omega)), fun r hr => ?_⟩
    by_cases w : r = m
    · rw [w, ← hd]
      exact p3
    · exact (t3 r (by omega)).keep (fun i i1 i2 => (k3.2 i (by omega)).1) (fun b b2 => k3.I (fun z => by omega))) (fun mI T hmI hP => ⟨_, F_e_seekTelling_p3 (dk_gep z21 (by omega)), T, rfl, hP⟩) ((22 - ((0 : Int32)).toInt).toNat + 1) 0 0 S6 (by rw [z0]; decide) (by decide) z0 ⟨r6, k_sk.rf, fun r hr => absurd hr (Nat.not_lt_zero r)⟩
  obtain ⟨T, eT, rT, kT, pT⟩ := first
  rw [eT]
  have p0 : (zI T 3 0).toInt = A 0 0 := rT.2.2.1.2.1
  obtain ⟨w, hw⟩ : ∃ w : Int32, w = (if (999 : Int32) - zI T 3 0 < (30 : Int32) then (999 : Int32) - zI T 3 0 else (30 : Int32)) := ⟨_, rfl⟩
  have es : ((999 : Int32) - zI T 3 0).toInt = 999 - A 0 0 := dk_subT z999 p0 (by omega) (by omega)
  have hwW : w.toInt = s_W A := by
    rw [hw]
    unfold s_W
    by_cases q2 : (999 : Int32) - zI T 3 0 < (30 : Int32)
    · have d2 := dk_ltc z30 q2
      rw [if_pos q2, es]
      omega
    · have d2 : ¬ ((999 : Int32) - zI T 3 0).toInt < (30 : Int32).toInt := fun z => q2 (w_lt.mpr z)
      rw [es, z30] at d2
      rw [if_neg q2, z30]
      omega
  have hW : s_W A ≤ 30 := by unfold s_W; omega
  rw [F_e_seekTelling_p2 rfl rfl hw]
  have main := lp_cnt (f := F_e_seekTelling_B2 w o g a1 3) (z := S) (W := s_W A + 1) (P := fun k T1 => 1 ≤ k ∧ RX o g G K A L U x T1 ∧ cx_ps G K A F (k - 1) T1 ∧ cx_tA (s_tl G K A F (64 * k)) T1 ∧ k_s8 S T1) (Q := fun T1 => RX o g G K A L U x T1 ∧ cx_tA (s_tl G K A F (64 * (s_W A + 1))) T1 ∧ k_s8 S T1) (by omega) (fun k kI T1 hk hkI hP => by
    obtain ⟨t0, t1, t2, t3, t4⟩ := hP
    have q0 : ¬ w < kI := fun z => by have := w_lt.mp z; omega
    obtain ⟨T2, e2, r2, p2, k2⟩ := cx_passAll (o := o) (a1 := a1) ok t1 t2 hV h1
    rw [show k - 1 + 1 = k by omega] at p2
    obtain ⟨T3, e3, k3, v3⟩ := cx_tryAll (o := o) (a1 := a1) (a2 := kI) ok r2 p2 hV h1 hkI t0 (by omega) (t3.keep k2)
    have r3 : RX o g G K A L U x T3 := r2.keep k3 (by omega) (by omega) (fun a b _ _ => by omega) (fun b => by omega) (fun b => by omega) (fun a b _ _ => by omega) (fun a _ _ => by omega) (fun a _ _ => by omega) (by omega) (fun a _ _ => by omega)
    have s3 : k_s8 T2 T3 := ⟨fun b => k3.I (fun z => by omega), fun b b4 b6 b7 b8 => k3.I (fun z => by omega), (k3.2 230 (by decide)).1⟩
    exact ⟨T3, F_e_seekTelling_p1 q0 e2.symm e3.symm rfl, by omega, r3, p2.kp k3 (fun a b h z => by omega) (fun a h z => by omega), v3, t4.tr (k2.s8.tr s3)⟩) (fun kI T1 hkI hP => ⟨T1, F_e_seekTelling_p0 (w_lt.mpr (by omega)), hP.2.1, hP.2.2.2⟩) ((32 - ((1 : Int32)).toInt).toNat + 1) 1 1 T (by rw [z1]; omega) (by omega) z1 ⟨Nat.le_refl 1, rT, fun r h21 _ => pT r h21, by rw [show 64 * 1 = 64 from rfl, s_tl_64]; exact A6.keep kT, s6.tr kT.s8⟩
  exact ⟨_, rfl, main.1, main.2⟩
/-- the answer of the class -/
theorem cx_tellJ {b : Int × Int} (hb : b = (-1, 22) ∨ (64 ≤ b.1 ∧ b.1 < 2000 ∧ 0 ≤ b.2 ∧ b.2 ≤ 21)) (h : cx_tA b S) : ∃ y : Int32, F_d_tells_J1 S a1 = (S, y) ∧ y.toInt = s_tv b a1.toInt := by
  have z0 : (0 : Int32).toInt = 0 := by decide +kernel
  have z1 : (1 : Int32).toInt = 1 := by decide +kernel
  have z2 : (2 : Int32).toInt = 2 := by decide +kernel
  have z8 : (8 : Int32).toInt = 8 := by decide +kernel
  have m1 : (-1 : Int32).toInt = -1 := by decide +kernel
  obtain ⟨h8, h7, h6⟩ := h
  unfold s_tv
  by_cases q : zI S 229 7 = (-1 : Int32)
  · have d := dk_eqc m1 q
    rw [h7] at d
    refine ⟨-1, F_d_tells_p4 rfl q, ?_⟩
    by_cases w : b.1 < 0
    · rw [if_pos w]
      exact m1
    · rw [if_neg w] at d
      omega
  have d := dk_neqc m1 q
  rw [h7] at d
  have w : ¬ b.1 < 0 := fun z => by
    rw [if_pos z] at d
    exact d rfl
  rw [if_neg w] at h7 ⊢
  by_cases q0 : a1 = (0 : Int32)
  · have d0 := dk_eqc z0 q0
    rw [if_pos d0]
    exact ⟨_, F_d_tells_p1 rfl q q0 rfl, h6 (by omega)⟩
  have d0 := dk_neqc z0 q0
  rw [if_neg d0]
  by_cases q1 : a1 = (1 : Int32)
  · have d1 := dk_eqc z1 q1
    rw [if_pos d1]
    refine ⟨_, F_d_tells_p2 rfl q q0 q1 rfl, ?_⟩
    rw [dk_subT h7 z8 (by omega) (by omega)]
    omega
  have d1 := dk_neqc z1 q1
  rw [if_neg d1]
  by_cases q2 : a1 = (2 : Int32)
  · have d2 := dk_eqc z2 q2
    rw [if_pos d2]
    exact ⟨_, F_d_tells_p3 rfl q q0 q1 q2 rfl, h8⟩
  have d2 := dk_neqc z2 q2
  rw [if_neg d2]
  exact ⟨_, F_d_tells_p0 rfl q q0 q1 q2, m1⟩
/-- TELLS of the class -/
theorem cx_tells (ok : s_ok G K A U) (fk : s_fk G F) (h : RX o g G K A L U x S) (hf : cx_fe F S) (hs : cx_ct G K A F S) : ∃ (S1 : dg_S) (y : Int32), F_d_tells o S a1 = (S1, y) ∧ y.toInt = s_if (A 0 0 + 1 ≤ 999) (s_tv (s_te G K A F) a1.toInt) (-1) ∧ RX o g G K A L U x S1 ∧ cx_ct G K A F S1 ∧ k_s8 S S1 := by
  have z0 : (0 : Int32).toInt = 0 := by decide +kernel
  have z1 : (1 : Int32).toInt = 1 := by decide +kernel
  have m1 : (-1 : Int32).toInt = -1 := by decide +kernel
  have hW : s_W A ≤ 30 := by unfold s_W; omega
  have hb : s_te G K A F = (-1, 22) ∨ (64 ≤ (s_te G K A F).1 ∧ (s_te G K A F).1 < 2000 ∧ 0 ≤ (s_te G K A F).2 ∧ (s_te G K A F).2 ≤ 21) := by
    rcases s_te_b (G := G) (K := K) (A := A) (F := F) with h | ⟨h1, h2, h3⟩
    · exact Or.inl h
    · exact Or.inr ⟨h1, by omega, h3⟩
  have hcm := cx_come (o := o) (a1 := 1) (a2 := 1) (a3 := 1) h.2.1 h.1 ok.1.1 ok.2.2.1.1 h.2.2.1 (by decide +kernel) (by decide +kernel)
  rw [z1] at hcm
  rcases hcm with ⟨e, w⟩ | ⟨e, w⟩
  rotate_left
  · exact ⟨S, -1, F_d_tells_p7 rfl e, by rw [s_if_n (fun z => w ⟨by decide, by decide, z⟩)]; exact m1, h, hs, k_s8.rf⟩
  have ne : ¬ F_d_shiftsCome o S (1 : Int32) (1 : Int32) (1 : Int32) = (0 : Int32) := by rw [e]; decide +kernel
  rw [s_if_y w.2.2]
  by_cases q : zI S 229 4 = (0 : Int32)
  · obtain ⟨S1, y1, e1, v1, r1, k1⟩ := cx_reachBits (o := o) ok fk h hf
    have rb := s_rs_b (G := G) (K := K) (A := A) (F := F) 21
    obtain ⟨V, hV⟩ : ∃ V : Nat, s_rs G K A F 21 = V := ⟨(s_rs G K A F 21).toNat, by omega⟩
    obtain ⟨S2, e2, r2, c2, k2⟩ := cx_seekTelling (o := o) (a1 := y1) (F := F) ok r1 hV (by rw [v1, hV])
    obtain ⟨y, e3, v3⟩ := cx_tellJ (a1 := a1) hb c2
    exact ⟨S2, y, (F_d_tells_p6 rfl ne rfl q h.1.symm (show S1 = _ by rw [e1]) (show y1 = _ by rw [e1]) e2.symm).trans e3, v3, r2, Or.inr c2, k1.s8.tr k2⟩
  · have d := dk_neqc z0 q
    rcases hs with hs | hs
    · exact absurd hs d
    · obtain ⟨y, e3, v3⟩ := cx_tellJ (a1 := a1) hb hs
      exact ⟨S, y, (F_d_tells_p5 rfl ne rfl q).trans e3, v3, h, Or.inr hs, k_s8.rf⟩
/-- how many are left at most, by one cell: the reference -/
theorem mx_mostBy (ok : s_ok G K A U) (hg : ∀ m, m < 21 → mx_gb G K A m k S) {V : Nat} (hV : s_rs G K A F 21 = V) (h1 : a1.toInt = V) (h2 : a2.toInt = k) (hk30 : k ≤ 30) (hc : s_in G c) (h3 : a3.toInt = c) : ∃ (S1 : dg_S) (y : Int32), F_m_mostBy o S a1 a2 a3 = (S1, y) ∧ y.toInt = s_lf G K A F k c ∧ kp (fun _ _ => False) (fun a => a = 49) S S1 := by
  have z0 : (0 : Int32).toInt = 0 := by decide +kernel
  have z1 : (1 : Int32).toInt = 1 := by decide +kernel
  have z10 : (10 : Int32).toInt = 10 := by decide +kernel
  have z20 : (20 : Int32).toInt = 20 := by decide +kernel
  have z31 : (31 : Int32).toInt = 31 := by decide +kernel
  have z64 : (64 : Int32).toInt = 64 := by decide +kernel
  have hc0 := hc.1
  have hc1 := hc.2
  have hgb := ok.1.1.1
  have V31 : V < 2 ^ 31 := by
    have := (s_rs_b (G := G) (K := K) (A := A) (F := F) 21).2
    rw [hV] at this
    have : V < 2 ^ 21 := by omega
    exact Nat.lt_trans this (by decide)
  obtain ⟨P, eP⟩ : ∃ P : Nat → Prop, P = fun r : Nat => s_rc G K A F (r : Int) := ⟨_, rfl⟩
  obtain ⟨gg, eg⟩ : ∃ gg : Nat → Int, gg = fun r : Nat => s_gr9 (s_n G K (r : Int) k A) c := ⟨_, rfl⟩
  have hl : s_lf G K A F k c = s_most P gg 21 := by rw [eP, eg]; rfl
  have gb : ∀ r : Nat, -1 ≤ gg r ∧ gg r ≤ 9 := fun r => by
    rw [eg]
    exact s_gr9_b (s_n_ok ok.1.1 ok.2.2.1.1 ok.2.2.1.2 k).2 hc
  rw [F_m_mostBy_p9, hl]
  have first := lp_cnt (f := F_m_mostBy_B5 o a1 a2 a3 S) (z := (S, (0 : Int32))) (W := 11) (P := fun i T => kp (fun _ _ => False) (fun a => a = 49) S T ∧ ∀ j, j < i → (T.2.1 49 j).toInt = 0) (Q := fun q => ∃ T, q = F_m_mostBy_J1 o a1 a2 a3 S T ∧ kp (fun _ _ => False) (fun a => a = 49) S T ∧ ∀ j, j < 11 → (T.2.1 49 j).toInt = 0) (by decide) (fun i iI T hi hiI hP => by
    obtain ⟨t1, t2⟩ := hP
    have q0 : ¬ (10 : Int32) < iI := fun z => by have := dk_gtc z10 z; omega
    have iN : iI.toNatClampNeg = i := by rw [dk_clN]; omega
    obtain ⟨T1, hT1⟩ : ∃ X, X = dg_uf T 49 (upd (T.2.1 49) iI.toNatClampNeg (0 : Int32)) := ⟨_, rfl⟩
    refine ⟨T1, F_m_mostBy_p8 q0 hT1 rfl, by rw [hT1]; exact t1.uf rfl, fun j hj => ?_⟩
    rw [hT1, w_f, if_pos rfl, w_u, iN]
    by_cases w : j = i
    · rw [if_pos w]
      exact z0
    · rw [if_neg w]
      exact t2 j (by omega)) (fun iI T hiI hP => ⟨_, F_m_mostBy_p7 (dk_gtp z10 (by omega)), T, rfl, hP⟩) ((12 - ((0 : Int32)).toInt).toNat + 1) 0 0 S (by rw [z0]; decide) (by decide) z0 ⟨kp.rf, fun j hj => absurd hj (Nat.not_lt_zero j)⟩
  obtain ⟨S2, e2, k2, v2⟩ := first
  rw [e2, F_m_mostBy_p6]
  have main := lp_cnt (f := F_m_mostBy_B2 o a1 a2 a3) (z := (S, (0 : Int32))) (W := 21) (P := fun m s => s.1.toInt = s_most P gg m ∧ kp (fun _ _ => False) (fun a => a = 49) S s.2 ∧ ∀ v : Int, (-1 ≤ v ∧ v ≤ 9) → (s.2.2.1 49 (v + 1).toNat).toInt = s_ct (fun i => P i ∧ gg i = v) m) (Q := fun q => q.2.toInt = s_most P gg 21 ∧ kp (fun _ _ => False) (fun a => a = 49) S q.1) (by decide) (fun m mI s hm hmI hP => by
    obtain ⟨u, T⟩ := s
    obtain ⟨t1, t2, t3⟩ := hP
    have t1 : u.toInt = s_most P gg m := t1
    have t2 : kp (fun _ _ => False) (fun a => a = 49) S T := t2
    have t3 : ∀ v : Int, (-1 ≤ v ∧ v ≤ 9) → (T.2.1 49 (v + 1).toNat).toInt = s_ct (fun i => P i ∧ gg i = v) m := t3
    have q0 : ¬ (20 : Int32) < mI := fun z => by have := dk_gtc z20 z; omega
    have hbit : (a1 >>> (mI &&& 31)) &&& 1 = 1 ↔ P m := by
      rw [w_bt h1 V31 hmI hm, s_rs_bit 21 V hV m hm, eP]
    by_cases q : P m
    rotate_left
    · refine ⟨(u, T), (F_m_mostBy_p5 q0 rfl (F_m_has2_p0 rfl rfl (fun z => q (hbit.mp z)))).trans (F_m_mostBy_p1 rfl), ?_, t2, fun v hv => ?_⟩
      · show u.toInt = s_most P gg (m + 1)
        rw [s_most_n q]
        exact t1
      · show (T.2.1 49 (v + 1).toNat).toInt = s_ct (fun i => P i ∧ gg i = v) m + s_b (P m ∧ gg m = v)
        rw [s_b0 (fun z => q z.1), t3 v hv]
        omega
    have nh : ¬ F_m_has2 o T a1 mI = (0 : Int32) := by
      rw [F_m_has2_p1 rfl rfl (hbit.mpr q)]
      decide +kernel
    have f1 : ((31 : Int32) * mI).toInt = 31 * (m : Int) := dk_mulT z31 hmI (by omega) (by omega)
    have f2 : ((31 : Int32) * mI + a2).toInt = 31 * (m : Int) + k := dk_addT f1 h2 (by omega) (by omega)
    have f3 : ((64 : Int32) * ((31 : Int32) * mI + a2)).toInt = 64 * (31 * (m : Int) + k) := dk_mulT z64 f2 (by omega) (by omega)
    have f4 : ((64 : Int32) * ((31 : Int32) * mI + a2) + a3).toInt = 64 * (31 * (m : Int) + k) + c := dk_addT f3 h3 (by omega) (by omega)
    have n4 : ((64 : Int32) * ((31 : Int32) * mI + a2) + a3).toNatClampNeg = 64 * (31 * m + k) + c.toNat := by rw [dk_clN, f4]; omega
    obtain ⟨w48, hw48⟩ : ∃ w : Int32, w = T.2.1 48 ((64 : Int32) * ((31 : Int32) * mI + a2) + a3).toNatClampNeg := ⟨_, rfl⟩
    have v48 : w48.toInt = gg m := by
      rw [hw48, n4, (t2.2 48 (by decide)).1, hg m hm c hc, eg]
    have gm := gb m
    have f5 : (w48 + 1).toInt = gg m + 1 := dk_addT v48 z1 (by omega) (by omega)
    have n5 : (w48 + 1).toNatClampNeg = (gg m + 1).toNat := by rw [dk_clN, f5]
    have cb := s_ct_b (P := fun i => P i ∧ gg i = gg m) m
    have e1 : (T.2.1 49 (w48 + 1).toNatClampNeg + 1).toInt = s_ct (fun i => P i ∧ gg i = gg m) m + 1 := dk_addT (by rw [n5]; exact t3 _ gm) z1 (by omega) (by omega)
    obtain ⟨T1, hT1⟩ : ∃ X, X = dg_uf T 49 (upd (T.2.1 49) (w48 + 1).toNatClampNeg (T.2.1 49 (w48 + 1).toNatClampNeg + 1)) := ⟨_, rfl⟩
    have k1 : kp (fun _ _ => False) (fun a => a = 49) S T1 := by rw [hT1]; exact t2.uf rfl
    have rows : ∀ v : Int, (-1 ≤ v ∧ v ≤ 9) → (T1.2.1 49 (v + 1).toNat).toInt = s_ct (fun i => P i ∧ gg i = v) (m + 1) := fun v hv => by
      show (T1.2.1 49 (v + 1).toNat).toInt = s_ct (fun i => P i ∧ gg i = v) m + s_b (P m ∧ gg m = v)
      rw [hT1, w_f, if_pos rfl, w_u, n5]
      by_cases q4 : gg m = v
      · rw [← q4, if_pos rfl, s_b1 ⟨q, rfl⟩, ← n5]
        exact e1
      · rw [if_neg (fun z => q4 (by omega)), s_b0 (fun z => q4 z.2), t3 v hv]
        omega
    by_cases q3 : T.2.1 49 (w48 + 1).toNatClampNeg + 1 ≤ u
    · have d3 := w_le.mp q3
      rw [e1, t1] at d3
      refine ⟨(u, T1), (F_m_mostBy_p3 q0 rfl nh rfl rfl rfl rfl hw48 rfl rfl rfl hT1 q3).trans (F_m_mostBy_p2.trans (F_m_mostBy_p1 rfl)), ?_, k1, rows⟩
      show u.toInt = s_most P gg (m + 1)
      rw [s_most_y q, t1]
      omega
    · have d3 : ¬ (T.2.1 49 (w48 + 1).toNatClampNeg + 1).toInt ≤ u.toInt := fun z => q3 (w_le.mpr z)
      rw [e1, t1] at d3
      refine ⟨(T.2.1 49 (w48 + 1).toNatClampNeg + 1, T1), (F_m_mostBy_p4 q0 rfl nh rfl rfl rfl rfl hw48 rfl rfl rfl hT1 q3).trans (F_m_mostBy_p2.trans (F_m_mostBy_p1 rfl)), ?_, k1, rows⟩
      show (T.2.1 49 (w48 + 1).toNatClampNeg + 1).toInt = s_most P gg (m + 1)
      rw [s_most_y q, e1]
      omega) (fun mI s hmI hP => by
    obtain ⟨u, T⟩ := s
    exact ⟨_, F_m_mostBy_p0 (dk_gtp z20 (by omega)), hP.1, hP.2.1⟩) ((22 - ((0 : Int32)).toInt).toNat + 1) 0 0 ((0 : Int32), S2) (by rw [z0]; decide) (by decide) z0 ⟨z0, k2, fun v hv => v2 _ (by omega)⟩
  exact ⟨_, _, rfl, main.1, main.2⟩
/-- row 49 alone -/
theorem RM.row49 (h : RM G K A L U x S) (hb : G 0 6 ≤ 16) (t : kp (fun _ _ => False) (fun a => a = 49) S S1) : RM G K A L U x S1 := h.keep hb t (fun _ _ => id) (fun a a1 => by omega) (fun a a1 a2 => by omega)
theorem mx_gb.row49 {m : Nat} (h : mx_gb G K A m k S) (t : kp (fun _ _ => False) (fun a => a = 49) S S1) : mx_gb G K A m k S1 := h.keep (fun j _ => by rw [(t.2 48 (by decide)).1])
/-- all cells behind k shifts: the reference -/
theorem mx_tell1 (ok : s_ok G K A U) (h : RM G K A L U x S) (hg : ∀ m, m < 21 → mx_gb G K A m k S) {V : Nat} (hV : s_rs G K A F 21 = V) {kI vI uI cI : Int32} (h1 : vI.toInt = V) (h2 : kI.toInt = k) (hk1 : 1 ≤ k) (hk30 : k ≤ 30) {S9 : dg_S} (ht : mx_tA (s_tl G K A F (64 * k)) uI cI) : ∃ (T : dg_S) (u1 c1 : Int32), lp (F_m_tells_B4 kI o vI) (Sum.inr (S9, (0 : Int32))) ((65 - ((0 : Int32)).toInt).toNat + 1) ((0 : Int32), uI, cI, S) = F_m_tells_J3 kI u1 c1 T ∧ kp (fun _ _ => False) (fun a => a = 49) S T ∧ mx_tA (s_tl G K A F (64 * (k + 1))) u1 c1 := by
  have z0 : (0 : Int32).toInt = 0 := by decide +kernel
  have z64 : (64 : Int32).toInt = 64 := by decide +kernel
  have zB : (100000000 : Int32).toInt = 100000000 := by decide +kernel
  have hb := ok.1.1.2.2.2
  have main := lp_cnt (f := F_m_tells_B4 kI o vI) (z := Sum.inr (S9, (0 : Int32))) (W := 64) (P := fun i s => kp (fun _ _ => False) (fun a => a = 49) S s.2.2 ∧ mx_tA (s_tl G K A F (64 * k + i)) s.1 s.2.1) (Q := fun q => ∃ (T : dg_S) (u1 c1 : Int32), q = F_m_tells_J3 kI u1 c1 T ∧ kp (fun _ _ => False) (fun a => a = 49) S T ∧ mx_tA (s_tl G K A F (64 * k + 64)) u1 c1) (by decide) (fun i iI s hi hiI hP => by
    obtain ⟨u, w, T⟩ := s
    obtain ⟨t1, t2⟩ := hP
    have t1 : kp (fun _ _ => False) (fun a => a = 49) S T := t1
    have t2 : mx_tA (s_tl G K A F (64 * k + i)) u w := t2
    have q0 : ¬ (64 : Int32) ≤ iI := fun z => by have := dk_gec z64 z; omega
    have rT := h.row49 hb t1
    obtain ⟨j, hj⟩ : ∃ j, j = 64 * k + i := ⟨_, rfl⟩
    have j1 : j / 64 = k := by omega
    have j2 : j % 64 = i := by omega
    have tb := s_tl_b (G := G) (K := K) (A := A) (F := F) j
    rw [← hj] at t2
    rw [show 64 * k + (i + 1) = j + 1 by omega]
    obtain ⟨u1, u2⟩ := t2
    have ub : u.toInt ≤ 21 ∨ u.toInt = 100000000 := by
      rcases tb with tb | ⟨b1, b2, b3, b4⟩
      · rw [tb] at u1
        exact Or.inr u1
      · rw [if_neg (by omega)] at u1
        omega
    rcases mx_isCellOf (o := o) (a := iI) rT.1.1.1 ok.1.1.1 with ⟨e, hin⟩ | ⟨e, hin⟩
    rotate_left
    · have nq : ¬ (100000000 : Int32) < u := fun z => by have := w_lt.mp z; omega
      refine ⟨(u, w, T), (F_m_tells_p12 q0 rfl e).trans ((F_m_tells_p11 nq).trans (F_m_tells_p9 rfl)), t1, ?_⟩
      rw [s_tl_n (fun z => hin (by have := z.1.2; rw [j2, ← hiI] at this; exact this))]
      exact ⟨u1, u2⟩
    have ne : ¬ F_m_isCellOf o T iI = (0 : Int32) := by rw [e]; decide +kernel
    rw [hiI] at hin
    obtain ⟨T1, y, e1, v1, k1⟩ := mx_mostBy (o := o) (S := T) (a1 := vI) (a2 := kI) (a3 := iI) (c := (i : Int)) ok (fun m hm => (hg m hm).row49 t1) hV h1 h2 hk30 hin hiI
    have t9 : kp (fun _ _ => False) (fun a => a = 49) S T1 := t1.tr k1
    have Q := F_m_tells_p13 (x_1513 := kI) (x_9 := vI) (x_1756 := u) (x_1757 := w) q0 rfl ne (show T1 = (F_m_mostBy o T vI kI iI).1 by rw [e1]) (show y = (F_m_mostBy o T vI kI iI).2 by rw [e1])
    have hP9 : s_tP G j := ⟨by omega, by rw [j2]; exact hin⟩
    have el : s_lf G K A F (j / 64) ((j % 64 : Nat) : Int) = s_lf G K A F k (i : Int) := by rw [j1, j2]
    have lb := s_lf_b (G := G) (K := K) (A := A) (F := F) (k := k) (c := (i : Int))
    have less : y < u ↔ s_lf G K A F (j / 64) ((j % 64 : Nat) : Int) < (s_tl G K A F j).2 := by
      rw [w_lt, v1, u1, el]
      rcases tb with tb | ⟨b1, b2, b3, b4⟩
      · rw [tb]
        show s_lf G K A F k (i : Int) < (if (-1 : Int) < 0 then (100000000 : Int) else 22) ↔ s_lf G K A F k (i : Int) < 22
        rw [if_pos (by decide)]
        omega
      · rw [if_neg (by omega)]
    by_cases q2 : y < u
    · have e5 : ((64 : Int32) * kI).toInt = 64 * (k : Int) := dk_mulT z64 h2 (by omega) (by omega)
      have e6 : ((64 : Int32) * kI + iI).toInt = 64 * (k : Int) + i := dk_addT e5 hiI (by omega) (by omega)
      refine ⟨(y, (64 : Int32) * kI + iI, T1), Q.trans ((F_m_tells_p10 q2 rfl rfl).trans (F_m_tells_p9 rfl)), t9, ?_⟩
      rw [s_tl_y hP9 (less.mp q2), el]
      refine ⟨?_, ?_⟩
      · show y.toInt = if (j : Int) < 0 then 100000000 else s_lf G K A F k (i : Int)
        rw [if_neg (by omega)]
        exact v1
      · show ((64 : Int32) * kI + iI).toInt = (j : Int)
        omega
    · refine ⟨(u, w, T1), Q.trans ((F_m_tells_p11 q2).trans (F_m_tells_p9 rfl)), t9, ?_⟩
      rw [s_tl_n (fun z => q2 (less.mpr z.2))]
      exact ⟨u1, u2⟩) (fun iI s hiI hP => by
    obtain ⟨u, w, T⟩ := s
    exact ⟨_, F_m_tells_p8 (dk_gep z64 (by omega)), T, u, w, rfl, hP.1, hP.2⟩) ((65 - ((0 : Int32)).toInt).toNat + 1) 0 0 (uI, cI, S) (by rw [z0]; decide) (by decide) z0 ⟨kp.rf, ht⟩
  exact main
/-- TELLS of the reference -/
theorem mx_tells (ok : s_ok G K A U) (fk : s_fk G F) (h : RM G K A L U x S) (hf : mx_fe F S) : ∃ (S1 : dg_S) (y : Int32), F_m_tells o S a1 = (S1, y) ∧ y.toInt = s_if (A 0 0 + 1 ≤ 999) (s_tv (s_te G K A F) a1.toInt) (-1) ∧ RM G K A L U x S1 ∧ k_z S S1 := by
  have z0 : (0 : Int32).toInt = 0 := by decide +kernel
  have z1 : (1 : Int32).toInt = 1 := by decide +kernel
  have z2 : (2 : Int32).toInt = 2 := by decide +kernel
  have z30 : (30 : Int32).toInt = 30 := by decide +kernel
  have z64 : (64 : Int32).toInt = 64 := by decide +kernel
  have m1 : (-1 : Int32).toInt = -1 := by decide +kernel
  have zB : (100000000 : Int32).toInt = 100000000 := by decide +kernel
  have hb := ok.1.1.2.2.2
  have hw0 := ok.2.2.1.1.1
  have hW : s_W A ≤ 30 := by unfold s_W; omega
  have n47 : ¬ zI S 0 47 = (0 : Int32) := fun z => h.1.1.1.1 (dk_eqc z0 z)
  have tv1 : ∀ w : Int, s_tv (-1, 22) w = -1 := fun w => rfl
  rcases mx_is (o := o) (S := S) (a := a1) (b := (0 : Int32)) (c := (2 : Int32)) with ⟨e, w0, w2⟩ | ⟨e, w⟩
  rotate_left
  · rw [z0, z2] at w
    refine ⟨S, -1, F_m_tells_p16 rfl n47 rfl e, ?_, h, k_z.rf⟩
    rw [m1]
    by_cases q : A 0 0 + 1 ≤ 999
    · rw [s_if_y q]
      unfold s_tv
      by_cases q1 : (s_te G K A F).1 < 0
      · rw [if_pos q1]
      · rw [if_neg q1, if_neg (by omega), if_neg (by omega), if_neg (by omega)]
    · rw [s_if_n q]
  rw [z0] at w0
  rw [z2] at w2
  have ne : ¬ F_m_is o S a1 (0 : Int32) (2 : Int32) = (0 : Int32) := by rw [e]; decide +kernel
  obtain ⟨S1, y1, e1, v1, r1, k1, g1⟩ := mx_reachBits (o := o) ok fk h hf
  have rb := s_rs_b (G := G) (K := K) (A := A) (F := F) 21
  obtain ⟨V, hV⟩ : ∃ V : Nat, s_rs G K A F 21 = V := ⟨(s_rs G K A F 21).toNat, by omega⟩
  rw [F_m_tells_p15 rfl n47 rfl ne (show S1 = _ by rw [e1]) (show y1 = _ by rw [e1])]
  have come : ∀ (T : dg_S) (k : Nat) (kI : Int32), RM G K A L U x T → kI.toInt = k → 1 ≤ k → (F_m_isAhead o T kI (1 : Int32) (30 : Int32) = 1 ∧ k ≤ s_W A ∨ F_m_isAhead o T kI (1 : Int32) (30 : Int32) = 0 ∧ ¬ k ≤ s_W A) := fun T k kI rT hkI hk => by
    have := mx_come (o := o) (a1 := kI) (a2 := 1) (a3 := 30) rT.1.1.1 rT.2.1 ok.2.2.1.1 (by decide +kernel) (by decide +kernel)
    rw [z1, z30] at this
    unfold s_W
    rcases this with ⟨e, w⟩ | ⟨e, w⟩
    · exact Or.inl ⟨e, by omega⟩
    · exact Or.inr ⟨e, by omega⟩
  have hJ : ∀ (T : dg_S) (u w : Int32) (b : Int × Int), mx_tA b u w → (b = (-1, 22) ∨ (64 ≤ b.1 ∧ b.1 < 2000 ∧ 0 ≤ b.2 ∧ b.2 ≤ 21)) → ∃ y : Int32, F_m_tells_J1 w T a1 u = (T, y) ∧ y.toInt = s_tv b a1.toInt := fun T u w b ht hbb => by
    obtain ⟨h1, h2⟩ := ht
    unfold s_tv
    by_cases q : w = (-1 : Int32)
    · have d := dk_eqc m1 q
      refine ⟨-1, F_m_tells_p4 q, ?_⟩
      rw [if_pos (by omega)]
      exact m1
    have d := dk_neqc m1 q
    have nb : ¬ b.1 < 0 := by
      rcases hbb with hbb | hbb
      · rw [hbb] at h2
        exact absurd h2 d
      · omega
    rw [if_neg nb] at h1 ⊢
    by_cases q0 : a1 = (0 : Int32)
    · have d0 := dk_eqc z0 q0
      rw [if_pos d0]
      exact ⟨_, F_m_tells_p3 q q0 rfl, by rw [dk_divL (by omega) z64 (by decide), h2]⟩
    have d0 := dk_neqc z0 q0
    rw [if_neg d0]
    by_cases q1 : a1 = (1 : Int32)
    · have d1 := dk_eqc z1 q1
      rw [if_pos d1]
      exact ⟨_, F_m_tells_p2 q q0 q1 rfl, by rw [dk_remL (by omega) z64 (by decide), h2]⟩
    have d1 := dk_neqc z1 q1
    rw [if_neg d1, if_pos (by omega)]
    exact ⟨_, F_m_tells_p1 q q0 q1, h1⟩
  by_cases qV : y1 = (0 : Int32)
  · have d := dk_eqc z0 qV
    rw [v1, hV] at d
    have ete : s_te G K A F = (-1, 22) := s_if_y (by rw [hV]; exact d)
    have t0 : mx_tA (-1, 22) (100000000 : Int32) (-1 : Int32) := ⟨zB, m1⟩
    obtain ⟨y, ey, vy⟩ := hJ S1 _ _ _ t0 (Or.inl rfl)
    refine ⟨S1, y, ?_, ?_, r1, k1.kz⟩
    · refine Eq.trans (lp_sr (r := (S1, y)) ?_) rfl
      rcases come S1 1 1 r1 z1 (Nat.le_refl 1) with ⟨e5, -⟩ | ⟨e5, -⟩
      · exact (F_m_tells_p6 rfl (by rw [e5]; decide +kernel) qV).trans (congrArg Sum.inr ey)
      · exact (F_m_tells_p5 rfl e5).trans (congrArg Sum.inr ey)
    · rw [vy, ete, tv1]
      by_cases q : A 0 0 + 1 ≤ 999
      · rw [s_if_y q]
      · rw [s_if_n q]
  have d := dk_neqc z0 qV
  rw [v1, hV] at d
  have ete : s_te G K A F = s_tl G K A F (64 * (s_W A + 1)) := s_if_n (by rw [hV]; exact d)
  have main := lp_cnt2 (f := F_m_tells_B2 o a1 y1 S) (z := (S, (0 : Int32))) (W := s_W A + 1) (P := fun k s => 1 ≤ k ∧ kp (fun _ _ => False) (fun a => a = 49) S1 s.2.2 ∧ mx_tA (s_tl G K A F (64 * k)) s.1 s.2.1) (Q := fun q => ∃ (T : dg_S) (y : Int32), q = (T, y) ∧ y.toInt = s_tv (s_te G K A F) a1.toInt ∧ kp (fun _ _ => False) (fun a => a = 49) S1 T) (by omega) (fun k kI s hk hkI hP => by
    obtain ⟨u, w, T⟩ := s
    obtain ⟨t0, t1, t2⟩ := hP
    have t1 : kp (fun _ _ => False) (fun a => a = 49) S1 T := t1
    have t2 : mx_tA (s_tl G K A F (64 * k)) u w := t2
    have rT := r1.row49 hb t1
    rcases come T k kI rT hkI t0 with ⟨e5, -⟩ | ⟨-, e5⟩
    rotate_left
    · omega
    have ne5 : ¬ F_m_isAhead o T kI (1 : Int32) (30 : Int32) = (0 : Int32) := by rw [e5]; decide +kernel
    obtain ⟨T1, u1, c1, e6, k6, v6⟩ := mx_tell1 (o := o) (S9 := S) (vI := y1) (kI := kI) ok rT (fun m hm => (g1 m hm k (by omega)).row49 t1) hV (by rw [v1, hV]) hkI t0 (by omega) t2
    exact Or.inl ⟨(u1, c1, T1), (F_m_tells_p14 rfl ne5 qV).trans (e6.trans (F_m_tells_p7 rfl)), by omega, t1.tr k6, v6⟩) (fun kI s hkI hP => by
    obtain ⟨u, w, T⟩ := s
    obtain ⟨t0, t1, t2⟩ := hP
    have t1 : kp (fun _ _ => False) (fun a => a = 49) S1 T := t1
    have t2 : mx_tA (s_tl G K A F (64 * (s_W A + 1))) u w := t2
    have rT := r1.row49 hb t1
    rcases come T (s_W A + 1) kI rT (by omega) t0 with ⟨-, e5⟩ | ⟨e5, -⟩
    · omega
    rw [← ete] at t2
    obtain ⟨y, ey, vy⟩ := hJ T u w _ t2 (by
      rcases s_te_b (G := G) (K := K) (A := A) (F := F) with h | ⟨h1, h2, h3⟩
      · exact Or.inl h
      · exact Or.inr ⟨h1, by omega, h3⟩)
    exact ⟨_, F_m_tells_p5 rfl e5, T, y, ey, vy, t1⟩) ((32 - ((1 : Int32)).toInt).toNat + 1) 1 1 ((100000000 : Int32), (-1 : Int32), S1) (by rw [z1]; omega) (by omega) z1 ⟨Nat.le_refl 1, kp.rf, by rw [show 64 * 1 = 64 from rfl, s_tl_64]; exact ⟨zB, m1⟩⟩
  obtain ⟨T, y, e9, v9, k9⟩ := main
  refine ⟨T, y, e9, ?_, r1.row49 hb k9, k1.kz.tr ⟨fun b _ => k9.I id, fun a _ _ h => (k9.2 a h).1⟩⟩
  rw [v9]
  by_cases q : A 0 0 + 1 ≤ 999
  · rw [s_if_y q]
  · rw [s_if_n q]
    have : s_W A = 0 := by unfold s_W; omega
    rw [ete, this, show 64 * (0 + 1) = 64 from rfl, s_tl_64]
    rfl
/-- TELLS on both sides -/
theorem sim_tells (ok : s_ok G K A U) (fk : s_fk G F) (hX : RX oX g G K A L U x SX) (hfX : cx_fe F SX) (hsX : cx_ct G K A F SX) (hM : RM G K A L U x SM) (hfM : mx_fe F SM) : (F_d_tells oX SX a1).2 = (F_m_tells oM SM a1).2 ∧ RX oX g G K A L U x (F_d_tells oX SX a1).1 ∧ cx_ct G K A F (F_d_tells oX SX a1).1 ∧ k_s8 SX (F_d_tells oX SX a1).1 ∧ RM G K A L U x (F_m_tells oM SM a1).1 ∧ k_z SM (F_m_tells oM SM a1).1 := by
  obtain ⟨S1, y1, e1, v1, r1, c1, k1⟩ := cx_tells (o := oX) (a1 := a1) ok fk hX hfX hsX
  obtain ⟨S2, y2, e2, v2, r2, k2⟩ := mx_tells (o := oM) (a1 := a1) ok fk hM hfM
  rw [e1, e2]
  exact ⟨Int32.toInt_inj.mp (v1.trans v2.symm), r1, c1, k1, r2, k2⟩
end EL
end
section
/-! HAS: both sides -/
def s_su (f : Nat → Int) : Nat → Int
  | 0 => 0
  | n + 1 => s_su f n + f n
theorem s_su_le {f : Nat → Int} (h : ∀ k, k < 6 → f k = 0 ∨ f k = 1) : ∀ n : Nat, n ≤ 6 → 0 ≤ s_su f n ∧ s_su f n ≤ n
  | 0, _ => ⟨Int.le_refl _, Int.le_refl _⟩
  | n + 1, hn => by
    have ih := s_su_le h n (by omega)
    have := h n (by omega)
    show 0 ≤ s_su f n + f n ∧ s_su f n + f n ≤ ((n + 1 : Nat) : Int)
    omega
theorem s_su_0 {f : Nat → Int} {m : Nat} (h : ∀ k, m ≤ k → k < 6 → f k = 0) : ∀ d : Nat, m + d ≤ 6 → s_su f (m + d) = s_su f m
  | 0, _ => rfl
  | d + 1, hd => by
    show s_su f (m + d) + f (m + d) = s_su f m
    rw [s_su_0 h d (by omega), h (m + d) (by omega) (by omega)]
    omega
/-- places and cells -/
theorem s_ct_8 {Q : Int → Prop} (h : ∀ c, Q c → 0 ≤ c) : ∀ n : Nat, s_ct (fun i => Q ((i : Int) - 8)) (8 + n) = s_ct (fun i => Q (i : Int)) n
  | 0 => by
    have zz : ∀ m : Nat, m ≤ 8 → s_ct (fun i => Q ((i : Int) - 8)) m = 0 := fun m => by
      induction m with
      | zero => intro _; rfl
      | succ m ih =>
        intro hm
        show s_ct (fun i => Q ((i : Int) - 8)) m + s_b (Q ((m : Int) - 8)) = 0
        rw [ih (by omega), s_b0 (fun z => by have := h _ z; omega)]
        rfl
    exact zz 8 (Nat.le_refl 8)
  | n + 1 => by
    show s_ct (fun i => Q ((i : Int) - 8)) (8 + n) + s_b (Q (((8 + n : Nat) : Int) - 8)) = s_ct (fun i => Q (i : Int)) n + s_b (Q (n : Int))
    rw [s_ct_8 h n, show (((8 + n : Nat) : Int) - 8) = (n : Int) by omega]
def s_cu (G A : aR) (c : Int) : Prop := s_in G c ∧ s_c A c = -2
section EM
variable {o oX oM g n p k : Nat} {G A A' : aR} {K : Nat → List Int} {L L' : s_L} {U : s_U} {F : s_F} {S S0 S1 SX SM T : dg_S} {x x' r c v t : Int} {a a1 a2 a3 a4 y : Int32}
theorem cx_flag {P : Prop} (hy : y.toInt = s_b P) : (F_flag o S y).toInt = s_b P := by
  have z0 : (0 : Int32).toInt = 0 := by decide +kernel
  have z1 : (1 : Int32).toInt = 1 := by decide +kernel
  have := s_b01 P
  by_cases w : y = (0 : Int32)
  · rw [F_flag_p0 w, z0, ← hy, w, z0]
  · rw [F_flag_p1 w, z1]
    have := dk_neqc z0 w
    omega
theorem cx_en254 (hv : v ≤ 9) : cx_en v = 254 ↔ v = -2 := by
  unfold cx_en
  by_cases w : v = -1
  · rw [if_pos w]
    exact ⟨fun z => by omega, fun z => by omega⟩
  · rw [if_neg w]
    by_cases u : v = -2
    · rw [if_pos u]
      exact ⟨fun _ => u, fun _ => rfl⟩
    · rw [if_neg u]
      exact ⟨fun z => by omega, fun z => absurd z u⟩
theorem cx_en255 (hv : v ≤ 9) : cx_en v = 255 ↔ v = -1 := by
  unfold cx_en
  by_cases w : v = -1
  · rw [if_pos w]
    exact ⟨fun _ => w, fun _ => rfl⟩
  · rw [if_neg w]
    refine ⟨fun z => ?_, fun z => absurd z w⟩
    split at z <;> omega
theorem cx_countOpen (h : cx_ce G A S 3) : (F_d_countOpen o S).toInt = s_ct (fun i => s_op G A (i : Int)) 64 := by
  have z0 : (0 : Int32).toInt = 0 := by decide +kernel
  have z72 : (72 : Int32).toInt = 72 := by decide +kernel
  rw [F_d_countOpen_p2, ← s_ct_8 (Q := s_op G A) (fun c z => z.1.1.1) 64]
  refine lp_cnt (f := F_d_countOpen_B1 o S) (z := (0 : Int32)) (W := 72) (P := fun p u => u.toInt = s_ct (fun i => s_op G A ((i : Int) - 8)) p) (Q := fun q => q.toInt = s_ct (fun i => s_op G A ((i : Int) - 8)) 72) (by decide) (fun p pI u hp hpI hP => ?_) (fun pI u hpI hP => ⟨_, F_d_countOpen_p0 (dk_gep z72 (by omega)), hP⟩) ((73 - ((0 : Int32)).toInt).toNat + 1) 0 0 0 (by rw [z0]; decide) (by decide) z0 z0
  have hP : u.toInt = s_ct (fun i => s_op G A ((i : Int) - 8)) p := hP
  have cb := s_ct_b (P := fun i => s_op G A ((i : Int) - 8)) p
  have q0 : ¬ (72 : Int32) ≤ pI := fun z => by have := dk_gec z72 z; omega
  have eo := cx_flag (o := o) (S := S) (cx_isOpen (o := o) (a := pI) h (by omega) (by omega))
  rw [hpI] at eo
  have b01 := s_b01 (s_op G A ((p : Int) - 8))
  refine ⟨_, F_d_countOpen_p1 q0 rfl rfl rfl rfl, ?_⟩
  show _ = s_ct (fun i => s_op G A ((i : Int) - 8)) p + s_b (s_op G A ((p : Int) - 8))
  exact dk_addT hP eo (by omega) (by omega)
theorem cx_countCurtains (h : cx_ce G A S 3) : (F_d_countCurtains o S).toInt = s_ct (fun i => s_cu G A (i : Int)) 64 := by
  have z0 : (0 : Int32).toInt = 0 := by decide +kernel
  have z1 : (1 : Int32).toInt = 1 := by decide +kernel
  have z72 : (72 : Int32).toInt = 72 := by decide +kernel
  have z254 : (254 : Int32).toInt = 254 := by decide +kernel
  rw [F_d_countCurtains_p4, ← s_ct_8 (Q := s_cu G A) (fun c z => z.1.1.1) 64]
  refine lp_cnt (f := F_d_countCurtains_B1 S o) (z := (0 : Int32)) (W := 72) (P := fun p u => u.toInt = s_ct (fun i => s_cu G A ((i : Int) - 8)) p) (Q := fun q => q.toInt = s_ct (fun i => s_cu G A ((i : Int) - 8)) 72) (by decide) (fun p pI u hp hpI hP => ?_) (fun pI u hpI hP => ⟨_, F_d_countCurtains_p0 (dk_gep z72 (by omega)), hP⟩) ((73 - ((0 : Int32)).toInt).toNat + 1) 0 0 0 (by rw [z0]; decide) (by decide) z0 z0
  have hP : u.toInt = s_ct (fun i => s_cu G A ((i : Int) - 8)) p := hP
  have cb := s_ct_b (P := fun i => s_cu G A ((i : Int) - 8)) p
  have b01 := s_b01 (s_cu G A ((p : Int) - 8))
  have q0 : ¬ (72 : Int32) ≤ pI := fun z => by have := dk_gec z72 z; omega
  have pn : pI.toNatClampNeg = p := by rw [dk_clN]; omega
  have ce := h (p : Int) (by omega) (by omega)
  have ev : (S.2.1 4 pI.toNatClampNeg).toInt = cx_at S 3 (p : Int) := by
    rw [pn]
    unfold cx_at
    rw [show ((p : Int)).toNat = p by omega]
  have fin : ∀ w : Int32, w.toInt = s_b (s_cu G A ((p : Int) - 8)) → F_d_countCurtains_B1 S o (pI, u) = F_d_countCurtains_J2 o S w u pI → ∃ s1, F_d_countCurtains_B1 S o (pI, u) = .inl (pI + 1, s1) ∧ s1.toInt = s_ct (fun i => s_cu G A ((i : Int) - 8)) (p + 1) := fun w hw e =>
    ⟨_, e.trans (F_d_countCurtains_p1 rfl rfl rfl), show _ = s_ct (fun i => s_cu G A ((i : Int) - 8)) p + s_b (s_cu G A ((p : Int) - 8)) from dk_addT hP (cx_flag hw) (by omega) (by omega)⟩
  by_cases q : S.2.1 4 pI.toNatClampNeg = (254 : Int32)
  · have d := dk_eqc z254 q
    rw [ev] at d
    refine fin 1 ?_ (F_d_countCurtains_p3 q0 rfl q)
    have hin : s_in G ((p : Int) - 8) := by
      apply Classical.byContradiction
      intro z
      have := ce.2 z
      omega
    rw [(ce.1 hin).1] at d
    rw [z1, s_b1 ⟨hin, (cx_en254 (ce.1 hin).2.2).mp d⟩]
  · have d := dk_neqc z254 q
    rw [ev] at d
    refine fin 0 ?_ (F_d_countCurtains_p2 q0 rfl q)
    rw [z0, s_b0 (fun z => d (by rw [(ce.1 z.1).1]; exact (cx_en254 (ce.1 z.1).2.2).mpr z.2))]
theorem cx_isLit (ok : s_ok G K A U) (h : RX o g G K A L U x S) (hi : cx_in o g G K (G 0 3) A L S) (hp : a.toInt = p) (h72 : p < 72) : ∃ (S1 : dg_S) (y : Int32), F_w_isLit o S a = (S1, y) ∧ y.toInt = s_b (s_lit G A (G 0 3) ((p : Int) - 8)) ∧ RX o g G K A L U x S1 ∧ cx_in o g G K (G 0 3) A L S1 := by
  have z0 : (0 : Int32).toInt = 0 := by decide +kernel
  have z1 : (1 : Int32).toInt = 1 := by decide +kernel
  have m1 : (-1 : Int32).toInt = -1 := by decide +kernel
  have z255 : (255 : Int32).toInt = 255 := by decide +kernel
  obtain ⟨SL, eL, lL, rL, l7, l6, l8, kL⟩ := cx_see (o := o) ok h hi
  have iL : cx_in o g G K (G 0 3) A L SL := ⟨l7, l6, l8, rL.2.1.1, rL.2.2.1, rL.2.2.2.1, Or.inr lL⟩
  have pn : a.toNatClampNeg = p := by rw [dk_clN]; omega
  have hfar : (SL.2.1 217 a.toNatClampNeg).toInt = s_fd G A ((p : Int) - 8) := by
    rw [← lL.1 ((p : Int) - 8)]
    unfold cx_far
    rw [if_pos (by omega), pn, show ((p : Int) - 8 + 8).toNat = p by omega]
  have eF : F_w_farOf o S a = (SL, SL.2.1 217 a.toNatClampNeg) := F_w_farOf_p0 eL.symm rfl
  have ce := rL.2.2.1.1 (p : Int) (by omega) (by omega)
  have ev : (SL.2.1 (3 + 1) a.toNatClampNeg).toInt = cx_at SL 3 (p : Int) := by
    rw [pn]
    unfold cx_at
    rw [show ((p : Int)).toNat = p by omega]
  by_cases w1 : SL.2.1 217 a.toNatClampNeg = (-1 : Int32)
  · have v1 := dk_eqc m1 w1
    rw [hfar] at v1
    exact ⟨SL, 0, F_w_isLit_p0 (S_2 := SL) (by rw [eF]) (by rw [eF]) w1, by rw [z0, s_b0 (fun z => z.2.1 v1)], rL, iL⟩
  have v1 := dk_neqc m1 w1
  rw [hfar] at v1
  by_cases w2 : zI S 214 8 < SL.2.1 217 a.toNatClampNeg
  · have v2 := w_lt.mp w2
    rw [hfar, hi.2.2.1] at v2
    exact ⟨SL, 0, F_w_isLit_p1 (S_2 := SL) (by rw [eF]) (by rw [eF]) w1 rfl w2, by rw [z0, s_b0 (fun z => by have := z.2.2; omega)], rL, iL⟩
  have v2 : ¬ (zI S 214 8).toInt < (SL.2.1 217 a.toNatClampNeg).toInt := fun z => w2 (w_lt.mpr z)
  rw [hfar, hi.2.2.1] at v2
  by_cases w3 : SL.2.1 (3 + 1) a.toNatClampNeg = (255 : Int32)
  · have v3 := dk_eqc z255 w3
    rw [ev] at v3
    have hin : s_in G ((p : Int) - 8) := by
      apply Classical.byContradiction
      intro z
      have := ce.2 z
      omega
    rw [(ce.1 hin).1] at v3
    exact ⟨SL, 1, F_w_isLit_p3 (S_2 := SL) (by rw [eF]) (by rw [eF]) w1 rfl w2 hi.1.symm rfl w3, by rw [z1, s_b1 ⟨⟨hin, (cx_en255 (ce.1 hin).2.2).mp v3⟩, v1, by omega⟩], rL, iL⟩
  · have v3 := dk_neqc z255 w3
    rw [ev] at v3
    exact ⟨SL, 0, F_w_isLit_p2 (S_2 := SL) (by rw [eF]) (by rw [eF]) w1 rfl w2 hi.1.symm rfl w3, by rw [z0, s_b0 (fun z => v3 (by rw [(ce.1 z.1.1).1]; exact (cx_en255 (ce.1 z.1.1).2.2).mpr z.1.2))], rL, iL⟩
theorem cx_countLit (ok : s_ok G K A U) (h : RX o g G K A L U x S) : ∃ (S1 : dg_S) (y : Int32), F_d_countLit o S = (S1, y) ∧ y.toInt = s_ct (fun i => s_lit G A (G 0 3) (i : Int)) 64 ∧ RX o g G K A L U x S1 := by
  have z0 : (0 : Int32).toInt = 0 := by decide +kernel
  have z72 : (72 : Int32).toInt = 72 := by decide +kernel
  obtain ⟨S7, e7, r7, i7⟩ := cx_look (o := o) ok h
  rw [F_d_countLit_p2 h.1.symm rfl (cx_hasSeam h ok) rfl e7.symm, ← s_ct_8 (Q := s_lit G A (G 0 3)) (fun c z => z.1.1.1.1) 64]
  have main := lp_cnt (f := F_d_countLit_B1 o) (z := (S, (0 : Int32))) (W := 72) (P := fun p s => s.1.toInt = s_ct (fun i => s_lit G A (G 0 3) ((i : Int) - 8)) p ∧ RX o g G K A L U x s.2 ∧ cx_in o g G K (G 0 3) A L s.2) (Q := fun q => q.2.toInt = s_ct (fun i => s_lit G A (G 0 3) ((i : Int) - 8)) 72 ∧ RX o g G K A L U x q.1) (by decide) (fun p pI s hp hpI hP => by
    obtain ⟨u, T⟩ := s
    obtain ⟨t1, t2, t3⟩ := hP
    have t1 : u.toInt = s_ct (fun i => s_lit G A (G 0 3) ((i : Int) - 8)) p := t1
    have cb := s_ct_b (P := fun i => s_lit G A (G 0 3) ((i : Int) - 8)) p
    have b01 := s_b01 (s_lit G A (G 0 3) ((p : Int) - 8))
    have q0 : ¬ (72 : Int32) ≤ pI := fun z => by have := dk_gec z72 z; omega
    obtain ⟨T1, y, e1, v1, r1, i1⟩ := cx_isLit (o := o) (a := pI) (p := p) ok t2 t3 hpI hp
    exact ⟨(u + F_flag o T1 y, T1), F_d_countLit_p1 q0 (by rw [e1]) (show y = _ by rw [e1]) rfl rfl rfl, show _ = s_ct (fun i => s_lit G A (G 0 3) ((i : Int) - 8)) p + s_b (s_lit G A (G 0 3) ((p : Int) - 8)) from dk_addT t1 (cx_flag v1) (by omega) (by omega), r1, i1⟩) (fun pI s hpI hP => by
    obtain ⟨u, T⟩ := s
    exact ⟨_, F_d_countLit_p0 (dk_gep z72 (by omega)), hP.1, hP.2.1⟩) ((73 - ((0 : Int32)).toInt).toNat + 1) 0 0 ((0 : Int32), S7) (by rw [z0]; decide) (by decide) z0 ⟨z0, r7, i7⟩
  exact ⟨_, _, rfl, main.1, main.2⟩
theorem cx_countHurt (ok : s_ok G K A U) (h : RX o g G K A L U x S) : (F_d_countHurt o S).toInt = s_su (fun k => A 2 k) (G 0 5).toNat := by
  have z0 : (0 : Int32).toInt = 0 := by decide +kernel
  have h5 := ok.1.2.2.2.1
  have hf : (zI S g 6).toInt = G 0 5 := h.2.1.2.1.2.2.2.2.1
  have hA := ok.2.2.1.1.2.2.1
  rw [F_d_countHurt_p2]
  refine lp_cnt (f := F_d_countHurt_B1 o S) (z := (0 : Int32)) (W := (G 0 5).toNat) (P := fun k u => u.toInt = s_su (fun k => A 2 k) k) (Q := fun q => q.toInt = s_su (fun k => A 2 k) (G 0 5).toNat) (by omega) (fun k kI u hk hkI hP => ?_) (fun kI u hkI hP => ⟨_, F_d_countHurt_p0 h.1.symm rfl (w_le.mpr (by omega)), hP⟩) ((7 - ((0 : Int32)).toInt).toNat + 1) 0 0 0 (by rw [z0]; omega) (by omega) z0 z0
  have hP : u.toInt = s_su (fun k => A 2 k) k := hP
  have sb := s_su_le (f := fun k => A 2 k) (fun k hk => by have := hA k hk; show A 2 k = 0 ∨ A 2 k = 1; omega) k (by omega)
  have ak := hA k (by omega)
  have kn : kI.toNatClampNeg = k := by rw [dk_clN]; omega
  have hu : (S.2.1 5 kI.toNatClampNeg).toInt = A 2 k := by rw [kn]; exact h.2.2.1.2.2.2.1 k (by omega)
  exact ⟨_, F_d_countHurt_p1 h.1.symm rfl (fun z => by have := w_le.mp z; omega) rfl rfl rfl, show _ = s_su (fun k => A 2 k) k + A 2 k from dk_addT hP hu (by omega) (by omega)⟩
/-- the reference counts cells -/
theorem mx_countC {f : Int32 × Int32 → (Int32 × Int32) ⊕ (dg_S × Int32)} {z : dg_S × Int32} {Q : Int → Prop} {T : dg_S} (h0 : ∀ (i : Nat) (iI u : Int32), i < 64 → iI.toInt = i → ∃ w : Int32, w.toInt = s_b (Q (i : Int)) ∧ f (iI, u) = .inl (iI + 1, u + w)) (h1 : ∀ (iI u : Int32), iI.toInt = 64 → f (iI, u) = .inr (T, u)) : ∃ y : Int32, lp f z ((65 - ((0 : Int32)).toInt).toNat + 1) ((0 : Int32), (0 : Int32)) = (T, y) ∧ y.toInt = s_ct (fun i => Q (i : Int)) 64 := by
  have z0 : (0 : Int32).toInt = 0 := by decide +kernel
  refine lp_cnt (f := f) (z := z) (W := 64) (P := fun p u => u.toInt = s_ct (fun i => Q (i : Int)) p) (Q := fun q => ∃ y : Int32, q = (T, y) ∧ y.toInt = s_ct (fun i => Q (i : Int)) 64) (by decide) (fun p pI u hp hpI hP => ?_) (fun pI u hpI hP => ⟨_, h1 pI u hpI, u, rfl, hP⟩) ((65 - ((0 : Int32)).toInt).toNat + 1) 0 0 0 (by rw [z0]; decide) (by decide) z0 z0
  have hP : u.toInt = s_ct (fun i => Q (i : Int)) p := hP
  have cb := s_ct_b (P := fun i => Q (i : Int)) p
  have b01 := s_b01 (Q (p : Int))
  obtain ⟨w, hw, e⟩ := h0 p pI u hp hpI
  exact ⟨_, e, show _ = s_ct (fun i => Q (i : Int)) p + s_b (Q (p : Int)) from dk_addT hP hw (by omega) (by omega)⟩
theorem mx_countOpen (ok : s_ok G K A U) (h : RM G K A L U x S) : ∃ y : Int32, lp (F_m_has_B1 S o) (S, (0 : Int32)) ((65 - ((0 : Int32)).toInt).toNat + 1) ((0 : Int32), (0 : Int32)) = (S, y) ∧ y.toInt = s_ct (fun i => s_op G A (i : Int)) 64 := by
  have z0 : (0 : Int32).toInt = 0 := by decide +kernel
  have z1 : (1 : Int32).toInt = 1 := by decide +kernel
  have z64 : (64 : Int32).toInt = 64 := by decide +kernel
  refine mx_countC (Q := s_op G A) (fun i iI u hi hiI => ?_) (fun iI u hiI => F_m_has_p7 (dk_gep z64 (by omega)))
  have q0 : ¬ (64 : Int32) ≤ iI := fun z => by have := dk_gec z64 z; omega
  rcases mx_isCellOf (o := o) (a := iI) h.1.1.1 ok.1.1.1 with ⟨e, hin⟩ | ⟨e, hin⟩
  rotate_left
  · rw [hiI] at hin
    exact ⟨0, by rw [z0, s_b0 (fun z => hin z.1)], (F_m_has_p10 q0 rfl e).trans (F_m_has_p9.trans (F_m_has_p8 rfl rfl))⟩
  have ne : ¬ F_m_isCellOf o S iI = (0 : Int32) := by rw [e]; decide +kernel
  have ho := mx_op (o := o) (a := 0) (b := iI) h.2.1.1 z0 (by decide) hin
  rw [hiI] at ho
  rcases ho with ⟨e2, y⟩ | ⟨e2, y⟩
  · exact ⟨1, by rw [z1, s_b1 y], (F_m_has_p12 q0 rfl ne rfl (by rw [e2]; decide +kernel)).trans (F_m_has_p8 rfl rfl)⟩
  · exact ⟨0, by rw [z0, s_b0 y], (F_m_has_p11 q0 rfl ne rfl e2).trans (F_m_has_p9.trans (F_m_has_p8 rfl rfl))⟩
theorem mx_countLit (ok : s_ok G K A U) (h : RM G K A L U x S) (hf : mx_fr G A S) {z : dg_S × Int32} : ∃ y : Int32, lp (F_m_has_B4 S o) z ((65 - ((0 : Int32)).toInt).toNat + 1) ((0 : Int32), (0 : Int32)) = (S, y) ∧ y.toInt = s_ct (fun i => s_lit G A (G 0 3) (i : Int)) 64 := by
  have z0 : (0 : Int32).toInt = 0 := by decide +kernel
  have z1 : (1 : Int32).toInt = 1 := by decide +kernel
  have z64 : (64 : Int32).toInt = 64 := by decide +kernel
  have h3 := ok.1.2.1
  refine mx_countC (Q := s_lit G A (G 0 3)) (fun i iI u hi hiI => ?_) (fun iI u hiI => F_m_has_p14 (dk_gep z64 (by omega)))
  have q0 : ¬ (64 : Int32) ≤ iI := fun z => by have := dk_gec z64 z; omega
  rcases mx_isCellOf (o := o) (a := iI) h.1.1.1 ok.1.1.1 with ⟨e, hin⟩ | ⟨e, hin⟩
  rotate_left
  · rw [hiI] at hin
    exact ⟨0, by rw [z0, s_b0 (fun z => hin z.1.1)], (F_m_has_p17 q0 rfl e).trans (F_m_has_p16.trans (F_m_has_p15 rfl rfl))⟩
  have ne : ¬ F_m_isCellOf o S iI = (0 : Int32) := by rw [e]; decide +kernel
  have hl := mx_lit (o := o) (a := 0) (b := iI) h.2.1.1 hf z0 (by decide) h.2.2.2.1 (by omega) hin
  rw [hiI] at hl
  rcases hl with ⟨e2, y⟩ | ⟨e2, y⟩
  · exact ⟨1, by rw [z1, s_b1 y], (F_m_has_p19 q0 rfl ne rfl (by rw [e2]; decide +kernel)).trans (F_m_has_p15 rfl rfl)⟩
  · exact ⟨0, by rw [z0, s_b0 y], (F_m_has_p18 q0 rfl ne rfl e2).trans (F_m_has_p16.trans (F_m_has_p15 rfl rfl))⟩
theorem mx_countCurtains (ok : s_ok G K A U) (h : RM G K A L U x S) : ∃ y : Int32, lp (F_m_has_B7 S o) (S, (0 : Int32)) ((65 - ((0 : Int32)).toInt).toNat + 1) ((0 : Int32), (0 : Int32)) = (S, y) ∧ y.toInt = s_ct (fun i => s_cu G A (i : Int)) 64 := by
  have z0 : (0 : Int32).toInt = 0 := by decide +kernel
  have z64 : (64 : Int32).toInt = 64 := by decide +kernel
  refine mx_countC (Q := s_cu G A) (fun i iI u hi hiI => ?_) (fun iI u hiI => F_m_has_p21 (dk_gep z64 (by omega)))
  have q0 : ¬ (64 : Int32) ≤ iI := fun z => by have := dk_gec z64 z; omega
  have iN : iI.toNatClampNeg = i := by rw [dk_clN]; omega
  rcases mx_isCellOf (o := o) (a := iI) h.1.1.1 ok.1.1.1 with ⟨e, hin⟩ | ⟨e, hin⟩
  rotate_left
  · rw [hiI] at hin
    exact ⟨0, by rw [z0, s_b0 (fun z => hin z.1)], (F_m_has_p23 q0 rfl e).trans (F_m_has_p22 rfl rfl)⟩
  have ne : ¬ F_m_isCellOf o S iI = (0 : Int32) := by rw [e]; decide +kernel
  rw [hiI] at hin
  have i32 := (h.2.1.1 (i : Int) hin).2.1
  have adn : mx_ad 0 (i : Int) = i := by unfold mx_ad; omega
  rw [adn] at i32
  refine ⟨S.2.1 32 iI.toNatClampNeg, ?_, (F_m_has_p24 q0 rfl ne rfl).trans (F_m_has_p22 rfl rfl)⟩
  rw [iN, i32]
  unfold mx_cu
  by_cases u9 : s_c A (i : Int) = -2
  · rw [if_pos u9, s_b1 ⟨hin, u9⟩]
  · rw [if_neg u9, s_b0 (fun z => u9 z.2)]
theorem w_pcl6 : ∀ (fuel m : Nat) (a b : Int32) (z : Int32), a.toInt = m → m < 64 → 0 ≤ b.toInt → b.toInt + s_su (mx_bit (m : Int)) 6 ≤ 100 → s_su (mx_bit (m : Int)) 6 < fuel → (lp F_m_bits_B1 z fuel (a, b)).toInt = b.toInt + s_su (mx_bit (m : Int)) 6 := by
  have key : ∀ n : Nat, n < 64 → n ≠ 0 → (Int32.ofInt (n : Int) &&& (Int32.ofInt (n : Int) - 1)).toInt < 64 ∧ 0 ≤ (Int32.ofInt (n : Int) &&& (Int32.ofInt (n : Int) - 1)).toInt ∧ s_su (mx_bit (Int32.ofInt (n : Int) &&& (Int32.ofInt (n : Int) - 1)).toInt) 6 + 1 = s_su (mx_bit (n : Int)) 6 := by decide +kernel
  have z0 : (0 : Int32).toInt = 0 := by decide +kernel
  have pz : s_su (mx_bit ((0 : Nat) : Int)) 6 = 0 := by decide +kernel
  have pb : ∀ n : Nat, n < 64 → 0 ≤ s_su (mx_bit (n : Int)) 6 ∧ s_su (mx_bit (n : Int)) 6 ≤ 6 := by decide +kernel
  intro fuel
  induction fuel with
  | zero =>
    intro m a b z _ hm _ _ h
    have := pb m hm
    omega
  | succ f ih =>
    intro m a b z ha hm hb hb9 hf
    by_cases q : a = (0 : Int32)
    · have d := dk_eqc z0 q
      have em : m = 0 := by omega
      rw [lp_sr (F_m_bits_p0 q), em, pz]
      omega
    · have d := dk_neqc z0 q
      obtain ⟨k1, k2, k3⟩ := key m hm (by omega)
      rw [show ((m : Nat) : Int) = a.toInt by omega, Int32.ofInt_toInt] at k1 k2 k3
      rw [show ((m : Nat) : Int) = a.toInt by omega] at hb9 hf ⊢
      have e1 : (b + 1).toInt = b.toInt + 1 := dk_addT rfl (by decide +kernel) (by have := pb m hm; omega) (by have := (pb m hm).1; rw [show ((m : Nat) : Int) = a.toInt by omega] at this; omega)
      obtain ⟨w, hw⟩ : ∃ w : Nat, w = (a &&& (a - 1)).toInt.toNat := ⟨_, rfl⟩
      have w1 : (a &&& (a - 1)).toInt = (w : Int) := by omega
      rw [w1] at k3
      rw [lp_sl (F_m_bits_p1 q rfl rfl rfl), ih w (a &&& (a - 1)) (b + 1) z w1 (by omega) (by omega) (by omega) (by omega), e1]
      omega
theorem w_bits6 (h : 0 ≤ a.toInt ∧ a.toInt < 64) : (F_m_bits o S a).toInt = s_su (mx_bit a.toInt) 6 := by
  have key : ∀ n : Nat, n < 64 → (Int32.ofInt (n : Int)).toUInt32.toNat = n ∧ (0 ≤ s_su (mx_bit (n : Int)) 6 ∧ s_su (mx_bit (n : Int)) 6 ≤ n) ∧ s_su (mx_bit (n : Int)) 6 ≤ 6 := by decide +kernel
  obtain ⟨e1, e2, e5⟩ := key a.toInt.toNat (by omega)
  rw [show ((a.toInt.toNat : Nat) : Int) = a.toInt by omega] at e1 e2 e5
  rw [Int32.ofInt_toInt] at e1
  have z0 : (0 : Int32).toInt = 0 := by decide +kernel
  have t := w_pcl6 (((((a : Int32)).toUInt32.toNat : Nat) : Int).toNat + 1) a.toInt.toNat a 0 0 (by omega) (by omega) (by decide +kernel) (by rw [z0, show ((a.toInt.toNat : Nat) : Int) = a.toInt by omega]; omega) (by rw [e1, show ((a.toInt.toNat : Nat) : Int) = a.toInt by omega]; omega)
  rw [show ((a.toInt.toNat : Nat) : Int) = a.toInt by omega, z0] at t
  rw [F_m_bits_p2]
  refine t.trans ?_
  omega
theorem mx_sumTubs (h : RM G K A L U x S) (ok : s_ok G K A U) : ∃ y : Int32, lp (F_m_has_B9 S) (S, (0 : Int32)) ((11 - ((0 : Int32)).toInt).toNat + 1) ((0 : Int32), (0 : Int32)) = (S, y) ∧ y.toInt = s_sz A 0 10 := by
  have z0 : (0 : Int32).toInt = 0 := by decide +kernel
  have z10 : (10 : Int32).toInt = 10 := by decide +kernel
  have hA := ok.2.2.1.1.2.2.2.2.2
  have h37 := h.2.1.2.2.2.2.2.2.1
  refine lp_cnt (f := F_m_has_B9 S) (z := (S, (0 : Int32))) (W := 10) (P := fun p u => u.toInt = s_sz A 0 p ∧ 0 ≤ s_sz A 0 p ∧ s_sz A 0 p ≤ 99 * p) (Q := fun q => ∃ y : Int32, q = (S, y) ∧ y.toInt = s_sz A 0 10) (by decide) (fun p pI u hp hpI hP => ?_) (fun pI u hpI hP => ⟨_, F_m_has_p27 (dk_gep z10 (by omega)), u, rfl, hP.1⟩) ((11 - ((0 : Int32)).toInt).toNat + 1) 0 0 0 (by rw [z0]; decide) (by decide) z0 ⟨z0, Int.le_refl _, Int.le_refl _⟩
  obtain ⟨t1, t2, t3⟩ := hP
  have t1 : u.toInt = s_sz A 0 p := t1
  have pn : pI.toNatClampNeg = p := by rw [dk_clN]; omega
  have h6 := hA p hp
  have e6 : (S.2.1 37 pI.toNatClampNeg).toInt = A 6 p := by
    rw [pn]
    have := h37 p hp
    rw [show 10 * 0 + p = p by omega] at this
    exact this
  have es : s_sz A 0 (p + 1) = s_sz A 0 p + A 6 p := by
    show s_sz A 0 p + A 6 (0 + p) = _
    rw [Nat.zero_add]
  refine ⟨_, F_m_has_p28 (fun z => by have := dk_gec z10 z; omega) rfl rfl rfl, ?_, ?_, ?_⟩
  · rw [es]
    exact dk_addT t1 e6 (by omega) (by omega)
  · rw [es]
    omega
  · rw [es]
    omega
/-- HAS on both sides -/
theorem sim_has (ok : s_ok G K A U) (hX : RX oX g G K A L U x SX) (hfX : cx_fe F SX) (hM : RM G K A L U x SM) (hfM : mx_fe F SM) : (F_d_has oX SX a1).2 = (F_m_has oM SM a1).2 ∧ RX oX g G K A L U x (F_d_has oX SX a1).1 ∧ RM G K A L U x (F_m_has oM SM a1).1 := by
  have z0 : (0 : Int32).toInt = 0 := by decide +kernel
  have n0 : (0 : Int32).toNatClampNeg = 0 := by decide +kernel
  have h5 := ok.1.2.2.2.1
  have hb := ok.1.1.2.2.2
  have hA2 := ok.2.2.1.1.2.2.1
  have fin : ∀ (S1 S2 : dg_S) (y1 y2 : Int32) (v : Int), F_d_has oX SX a1 = (S1, y1) → F_m_has oM SM a1 = (S2, y2) → y1.toInt = v → y2.toInt = v → RX oX g G K A L U x S1 → RM G K A L U x S2 → (F_d_has oX SX a1).2 = (F_m_has oM SM a1).2 ∧ RX oX g G K A L U x (F_d_has oX SX a1).1 ∧ RM G K A L U x (F_m_has oM SM a1).1 := fun S1 S2 y1 y2 v e1 e2 v1 v2 r1 r2 => by
    rw [e1, e2]
    exact ⟨Int32.toInt_inj.mp (v1.trans v2.symm), r1, r2⟩
  by_cases c0 : a1 = (0 : Int32)
  · exact fin _ _ _ _ _ (F_d_has_p1  c0 hX.1.symm rfl) (F_m_has_p1  c0 rfl rfl) hX.2.1.2.1.1 hM.1.1.1.2.1 hX hM
  by_cases c1 : a1 = (1 : Int32)
  · exact fin _ _ _ _ _ (F_d_has_p2 c0 c1 hX.1.symm rfl) (F_m_has_p2 c0 c1 rfl rfl) hX.2.1.2.1.2.1 hM.1.1.1.2.2.1 hX hM
  by_cases c2 : a1 = (2 : Int32)
  · exact fin _ _ _ _ _ (F_d_has_p3 c0 c1 c2 hX.1.symm rfl) (F_m_has_p3 c0 c1 c2 rfl rfl) hX.2.1.2.1.2.2.2.2.1 hM.1.2.1.2.2.1 hX hM
  by_cases c3 : a1 = (3 : Int32)
  · exact fin _ _ _ _ _ (F_d_has_p4 c0 c1 c2 c3 hX.1.symm rfl) (F_m_has_p4 c0 c1 c2 c3 rfl rfl) hX.2.1.1.2.2.1 hM.1.1.1.2.2.2.2 hX hM
  by_cases c4 : a1 = (4 : Int32)
  · exact fin _ _ _ _ _ (F_d_has_p5 c0 c1 c2 c3 c4 hX.1.symm rfl) (F_m_has_p5 c0 c1 c2 c3 c4 rfl rfl) hX.2.1.2.1.2.2.2.2.2 hM.1.2.1.2.2.2 hX hM
  by_cases c5 : a1 = (5 : Int32)
  · exact fin _ _ _ _ _ (F_d_has_p6 c0 c1 c2 c3 c4 c5 rfl) (F_m_has_p6 c0 c1 c2 c3 c4 c5 rfl) hX.2.2.1.2.1 (by rw [n0]; exact hM.2.1.2.1) hX hM
  by_cases c6 : a1 = (6 : Int32)
  · obtain ⟨y, e, v⟩ := mx_countOpen (o := oM) ok hM
    exact fin _ _ _ _ _ (F_d_has_p7 c0 c1 c2 c3 c4 c5 c6 rfl) ((F_m_has_p13 c0 c1 c2 c3 c4 c5 c6).trans e) (cx_countOpen hX.2.2.1.1) v hX hM
  by_cases c7 : a1 = (7 : Int32)
  · obtain ⟨S1, y1, e1, v1, r1⟩ := cx_countLit (o := oX) ok hX
    obtain ⟨S2, e2, f2, k2⟩ := mx_measures (o := oM) (a1 := 0) ok.1.1.1 hM.1.1.1 hM.2.1.1 z0 (by decide) ok.2.2.1.2.2
    have r2 := k2.rm hb hM
    obtain ⟨y, e, v⟩ := mx_countLit (o := oM) (z := (SM, (0 : Int32))) ok r2 f2
    exact fin S1 S2 y1 y _ (F_d_has_p8 c0 c1 c2 c3 c4 c5 c6 c7 (by rw [e1]) (show y1 = _ by rw [e1])) ((F_m_has_p20 c0 c1 c2 c3 c4 c5 c6 c7 e2.symm).trans e) v1 v r1 r2
  by_cases c8 : a1 = (8 : Int32)
  · obtain ⟨y, e, v⟩ := mx_countCurtains (o := oM) ok hM
    exact fin _ _ _ _ _ (F_d_has_p9 c0 c1 c2 c3 c4 c5 c6 c7 c8 rfl) ((F_m_has_p25 c0 c1 c2 c3 c4 c5 c6 c7 c8).trans e) (cx_countCurtains hX.2.2.1.1) v hX hM
  by_cases c9 : a1 = (9 : Int32)
  · obtain ⟨b1, b2⟩ := hM.2.1.2.2.2.1
    refine fin _ _ _ _ _ (F_d_has_p10 c0 c1 c2 c3 c4 c5 c6 c7 c8 c9 rfl) (F_m_has_p26 c0 c1 c2 c3 c4 c5 c6 c7 c8 c9 rfl rfl) (cx_countHurt ok hX) ?_ hX hM
    rw [n0, w_bits6 b1]
    have e1 : ∀ m : Nat, m ≤ 6 → s_su (mx_bit (SM.2.1 33 0).toInt) m = s_su (fun k => A 2 k) m := fun m => by
      induction m with
      | zero => intro _; rfl
      | succ m ih =>
        intro hm
        show s_su (mx_bit (SM.2.1 33 0).toInt) m + mx_bit (SM.2.1 33 0).toInt m = s_su (fun k => A 2 k) m + A 2 m
        rw [ih (by omega), b2 m (by omega)]
    rw [e1 6 (Nat.le_refl 6)]
    have := s_su_0 (f := fun k => A 2 k) (m := (G 0 5).toNat) (fun k k1 k2 => by have := hA2 k k2; show A 2 k = 0; omega) (6 - (G 0 5).toNat) (by omega)
    rw [show (G 0 5).toNat + (6 - (G 0 5).toNat) = 6 by omega] at this
    exact this
  by_cases c10 : a1 = (10 : Int32)
  · obtain ⟨y, e, v⟩ := mx_sumTubs hM ok
    exact fin _ _ _ _ _ (F_d_has_p11 c0 c1 c2 c3 c4 c5 c6 c7 c8 c9 c10 rfl) ((F_m_has_p29 c0 c1 c2 c3 c4 c5 c6 c7 c8 c9 c10).trans e) (cx_tubsFrom (n := 0) hX.2.2.1 ok.2.2.1.1 z0 (by decide)) v hX hM
  by_cases c11 : a1 = (11 : Int32)
  · exact fin _ _ _ _ _ (F_d_has_p12 c0 c1 c2 c3 c4 c5 c6 c7 c8 c9 c10 c11 rfl) (F_m_has_p30 c0 c1 c2 c3 c4 c5 c6 c7 c8 c9 c10 c11 rfl) hX.2.2.1.2.2.1 (by rw [n0]; exact hM.2.1.2.2.1) hX hM
  by_cases c12 : a1 = (12 : Int32)
  · exact fin _ _ _ _ _ (F_d_has_p13 c0 c1 c2 c3 c4 c5 c6 c7 c8 c9 c10 c11 c12 rfl) (F_m_has_p31 c0 c1 c2 c3 c4 c5 c6 c7 c8 c9 c10 c11 c12 rfl) (cx_wholeWorth hX.2.2.1 ok.2.2.1.1 ok.2.2.1.2) (mx_worthOf hM.1.1.1 ok.1.1.1 hM.2.1 ok.2.2.1.1 ok.2.2.1.2 z0 (by decide)) hX hM
  by_cases c13 : a1 = (13 : Int32)
  · exact fin _ _ _ _ _ (F_d_has_p14 c0 c1 c2 c3 c4 c5 c6 c7 c8 c9 c10 c11 c12 c13 rfl) (F_m_has_p32 c0 c1 c2 c3 c4 c5 c6 c7 c8 c9 c10 c11 c12 c13 rfl) hX.2.2.2.1.1 (by rw [n0]; exact hM.2.1.2.2.2.2.2.2.2.1) hX hM
  by_cases c14 : a1 = (14 : Int32)
  · exact fin _ _ _ _ _ (F_d_has_p15 c0 c1 c2 c3 c4 c5 c6 c7 c8 c9 c10 c11 c12 c13 c14 rfl) (F_m_has_p33 c0 c1 c2 c3 c4 c5 c6 c7 c8 c9 c10 c11 c12 c13 c14 rfl) hfX.1 hfM.1 hX hM
  by_cases c15 : a1 = (15 : Int32)
  · exact fin _ _ _ _ _ (F_d_has_p16 c0 c1 c2 c3 c4 c5 c6 c7 c8 c9 c10 c11 c12 c13 c14 c15 rfl) (F_m_has_p34 c0 c1 c2 c3 c4 c5 c6 c7 c8 c9 c10 c11 c12 c13 c14 c15 rfl) hX.2.2.2.2.1.1 hM.2.2.1.1 hX hM
  by_cases c16 : a1 = (16 : Int32)
  · have hx : (zI SX 0 12).toInt = x := hX.2.2.2.2.2
    have hl : (zL SM 0 62).toInt = x := hM.2.2.2.2
    have b1 := Int32.le_toInt (zI SX 0 12)
    have b2 := Int32.toInt_lt (zI SX 0 12)
    exact fin _ _ _ _ _ (F_d_has_p17 c0 c1 c2 c3 c4 c5 c6 c7 c8 c9 c10 c11 c12 c13 c14 c15 c16 rfl) (F_m_has_p35 c0 c1 c2 c3 c4 c5 c6 c7 c8 c9 c10 c11 c12 c13 c14 c15 c16 rfl rfl) hx (by rw [cx_l2i (by omega) (by omega)]; exact hl) hX hM
  exact fin _ _ _ _ _ (F_d_has_p0 c0 c1 c2 c3 c4 c5 c6 c7 c8 c9 c10 c11 c12 c13 c14 c15 c16) (F_m_has_p0 c0 c1 c2 c3 c4 c5 c6 c7 c8 c9 c10 c11 c12 c13 c14 c15 c16) rfl rfl hX hM
end EM
end
section
/-! FEEL: both sides -/
/-- the tape: n bytes -/
def cx_tp (n : Nat) (B : Nat → Int) (S : dg_S) : Prop := (zI S 1 1).toInt = n ∧ n ≤ 1600 ∧ ∀ i, i < n → (S.2.1 2 i).toInt = B i ∧ 0 ≤ B i ∧ B i ≤ 255
def mx_tp (n : Nat) (B : Nat → Int) (S : dg_S) : Prop := (zI S 0 1).toInt = n ∧ n ≤ 1600 ∧ ∀ i, i < n → (S.2.1 1 i).toInt = B i ∧ 0 ≤ B i ∧ B i ≤ 255
/-- a row that can be felt -/
def s_fr (G : aR) (B : Nat → Int) (i : Nat) : Prop := B (4 * i) ≤ 30 ∧ ((0 ≤ B (4 * i + 1) ∧ B (4 * i + 1) < G 0 0) ∧ 0 ≤ B (4 * i + 2) ∧ B (4 * i + 2) < G 0 1) ∧ (B (4 * i + 3) ≤ 9 ∨ B (4 * i + 3) = 255)
def s_fO (G : aR) (B : Nat → Int) (n : Nat) : Prop := (0 < n ∧ n ≤ 64 ∧ n % 4 = 0) ∧ ∀ i, i < n / 4 → s_fr G B i
def s_f4 (B : Nat → Int) (i : Nat) : Int × Int × Int := (B (4 * i), 8 * B (4 * i + 2) + B (4 * i + 1), if B (4 * i + 3) = 255 then -1 else B (4 * i + 3))
def s_fF (B : Nat → Int) (m : Nat) : s_F := (List.range m).map (s_f4 B)
theorem s_fF_l {B : Nat → Int} {m : Nat} : (s_fF B m).length = m := by
  unfold s_fF
  rw [List.length_map, List.length_range]
theorem s_fF_e {B : Nat → Int} {m i : Nat} (h : i < m) : s_fe (s_fF B m) i = s_f4 B i := by
  unfold s_fe s_fF
  rw [List.getD_eq_getElem?_getD, List.getElem?_map, List.getElem?_range h]
  rfl
theorem s_fF_k {G : aR} {B : Nat → Int} {n : Nat} (h : s_fO G B n) (hb : ∀ i, i < n → 0 ≤ B i ∧ B i ≤ 255) (hg : s_gb G) : s_fk G (s_fF B (n / 4)) := by
  obtain ⟨⟨h1, h2, h3⟩, h4⟩ := h
  obtain ⟨⟨g1, g2⟩, g3, g4⟩ := hg
  refine ⟨by rw [s_fF_l]; omega, fun i hi => ?_⟩
  rw [s_fF_l] at hi
  rw [s_fF_e hi]
  obtain ⟨r1, r2, r3⟩ := h4 i hi
  have b0 := hb (4 * i) (by omega)
  have b3 := hb (4 * i + 3) (by omega)
  refine ⟨⟨b0.1, r1⟩, ⟨⟨?_, ?_⟩, ?_, ?_⟩, ?_, ?_⟩
  · show 0 ≤ 8 * B (4 * i + 2) + B (4 * i + 1)
    omega
  · show 8 * B (4 * i + 2) + B (4 * i + 1) < 64
    omega
  · show (8 * B (4 * i + 2) + B (4 * i + 1)) % 8 < G 0 0
    omega
  · show (8 * B (4 * i + 2) + B (4 * i + 1)) / 8 < G 0 1
    omega
  · show -1 ≤ (if B (4 * i + 3) = 255 then -1 else B (4 * i + 3))
    split <;> omega
  · show (if B (4 * i + 3) = 255 then -1 else B (4 * i + 3)) ≤ 9
    split <;> omega
/-- a loop that counts by fours, and may end before -/
theorem lp_cnt4 {σ ρ : Type} {f : Int32 × σ → (Int32 × σ) ⊕ ρ} {z : ρ} {W : Nat} {P : Nat → σ → Prop} {Q : ρ → Prop} (hW : W < 200000000) (hs : ∀ (c : Nat) (cI : Int32) (s : σ), c < W → cI.toInt = 4 * c → P c s → (∃ s1, f (cI, s) = .inl (cI + 4, s1) ∧ P (c + 1) s1) ∨ ∃ r, f (cI, s) = .inr r ∧ Q r) (he : ∀ (cI : Int32) (s : σ), cI.toInt = 4 * W → P W s → ∃ r, f (cI, s) = .inr r ∧ Q r) : ∀ (n c : Nat) (cI : Int32) (s : σ), W + 1 ≤ n + c → c ≤ W → cI.toInt = 4 * c → P c s → Q (lp f z n (cI, s)) := by
  intro n
  induction n with
  | zero =>
    intro c cI s h1 h2
    omega
  | succ n ih =>
    intro c cI s h1 h2 h3 h4
    by_cases q : c < W
    · rcases hs c cI s q h3 h4 with ⟨s1, e1, p1⟩ | ⟨r, e1, q1⟩
      · rw [lp_sl e1]
        refine ih (c + 1) (cI + 4) s1 (by omega) (by omega) ?_ p1
        rw [dk_addT h3 (b := 4) (by decide +kernel) (by omega) (by omega)]
        omega
      · rw [lp_sr e1]
        exact q1
    · have ec : c = W := by omega
      subst ec
      obtain ⟨r, e1, q1⟩ := he cI s h3 h4
      rw [lp_sr e1]
      exact q1
section EN
variable {o oX oM g n p k i : Nat} {G A A' : aR} {K : Nat → List Int} {L L' : s_L} {U : s_U} {F : s_F} {B : Nat → Int} {S S0 S1 SX SM T : dg_S} {x x' r c v t : Int} {a a1 a2 a3 a4 y : Int32}
theorem cx_canBeFelt (hg : cx_g G K S g) (hb : s_gb G) (tp : cx_tp n B S) (ha : a1.toInt = 4 * i) (hi : 4 * i + 3 < n) : F_e_canBeFelt o S g a1 = 1 ∧ s_fr G B i ∨ F_e_canBeFelt o S g a1 = 0 ∧ ¬ s_fr G B i := by
  have z30 : (30 : Int32).toInt = 30 := by decide +kernel
  have z9 : (9 : Int32).toInt = 9 := by decide +kernel
  have z255 : (255 : Int32).toInt = 255 := by decide +kernel
  obtain ⟨t1, t2, t3⟩ := tp
  have n0 : a1.toNatClampNeg = 4 * i := by rw [dk_clN]; omega
  have n1 : (a1 + (1 : Int32)).toNatClampNeg = 4 * i + 1 := by rw [dk_clN, dk_addT ha (b := 1) (by decide +kernel) (by omega) (by omega)]; omega
  have n2 : (a1 + (2 : Int32)).toNatClampNeg = 4 * i + 2 := by rw [dk_clN, dk_addT ha (b := 2) (by decide +kernel) (by omega) (by omega)]; omega
  have n3 : (a1 + (3 : Int32)).toNatClampNeg = 4 * i + 3 := by rw [dk_clN, dk_addT ha (b := 3) (by decide +kernel) (by omega) (by omega)]; omega
  have b0 := t3 (4 * i) (by omega)
  have b1 := t3 (4 * i + 1) (by omega)
  have b2 := t3 (4 * i + 2) (by omega)
  have b3 := t3 (4 * i + 3) (by omega)
  rw [← n0] at b0
  by_cases q0 : (30 : Int32) < S.2.1 2 a1.toNatClampNeg
  · have d0 := w_lt.mp q0
    rw [z30, b0.1, n0] at d0
    exact Or.inr ⟨F_e_canBeFelt_p0 rfl q0, fun z => by have := z.1; omega⟩
  have d0 : ¬ (30 : Int32).toInt < (S.2.1 2 a1.toNatClampNeg).toInt := fun z => q0 (w_lt.mpr z)
  rw [z30, b0.1, n0] at d0
  rcases cx_place (o := o) (a1 := S.2.1 2 (a1 + (1 : Int32)).toNatClampNeg) (a2 := S.2.1 2 (a1 + (2 : Int32)).toNatClampNeg) hg hb with ⟨p1, p2, p3, p4⟩ | ⟨p1, p2⟩
  rotate_left
  · refine Or.inr ⟨F_e_canBeFelt_p1 rfl q0 rfl rfl rfl rfl rfl p2, fun z => p1 ?_⟩
    rw [n1, n2, b1.1, b2.1]
    exact z.2.1
  have np : ¬ F_g_placeOf o S g (S.2.1 2 (a1 + (1 : Int32)).toNatClampNeg) (S.2.1 2 (a1 + (2 : Int32)).toNatClampNeg) = (-1 : Int32) := fun z => by
    have := dk_eqc (k := -1) (by decide +kernel) z
    have := p4.1
    omega
  rw [n1, b1.1] at p1
  rw [n2, b2.1] at p2
  have e3 : (S.2.1 2 (a1 + (3 : Int32)).toNatClampNeg).toInt = B (4 * i + 3) := by rw [n3]; exact b3.1
  by_cases q1 : S.2.1 2 (a1 + (3 : Int32)).toNatClampNeg ≤ (9 : Int32)
  · have d1 := dk_lec z9 q1
    rw [e3] at d1
    exact Or.inl ⟨F_e_canBeFelt_p2 rfl rfl rfl q0 rfl rfl rfl rfl rfl np q1, by omega, ⟨p1, p2⟩, Or.inl d1⟩
  have d1 := dk_nlec z9 q1
  rw [e3] at d1
  by_cases q2 : S.2.1 2 (a1 + (3 : Int32)).toNatClampNeg = (255 : Int32)
  · have d2 := dk_eqc z255 q2
    rw [e3] at d2
    exact Or.inl ⟨F_e_canBeFelt_p4 rfl rfl rfl q0 rfl rfl rfl rfl rfl np q1 q2, by omega, ⟨p1, p2⟩, Or.inr d2⟩
  · have d2 := dk_neqc z255 q2
    rw [e3] at d2
    exact Or.inr ⟨F_e_canBeFelt_p3 rfl rfl rfl q0 rfl rfl rfl rfl rfl np q1 q2, fun z => by have := z.2.2; omega⟩
/-- what is taken as felt -/
theorem cx_eTake (hg : cx_g G K S g) (hb : s_gb G) (tp : cx_tp n B S) : (s_fO G B n ∧ ∃ S1, F_e_take o S g = (S1, 1) ∧ cx_fe (s_fF B (n / 4)) S1 ∧ (zI S1 229 4).toInt = 0 ∧ kp (fun a b => a = 229 ∧ (b = 4 ∨ b = 5)) (fun a => a = 230) S S1) ∨ (¬ s_fO G B n ∧ F_e_take o S g = (S, 0)) := by
  have z0 : (0 : Int32).toInt = 0 := by decide +kernel
  have z1 : (1 : Int32).toInt = 1 := by decide +kernel
  have z4 : (4 : Int32).toInt = 4 := by decide +kernel
  have z16 : (16 : Int32).toInt = 16 := by decide +kernel
  have n0 : (0 : Int32).toNatClampNeg = 0 := by decide +kernel
  have t := tp
  obtain ⟨t1, t2, t3⟩ := tp
  have r1 : (zI S 1 1 - zI S 1 1 / (4 : Int32) * (4 : Int32)).toInt = (n : Int) % 4 := by rw [dk_remL (by omega) z4 (by decide), t1]
  have r2 : (zI S 1 1 / (4 : Int32)).toInt = (n : Int) / 4 := by rw [dk_divL (by omega) z4 (by decide), t1]
  by_cases q1 : zI S 1 1 - zI S 1 1 / (4 : Int32) * (4 : Int32) = (0 : Int32)
  rotate_left
  · have d1 := dk_neqc z0 q1
    rw [r1] at d1
    exact Or.inr ⟨fun z => by have := z.1.2.2; omega, F_e_take_p0 rfl rfl q1⟩
  have d1 := dk_eqc z0 q1
  rw [r1] at d1
  by_cases q2 : zI S 1 1 / (4 : Int32) < (1 : Int32)
  · have d2 := dk_ltc z1 q2
    rw [r2] at d2
    exact Or.inr ⟨fun z => by have := z.1.1; omega, F_e_take_p1 rfl rfl rfl q1 q2⟩
  have d2 := dk_nltc z1 q2
  rw [r2] at d2
  by_cases q3 : zI S 1 1 / (4 : Int32) ≤ (16 : Int32)
  rotate_left
  · have d3 := dk_nlec z16 q3
    rw [r2] at d3
    exact Or.inr ⟨fun z => by have := z.1.2.1; omega, F_e_take_p7 rfl rfl rfl q1 q2 q3⟩
  have d3 := dk_lec z16 q3
  rw [r2] at d3
  rw [F_e_take_p6 rfl rfl rfl q1 q2 q3]
  have main := lp_cnt1 (f := F_e_take_B2 (zI S 1 1 / (4 : Int32)) S (zI S 1 1) o g) (z := (S, (0 : Int32))) (W := n / 4) (P := fun i => ∀ j, j < i → s_fr G B j) (Q := fun q => (q = F_e_take_J1 S (zI S 1 1) (zI S 1 1 / (4 : Int32)) o ∧ ∀ j, j < n / 4 → s_fr G B j) ∨ (q = (S, 0) ∧ ¬ ∀ j, j < n / 4 → s_fr G B j)) (by omega) (fun i iI hi hiI hP => by
    have q0 : ¬ zI S 1 1 / (4 : Int32) ≤ iI := fun z => by have := w_le.mp z; rw [r2] at this; omega
    have e4 : ((4 : Int32) * iI).toInt = 4 * (i : Int) := dk_mulT z4 hiI (by omega) (by omega)
    rcases cx_canBeFelt (o := o) (a1 := (4 : Int32) * iI) (i := i) hg hb t e4 (by omega) with ⟨e, w⟩ | ⟨e, w⟩
    · refine Or.inl ⟨F_e_take_p4 q0 rfl rfl (by rw [e]; decide +kernel) rfl, fun j hj => ?_⟩
      by_cases v : j = i
      · rw [v]
        exact w
      · exact hP j (by omega)
    · exact Or.inr ⟨_, F_e_take_p5 q0 rfl rfl e, Or.inr ⟨rfl, fun z => w (z i hi)⟩⟩) (fun iI hiI hP => ⟨_, F_e_take_p3 (w_le.mpr (by rw [r2]; omega)), Or.inl ⟨rfl, hP⟩⟩) ((17 - ((0 : Int32)).toInt).toNat + 1) 0 0 (by rw [z0]; omega) (by omega) z0 (fun j hj => absurd hj (Nat.not_lt_zero j))
  rcases main with ⟨e, w⟩ | ⟨e, w⟩
  rotate_left
  · exact Or.inr ⟨fun z => w z.2, e⟩
  refine Or.inl ⟨⟨⟨by omega, by omega, by omega⟩, w⟩, ?_⟩
  obtain ⟨S2, h2⟩ : ∃ X, X = dg_uf S 230 (va_cpy (S.2.1 2) (S.2.1 230) (0 : Int32).toNatClampNeg (0 : Int32).toNatClampNeg (zI S 1 1).toNatClampNeg) := ⟨_, rfl⟩
  obtain ⟨S3, h3⟩ : ∃ X, X = dg_uF S2 229 5 (.int (zI S 1 1 / (4 : Int32))) := ⟨_, rfl⟩
  obtain ⟨S4, h4⟩ : ∃ X, X = dg_uF S3 229 4 (.int (0 : Int32)) := ⟨_, rfl⟩
  rw [e, F_e_take_p2 h2 h3 (show S4 = F_e_forget o S3 from by rw [F_e_forget_p0 h4])]
  have k4 : kp (fun a b => a = 229 ∧ (b = 4 ∨ b = 5)) (fun a => a = 230) S S4 := by
    rw [h4, h3, h2]
    exact kp.uF (kp.uF (kp.uf kp.rf rfl) ⟨rfl, Or.inr rfl⟩) ⟨rfl, Or.inl rfl⟩
  refine ⟨S4, rfl, ⟨?_, fun i hi => ?_⟩, ?_, k4⟩
  · rw [s_fF_l, h4, w_I0 (by decide), h3, w_I, if_pos ⟨rfl, rfl⟩, r2]
    omega
  · rw [s_fF_l] at hi
    have row : ∀ j, j < n → (S4.2.1 230 j).toInt = B j := fun j hj => by
      have nn : (zI S 1 1).toNatClampNeg = n := by rw [dk_clN, t1]; omega
      rw [h4, h3]
      show (S2.2.1 230 j).toInt = B j
      rw [h2, w_f, if_pos rfl, n0, va_c0, nn, if_pos hj]
      exact (t3 j hj).1
    rw [s_fF_e hi, row _ (by omega), row _ (by omega), row _ (by omega), row _ (by omega)]
    have v := w i hi
    have b1 := t3 (4 * i + 1) (by omega)
    have b2 := t3 (4 * i + 2) (by omega)
    have b3 := t3 (4 * i + 3) (by omega)
    obtain ⟨⟨g1, g2⟩, g3, g4⟩ := hb
    refine ⟨rfl, ?_, ?_, ?_⟩
    · show B (4 * i + 1) = (8 * B (4 * i + 2) + B (4 * i + 1)) % 8
      have := v.2.1.1
      omega
    · show B (4 * i + 2) = (8 * B (4 * i + 2) + B (4 * i + 1)) / 8
      have := v.2.1.1
      omega
    · show B (4 * i + 3) = if (if B (4 * i + 3) = 255 then (-1 : Int) else B (4 * i + 3)) = -1 then 255 else (if B (4 * i + 3) = 255 then (-1 : Int) else B (4 * i + 3))
      by_cases u : B (4 * i + 3) = 255
      · rw [if_pos u, if_pos rfl]
        exact u
      · rw [if_neg u, if_neg (by omega)]
  · rw [h4, w_I, if_pos ⟨rfl, rfl⟩]
    exact z0
/-- FEEL of the class -/
theorem cx_feel (ok : s_ok G K A U) (h : RX o g G K A L U x S) (tp : cx_tp n B S) : (s_fO G B n ∧ ∃ (S1 : dg_S) (y : Int32), F_d_feel o S = (S1, y) ∧ y.toInt = ((n / 4 : Nat) : Int) ∧ RX o g G K A L U x S1 ∧ cx_fe (s_fF B (n / 4)) S1 ∧ (zI S1 229 4).toInt = 0 ∧ (zI S1 1 1).toInt = 0 ∧ kp (fun a b => (a = 229 ∧ (b = 4 ∨ b = 5)) ∨ (a = 1 ∧ b = 1)) (fun a => a = 230) S S1) ∨ (¬ s_fO G B n ∧ ∃ S1, F_d_feel o S = (S1, (-1 : Int32)) ∧ RX o g G K A L U x S1 ∧ (zI S1 1 1).toInt = 0 ∧ S1.2.1 184 = upd (S.2.1 184) 5 (S.2.1 184 5 + 1) ∧ kp (fun a b => a = 1 ∧ b = 1) (fun a => a = 184) S S1) := by
  have z0 : (0 : Int32).toInt = 0 := by decide +kernel
  have n5 : (5 : Int32).toNatClampNeg = 5 := by decide +kernel
  rcases cx_eTake (o := o) h.2.1 ok.1.1.1 tp with ⟨w, S1, e1, f1, i1, k1⟩ | ⟨w, e1⟩
  · obtain ⟨S2, h2⟩ : ∃ X, X = dg_uF S1 1 1 (.int (0 : Int32)) := ⟨_, rfl⟩
    have k2 : kp (fun a b => (a = 229 ∧ (b = 4 ∨ b = 5)) ∨ (a = 1 ∧ b = 1)) (fun a => a = 230) S S2 := by
      rw [h2]
      exact kp.uF (k1.w (fun a b z => Or.inl z) (fun a z => z)) (Or.inr ⟨rfl, rfl⟩)
    have t2 : kp (fun a b => a = 1 ∧ b = 1) (fun _ => False) S1 S2 := by
      rw [h2]
      exact kp.uF kp.rf ⟨rfl, rfl⟩
    have sep := rX_sep h.2.1.1.1
    refine Or.inl ⟨w, S2, zI S2 229 5, F_d_feel_p1 h.1.symm (by rw [e1]) (show (1 : Int32) = _ by rw [e1]) h2 (by decide +kernel) rfl, ?_, h.keep k2 (by omega) (by omega) (fun a b _ _ => by omega) (fun b => by omega) (fun b => by omega) (fun a b _ _ => by omega) (fun a _ _ => by omega) (fun a _ _ => by omega) (by omega) (fun a _ _ => by omega), f1.keep ⟨fun b => t2.I (by omega), fun b => t2.I (by omega), (t2.2 230 id).1⟩, by rw [t2.I (by decide)]; exact i1, by rw [h2, w_I, if_pos ⟨rfl, rfl⟩]; exact z0, k2⟩
    rw [t2.I (by decide), f1.1, s_fF_l]
  · obtain ⟨S2, h2⟩ : ∃ X, X = dg_uF S 1 1 (.int (0 : Int32)) := ⟨_, rfl⟩
    obtain ⟨S3, h3⟩ : ∃ X, X = dg_uf S2 184 (upd (S2.2.1 184) (5 : Int32).toNatClampNeg (S2.2.1 184 (5 : Int32).toNatClampNeg + (1 : Int32))) := ⟨_, rfl⟩
    have k3 : kp (fun a b => a = 1 ∧ b = 1) (fun a => a = 184) S S3 := by
      rw [h3, h2]
      exact kp.uf (kp.uF kp.rf ⟨rfl, rfl⟩) rfl
    have e3 : F_d_none o S2 5 = (S3, -1) := F_d_none_p0 rfl rfl h3
    have sep := rX_sep h.2.1.1.1
    refine Or.inr ⟨w, S3, F_d_feel_p0 h.1.symm (show S = _ by rw [e1]) (show (0 : Int32) = _ by rw [e1]) h2 rfl (by rw [e3]) (by rw [e3]), h.keep k3 (by omega) (by omega) (fun a b _ _ => by omega) (fun b => by omega) (fun b => by omega) (fun a b _ _ => by omega) (fun a _ _ => by omega) (fun a _ _ => by omega) (by omega) (fun a _ _ => by omega), ?_, ?_, k3⟩
    · rw [h3]
      show (zI S2 1 1).toInt = 0
      rw [h2, w_I, if_pos ⟨rfl, rfl⟩]
      exact z0
    · rw [h3, w_f, if_pos rfl, n5, h2]
      rfl
end EN
end
section
/-! FEEL: the reference, both sides -/
section EO
variable {o oX oM g n p k i : Nat} {G A A' : aR} {K : Nat → List Int} {L L' : s_L} {U : s_U} {F : s_F} {B : Nat → Int} {S S0 S1 SX SM T : dg_S} {x x' r c v t : Int} {a a1 a2 a3 a4 y : Int32}
/-- the rows are written down -/
theorem mx_felt (h1 : a1.toInt = ((n / 4 : Nat) : Int)) (hn : n ≤ 64) (hB : ∀ i, i < n → (S.2.1 1 i).toInt = B i ∧ 0 ≤ B i ∧ B i ≤ 255) {z : dg_S × Int32} : ∃ T, lp (F_m_feel_B8 a1) z ((17 - ((0 : Int32)).toInt).toNat + 1) ((0 : Int32), S) = (T, a1) ∧ kp (fun _ _ => False) (fun a => 45 ≤ a ∧ a ≤ 47) S T ∧ ∀ j, j < n / 4 → (T.2.1 45 j).toInt = (s_f4 B j).1 ∧ (T.2.1 46 j).toInt = (s_f4 B j).2.1 ∧ (T.2.1 47 j).toInt = (s_f4 B j).2.2 := by
  have z0 : (0 : Int32).toInt = 0 := by decide +kernel
  have z4 : (4 : Int32).toInt = 4 := by decide +kernel
  have z8 : (8 : Int32).toInt = 8 := by decide +kernel
  have m1 : (-1 : Int32).toInt = -1 := by decide +kernel
  have z255 : (255 : Int32).toInt = 255 := by decide +kernel
  refine lp_cnt (f := F_m_feel_B8 a1) (z := z) (W := n / 4) (P := fun i T => kp (fun _ _ => False) (fun a => 45 ≤ a ∧ a ≤ 47) S T ∧ ∀ j, j < i → (T.2.1 45 j).toInt = (s_f4 B j).1 ∧ (T.2.1 46 j).toInt = (s_f4 B j).2.1 ∧ (T.2.1 47 j).toInt = (s_f4 B j).2.2) (Q := fun q => ∃ T, q = (T, a1) ∧ kp (fun _ _ => False) (fun a => 45 ≤ a ∧ a ≤ 47) S T ∧ ∀ j, j < n / 4 → (T.2.1 45 j).toInt = (s_f4 B j).1 ∧ (T.2.1 46 j).toInt = (s_f4 B j).2.1 ∧ (T.2.1 47 j).toInt = (s_f4 B j).2.2) (by omega) (fun i iI T hi hiI hP => ?_) (fun iI T hiI hP => ⟨_, F_m_feel_p9 (w_le.mpr (by omega)), T, rfl, hP⟩) ((17 - ((0 : Int32)).toInt).toNat + 1) 0 0 S (by rw [z0]; omega) (by omega) z0 ⟨kp.rf, fun j hj => absurd hj (Nat.not_lt_zero j)⟩
  obtain ⟨t1, t2⟩ := hP
  have q0 : ¬ a1 ≤ iI := fun z => by have := w_le.mp z; omega
  have iN : iI.toNatClampNeg = i := by rw [dk_clN]; omega
  have e4 : ((4 : Int32) * iI).toInt = 4 * (i : Int) := dk_mulT z4 hiI (by omega) (by omega)
  have n0 : ((4 : Int32) * iI).toNatClampNeg = 4 * i := by rw [dk_clN, e4]; omega
  have n1 : ((4 : Int32) * iI + (1 : Int32)).toNatClampNeg = 4 * i + 1 := by rw [dk_clN, dk_addT e4 (b := 1) (by decide +kernel) (by omega) (by omega)]; omega
  have n2 : ((4 : Int32) * iI + (2 : Int32)).toNatClampNeg = 4 * i + 2 := by rw [dk_clN, dk_addT e4 (b := 2) (by decide +kernel) (by omega) (by omega)]; omega
  have n3 : ((4 : Int32) * iI + (3 : Int32)).toNatClampNeg = 4 * i + 3 := by rw [dk_clN, dk_addT e4 (b := 3) (by decide +kernel) (by omega) (by omega)]; omega
  have b0 := hB (4 * i) (by omega)
  have b1 := hB (4 * i + 1) (by omega)
  have b2 := hB (4 * i + 2) (by omega)
  have b3 := hB (4 * i + 3) (by omega)
  have r1 : T.2.1 1 = S.2.1 1 := (t1.2 1 (by omega)).1
  obtain ⟨u0, hu0⟩ : ∃ u : Int32, u = T.2.1 1 ((4 : Int32) * iI).toNatClampNeg := ⟨_, rfl⟩
  obtain ⟨S2, h2⟩ : ∃ X, X = dg_uf T 45 (upd (T.2.1 45) iI.toNatClampNeg u0) := ⟨_, rfl⟩
  have r2 : S2.2.1 1 = S.2.1 1 := by rw [h2, w_f, if_neg (by decide), r1]
  obtain ⟨u2, hu2⟩ : ∃ u : Int32, u = S2.2.1 1 ((4 : Int32) * iI + (2 : Int32)).toNatClampNeg := ⟨_, rfl⟩
  obtain ⟨u1, hu1⟩ : ∃ u : Int32, u = S2.2.1 1 ((4 : Int32) * iI + (1 : Int32)).toNatClampNeg := ⟨_, rfl⟩
  obtain ⟨S3, h3⟩ : ∃ X, X = dg_uf S2 46 (upd (S2.2.1 46) iI.toNatClampNeg ((8 : Int32) * u2 + u1)) := ⟨_, rfl⟩
  have r3 : S3.2.1 1 = S.2.1 1 := by rw [h3, w_f, if_neg (by decide), r2]
  obtain ⟨u3, hu3⟩ : ∃ u : Int32, u = S3.2.1 1 ((4 : Int32) * iI + (3 : Int32)).toNatClampNeg := ⟨_, rfl⟩
  have v0 : u0.toInt = B (4 * i) := by rw [hu0, r1, n0]; exact b0.1
  have v1 : u1.toInt = B (4 * i + 1) := by rw [hu1, r2, n1]; exact b1.1
  have v2 : u2.toInt = B (4 * i + 2) := by rw [hu2, r2, n2]; exact b2.1
  have v3 : u3.toInt = B (4 * i + 3) := by rw [hu3, r3, n3]; exact b3.1
  have v12 : ((8 : Int32) * u2 + u1).toInt = 8 * B (4 * i + 2) + B (4 * i + 1) := dk_addT (dk_mulT z8 v2 (by omega) (by omega)) v1 (by omega) (by omega)
  have fin : ∀ (w : Int32) (S4 : dg_S), w.toInt = (if B (4 * i + 3) = 255 then -1 else B (4 * i + 3)) → S4 = dg_uf S3 47 (upd (S3.2.1 47) iI.toNatClampNeg w) → F_m_feel_B8 a1 (iI, T) = .inl (iI + 1, S4) → ∃ s1, F_m_feel_B8 a1 (iI, T) = .inl (iI + 1, s1) ∧ kp (fun _ _ => False) (fun a => 45 ≤ a ∧ a ≤ 47) S s1 ∧ ∀ j, j < i + 1 → (s1.2.1 45 j).toInt = (s_f4 B j).1 ∧ (s1.2.1 46 j).toInt = (s_f4 B j).2.1 ∧ (s1.2.1 47 j).toInt = (s_f4 B j).2.2 := fun w S4 hw h4 e => by
    refine ⟨S4, e, ?_, fun j hj => ?_⟩
    · rw [h4, h3, h2]
      exact kp.uf (kp.uf (kp.uf t1 ⟨by decide, by decide⟩) ⟨by decide, by decide⟩) ⟨by decide, by decide⟩
    · have w45 : S4.2.1 45 j = if j = i then u0 else T.2.1 45 j := by
        rw [h4, w_f, if_neg (show ¬ (45 : Nat) = 47 by decide), h3, w_f, if_neg (show ¬ (45 : Nat) = 46 by decide), h2, w_f, if_pos rfl, w_u, iN]
      have w46 : S4.2.1 46 j = if j = i then (8 : Int32) * u2 + u1 else T.2.1 46 j := by
        rw [h4, w_f, if_neg (show ¬ (46 : Nat) = 47 by decide), h3, w_f, if_pos rfl, w_u, iN, h2, w_f, if_neg (show ¬ (46 : Nat) = 45 by decide)]
      have w47 : S4.2.1 47 j = if j = i then w else T.2.1 47 j := by
        rw [h4, w_f, if_pos rfl, w_u, iN, h3, w_f, if_neg (show ¬ (47 : Nat) = 46 by decide), h2, w_f, if_neg (show ¬ (47 : Nat) = 45 by decide)]
      by_cases q : j = i
      · rw [w45, w46, w47, if_pos q, if_pos q, if_pos q, q]
        exact ⟨v0, v12, hw⟩
      · rw [w45, w46, w47, if_neg q, if_neg q, if_neg q]
        exact t2 j (by omega)
  by_cases q1 : u3 = (255 : Int32)
  · have d := dk_eqc z255 q1
    rw [v3] at d
    exact fin (-1) _ (by rw [if_pos d]; exact m1) rfl (F_m_feel_p11 q0 rfl hu0 h2 rfl rfl hu2 rfl rfl rfl hu1 rfl h3 rfl rfl hu3 q1 rfl rfl)
  · have d := dk_neqc z255 q1
    rw [v3] at d
    exact fin u3 _ (by rw [if_neg d]; exact v3) rfl (F_m_feel_p10 q0 rfl hu0 h2 rfl rfl hu2 rfl rfl rfl hu1 rfl h3 rfl rfl hu3 q1 rfl rfl hu3 rfl rfl)
/-- FEEL of the reference -/
theorem mx_feel (ok : s_ok G K A U) (h : RM G K A L U x S) (tp : mx_tp n B S) : (s_fO G B n ∧ ∃ (S1 : dg_S) (y : Int32), F_m_feel o S = (S1, y) ∧ y.toInt = ((n / 4 : Nat) : Int) ∧ RM G K A L U x S1 ∧ mx_fe (s_fF B (n / 4)) S1 ∧ (zI S1 0 1).toInt = 0 ∧ kp (fun a b => a = 0 ∧ (b = 1 ∨ b = 69)) (fun a => 45 ≤ a ∧ a ≤ 47) S S1) ∨ (¬ s_fO G B n ∧ ∃ S1, F_m_feel o S = (S1, (-1 : Int32)) ∧ RM G K A L U x S1 ∧ (zI S1 0 1).toInt = 0 ∧ S1.2.1 28 = upd (S.2.1 28) 5 (S.2.1 28 5 + 1) ∧ kp (fun a b => a = 0 ∧ b = 1) (fun a => a = 28) S S1) := by
  have z0 : (0 : Int32).toInt = 0 := by decide +kernel
  have z1 : (1 : Int32).toInt = 1 := by decide +kernel
  have z4 : (4 : Int32).toInt = 4 := by decide +kernel
  have z9 : (9 : Int32).toInt = 9 := by decide +kernel
  have z30 : (30 : Int32).toInt = 30 := by decide +kernel
  have z64 : (64 : Int32).toInt = 64 := by decide +kernel
  have z255 : (255 : Int32).toInt = 255 := by decide +kernel
  have n5 : (5 : Int32).toNatClampNeg = 5 := by decide +kernel
  have hb := ok.1.1.2.2.2
  have hgb := ok.1.1.1
  obtain ⟨t1, t2, t3⟩ := tp
  obtain ⟨S3, h3⟩ : ∃ X, X = dg_uF S 0 1 (.int (0 : Int32)) := ⟨_, rfl⟩
  have k3 : kp (fun a b => a = 0 ∧ b = 1) (fun _ => False) S S3 := by
    rw [h3]
    exact kp.uF kp.rf ⟨rfl, rfl⟩
  have r3 : RM G K A L U x S3 := h.keep hb k3 (fun b hb => by omega) (fun a _ => id) (fun a _ _ => id)
  have i3 : (zI S3 0 1).toInt = 0 := by
    rw [h3, w_I, if_pos ⟨rfl, rfl⟩]
    exact z0
  have row3 : S3.2.1 1 = S.2.1 1 := (k3.2 1 id).1
  obtain ⟨S4, h4⟩ : ∃ X, X = dg_uf S3 28 (upd (S3.2.1 28) (5 : Int32).toNatClampNeg (S3.2.1 28 (5 : Int32).toNatClampNeg + (1 : Int32))) := ⟨_, rfl⟩
  have e4 : F_m_refuses o S3 5 = (S4, -1) := F_m_refuses_p0 rfl rfl h4
  have no : ¬ s_fO G B n → F_m_feel o S = (S4, (-1 : Int32)) → (s_fO G B n ∧ ∃ (S1 : dg_S) (y : Int32), F_m_feel o S = (S1, y) ∧ y.toInt = ((n / 4 : Nat) : Int) ∧ RM G K A L U x S1 ∧ mx_fe (s_fF B (n / 4)) S1 ∧ (zI S1 0 1).toInt = 0 ∧ kp (fun a b => a = 0 ∧ (b = 1 ∨ b = 69)) (fun a => 45 ≤ a ∧ a ≤ 47) S S1) ∨ (¬ s_fO G B n ∧ ∃ S1, F_m_feel o S = (S1, (-1 : Int32)) ∧ RM G K A L U x S1 ∧ (zI S1 0 1).toInt = 0 ∧ S1.2.1 28 = upd (S.2.1 28) 5 (S.2.1 28 5 + 1) ∧ kp (fun a b => a = 0 ∧ b = 1) (fun a => a = 28) S S1) := fun w e => by
    have k4 : kp (fun a b => a = 0 ∧ b = 1) (fun a => a = 28) S S4 := by
      rw [h4, h3]
      exact kp.uf (kp.uF kp.rf ⟨rfl, rfl⟩) rfl
    refine Or.inr ⟨w, S4, e, h.keep hb k4 (fun b hb => by omega) (fun a _ => by omega) (fun a _ _ => by omega), ?_, ?_, k4⟩
    · rw [h4]
      exact i3
    · rw [h4, w_f, if_pos rfl, n5, h3]
      rfl
  by_cases q1 : zI S 0 1 ≤ (0 : Int32)
  · have d1 := dk_lec z0 q1
    exact no (fun z => by have := z.1.1; omega) ((F_m_feel_p2 rfl h3 q1).trans ((lp_sr F_m_feel_p1).trans (F_m_feel_p0 (by rw [e4]) (by rw [e4]))))
  have d1 := dk_nlec z0 q1
  have rr : (zI S 0 1 - zI S 0 1 / (4 : Int32) * (4 : Int32)).toInt = (n : Int) % 4 := by rw [dk_remL (by omega) z4 (by decide), t1]
  by_cases q2 : zI S 0 1 - zI S 0 1 / (4 : Int32) * (4 : Int32) = (0 : Int32)
  rotate_left
  · have d2 := dk_neqc z0 q2
    rw [rr] at d2
    exact no (fun z => by have := z.1.2.2; omega) ((F_m_feel_p5 rfl h3 q1 rfl q2).trans ((lp_sr F_m_feel_p4).trans (F_m_feel_p3 (by rw [e4]) (by rw [e4]))))
  have d2 := dk_eqc z0 q2
  rw [rr] at d2
  by_cases q3 : (64 : Int32) < zI S 0 1
  · have d3 := dk_gtc z64 q3
    exact no (fun z => by have := z.1.2.1; omega) ((F_m_feel_p8 rfl h3 q1 rfl q2 q3).trans ((lp_sr F_m_feel_p7).trans (F_m_feel_p6 (by rw [e4]) (by rw [e4]))))
  have d3 : ¬ (64 : Int32).toInt < (zI S 0 1).toInt := fun z => q3 (w_lt.mpr z)
  rw [z64] at d3
  have hg3 := r3.1.1.1
  have main := lp_cnt4 (f := F_m_feel_B9 (zI S 0 1) o S3 S) (z := (S, (0 : Int32))) (W := n / 4) (P := fun c s => (s = 1 ∧ ∀ i, i < c → s_fr G B i) ∨ (s = 0 ∧ ∃ i, i < c ∧ ¬ s_fr G B i)) (Q := fun q => (q = F_m_feel_J7 1 o S3 (zI S 0 1) S ∧ ∀ i, i < n / 4 → s_fr G B i) ∨ (q = F_m_feel_J7 0 o S3 (zI S 0 1) S ∧ ¬ ∀ i, i < n / 4 → s_fr G B i)) (by omega) (fun c cI s hc hcI hP => by
    have q0 : ¬ zI S 0 1 ≤ cI := fun z => by have := w_le.mp z; omega
    rcases hP with ⟨es, hP⟩ | ⟨es, i, hi, hP⟩
    rotate_left
    · rw [es]
      exact Or.inr ⟨_, F_m_feel_p15 q0 rfl, Or.inr ⟨rfl, fun z => hP (z i (by omega))⟩⟩
    rw [es]
    have ns : ¬ (1 : Int32) = (0 : Int32) := by decide +kernel
    have n0 : cI.toNatClampNeg = 4 * c := by rw [dk_clN]; omega
    have n1 : (cI + (1 : Int32)).toNatClampNeg = 4 * c + 1 := by rw [dk_clN, dk_addT hcI (b := 1) (by decide +kernel) (by omega) (by omega)]; omega
    have n2 : (cI + (2 : Int32)).toNatClampNeg = 4 * c + 2 := by rw [dk_clN, dk_addT hcI (b := 2) (by decide +kernel) (by omega) (by omega)]; omega
    have n3 : (cI + (3 : Int32)).toNatClampNeg = 4 * c + 3 := by rw [dk_clN, dk_addT hcI (b := 3) (by decide +kernel) (by omega) (by omega)]; omega
    have b0 := t3 (4 * c) (by omega)
    have b1 := t3 (4 * c + 1) (by omega)
    have b2 := t3 (4 * c + 2) (by omega)
    have b3 := t3 (4 * c + 3) (by omega)
    obtain ⟨u0, hu0⟩ : ∃ u : Int32, u = S3.2.1 1 cI.toNatClampNeg := ⟨_, rfl⟩
    obtain ⟨u1, hu1⟩ : ∃ u : Int32, u = S3.2.1 1 (cI + (1 : Int32)).toNatClampNeg := ⟨_, rfl⟩
    obtain ⟨u2, hu2⟩ : ∃ u : Int32, u = S3.2.1 1 (cI + (2 : Int32)).toNatClampNeg := ⟨_, rfl⟩
    obtain ⟨u3, hu3⟩ : ∃ u : Int32, u = S3.2.1 1 (cI + (3 : Int32)).toNatClampNeg := ⟨_, rfl⟩
    have v0 : u0.toInt = B (4 * c) := by rw [hu0, row3, n0]; exact b0.1
    have v1 : u1.toInt = B (4 * c + 1) := by rw [hu1, row3, n1]; exact b1.1
    have v2 : u2.toInt = B (4 * c + 2) := by rw [hu2, row3, n2]; exact b2.1
    have v3 : u3.toInt = B (4 * c + 3) := by rw [hu3, row3, n3]; exact b3.1
    have yes : s_fr G B c → ∀ i, i < c + 1 → s_fr G B i := fun w i hi => by
      by_cases e : i = c
      · rw [e]
        exact w
      · exact hP i (by omega)
    by_cases p1 : (30 : Int32) < u0
    · have e1 := dk_gtc z30 p1
      exact Or.inl ⟨0, F_m_feel_p16 q0 ns hu0 p1 rfl, Or.inr ⟨rfl, c, by omega, fun z => by have := z.1; omega⟩⟩
    have e1 : ¬ (30 : Int32).toInt < u0.toInt := fun z => p1 (w_lt.mpr z)
    rw [z30, v0] at e1
    rcases mx_isCell (o := o) (a := u1) (b := u2) hg3 hgb with ⟨ec, wc⟩ | ⟨ec, wc⟩
    rotate_left
    · rw [v1, v2] at wc
      exact Or.inl ⟨0, F_m_feel_p17 q0 ns hu0 p1 rfl hu1 rfl hu2 rfl ec rfl, Or.inr ⟨rfl, c, by omega, fun z => wc z.2.1⟩⟩
    rw [v1, v2] at wc
    have nc : ¬ F_m_isCell o S3 u1 u2 = (0 : Int32) := by rw [ec]; decide +kernel
    by_cases p2 : u3 ≤ (9 : Int32)
    · have e2 := dk_lec z9 p2
      rw [v3] at e2
      exact Or.inl ⟨1, F_m_feel_p18 q0 ns hu0 p1 rfl hu1 rfl hu2 rfl nc rfl hu3 p2 rfl, Or.inl ⟨rfl, yes ⟨by omega, wc, Or.inl e2⟩⟩⟩
    have e2 := dk_nlec z9 p2
    rw [v3] at e2
    by_cases p3 : u3 = (255 : Int32)
    · have e3 := dk_eqc z255 p3
      rw [v3] at e3
      exact Or.inl ⟨1, F_m_feel_p20 q0 ns hu0 p1 rfl hu1 rfl hu2 rfl nc rfl hu3 p2 rfl hu3 p3 rfl, Or.inl ⟨rfl, yes ⟨by omega, wc, Or.inr e3⟩⟩⟩
    · have e3 := dk_neqc z255 p3
      rw [v3] at e3
      exact Or.inl ⟨0, F_m_feel_p19 q0 ns hu0 p1 rfl hu1 rfl hu2 rfl nc rfl hu3 p2 rfl hu3 p3 rfl, Or.inr ⟨rfl, c, by omega, fun z => by have := z.2.2; omega⟩⟩) (fun cI s hcI hP => by
    have q0 : zI S 0 1 ≤ cI := w_le.mpr (by omega)
    rcases hP with ⟨es, hP⟩ | ⟨es, i, hi, hP⟩
    · rw [es]
      exact ⟨_, F_m_feel_p14 q0, Or.inl ⟨rfl, hP⟩⟩
    · rw [es]
      exact ⟨_, F_m_feel_p14 q0, Or.inr ⟨rfl, fun z => hP (z i hi)⟩⟩) ((1604 - ((0 : Int32)).toInt).toNat + 1) 0 0 (1 : Int32) (by rw [z0]; omega) (by omega) z0 (Or.inl ⟨rfl, fun i hi => absurd hi (Nat.not_lt_zero i)⟩)
  have Q := F_m_feel_p21 (o := o) rfl h3 q1 rfl q2 q3
  rcases main with ⟨e, w⟩ | ⟨e, w⟩
  rotate_left
  · exact no (fun z => w z.2) (Q.trans (e.trans (F_m_feel_p13 rfl (by rw [e4]) (by rw [e4]))))
  have hO : s_fO G B n := ⟨⟨by omega, by omega, by omega⟩, w⟩
  obtain ⟨S5, h5⟩ : ∃ X, X = dg_uF S3 0 69 (.int (zI S 0 1 / (4 : Int32))) := ⟨_, rfl⟩
  have dv : (zI S 0 1 / (4 : Int32)).toInt = ((n / 4 : Nat) : Int) := by rw [dk_divL (by omega) z4 (by decide), t1]; omega
  have row5 : S5.2.1 1 = S.2.1 1 := by
    rw [h5]
    exact row3
  obtain ⟨T, eT, kT, vT⟩ := mx_felt (a1 := zI S 0 1 / (4 : Int32)) (n := n) (S := S5) (B := B) (z := (S, (0 : Int32))) dv (by omega) (fun i hi => by rw [row5]; exact t3 i hi)
  have k5 : kp (fun a b => a = 0 ∧ (b = 1 ∨ b = 69)) (fun a => 45 ≤ a ∧ a ≤ 47) S T := by
    have k35 : kp (fun a b => a = 0 ∧ (b = 1 ∨ b = 69)) (fun a => 45 ≤ a ∧ a ≤ 47) S S5 := by
      rw [h5, h3]
      exact kp.uF (kp.uF kp.rf ⟨rfl, Or.inl rfl⟩) ⟨rfl, Or.inr rfl⟩
    exact k35.tr (kT.w (fun a b z => z.elim) (fun a z => z))
  refine Or.inl ⟨hO, T, _, Q.trans (e.trans ((F_m_feel_p12 (by decide +kernel) rfl h5).trans eT)), dv, h.keep hb k5 (fun b hb => by omega) (fun a _ => by omega) (fun a _ _ => by omega), ⟨?_, fun i hi => ?_⟩, ?_, k5⟩
  · rw [s_fF_l, kT.I id, h5, w_I, if_pos ⟨rfl, rfl⟩]
    exact dv
  · rw [s_fF_l] at hi
    rw [s_fF_e hi]
    exact vT i hi
  · rw [kT.I id, h5, w_I0 (by decide)]
    exact i3
/-- FEEL on both sides -/
theorem sim_feel (ok : s_ok G K A U) (hX : RX oX g G K A L U x SX) (tX : cx_tp n B SX) (hM : RM G K A L U x SM) (tM : mx_tp n B SM) : (F_d_feel oX SX).2 = (F_m_feel oM SM).2 ∧ RX oX g G K A L U x (F_d_feel oX SX).1 ∧ RM G K A L U x (F_m_feel oM SM).1 ∧ (zI (F_d_feel oX SX).1 1 1).toInt = 0 ∧ (zI (F_m_feel oM SM).1 0 1).toInt = 0 ∧ ((∃ F', s_fk G F' ∧ cx_fe F' (F_d_feel oX SX).1 ∧ mx_fe F' (F_m_feel oM SM).1 ∧ (zI (F_d_feel oX SX).1 229 4).toInt = 0 ∧ kp (fun a b => (a = 229 ∧ (b = 4 ∨ b = 5)) ∨ (a = 1 ∧ b = 1)) (fun a => a = 230) SX (F_d_feel oX SX).1 ∧ kp (fun a b => a = 0 ∧ (b = 1 ∨ b = 69)) (fun a => 45 ≤ a ∧ a ≤ 47) SM (F_m_feel oM SM).1) ∨ ((F_d_feel oX SX).1.2.1 184 = upd (SX.2.1 184) 5 (SX.2.1 184 5 + 1) ∧ (F_m_feel oM SM).1.2.1 28 = upd (SM.2.1 28) 5 (SM.2.1 28 5 + 1) ∧ kp (fun a b => a = 1 ∧ b = 1) (fun a => a = 184) SX (F_d_feel oX SX).1 ∧ kp (fun a b => a = 0 ∧ b = 1) (fun a => a = 28) SM (F_m_feel oM SM).1)) := by
  rcases cx_feel (o := oX) ok hX tX with ⟨w, S1, y1, e1, v1, r1, f1, i1, j1, k1⟩ | ⟨w, S1, e1, r1, j1, b1, k1⟩ <;> rcases mx_feel (o := oM) ok hM tM with ⟨w', S2, y2, e2, v2, r2, f2, j2, k2⟩ | ⟨w', S2, e2, r2, j2, b2, k2⟩
  · rw [e1, e2]
    exact ⟨Int32.toInt_inj.mp (v1.trans v2.symm), r1, r2, j1, j2, Or.inl ⟨_, s_fF_k w (fun i hi => (tX.2.2 i hi).2) ok.1.1.1, f1, f2, i1, k1, k2⟩⟩
  · exact absurd w w'
  · exact absurd w' w
  · rw [e1, e2]
    exact ⟨rfl, r1, r2, j1, j2, Or.inr ⟨b1, b2, k1, k2⟩⟩
end EO
end
