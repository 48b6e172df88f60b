/-! what was FELT, REACHES: the class -/
abbrev s_F : Type := List (Int × Int × Int)
def s_fe (F : s_F) (i : Nat) : Int × Int × Int := F.getD i (0, 0, 0)
def s_gr9 (A : aR) (c : Int) : Int := if s_c A c < 0 then -1 else s_c A c
/-- one row holds, if the light reaches so far -/
def s_f1 (G : aR) (K : Nat → List Int) (A : aR) (r : Int) (e : Int × Int × Int) : Prop := s_gr9 (s_n G K r e.1.toNat A) e.2.1 = e.2.2
def s_rc (G : aR) (K : Nat → List Int) (A : aR) (F : s_F) (r : Int) : Prop := ∀ i, i < F.length → A 0 0 + (s_fe F i).1 ≤ 999 ∧ s_f1 G K A r (s_fe F i)
/-- REACHES, as bits -/
noncomputable def s_rs (G : aR) (K : Nat → List Int) (A : aR) (F : s_F) : Nat → Int
  | 0 => 0
  | r + 1 => s_rs G K A F r + s_if (s_rc G K A F (r : Int)) ((2 ^ r : Nat) : Int) 0
theorem s_rs_b {G A : aR} {K : Nat → List Int} {F : s_F} : ∀ r : Nat, 0 ≤ s_rs G K A F r ∧ s_rs G K A F r < ((2 ^ r : Nat) : Int)
  | 0 => ⟨Int.le_refl _, by show (0 : Int) < ((2 ^ 0 : Nat) : Int); decide⟩
  | r + 1 => by
    have ih := s_rs_b (G := G) (K := K) (A := A) (F := F) r
    have e : ((2 ^ (r + 1) : Nat) : Int) = 2 * ((2 ^ r : Nat) : Int) := by
      rw [Nat.pow_succ]
      omega
    show 0 ≤ s_rs G K A F r + s_if (s_rc G K A F (r : Int)) ((2 ^ r : Nat) : Int) 0 ∧ s_rs G K A F r + s_if (s_rc G K A F (r : Int)) ((2 ^ r : Nat) : Int) 0 < ((2 ^ (r + 1) : Nat) : Int)
    rw [e]
    generalize ((2 ^ r : Nat) : Int) = w at ih ⊢
    by_cases q : s_rc G K A F (r : Int)
    · rw [s_if_y q]
      omega
    · rw [s_if_n q]
      omega
/-- what is felt can be -/
def s_fk (G : aR) (F : s_F) : Prop := F.length ≤ 16 ∧ ∀ i, i < F.length → (0 ≤ (s_fe F i).1 ∧ (s_fe F i).1 ≤ 30) ∧ s_in G (s_fe F i).2.1 ∧ -1 ≤ (s_fe F i).2.2 ∧ (s_fe F i).2.2 ≤ 9
/-- as the class holds it -/
def cx_fe (F : s_F) (S : dg_S) : Prop := (zI S 229 5).toInt = F.length ∧ ∀ i, i < F.length → (S.2.1 230 (4 * i)).toInt = (s_fe F i).1 ∧ (S.2.1 230 (4 * i + 1)).toInt = (s_fe F i).2.1 % 8 ∧ (S.2.1 230 (4 * i + 2)).toInt = (s_fe F i).2.1 / 8 ∧ (S.2.1 230 (4 * i + 3)).toInt = (if (s_fe F i).2.2 = -1 then 255 else (s_fe F i).2.2)
theorem pX_f {k : Nat} (h : k < 21) : pX (233 + 7 * k) := by
  have h1 : ∀ k, k < 21 → (233 + 7 * k) ∈ alX.getD 1 [] := by decide +kernel
  exact h1 k h
/-- one bit more -/
theorem w_or2 {x y : Int32} {r : Nat} (hr : r ≤ 29) (hx : 0 ≤ x.toInt ∧ x.toInt < ((2 ^ r : Nat) : Int)) (hy : y.toInt = ((2 ^ r : Nat) : Int)) : (x ||| y).toInt = x.toInt + ((2 ^ r : Nat) : Int) := by
  obtain ⟨m, hm⟩ : ∃ m : Nat, x.toInt = m := ⟨x.toInt.toNat, by omega⟩
  have p30 : 2 ^ r ≤ 2 ^ 29 := Nat.pow_le_pow_right (by decide) hr
  have p29 : (2 : Nat) ^ 29 = 536870912 := by decide
  rw [p29] at p30
  have c1 := BitVec.toInt_eq_toNat_cond x.toBitVec
  have c2 := BitVec.toInt_eq_toNat_cond y.toBitVec
  have c3 := BitVec.toInt_eq_toNat_cond (x ||| y).toBitVec
  rw [Int32.toInt_toBitVec] at c1 c2 c3
  have b1 := x.toBitVec.isLt
  have b2 := y.toBitVec.isLt
  have e32 : (2 : Nat) ^ 32 = 4294967296 := by decide
  rw [e32] at c1 c2 c3 b1 b2
  generalize hp : 2 ^ r = p at *
  have n1 : x.toBitVec.toNat = m := by
    split at c1 <;> omega
  have n2 : y.toBitVec.toNat = p := by
    split at c2 <;> omega
  have eo : (x ||| y).toBitVec.toNat = m + p := by
    show (x.toBitVec ||| y.toBitVec).toNat = m + p
    rw [BitVec.toNat_or, n1, n2, Nat.or_comm]
    have := Nat.two_pow_add_eq_or_of_lt (i := r) (b := m) (by omega) 1
    rw [Nat.mul_one, hp] at this
    omega
  rw [eo] at c3
  rw [if_pos (by omega)] at c3
  rw [c3, hm]
  omega
theorem w_sh21 {a : Int32} {r : Nat} (h : a.toInt = r) (hr : r < 21) : ((1 : Int32) <<< (a &&& 31)).toInt = ((2 ^ r : Nat) : Int) := by
  have key : ∀ n : Nat, n < 21 → ((1 : Int32) <<< (Int32.ofInt (n : Int) &&& 31)).toInt = ((2 ^ n : Nat) : Int) := by decide +kernel
  have e1 := key r hr
  rw [← h, Int32.ofInt_toInt] at e1
  exact e1
section EI
variable {o oX oM g n p : Nat} {G A A' : aR} {K : Nat → List Int} {L L' : s_L} {U : s_U} {F : s_F} {S S0 S1 SX SM : dg_S} {x x' r c v t : Int} {a a1 a2 a3 a4 y : Int32}
theorem cx_fe.keep (h : cx_fe F S) (k : k_sk S S1) : cx_fe F S1 := by
  obtain ⟨h1, h2⟩ := h
  refine ⟨by rw [k.2.1]; exact h1, fun i hi => ?_⟩
  rw [k.2.2]
  exact h2 i hi
theorem s_gr9_b (hc : s_cw G A) (h : s_in G c) : -1 ≤ s_gr9 A c ∧ s_gr9 A c ≤ 9 := by
  have := hc.1 c h
  unfold s_gr9
  split <;> omega
/-- do the rows of n shifts hold -/
theorem cx_agB (ok : s_ok G K A U) (fk : s_fk G F) (h : RX o g G K A L U x S) (hf : cx_fe F S) {d : Nat} (ht : cx_tr o g d G K r (s_n G K r n A) S) (hn : a1.toInt = n) : F_e_agreesBehind o S g d a1 = 1 ∧ (∀ i, i < F.length → (s_fe F i).1 = n → s_f1 G K A r (s_fe F i)) ∨ F_e_agreesBehind o S g d a1 = 0 ∧ ¬ (∀ i, i < F.length → (s_fe F i).1 = n → s_f1 G K A r (s_fe F i)) := by
  have z0 : (0 : Int32).toInt = 0 := by decide +kernel
  have z4 : (4 : Int32).toInt = 4 := by decide +kernel
  have m1 : (-1 : Int32).toInt = -1 := by decide +kernel
  have z255 : (255 : Int32).toInt = 255 := by decide +kernel
  obtain ⟨f1, f2⟩ := hf
  obtain ⟨k1, k2⟩ := fk
  have hgb := ok.1.1.1
  have okn := s_n_ok (K := K) (r := r) ok.1.1 ok.2.2.1.1 ok.2.2.1.2 n
  rw [F_e_agreesBehind_p8]
  refine lp_cnt1 (f := F_e_agreesBehind_B1 S a1 g o d) (z := (0 : Int32)) (W := F.length) (P := fun k => ∀ i, i < k → (s_fe F i).1 = n → s_f1 G K A r (s_fe F i)) (Q := fun q => q = 1 ∧ (∀ i, i < F.length → (s_fe F i).1 = n → s_f1 G K A r (s_fe F i)) ∨ q = 0 ∧ ¬ (∀ i, i < F.length → (s_fe F i).1 = n → s_f1 G K A r (s_fe F i))) (by omega) (fun k kI hk hkI hP => ?_) (fun kI hkI hP => ⟨1, F_e_agreesBehind_p0 rfl (w_le.mpr (by omega)), Or.inl ⟨rfl, hP⟩⟩) ((17 - ((0 : Int32)).toInt).toNat + 1) 0 0 (by rw [z0]; omega) (by omega) z0 (fun i hi => absurd hi (Nat.not_lt_zero i))
  have q0 : ¬ zI S 229 5 ≤ kI := fun z => by have := w_le.mp z; omega
  obtain ⟨v1, v2, v3, v4⟩ := f2 k hk
  obtain ⟨u1, u2, u3⟩ := k2 k hk
  have e4 : ((4 : Int32) * kI).toInt = 4 * (k : Int) := dk_mulT z4 hkI (by omega) (by omega)
  have n0 : ((4 : Int32) * kI).toNatClampNeg = 4 * k := by rw [dk_clN, e4]; omega
  have n1 : ((4 : Int32) * kI + (1 : Int32)).toNatClampNeg = 4 * k + 1 := by rw [dk_clN, dk_addT e4 (b := 1) (by decide +kernel) (by omega) (by omega)]; omega
  have n2 : ((4 : Int32) * kI + (2 : Int32)).toNatClampNeg = 4 * k + 2 := by rw [dk_clN, dk_addT e4 (b := 2) (by decide +kernel) (by omega) (by omega)]; omega
  have n3 : ((4 : Int32) * kI + (3 : Int32)).toNatClampNeg = 4 * k + 3 := by rw [dk_clN, dk_addT e4 (b := 3) (by decide +kernel) (by omega) (by omega)]; omega
  by_cases q1 : S.2.1 230 ((4 : Int32) * kI).toNatClampNeg = a1
  rotate_left
  · refine Or.inl ⟨(F_e_agreesBehind_p7 rfl q0 rfl rfl q1).trans (F_e_agreesBehind_p1 rfl), fun i hi he => ?_⟩
    by_cases w : i = k
    · subst w
      exact absurd (Int32.toInt_inj.mp (by rw [n0, v1, he, hn])) q1
    · exact hP i (by omega) he
  have d1 : (s_fe F k).1 = n := by
    have := w_eq.mp q1
    rw [n0, v1, hn] at this
    exact this
  have u20 := u2.1
  rcases cx_place (o := o) (a1 := S.2.1 230 ((4 : Int32) * kI + (1 : Int32)).toNatClampNeg) (a2 := S.2.1 230 ((4 : Int32) * kI + (2 : Int32)).toNatClampNeg) h.2.1 hgb with ⟨p1, p2, p3, p4⟩ | ⟨p1, p2⟩
  rotate_left
  · exfalso
    rw [n1, n2, v2, v3] at p1
    have := u2.2
    exact p1 ⟨⟨by omega, this.1⟩, by omega, this.2⟩
  rw [n1, n2, v2, v3] at p3
  have ec : 8 * ((s_fe F k).2.1 / 8) + (s_fe F k).2.1 % 8 = (s_fe F k).2.1 := by omega
  rw [ec] at p3
  rw [← n1, ← n2] at p3
  have np : ¬ F_g_placeOf o S g (S.2.1 230 ((4 : Int32) * kI + (1 : Int32)).toNatClampNeg) (S.2.1 230 ((4 : Int32) * kI + (2 : Int32)).toNatClampNeg) = (-1 : Int32) := fun z => by have := dk_eqc (k := -1) m1 z; omega
  have eg := cx_gradeAt (o := o) (a1 := F_g_placeOf o S g (S.2.1 230 ((4 : Int32) * kI + (1 : Int32)).toNatClampNeg) (S.2.1 230 ((4 : Int32) * kI + (2 : Int32)).toNatClampNeg)) ht.2.2.2.2.1 u2 p3
  have es : s_f1 G K A r (s_fe F k) ↔ s_gr9 (s_n G K r n A) (s_fe F k).2.1 = (s_fe F k).2.2 := by
    unfold s_f1
    rw [d1, show ((n : Int)).toNat = n by omega]
  have fin : ∀ w : Int32, w.toInt = (s_fe F k).2.2 → F_e_agreesBehind_B1 S a1 g o d kI = F_e_agreesBehind_J3 (F_g_placeOf o S g (S.2.1 230 ((4 : Int32) * kI + (1 : Int32)).toNatClampNeg) (S.2.1 230 ((4 : Int32) * kI + (2 : Int32)).toNatClampNeg)) o S d w kI → (F_e_agreesBehind_B1 S a1 g o d kI = .inl (kI + 1) ∧ ∀ i, i < k + 1 → (s_fe F i).1 = n → s_f1 G K A r (s_fe F i)) ∨ ∃ q, F_e_agreesBehind_B1 S a1 g o d kI = .inr q ∧ (q = 1 ∧ (∀ i, i < F.length → (s_fe F i).1 = n → s_f1 G K A r (s_fe F i)) ∨ q = 0 ∧ ¬ (∀ i, i < F.length → (s_fe F i).1 = n → s_f1 G K A r (s_fe F i))) := fun w hw e => by
    by_cases q3 : F_p_gradeAt o S d (F_g_placeOf o S g (S.2.1 230 ((4 : Int32) * kI + (1 : Int32)).toNatClampNeg) (S.2.1 230 ((4 : Int32) * kI + (2 : Int32)).toNatClampNeg)) = w
    · have d3 := w_eq.mp q3
      rw [eg, hw] at d3
      refine Or.inl ⟨(e.trans (F_e_agreesBehind_p3 np rfl q3)).trans (F_e_agreesBehind_p1 rfl), fun i hi he => ?_⟩
      by_cases w : i = k
      · subst w
        exact es.mpr d3
      · exact hP i (by omega) he
    · have d3 : ¬ (F_p_gradeAt o S d (F_g_placeOf o S g (S.2.1 230 ((4 : Int32) * kI + (1 : Int32)).toNatClampNeg) (S.2.1 230 ((4 : Int32) * kI + (2 : Int32)).toNatClampNeg))).toInt = w.toInt := fun z => q3 (w_eq.mpr z)
      rw [eg, hw] at d3
      exact Or.inr ⟨0, e.trans (F_e_agreesBehind_p4 np rfl q3), Or.inr ⟨rfl, fun z => d3 (es.mp (z k hk d1))⟩⟩
  by_cases q2 : S.2.1 230 ((4 : Int32) * kI + (3 : Int32)).toNatClampNeg = (255 : Int32)
  · have d2 := dk_eqc z255 q2
    rw [n3, v4] at d2
    refine fin (-1) ?_ (F_e_agreesBehind_p6 rfl q0 rfl rfl q1 rfl rfl rfl rfl rfl rfl rfl q2)
    rw [m1]
    by_cases w : (s_fe F k).2.2 = -1
    · exact w.symm
    · rw [if_neg w] at d2
      omega
  · have d2 := dk_neqc z255 q2
    rw [n3, v4] at d2
    refine fin _ ?_ (F_e_agreesBehind_p5 rfl q0 rfl rfl q1 rfl rfl rfl rfl rfl rfl rfl q2 rfl rfl)
    rw [n3, v4]
    by_cases w : (s_fe F k).2.2 = -1
    · rw [if_pos w] at d2
      exact absurd rfl d2
    · rw [if_neg w]
/-- one reach -/
theorem cx_agrees (ok : s_ok G K A U) (fk : s_fk G F) (h : RX o g G K A L U x S) (hf : cx_fe F S) {m : Nat} (hm : a1.toInt = m) (hm20 : m ≤ 20) (hn : a2.toInt = n) (hn30 : n ≤ 30) (h9 : A 0 0 + n ≤ 999) (hl : ∀ i, i < F.length → (s_fe F i).1 ≤ n) : ∃ S1, (F_e_agrees o S g 3 a1 a2 = (S1, 1) ∧ s_rc G K A F m ∨ F_e_agrees o S g 3 a1 a2 = (S1, 0) ∧ ¬ s_rc G K A F m) ∧ RX o g G K A L U x S1 ∧ k_sk S S1 := by
  have z0 : (0 : Int32).toInt = 0 := by decide +kernel
  have z1 : (1 : Int32).toInt = 1 := by decide +kernel
  have sep := rX_sep h.2.1.1.1
  have mn : a1.toNatClampNeg = m := by rw [dk_clN]; omega
  obtain ⟨d, hd⟩ : ∃ d, d = 233 + 7 * m := ⟨_, rfl⟩
  have pd : pX d := by rw [hd]; exact pX_f (by omega)
  have dd : d = 233 + 7 * a1.toNatClampNeg := by rw [mn]; exact hd
  obtain ⟨S3, e3, k3, p3⟩ := cx_copy (o := o) (S := S) (p := d) (q := 3) pd pX_3' (by omega) h.2.2.1 ok.1.1.2.2.2
  have r3 : RX o g G K A L U x S3 := h.keep k3 (by omega) (by omega) (fun a b _ _ => by omega) (fun b => by omega) (fun b => by omega) (fun a b _ _ => by omega) (fun a _ _ => by omega) (fun a _ _ => by omega) (by omega) (fun a _ _ => by omega)
  have s3 : k_sk S S3 := k3.sk (fun b => by omega) (fun b => by omega) (by omega)
  obtain ⟨S4, e4, f7, f6, f8, f9, k4⟩ := cx_enter (o := o) (S := S3) (g := g) (p := d) (a := a1)
  have r4 : RX o g G K A L U x S4 := r3.keep k4 (by decide) (by decide) (fun a b _ _ => by omega) (fun b => by omega) (fun b => by omega) (fun a b _ _ => by omega) (fun a _ _ => id) (fun a _ _ => id) id (fun a _ _ => id)
  have s4 : k_sk S S4 := s3.tr (k4.sk (fun b => by omega) (fun b => by omega) id)
  have p4 : cx_pit G A S4 d := p3.keep (fun i _ _ => (k4.2 i id).1) (fun b _ => k4.I (fun z => by omega))
  have t4 : cx_tr o g d G K (m : Int) (s_n G K (m : Int) 0 A) S4 := ⟨f7, f6, by rw [f8]; exact hm, r4.2.1.1, p4, Or.inl f9⟩
  have main := lp_cnt2 (f := F_e_agrees_B1 a2 o g d) (z := (S, (0 : Int32))) (W := n + 1) (P := fun k T => RX o g G K A L U x T ∧ (k ≤ n → cx_tr o g d G K (m : Int) (s_n G K (m : Int) k A) T) ∧ k_sk S T ∧ ∀ i, i < F.length → (s_fe F i).1 < k → s_f1 G K A (m : Int) (s_fe F i)) (Q := fun q => (q.2 = 1 ∧ s_rc G K A F m ∨ q.2 = 0 ∧ ¬ s_rc G K A F m) ∧ RX o g G K A L U x q.1 ∧ k_sk S q.1) (by omega) (fun k kI T hk hkI hP => by
    obtain ⟨t1, t2, t3, t5⟩ := hP
    have t2 := t2 (by omega)
    have q0 : ¬ a2 < kI := fun z => by have := w_lt.mp z; omega
    rcases cx_agB (o := o) (a1 := kI) (n := k) (d := d) ok fk t1 (hf.keep t3) t2 hkI with ⟨e, v⟩ | ⟨e, v⟩
    · have ne : ¬ F_e_agreesBehind o T g d kI = (0 : Int32) := by rw [e]; decide +kernel
      have okc := s_n_ok (K := K) (r := (m : Int)) ok.1.1 ok.2.2.1.1 ok.2.2.1.2 k
      obtain ⟨T1, e1, r1, l1, k1⟩ := cx_pass (o := o) (p := d) (a1 := 1) (n := 1) (r := (m : Int)) pd (by omega) ok.1.1 ok.2.1 okc.1 okc.2 ⟨by omega, by omega⟩ t1 t2 z1 (by decide)
      refine Or.inl ⟨T1, F_e_agrees_p1 q0 rfl ne e1.symm rfl, r1, fun _ => l1, t3.tr (k1.sk (fun b => by omega) (fun b => by omega) (by omega)), fun i hi he => ?_⟩
      by_cases w : (s_fe F i).1 = k
      · exact v i hi w
      · exact t5 i hi (by omega)
    · refine Or.inr ⟨(T, 0), F_e_agrees_p2 q0 rfl e, Or.inr ⟨rfl, fun z => v (fun i hi _ => (z i hi).2)⟩, t1, t3⟩) (fun kI T hkI hP => by
    obtain ⟨t1, t2, t3, t5⟩ := hP
    refine ⟨(T, 1), F_e_agrees_p0 (w_lt.mpr (by omega)), Or.inl ⟨rfl, fun i hi => ?_⟩, t1, t3⟩
    have := hl i hi
    exact ⟨by omega, t5 i hi (by omega)⟩) ((257 - ((0 : Int32)).toInt).toNat + 1) 0 0 S4 (by rw [z0]; omega) (by omega) z0 ⟨r4, fun _ => t4, s4, fun i hi he => by have := (fk.2 i hi).1; omega⟩
  rw [F_e_agrees_p3 dd e3.symm e4.symm]
  obtain ⟨n1, n2, n3⟩ := main
  refine ⟨_, ?_, n2, n3⟩
  rcases n1 with ⟨q, w⟩ | ⟨q, w⟩
  · exact Or.inl ⟨Prod.ext rfl q, w⟩
  · exact Or.inr ⟨Prod.ext rfl q, w⟩
/-- REACHES of the class -/
theorem cx_reachBits (ok : s_ok G K A U) (fk : s_fk G F) (h : RX o g G K A L U x S) (hf : cx_fe F S) : ∃ (S1 : dg_S) (y : Int32), F_e_reachBits o S g 3 = (S1, y) ∧ y.toInt = s_rs G K A F 21 ∧ RX o g G K A L U x S1 ∧ k_sk S S1 := by
  have z0 : (0 : Int32).toInt = 0 := by decide +kernel
  have z4 : (4 : Int32).toInt = 4 := by decide +kernel
  have z21 : (21 : Int32).toInt = 21 := by decide +kernel
  have z999 : (999 : Int32).toInt = 999 := by decide +kernel
  have hw0 := ok.2.2.1.1.1
  have k1 := fk.1
  have p0 : (zI S 3 0).toInt = A 0 0 := h.2.2.1.2.1
  have first := lp_cnt (f := F_e_reachBits_B4 S 3 o g) (z := (S, (0 : Int32))) (W := F.length) (P := fun k u => (0 ≤ u.toInt ∧ u.toInt ≤ 30) ∧ (∀ i, i < k → (s_fe F i).1 ≤ u.toInt) ∧ (u.toInt = 0 ∨ ∃ i, i < k ∧ (s_fe F i).1 = u.toInt)) (Q := fun q => ∃ u : Int32, q = F_e_reachBits_J1 S 3 u o g ∧ (0 ≤ u.toInt ∧ u.toInt ≤ 30) ∧ (∀ i, i < F.length → (s_fe F i).1 ≤ u.toInt) ∧ (u.toInt = 0 ∨ ∃ i, i < F.length ∧ (s_fe F i).1 = u.toInt)) (by omega) (fun k kI u hk hkI hP => by
    obtain ⟨t1, t2, t3⟩ := hP
    have q0 : ¬ zI S 229 5 ≤ kI := fun z => by have := w_le.mp z; have := hf.1; omega
    have e4 : ((4 : Int32) * kI).toInt = 4 * (k : Int) := dk_mulT z4 hkI (by omega) (by omega)
    have n0 : ((4 : Int32) * kI).toNatClampNeg = 4 * k := by rw [dk_clN, e4]; omega
    have v1 : (S.2.1 230 ((4 : Int32) * kI).toNatClampNeg).toInt = (s_fe F k).1 := by rw [n0]; exact (hf.2 k hk).1
    have u1 := (fk.2 k hk).1
    by_cases q1 : u < S.2.1 230 ((4 : Int32) * kI).toNatClampNeg
    · have d1 := w_lt.mp q1
      rw [v1] at d1
      refine ⟨S.2.1 230 ((4 : Int32) * kI).toNatClampNeg, F_e_reachBits_p7 rfl q0 rfl rfl (if_pos q1).symm rfl, ?_, fun i hi => ?_, Or.inr ⟨k, by omega, v1.symm⟩⟩
      · rw [v1]
        exact u1
      · rw [v1]
        by_cases w : i = k
        · rw [w]
          exact Int.le_refl _
        · have := t2 i (by omega)
          omega
    · have d1 : ¬ u.toInt < (S.2.1 230 ((4 : Int32) * kI).toNatClampNeg).toInt := fun z => q1 (w_lt.mpr z)
      rw [v1] at d1
      refine ⟨u, F_e_reachBits_p7 rfl q0 rfl rfl (if_neg q1).symm rfl, t1, fun i hi => ?_, ?_⟩
      · by_cases w : i = k
        · rw [w]
          omega
        · exact t2 i (by omega)
      · rcases t3 with t3 | ⟨i, hi, he⟩
        · exact Or.inl t3
        · exact Or.inr ⟨i, by omega, he⟩) (fun kI u hkI hP => ⟨_, F_e_reachBits_p6 rfl (w_le.mpr (by have := hf.1; omega)), u, rfl, hP⟩) ((17 - ((0 : Int32)).toInt).toNat + 1) 0 0 0 (by rw [z0]; omega) (by omega) z0 ⟨⟨by rw [z0]; decide, by rw [z0]; decide⟩, fun i hi => absurd hi (Nat.not_lt_zero i), Or.inl z0⟩
  obtain ⟨u, eu, ⟨b1, b2⟩, hl, hx⟩ := first
  rw [F_e_reachBits_p8, eu]
  have es : (zI S 3 0 + u).toInt = A 0 0 + u.toInt := dk_addT p0 rfl (by omega) (by omega)
  by_cases q9 : zI S 3 0 + u ≤ (999 : Int32)
  rotate_left
  · have d9 := dk_nlec z999 q9
    rw [es] at d9
    refine ⟨S, 0, F_e_reachBits_p5 rfl rfl q9, ?_, h, k_sk.rf⟩
    have nn : ∀ r : Int, ¬ s_rc G K A F r := fun r z => by
      rcases hx with hx | ⟨i, hi, he⟩
      · omega
      · have := (z i hi).1
        omega
    have zz : ∀ m : Nat, s_rs G K A F m = 0 := fun m => by
      induction m with
      | zero => rfl
      | succ m ih =>
        show s_rs G K A F m + s_if (s_rc G K A F (m : Int)) ((2 ^ m : Nat) : Int) 0 = 0
        rw [ih, s_if_n (nn _)]
        rfl
    rw [zz, z0]
  have d9 := dk_lec z999 q9
  rw [es] at d9
  rw [F_e_reachBits_p4 rfl rfl q9]
  have main := lp_cnt (f := F_e_reachBits_B2 o g 3 u) (z := (S, (0 : Int32))) (W := 21) (P := fun k s => RX o g G K A L U x s.2 ∧ k_sk S s.2 ∧ s.1.toInt = s_rs G K A F k) (Q := fun q => RX o g G K A L U x q.1 ∧ k_sk S q.1 ∧ q.2.toInt = s_rs G K A F 21) (by decide) (fun k kI s hk hkI hP => by
    obtain ⟨w, T⟩ := s
    obtain ⟨t1, t2, t3⟩ := hP
    have t1 : RX o g G K A L U x T := t1
    have t2 : k_sk S T := t2
    have t3 : w.toInt = s_rs G K A F k := t3
    have q0 : ¬ (21 : Int32) ≤ kI := fun z => by have := dk_gec z21 z; omega
    obtain ⟨T1, e, r1, k9⟩ := cx_agrees (o := o) (a1 := kI) (a2 := u) (n := u.toInt.toNat) (m := k) ok fk t1 (hf.keep t2) hkI (by omega) (by omega) (by omega) (by omega) (fun i hi => by have := hl i hi; omega)
    have rb := s_rs_b (G := G) (K := K) (A := A) (F := F) k
    rcases e with ⟨e, v⟩ | ⟨e, v⟩
    · refine ⟨(w ||| ((1 : Int32) <<< (kI &&& 31)), T1), (F_e_reachBits_p3 q0 (by rw [e]) (show (1 : Int32) = _ by rw [e]) (by decide +kernel) rfl rfl).trans (F_e_reachBits_p1 rfl), r1, t2.tr k9, ?_⟩
      show (w ||| ((1 : Int32) <<< (kI &&& 31))).toInt = s_rs G K A F k + s_if (s_rc G K A F (k : Int)) ((2 ^ k : Nat) : Int) 0
      rw [s_if_y v, w_or2 (r := k) (by omega) (by rw [t3]; exact rb) (w_sh21 hkI hk), t3]
    · refine ⟨(w, T1), (F_e_reachBits_p2 q0 (by rw [e]) (show (0 : Int32) = _ by rw [e]) rfl).trans (F_e_reachBits_p1 rfl), r1, t2.tr k9, ?_⟩
      show w.toInt = s_rs G K A F k + s_if (s_rc G K A F (k : Int)) ((2 ^ k : Nat) : Int) 0
      rw [s_if_n v, t3]
      omega) (fun kI s hkI hP => by
    obtain ⟨w, T⟩ := s
    exact ⟨(T, w), F_e_reachBits_p0 (dk_gep z21 (by omega)), hP.1, hP.2.1, hP.2.2⟩) ((22 - ((0 : Int32)).toInt).toNat + 1) 0 0 (0, S) (by rw [z0]; decide) (by decide) z0 ⟨h, k_sk.rf, z0⟩
  exact ⟨_, _, rfl, main.2.2, main.1, main.2.1⟩
theorem cx_hasSeam (h : RX o g G K A L U x S) (ok : s_ok G K A U) : ¬ F_g_hasSeam o S g = (0 : Int32) := by
  have hc := h.2.1.2.1.1
  have hgb := ok.1.1.1
  rw [F_g_hasSeam_p1 rfl (fun z => by have := dk_lec (k := 0) (by decide +kernel) z; omega)]
  decide +kernel
theorem cx_reaches (ok : s_ok G K A U) (fk : s_fk G F) (h : RX o g G K A L U x S) (hf : cx_fe F S) : ∃ (S1 : dg_S) (y : Int32), F_d_reaches o S = (S1, y) ∧ y.toInt = s_rs G K A F 21 ∧ RX o g G K A L U x S1 ∧ k_sk S S1 := by
  obtain ⟨S1, y, e, v, r, k⟩ := cx_reachBits (o := o) ok fk h hf
  exact ⟨S1, y, F_d_reaches_p1 h.1.symm rfl (cx_hasSeam h ok) (by rw [e]) (by rw [e]), v, r, k⟩
end EI
