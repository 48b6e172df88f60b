/-! REACHES: the reference; both sides -/
/-- how many of the first n -/
noncomputable def s_ct (P : Nat → Prop) : Nat → Int
  | 0 => 0
  | n + 1 => s_ct P n + s_b (P n)
theorem s_ct_b {P : Nat → Prop} : ∀ n : Nat, 0 ≤ s_ct P n ∧ s_ct P n ≤ n
  | 0 => ⟨Int.le_refl _, by show (0 : Int) ≤ ((0 : Nat) : Int); omega⟩
  | n + 1 => by
    have ih := s_ct_b (P := P) n
    have := s_b01 (P n)
    show 0 ≤ s_ct P n + s_b (P n) ∧ s_ct P n + s_b (P n) ≤ ((n + 1 : Nat) : Int)
    omega
theorem s_ct_all {P : Nat → Prop} : ∀ n : Nat, s_ct P n = n ↔ ∀ i, i < n → P i
  | 0 => ⟨fun _ i hi => absurd hi (Nat.not_lt_zero i), fun _ => rfl⟩
  | n + 1 => by
    have ih := s_ct_all (P := P) n
    have b := s_ct_b (P := P) n
    constructor
    · intro h i hi
      have h : s_ct P n + s_b (P n) = ((n + 1 : Nat) : Int) := h
      have hp : P n := by
        apply Classical.byContradiction
        intro z
        rw [s_b0 z] at h
        omega
      by_cases w : i = n
      · rw [w]
        exact hp
      · rw [s_b1 hp] at h
        exact ih.mp (by omega) i (by omega)
    · intro h
      show s_ct P n + s_b (P n) = ((n + 1 : Nat) : Int)
      rw [s_b1 (h n (by omega)), ih.mpr (fun i hi => h i (by omega))]
      omega
theorem s_ct_add {P Q R : Nat → Prop} (h : ∀ i, R i ↔ P i ∨ Q i) (hd : ∀ i, ¬ (P i ∧ Q i)) : ∀ n : Nat, s_ct R n = s_ct P n + s_ct Q n
  | 0 => rfl
  | n + 1 => by
    have ih := s_ct_add h hd n
    show s_ct R n + s_b (R n) = s_ct P n + s_b (P n) + (s_ct Q n + s_b (Q n))
    have e : s_b (R n) = s_b (P n) + s_b (Q n) := by
      by_cases hp : P n
      · rw [s_b1 ((h n).mpr (Or.inl hp)), s_b1 hp, s_b0 (fun z => hd n ⟨hp, z⟩)]
        rfl
      · by_cases hq : Q n
        · rw [s_b1 ((h n).mpr (Or.inr hq)), s_b0 hp, s_b1 hq]
          rfl
        · rw [s_b0 (fun z => by
            rcases (h n).mp z with z | z
            · exact hp z
            · exact hq z), s_b0 hp, s_b0 hq]
          rfl
    rw [ih, e]
    omega
/-- as the reference holds what is felt -/
def mx_fe (F : s_F) (S : dg_S) : Prop := (zI S 0 69).toInt = F.length ∧ ∀ i, i < F.length → (S.2.1 45 i).toInt = (s_fe F i).1 ∧ (S.2.1 46 i).toInt = (s_fe F i).2.1 ∧ (S.2.1 47 i).toInt = (s_fe F i).2.2
/-- a state of the reference where the light reaches r -/
def RMr (G : aR) (K : Nat → List Int) (A : aR) (L : s_L) (U : s_U) (x r : Int) (S : dg_S) : Prop := mx_gf G K S ∧ mx_lay G A L S 0 ∧ mx_ud G S U ∧ (zI S 0 63).toInt = r ∧ (zL S 0 62).toInt = x
/-- what these looks leave -/
def k_y (S S1 : dg_S) : Prop := (∀ b, b ≠ 63 → zI S1 0 b = zI S 0 b) ∧ ∀ a, ¬ (29 ≤ a ∧ a ≤ 44) → a ≠ 48 → S1.2.1 a = S.2.1 a
section EJ
variable {o oX oM g n p m k : Nat} {G A A' : aR} {K : Nat → List Int} {L L' : s_L} {U : s_U} {F : s_F} {S S0 S1 SX SM T : dg_S} {x x' r c v t : Int} {a a1 a2 a3 a4 y : Int32}
theorem k_y.rf : k_y S S := ⟨fun _ _ => rfl, fun _ _ _ => rfl⟩
theorem k_y.tr (h : k_y S S0) (k : k_y S0 S1) : k_y S S1 := ⟨fun b hb => (k.1 b hb).trans (h.1 b hb), fun a h1 h2 => (k.2 a h1 h2).trans (h.2 a h1 h2)⟩
theorem k_v.ky {v : Nat} (h : k_v v S S1) : k_y S S1 := ⟨fun _ _ => h.I, fun a h1 _ => h.row h1⟩
theorem mx_fe.keep (h : mx_fe F S) (k : k_y S S1) : mx_fe F S1 := by
  obtain ⟨h1, h2⟩ := h
  refine ⟨by rw [k.1 69 (by decide)]; exact h1, fun i hi => ?_⟩
  rw [k.2 45 (by decide) (by decide), k.2 46 (by decide) (by decide), k.2 47 (by decide) (by decide)]
  exact h2 i hi
theorem RMr.rv {v : Nat} (h : RMr G K A L U x r S) (hb : G 0 6 ≤ 16) (t : k_v v S S1) (hv : v ≤ 1) (hl : mx_lay G A' L' S1 0) : RMr G K A' L' U x r S1 := by
  obtain ⟨h1, h2, h3, h4, h5⟩ := h
  exact ⟨h1.keep t.I t.I (fun i hi => t.row (by omega)), hl, t.ud h3 hv hb, by rw [t.I]; exact h4, by rw [t.1.L id]; exact h5⟩
/-- row 48 alone -/
theorem RMr.row48 (h : RMr G K A L U x r S) (hb : G 0 6 ≤ 16) (t : kp (fun _ _ => False) (fun a => a = 48) S S1) : RMr G K A L U x r S1 := by
  obtain ⟨h1, h2, h3, h4, h5⟩ := h
  exact ⟨h1.keep (t.I id) (t.I id) (fun i hi => (t.2 i (by omega)).1), h2.keep hb (fun a a0 a1 j _ _ => by rw [(t.2 a (by omega)).1]), h3.keep hb (t.I id) (t.I id) (fun a a0 a1 j _ => by rw [(t.2 a (by omega)).1]), by rw [t.I id]; exact h4, by rw [t.L id]; exact h5⟩
/-- the light reaches otherwise -/
theorem RMr.to (h : RMr G K A L U x r S) (hb : G 0 6 ≤ 16) (hr : a.toInt = v) : RMr G K A L U x v (dg_uF S 0 63 (.int a)) ∧ k_y S (dg_uF S 0 63 (.int a)) := by
  obtain ⟨h1, h2, h3, h4, h5⟩ := h
  have t : kp (fun a b => a = 0 ∧ b = 63) (fun _ => False) S (dg_uF S 0 63 (.int a)) := kp.uF kp.rf ⟨rfl, rfl⟩
  exact ⟨⟨h1.keep (t.I (by decide)) (t.I (by decide)) (fun i hi => (t.2 i id).1), h2.keep hb (fun a a0 a1 j _ _ => by rw [(t.2 a id).1]), h3.keep hb (t.I (by decide)) (t.I (by decide)) (fun a a0 a1 j _ => by rw [(t.2 a id).1]), by rw [w_I, if_pos ⟨rfl, rfl⟩]; exact hr, by rw [t.L (by decide)]; exact h5⟩, fun b hb => t.I (fun z => hb z.2), fun a _ _ => (t.2 a id).1⟩
theorem mx_tickr (ok : s_ok G K A U) (h : RMr G K A L U x r S) (hr : r ≤ 900) (hw : s_wf G A') (hcw : s_cw G A') (hl : mx_lay G A' L' S 1) : ∃ (S1 : dg_S) (y : Int32), F_m_ticks o S (1 : Int32) = (S1, y) ∧ RMr G K A L U x r S1 ∧ mx_lay G (s_tu G K r A') (s_dL G K r A' L') S1 1 ∧ k_v 1 S S1 := by
  have hb := ok.1.1.2.2.2
  obtain ⟨S1, y, e1, k1, l1, y1⟩ := mx_tick (o := o) (v := 1) (a1 := 1) ok.1.1 ok.2.1 hw hcw h.1.1 hl (by decide +kernel) (by decide) h.2.2.2.1 hr
  exact ⟨S1, y, e1, h.rv hb k1 (by decide) (k1.lay h.2.1 (by decide) hb), l1, k1⟩
theorem mx_tryr (ok : s_ok G K A U) (h : RMr G K A L U x r S) : ∃ S1, F_m_copies o S (1 : Int32) (0 : Int32) = S1 ∧ RMr G K A L U x r S1 ∧ mx_lay G A L S1 1 ∧ k_v 1 S S1 := by
  have hb := ok.1.1.2.2.2
  obtain ⟨S1, e1, k1, l1⟩ := mx_copies (o := o) (S := S) (v := 1) (u := 0) (a1 := 1) (a2 := 0) (by decide +kernel) (by decide +kernel) (by decide) (by decide) (by decide) h.2.1 hb
  exact ⟨S1, e1, h.rv hb k1 (by decide) (k1.lay h.2.1 (by decide) hb), l1, k1⟩
/-- grades that were written down for a reach, behind k shifts -/
def mx_gb (G : aR) (K : Nat → List Int) (A : aR) (m k : Nat) (S : dg_S) : Prop := ∀ c : Int, s_in G c → (S.2.1 48 (64 * (31 * m + k) + c.toNat)).toInt = s_gr9 (s_n G K (m : Int) k A) c
theorem mx_gb.keep (h : mx_gb G K A m k S) (e : ∀ j, j < 64 * (31 * m + k) + 64 → S1.2.1 48 j = S.2.1 48 j) : mx_gb G K A m k S1 := fun c hc => by
  have := hc.1
  rw [e _ (by omega)]
  exact h c hc
/-- cells are written down -/
theorem mx_note (ok : s_ok G K A U) (h : RMr G K A L U x r S) (hl : mx_lay G A' L' S 1) {mI kI metI : Int32} (hm : mI.toInt = m) (hm20 : m ≤ 20) (hk : kI.toInt = k) (hk30 : k ≤ 30) {z : (Int32 × Int32 × Int32 × dg_S) ⊕ ((Int32 × Int32 × dg_S) ⊕ (dg_S × Int32))} {S9 : dg_S} : ∃ T, lp (F_m_reachBits_B10 S9 o kI metI mI) z ((65 - ((0 : Int32)).toInt).toNat + 1) ((0 : Int32), S) = F_m_reachBits_J5 S9 o T kI metI ∧ RMr G K A L U x r T ∧ mx_lay G A' L' T 1 ∧ k_y S T ∧ (∀ c : Int, s_in G c → (T.2.1 48 (64 * (31 * m + k) + c.toNat)).toInt = s_gr9 A' c) ∧ ∀ j, j < 64 * (31 * m + k) → T.2.1 48 j = S.2.1 48 j := by
  have z0 : (0 : Int32).toInt = 0 := by decide +kernel
  have z64 : (64 : Int32).toInt = 64 := by decide +kernel
  have z31 : (31 : Int32).toInt = 31 := by decide +kernel
  have hb := ok.1.1.2.2.2
  have e1 : ((31 : Int32) * mI).toInt = 31 * (m : Int) := dk_mulT z31 hm (by omega) (by omega)
  have e2 : ((31 : Int32) * mI + kI).toInt = 31 * (m : Int) + k := dk_addT e1 hk (by omega) (by omega)
  have e3 : ((64 : Int32) * ((31 : Int32) * mI + kI)).toInt = 64 * (31 * (m : Int) + k) := dk_mulT z64 e2 (by omega) (by omega)
  have main := lp_cnt (f := F_m_reachBits_B10 S9 o kI metI mI) (z := z) (W := 64) (P := fun c T => kp (fun _ _ => False) (fun a => a = 48) S T ∧ (∀ i, i < c → T.2.1 48 (64 * (31 * m + k) + i) = S.2.1 31 (64 + i)) ∧ ∀ j, j < 64 * (31 * m + k) → T.2.1 48 j = S.2.1 48 j) (Q := fun q => ∃ T, q = F_m_reachBits_J5 S9 o T kI metI ∧ kp (fun _ _ => False) (fun a => a = 48) S T ∧ (∀ i, i < 64 → T.2.1 48 (64 * (31 * m + k) + i) = S.2.1 31 (64 + i)) ∧ ∀ j, j < 64 * (31 * m + k) → T.2.1 48 j = S.2.1 48 j) (by decide) (fun c cI T hc hcI hP => by
    obtain ⟨t1, t2, t3⟩ := hP
    have q0 : ¬ (64 : Int32) ≤ cI := fun z => by have := dk_gec z64 z; omega
    have e4 : ((64 : Int32) * ((31 : Int32) * mI + kI) + cI).toInt = 64 * (31 * (m : Int) + k) + c := dk_addT e3 hcI (by omega) (by omega)
    have n4 : ((64 : Int32) * ((31 : Int32) * mI + kI) + cI).toNatClampNeg = 64 * (31 * m + k) + c := by rw [dk_clN, e4]; omega
    have e5 : ((64 : Int32) + cI).toInt = 64 + (c : Int) := dk_addT z64 hcI (by omega) (by omega)
    have n5 : ((64 : Int32) + cI).toNatClampNeg = 64 + c := by rw [dk_clN, e5]; omega
    obtain ⟨T1, h1⟩ : ∃ X, X = dg_uf T 48 (upd (T.2.1 48) ((64 : Int32) * ((31 : Int32) * mI + kI) + cI).toNatClampNeg (T.2.1 31 ((64 : Int32) + cI).toNatClampNeg)) := ⟨_, rfl⟩
    have r31 : T.2.1 31 = S.2.1 31 := (t1.2 31 (by decide)).1
    refine ⟨T1, F_m_reachBits_p14 q0 rfl rfl rfl rfl rfl rfl h1 rfl, by rw [h1]; exact t1.uf rfl, fun i hi => ?_, fun j hj => ?_⟩
    · rw [h1, w_f, if_pos rfl, w_u, n4, n5, r31]
      by_cases w : i = c
      · rw [if_pos (by omega), w]
      · rw [if_neg (by omega)]
        exact t2 i (by omega)
    · rw [h1, w_f, if_pos rfl, w_u, n4, if_neg (by omega)]
      exact t3 j hj) (fun cI T hcI hP => ⟨_, F_m_reachBits_p13 (dk_gep z64 (by omega)), T, rfl, hP⟩) ((65 - ((0 : Int32)).toInt).toNat + 1) 0 0 S (by rw [z0]; decide) (by decide) z0 ⟨kp.rf, fun i hi => absurd hi (Nat.not_lt_zero i), fun _ _ => rfl⟩
  obtain ⟨T, eT, t1, t2, t3⟩ := main
  refine ⟨T, eT, h.row48 hb t1, hl.keep hb (fun a a0 a1 j _ _ => by rw [(t1.2 a (by omega)).1]), ⟨fun b _ => t1.I id, fun a _ h => (t1.2 a h).1⟩, fun c hc => ?_, t3⟩
  have hc0 := hc.1
  rw [t2 c.toNat (by omega)]
  have := (hl.1 c hc).1
  unfold mx_ad at this
  rw [show (64 * ((1 : Nat) : Int) + c).toNat = 64 + c.toNat by omega] at this
  exact this
/-- the rows that hold behind k shifts are counted -/
theorem mx_count (ok : s_ok G K A U) (fk : s_fk G F) (hf : mx_fe F S) {S9 : dg_S} (h69 : zI S9 0 69 = zI S 0 69) (hl : mx_ce G (s_n G K r k A) S 1) {kI metI : Int32} (hk : kI.toInt = k) {w : Int} (hw : metI.toInt = w) (hwb : 0 ≤ w ∧ w ≤ 100) : ∃ y : Int32, F_m_reachBits_J5 S9 o S kI metI = F_m_reachBits_J6 o S kI y ∧ y.toInt = w + s_ct (fun i => (s_fe F i).1 = k ∧ s_f1 G K A r (s_fe F i)) F.length := by
  have z0 : (0 : Int32).toInt = 0 := by decide +kernel
  have z1 : (1 : Int32).toInt = 1 := by decide +kernel
  have z64 : (64 : Int32).toInt = 64 := by decide +kernel
  obtain ⟨f1, f2⟩ := hf
  obtain ⟨k1, k2⟩ := fk
  rw [F_m_reachBits_p12]
  refine lp_cnt (f := F_m_reachBits_B7 S9 o S kI) (z := Sum.inr (Sum.inr (S9, (0 : Int32)))) (W := F.length) (P := fun i u => u.toInt = w + s_ct (fun i => (s_fe F i).1 = k ∧ s_f1 G K A r (s_fe F i)) i) (Q := fun q => ∃ y : Int32, q = F_m_reachBits_J6 o S kI y ∧ y.toInt = w + s_ct (fun i => (s_fe F i).1 = k ∧ s_f1 G K A r (s_fe F i)) F.length) (by omega) (fun i iI u hi hiI hP => ?_) (fun iI u hiI hP => ⟨_, F_m_reachBits_p6 rfl (w_le.mpr (by rw [h69]; omega)), u, rfl, hP⟩) ((17 - ((0 : Int32)).toInt).toNat + 1) 0 0 metI (by rw [z0]; omega) (by omega) z0 (by show metI.toInt = w + 0; omega)
  have hP : u.toInt = w + s_ct (fun i => (s_fe F i).1 = k ∧ s_f1 G K A r (s_fe F i)) i := hP
  have cb := s_ct_b (P := fun i => (s_fe F i).1 = k ∧ s_f1 G K A r (s_fe F i)) i
  have q0 : ¬ zI S9 0 69 ≤ iI := fun z => by have := w_le.mp z; rw [h69] at this; omega
  have iN : iI.toNatClampNeg = i := by rw [dk_clN]; omega
  obtain ⟨v1, v2, v3⟩ := f2 i hi
  obtain ⟨u1, u2, u3⟩ := k2 i hi
  have u20 := u2.1
  have add : ∀ d : Int32, d.toInt = s_b ((s_fe F i).1 = k ∧ s_f1 G K A r (s_fe F i)) → F_m_reachBits_B7 S9 o S kI (iI, u) = F_m_reachBits_J8 u d iI → ∃ s1, F_m_reachBits_B7 S9 o S kI (iI, u) = .inl (iI + 1, s1) ∧ s1.toInt = w + s_ct (fun i => (s_fe F i).1 = k ∧ s_f1 G K A r (s_fe F i)) (i + 1) := fun d hd e => by
    have db := s_b01 ((s_fe F i).1 = k ∧ s_f1 G K A r (s_fe F i))
    refine ⟨u + d, e.trans (F_m_reachBits_p7 rfl rfl), ?_⟩
    show (u + d).toInt = w + (s_ct (fun i => (s_fe F i).1 = k ∧ s_f1 G K A r (s_fe F i)) i + s_b ((s_fe F i).1 = k ∧ s_f1 G K A r (s_fe F i)))
    rw [dk_addT hP hd (by omega) (by omega)]
    omega
  by_cases q1 : S.2.1 45 iI.toNatClampNeg = kI
  rotate_left
  · have d1 : ¬ (s_fe F i).1 = k := fun z => q1 (Int32.toInt_inj.mp (by rw [iN, v1, hk]; exact z))
    exact add 0 (by rw [z0, s_b0 (fun z => d1 z.1)]) ((F_m_reachBits_p9 rfl q0 rfl q1).trans F_m_reachBits_p8)
  have d1 : (s_fe F i).1 = k := by
    have := w_eq.mp q1
    rw [iN, v1, hk] at this
    exact this
  have e64 : ((64 : Int32) + S.2.1 46 iI.toNatClampNeg).toInt = 64 + (s_fe F i).2.1 := dk_addT z64 (by rw [iN]; exact v2) (by omega) (by omega)
  have n64 : ((64 : Int32) + S.2.1 46 iI.toNatClampNeg).toNatClampNeg = mx_ad 1 (s_fe F i).2.1 := by
    rw [dk_clN, e64]
    unfold mx_ad
    omega
  have g31 : (S.2.1 31 ((64 : Int32) + S.2.1 46 iI.toNatClampNeg).toNatClampNeg).toInt = s_gr9 (s_n G K r k A) (s_fe F i).2.1 := by
    rw [n64]
    exact (hl _ u2).1
  have es : s_f1 G K A r (s_fe F i) ↔ s_gr9 (s_n G K r k A) (s_fe F i).2.1 = (s_fe F i).2.2 := by
    unfold s_f1
    rw [d1, show ((k : Int)).toNat = k by omega]
  by_cases q2 : S.2.1 31 ((64 : Int32) + S.2.1 46 iI.toNatClampNeg).toNatClampNeg = S.2.1 47 iI.toNatClampNeg
  · have d2 := w_eq.mp q2
    rw [g31, iN, v3] at d2
    exact add 1 (by rw [z1, s_b1 ⟨d1, es.mpr d2⟩]) (F_m_reachBits_p11 rfl q0 rfl q1 rfl rfl rfl rfl q2)
  · have d2 : ¬ (S.2.1 31 ((64 : Int32) + S.2.1 46 iI.toNatClampNeg).toNatClampNeg).toInt = (S.2.1 47 iI.toNatClampNeg).toInt := fun z => q2 (w_eq.mpr z)
    rw [g31, iN, v3] at d2
    exact add 0 (by rw [z0, s_b0 (fun z => d2 (es.mp z.2))]) ((F_m_reachBits_p10 rfl q0 rfl q1 rfl rfl rfl rfl q2).trans F_m_reachBits_p8)
/-- how many shifts can come at most -/
def s_W (A : aR) : Nat := (min 30 (999 - A 0 0)).toNat
theorem mx_comer (h : RMr G K A L U x r S) (hw : s_wf G A) (hk : a.toInt = k) : F_m_isAhead o S a (0 : Int32) (30 : Int32) = 1 ∧ k ≤ s_W A ∨ F_m_isAhead o S a (0 : Int32) (30 : Int32) = 0 ∧ ¬ k ≤ s_W A := by
  have z0 : (0 : Int32).toInt = 0 := by decide +kernel
  have z30 : (30 : Int32).toInt = 30 := by decide +kernel
  have hw0 := hw.1
  have := mx_come (o := o) (a1 := a) (a2 := 0) (a3 := 30) h.1.1.1 h.2.1 hw (by decide +kernel) (by decide +kernel)
  rw [z0, z30] at this
  unfold s_W
  rcases this with ⟨e, w⟩ | ⟨e, w⟩
  · exact Or.inl ⟨e, by omega⟩
  · exact Or.inr ⟨e, by omega⟩
/-- one reach -/
theorem mx_reach1 (ok : s_ok G K A U) (fk : s_fk G F) (h : RMr G K A L U x (m : Int) S) (hl : mx_lay G A L S 1) (hf : mx_fe F S) {S9 : dg_S} (hy : k_y S9 S) {mI bI : Int32} (hm : mI.toInt = m) (hm20 : m ≤ 20) {z : (Int32 × Int32 × dg_S) ⊕ (dg_S × Int32)} {rw9 : Int32} : ∃ (T : dg_S) (u : Int32), lp (F_m_reachBits_B4 S9 o mI bI) z ((32 - ((0 : Int32)).toInt).toNat + 1) ((0 : Int32), (0 : Int32), rw9, S) = F_m_reachBits_J2 S9 u mI bI T ∧ RMr G K A L U x (m : Int) T ∧ k_y S T ∧ (u.toInt = F.length ↔ s_rc G K A F (m : Int)) ∧ (∀ k, k ≤ s_W A → mx_gb G K A m k T) ∧ ∀ j, j < 64 * (31 * m) → T.2.1 48 j = S.2.1 48 j := by
  have z0 : (0 : Int32).toInt = 0 := by decide +kernel
  have hb := ok.1.1.2.2.2
  have hw0 := ok.2.2.1.1.1
  obtain ⟨k1, k2⟩ := fk
  have hW : s_W A ≤ 30 := by unfold s_W; omega
  have main := lp_cnt2 (f := F_m_reachBits_B4 S9 o mI bI) (z := z) (W := s_W A + 1) (P := fun k s => (RMr G K A L U x (m : Int) s.2.2 ∧ k_y S s.2.2) ∧ (k ≤ s_W A → ∃ L1, mx_lay G (s_n G K (m : Int) k A) L1 s.2.2 1) ∧ s.1.toInt = s_ct (fun i => (s_fe F i).1 < k ∧ s_f1 G K A (m : Int) (s_fe F i)) F.length ∧ (∀ k', k' < k → mx_gb G K A m k' s.2.2) ∧ ∀ j, j < 64 * (31 * m) → s.2.2.2.1 48 j = S.2.1 48 j) (Q := fun q => ∃ (T : dg_S) (u : Int32), q = F_m_reachBits_J2 S9 u mI bI T ∧ RMr G K A L U x (m : Int) T ∧ k_y S T ∧ (u.toInt = F.length ↔ s_rc G K A F (m : Int)) ∧ (∀ k, k ≤ s_W A → mx_gb G K A m k T) ∧ ∀ j, j < 64 * (31 * m) → T.2.1 48 j = S.2.1 48 j) (by omega) (fun k kI s hk hkI hP => by
    obtain ⟨u, rw8, T⟩ := s
    obtain ⟨⟨t1, t2⟩, t3, t4, t5, t6⟩ := hP
    have t1 : RMr G K A L U x (m : Int) T := t1
    have t2 : k_y S T := t2
    have t4 : u.toInt = s_ct (fun i => (s_fe F i).1 < k ∧ s_f1 G K A (m : Int) (s_fe F i)) F.length := t4
    have t5 : ∀ k', k' < k → mx_gb G K A m k' T := t5
    have t6 : ∀ j, j < 64 * (31 * m) → T.2.1 48 j = S.2.1 48 j := t6
    obtain ⟨L1, t3⟩ := t3 (by omega)
    have t3 : mx_lay G (s_n G K (m : Int) k A) L1 T 1 := t3
    rcases mx_comer (o := o) (a := kI) t1 ok.2.2.1.1 hkI with ⟨e, -⟩ | ⟨-, e⟩
    rotate_left
    · omega
    have ne : ¬ F_m_isAhead o T kI (0 : Int32) (30 : Int32) = (0 : Int32) := by rw [e]; decide +kernel
    have cb := s_ct_b (P := fun i => (s_fe F i).1 < k ∧ s_f1 G K A (m : Int) (s_fe F i)) F.length
    obtain ⟨T1, e1, r1, l1, y1, g1, o1⟩ := mx_note (o := o) (z := Sum.inr (Sum.inr (S9, (0 : Int32)))) (S9 := S9) (metI := u) ok t1 t3 hm hm20 hkI (by omega)
    have y9 : k_y S9 T1 := hy.tr (t2.tr y1)
    obtain ⟨w, e2, c2⟩ := mx_count (o := o) (A := A) (r := (m : Int)) (k := k) (S := T1) (S9 := S9) (kI := kI) (metI := u) ok ⟨k1, k2⟩ (hf.keep (t2.tr y1)) (y9.1 69 (by decide)).symm l1.1 hkI t4 ⟨by omega, by omega⟩
    have okc := s_n_ok (K := K) (r := (m : Int)) ok.1.1 ok.2.2.1.1 ok.2.2.1.2 k
    obtain ⟨T2, y, e3, r2, l2, k9⟩ := mx_tickr (o := o) ok r1 (by omega) okc.1 okc.2 l1
    refine Or.inl ⟨(w, _, T2), (((F_m_reachBits_p15 rfl ne).trans e1).trans e2).trans (F_m_reachBits_p5 (by rw [e3]) rfl rfl), ⟨r2, t2.tr (y1.tr k9.ky)⟩, fun hk1 => ?_, ?_, fun k' hk' => ?_, fun j hj => ?_⟩
    · have e00 := s_n_00 (n := k) (G := G) (K := K) (r := (m : Int)) (A := A) (by unfold s_W at hk1; omega)
      rw [s_tu_tk (by rw [e00]; unfold s_W at hk1; omega)] at l2
      exact ⟨_, l2⟩
    · show w.toInt = _
      rw [c2]
      refine (s_ct_add (fun i => ?_) (fun i z => by omega) F.length).symm
      constructor
      · rintro ⟨h1, h2⟩
        by_cases w : (s_fe F i).1 < (k : Int)
        · exact Or.inl ⟨w, h2⟩
        · exact Or.inr ⟨by omega, h2⟩
      · rintro (⟨h1, h2⟩ | ⟨h1, h2⟩)
        · exact ⟨by omega, h2⟩
        · exact ⟨by omega, h2⟩
    · have e48 : T2.2.1 48 = T1.2.1 48 := k9.row (by decide)
      by_cases w : k' = k
      · subst w
        intro c hc
        show (T2.2.1 48 _).toInt = _
        rw [e48]
        exact g1 c hc
      · refine (t5 k' (by omega)).keep (fun j hj => ?_)
        show T2.2.1 48 j = T.2.1 48 j
        rw [e48]
        exact o1 j (by omega)
    · show T2.2.1 48 j = S.2.1 48 j
      rw [k9.row (by decide), o1 j (by omega)]
      exact t6 j hj) (fun kI s hkI hP => by
    obtain ⟨u, rw8, T⟩ := s
    obtain ⟨⟨t1, t2⟩, t3, t4, t5, t6⟩ := hP
    have t1 : RMr G K A L U x (m : Int) T := t1
    have t4 : u.toInt = s_ct (fun i => (s_fe F i).1 < ((s_W A + 1 : Nat) : Int) ∧ s_f1 G K A (m : Int) (s_fe F i)) F.length := t4
    rcases mx_comer (o := o) (a := kI) t1 ok.2.2.1.1 hkI with ⟨-, e⟩ | ⟨e, -⟩
    · omega
    refine ⟨_, F_m_reachBits_p4 rfl e, T, u, rfl, t1, t2, ?_, fun k hk => t5 k (by omega), t6⟩
    rw [t4, s_ct_all]
    constructor
    · intro hh i hi
      have h1 := hh i hi
      have h2 := (k2 i hi).1
      have h3 := h1.1
      unfold s_W at h3
      exact ⟨by omega, h1.2⟩
    · intro hh i hi
      have := hh i hi
      have := (k2 i hi).1
      unfold s_W
      exact ⟨by omega, (hh i hi).2⟩) ((32 - ((0 : Int32)).toInt).toNat + 1) 0 0 ((0 : Int32), rw9, S) (by rw [z0]; omega) (by omega) z0 ⟨⟨h, k_y.rf⟩, fun _ => ⟨L, hl⟩, ?_, fun k' hk' => absurd hk' (Nat.not_lt_zero k'), fun _ _ => rfl⟩
  · exact main
  · show (0 : Int32).toInt = _
    have zz : ∀ m' : Nat, m' ≤ F.length → s_ct (fun i => (s_fe F i).1 < ((0 : Nat) : Int) ∧ s_f1 G K A (m : Int) (s_fe F i)) m' = 0 := fun m' => by
      induction m' with
      | zero => intro _; rfl
      | succ m' ih =>
        intro hm'
        show s_ct _ m' + s_b _ = 0
        have := (k2 m' (by omega)).1
        rw [ih (by omega), s_b0 (fun z => by omega)]
        rfl
    rw [zz _ (Nat.le_refl _), z0]
theorem mx_reachBits (ok : s_ok G K A U) (fk : s_fk G F) (h : RM G K A L U x S) (hf : mx_fe F S) : ∃ (S1 : dg_S) (y : Int32), F_m_reachBits o S = (S1, y) ∧ y.toInt = s_rs G K A F 21 ∧ RM G K A L U x S1 ∧ k_y S S1 ∧ ∀ m, m < 21 → ∀ k, k ≤ s_W A → mx_gb G K A m k S1 := by
  have z0 : (0 : Int32).toInt = 0 := by decide +kernel
  have z20 : (20 : Int32).toInt = 20 := by decide +kernel
  have hb := ok.1.1.2.2.2
  have hW : s_W A ≤ 30 := by unfold s_W; omega
  have h5 : (S.2.1 5 (zI S 0 13).toNatClampNeg).toInt = G 0 3 := h.1.2.1.1
  rw [F_m_reachBits_p17]
  have main := lp_cnt (f := F_m_reachBits_B1 S o) (z := (S, (0 : Int32))) (W := 21) (P := fun m s => (∃ r, RMr G K A L U x r s.2) ∧ k_y S s.2 ∧ s.1.toInt = s_rs G K A F m ∧ ∀ m', m' < m → ∀ k, k ≤ s_W A → mx_gb G K A m' k s.2) (Q := fun q => RM G K A L U x q.1 ∧ k_y S q.1 ∧ q.2.toInt = s_rs G K A F 21 ∧ ∀ m', m' < 21 → ∀ k, k ≤ s_W A → mx_gb G K A m' k q.1) (by decide) (fun m mI s hm hmI hP => by
    obtain ⟨u, T⟩ := s
    obtain ⟨⟨r, t1⟩, t2, t3, t4⟩ := hP
    have t1 : RMr G K A L U x r T := t1
    have t2 : k_y S T := t2
    have t3 : u.toInt = s_rs G K A F m := t3
    have t4 : ∀ m', m' < m → ∀ k, k ≤ s_W A → mx_gb G K A m' k T := t4
    have q0 : ¬ (20 : Int32) < mI := fun z => by have := dk_gtc z20 z; omega
    obtain ⟨T1, e1, r1, l1, k1⟩ := mx_tryr (o := o) ok t1
    obtain ⟨T2, h2⟩ : ∃ X, X = dg_uF T1 0 63 (.int mI) := ⟨_, rfl⟩
    obtain ⟨r2, y2⟩ := r1.to (a := mI) (v := (m : Int)) hb hmI
    have l2 : mx_lay G A L (dg_uF T1 0 63 (.int mI)) 1 := l1.keep hb (fun a _ _ j _ _ => rfl)
    rw [← h2] at r2 y2 l2
    have yy : k_y S T2 := t2.tr (k1.ky.tr y2)
    obtain ⟨T3, w, e3, r3, y3, c3, g3, o3⟩ := mx_reach1 (o := o) (S9 := S) (mI := mI) (bI := u) (z := Sum.inr (S, (0 : Int32))) (rw9 := T1.2.1 29 (1 : Int32).toNatClampNeg) ok fk r2 l2 (hf.keep yy) yy hmI (by omega)
    have rb := s_rs_b (G := G) (K := K) (A := A) (F := F) m
    have h69 : (zI S 0 69).toInt = F.length := hf.1
    have e48 : T2.2.1 48 = T.2.1 48 := by
      rw [h2]
      exact k1.row (by decide)
    have old : ∀ m', m' < m + 1 → ∀ k, k ≤ s_W A → mx_gb G K A m' k T3 := fun m' hm' k hk => by
      by_cases q : m' = m
      · rw [q]
        exact g3 k hk
      · refine (t4 m' (by omega) k hk).keep (fun j hj => ?_)
        rw [o3 j (by omega), e48]
    by_cases q1 : w = zI S 0 69
    · have d1 := w_eq.mp q1
      rw [h69] at d1
      have v := c3.mp d1
      refine ⟨(u ||| ((1 : Int32) <<< (mI &&& 31)), T3), (((F_m_reachBits_p16 q0 e1.symm rfl h2).trans e3).trans (F_m_reachBits_p3 rfl q1 rfl)).trans (F_m_reachBits_p1 rfl rfl), ⟨_, r3⟩, yy.tr y3, ?_, old⟩
      show (u ||| ((1 : Int32) <<< (mI &&& 31))).toInt = s_rs G K A F m + s_if (s_rc G K A F (m : Int)) ((2 ^ m : Nat) : Int) 0
      rw [s_if_y v, w_or2 (r := m) (by omega) (by rw [t3]; exact rb) (w_sh21 hmI hm), t3]
    · have d1 : ¬ w.toInt = (zI S 0 69).toInt := fun z => q1 (w_eq.mpr z)
      rw [h69] at d1
      refine ⟨(u ||| (0 : Int32), T3), (((F_m_reachBits_p16 q0 e1.symm rfl h2).trans e3).trans (F_m_reachBits_p2 rfl q1)).trans (F_m_reachBits_p1 rfl rfl), ⟨_, r3⟩, yy.tr y3, ?_, old⟩
      show (u ||| (0 : Int32)).toInt = s_rs G K A F m + s_if (s_rc G K A F (m : Int)) ((2 ^ m : Nat) : Int) 0
      rw [s_if_n (fun z => d1 (c3.mpr z)), show u ||| (0 : Int32) = u from Int32.or_zero, t3]
      omega) (fun mI s hmI hP => by
    obtain ⟨u, T⟩ := s
    obtain ⟨⟨r, t1⟩, t2, t3, t4⟩ := hP
    have t1 : RMr G K A L U x r T := t1
    have t2 : k_y S T := t2
    have e13 : zI T 0 13 = zI S 0 13 := t2.1 13 (by decide)
    have v5 : (T.2.1 5 (zI S 0 13).toNatClampNeg).toInt = G 0 3 := by rw [t2.2 5 (by decide) (by decide)]; exact h5
    obtain ⟨r2, y2⟩ := t1.to (a := T.2.1 5 (zI S 0 13).toNatClampNeg) (v := G 0 3) hb v5
    exact ⟨(_, u), F_m_reachBits_p0 (dk_gtp z20 (by omega)) rfl rfl rfl, r2, t2.tr y2, t3, fun m' hm' k hk => (t4 m' hm' k hk).keep (fun j _ => rfl)⟩) ((22 - ((0 : Int32)).toInt).toNat + 1) 0 0 (0, S) (by rw [z0]; decide) (by decide) z0 ⟨⟨_, h⟩, k_y.rf, z0, fun m' hm' => absurd hm' (Nat.not_lt_zero m')⟩
  exact ⟨_, _, rfl, main.2.2.1, main.1, main.2.1, main.2.2.2⟩
theorem mx_reaches (ok : s_ok G K A U) (fk : s_fk G F) (h : RM G K A L U x S) (hf : mx_fe F S) : ∃ (S1 : dg_S) (y : Int32), F_m_reaches o S = (S1, y) ∧ y.toInt = s_rs G K A F 21 ∧ RM G K A L U x S1 ∧ k_y S S1 := by
  obtain ⟨S1, y, e, v, r, k, -⟩ := mx_reachBits (o := o) ok fk h hf
  have n47 : ¬ zI S 0 47 = (0 : Int32) := fun z => h.1.1.1.1 (dk_eqc (by decide +kernel) z)
  refine ⟨S1, y, ?_, v, r, k⟩
  have := F_m_reaches_p1 (o := o) (S := S) rfl n47 (by rw [e]) (by rw [e])
  exact this
/-- REACHES on both sides -/
theorem sim_reaches (ok : s_ok G K A U) (fk : s_fk G F) (hX : RX oX g G K A L U x SX) (hfX : cx_fe F SX) (hM : RM G K A L U x SM) (hfM : mx_fe F SM) : (F_d_reaches oX SX).2 = (F_m_reaches oM SM).2 ∧ RX oX g G K A L U x (F_d_reaches oX SX).1 ∧ k_sk SX (F_d_reaches oX SX).1 ∧ RM G K A L U x (F_m_reaches oM SM).1 ∧ k_y SM (F_m_reaches oM SM).1 := by
  obtain ⟨S1, y1, e1, v1, r1, k1⟩ := cx_reaches (o := oX) ok fk hX hfX
  obtain ⟨S2, y2, e2, v2, r2, k2⟩ := mx_reaches (o := oM) ok fk hM hfM
  rw [e1, e2]
  exact ⟨Int32.toInt_inj.mp (v1.trans v2.symm), r1, k1, r2, k2⟩
end EJ
