section
/-! the class looks ahead -/
section DB
variable {o oX oM g n p : Nat} {G A A' : aR} {K : Nat → List Int} {L L' : s_L} {U : s_U} {S S0 S1 SX SM : dg_S} {x r c : Int} {a a1 a2 a3 : Int32}
/-- the works as they stand over a pit of trial -/
def cx_tr (o g p : Nat) (G : aR) (K : Nat → List Int) (r : Int) (A : aR) (S : dg_S) : Prop := zR o S 214 7 = p ∧ zR o S 214 6 = g ∧ (zI S 214 8).toInt = r ∧ cx_gt G K S g ∧ cx_pit G A S p ∧ cx_LI G A r S
theorem pX_17 {p : Nat} (h : pX p) : p = 3 ∨ p = 10 ∨ (42 ≤ p ∧ p < 182) ∨ 222 ≤ p := by
  have k : ∀ p ∈ alX.getD 1 [], p = 3 ∨ p = 10 ∨ (42 ≤ p ∧ p < 182) ∨ 222 ≤ p := by decide +kernel
  exact k p h
/-- n shifts of a pit of trial -/
theorem cx_pass (hp : pX p) (hp3 : p ≠ 3 ∧ ¬ (42 ≤ p ∧ p < 182)) (hG : s_gw G) (hK : s_cd K) (hw : s_wf G A') (hcw : s_cw G A') (hr9 : 0 ≤ r ∧ r ≤ 900) (h : RX o g G K A L U x S) (ht : cx_tr o g p G K r A' S) (hn : a1.toInt = n) (h40 : n ≤ 999) : ∃ S1, F_w_pass o S a1 = S1 ∧ RX o g G K A L U x S1 ∧ cx_tr o g p G K r (s_n G K r n A') S1 ∧ k_wp p S S1 := by
  have z0 : (0 : Int32).toInt = 0 := by decide +kernel
  have sep := pX_sep hp
  have sep17 := pX_17 hp
  have sep3 := pX_ne hp pX_3' hp3.1
  have seph : ∀ k, k < 20 → p + 6 < 42 + 7 * k ∨ 42 + 7 * k + 6 < p := fun k hk => pX_ne hp (pX_h hk) (by omega)
  have s0 := seph 0 (by decide)
  have s19 := seph 19 (by decide)
  have main := lp_cnt (f := F_w_pass_B1 a1 o S) (z := S) (W := n) (P := fun c s => RX o g G K A L U x s ∧ cx_tr o g p G K r (s_n G K r c A') s ∧ k_wp p S s) (Q := fun q => RX o g G K A L U x q ∧ cx_tr o g p G K r (s_n G K r n A') q ∧ k_wp p S q) (by omega) (fun c cI s hc hcI hP => by
    obtain ⟨t1, ⟨t2, t3, t4, t5, t6, t7⟩, t8⟩ := hP
    have okc := s_n_ok (K := K) (r := r) hG hw hcw c
    have sg := rX_sep t5.1
    have q0 : ¬ a1 ≤ cI := fun z => by have := w_le.mp z; omega
    obtain ⟨S1, e1, k1, p1, l1, -⟩ := cx_tick (o := o) (S0 := S) (S := s) hp ht.1 t2 t3 hG hK okc.1 okc.2 t5 t4 hr9 t6 t7 q0
    exact ⟨S1, e1, t1.keep k1 (by omega) (by omega) (fun a b _ _ => by omega) (fun b => by omega) (fun b => by omega) (fun a b _ _ => by omega) (fun a _ _ => by omega) (fun a _ _ => by omega) (by omega) (fun a _ _ => by omega), ⟨by rw [k1.R (fun z => by omega)]; exact t2, by rw [k1.R (fun z => by omega)]; exact t3, by rw [k1.I (fun z => by omega)]; exact t4, t5.keep (fun i _ _ => (k1.2 i (fun z => by omega)).1) (fun b => k1.I (fun z => by omega)), p1, l1⟩, t8.tr k1⟩) (fun cI s hcI hP => ⟨s, F_w_pass_p0 (w_le.mpr (by omega)), hP⟩) ((2147483648 - ((0 : Int32)).toInt).toNat + 1) 0 0 S (by rw [z0]; omega) (by omega) z0 ⟨h, ht, kp.rf⟩
  rw [F_w_pass_p3]
  exact ⟨_, rfl, main.1, main.2⟩
theorem pX_10 : pX 10 := by
  have h1 : (10 : Nat) ∈ alX.getD 1 [] := by decide +kernel
  exact h1
/-- what lies ahead on the pit of trial -/
theorem cx_ahead (ok : s_ok G K A U) (h : RX o g G K A L U x S) (hn : a1.toInt = n) (h40 : n ≤ 999) : ∃ S1, F_d_lookAhead o S a1 = S1 ∧ RX o g G K A L U x S1 ∧ cx_tr o g 10 G K (G 0 3) (s_n G K (G 0 3) n A) S1 := by
  have hb := ok.1.1.2.2.2
  have h3 := ok.1.2.1
  have sep := rX_sep h.2.1.1.1
  obtain ⟨S2, e2, k2, p2⟩ := cx_copy (o := o) (p := 10) (q := 3) pX_10 pX_3' (by decide) h.2.2.1 hb
  have r2 : RX o g G K A L U x S2 := h.keep k2 (by decide) (by decide) (fun a b _ _ => by omega) (fun b => by omega) (fun b => by omega) (fun a b _ _ => by omega) (fun a _ _ => by omega) (fun a _ _ => by omega) (by decide) (fun a _ _ => by omega)
  obtain ⟨S7, e7, f7, f6, f8, f9, k7⟩ := cx_enter (o := o) (S := S2) (g := g) (p := 10) (a := zI S g 3)
  have r3 : (zI S g 3).toInt = G 0 3 := h.2.1.2.1.2.2.1
  have r7 : RX o g G K A L U x S7 := r2.keep k7 (by decide) (by decide) (fun a b _ _ => by omega) (fun b => by omega) (fun b => by omega) (fun a b _ _ => by omega) (fun a _ _ => id) (fun a _ _ => id) id (fun a _ _ => id)
  have p7 : cx_pit G A S7 10 := p2.keep (fun i _ _ => (k7.2 i id).1) (fun b _ => k7.I (fun z => by omega))
  obtain ⟨S1, e1, r1, t1, -⟩ := cx_pass (o := o) (p := 10) (a1 := a1) (n := n) (r := G 0 3) pX_10 (by decide) ok.1.1 ok.2.1 ok.2.2.1.1 ok.2.2.1.2 ⟨by omega, by omega⟩ r7 ⟨f7, f6, by rw [f8]; exact r3, r7.2.1.1, p7, Or.inl f9⟩ hn h40
  exact ⟨S1, F_d_lookAhead_p0 e2.symm h.1.symm rfl e7.symm e1.symm, r1, t1⟩
theorem cx_gradeAt (h : cx_pit G A S p) (hc : s_in G c) (ha : a1.toInt = c + 8) : (F_p_gradeAt o S p a1).toInt = (if s_c A c < 0 then -1 else s_c A c) := by
  have z0 : (0 : Int32).toInt = 0 := by decide +kernel
  have m1 : (-1 : Int32).toInt = -1 := by decide +kernel
  have hc0 := hc.1
  have an : a1.toNatClampNeg = (c + 8).toNat := by rw [dk_clN, ha]
  obtain ⟨e, l, u⟩ := (h.1 (c + 8) (by omega) (by omega)).1 (by rw [show c + 8 - 8 = c by omega]; exact hc)
  rw [show c + 8 - 8 = c by omega] at e l u
  have es := cx_isSolid0 (o := o) (a := a1) h.1 (by omega) (by omega)
  rw [ha, show c + 8 - 8 = c by omega] at es
  by_cases w : F_p_isSolid0 o S p a1 = (0 : Int32)
  · rw [w, z0] at es
    rw [F_p_gradeAt_p0 rfl w, m1, if_pos]
    apply Classical.byContradiction
    intro v
    rw [s_b1 ⟨hc, by omega⟩] at es
    exact absurd es (by decide)
  · have sc : s_so G A c := by
      apply Classical.byContradiction
      intro v
      rw [s_b0 v] at es
      exact w (dk_eqp z0 es)
    have sc2 := sc.2
    rw [F_p_gradeAt_p1 rfl rfl w, if_neg (by omega), an]
    have e4 : (S.2.1 (p + 1) (c + 8).toNat).toInt = cx_en (s_c A c) := e
    rw [e4]
    unfold cx_en
    rw [if_neg (by omega), if_neg (by omega)]
/-- LATER of the class -/
theorem cx_later (ok : s_ok G K A U) (h : RX o g G K A L U x S) : (((0 ≤ a1.toInt ∧ a1.toInt < G 0 0) ∧ 0 ≤ a2.toInt ∧ a2.toInt < G 0 1) ∧ (0 ≤ a3.toInt ∧ a3.toInt ≤ 40 ∧ A 0 0 + a3.toInt ≤ 999) ∧ ∃ (S1 : dg_S) (y : Int32), F_d_later o S a1 a2 a3 = (S1, y) ∧ y.toInt = (if s_c (s_n G K (G 0 3) a3.toInt.toNat A) (8 * a2.toInt + a1.toInt) < 0 then -1 else s_c (s_n G K (G 0 3) a3.toInt.toNat A) (8 * a2.toInt + a1.toInt)) ∧ RX o g G K A L U x S1) ∨ (¬ (((0 ≤ a1.toInt ∧ a1.toInt < G 0 0) ∧ 0 ≤ a2.toInt ∧ a2.toInt < G 0 1) ∧ 0 ≤ a3.toInt ∧ a3.toInt ≤ 40 ∧ A 0 0 + a3.toInt ≤ 999) ∧ F_d_later o S a1 a2 a3 = (S, (-1 : Int32))) := by
  have z0 : (0 : Int32).toInt = 0 := by decide +kernel
  have z40 : (40 : Int32).toInt = 40 := by decide +kernel
  rcases cx_place (o := o) (a1 := a1) (a2 := a2) h.2.1 ok.1.1.1 with ⟨p1, p2, p3, p4⟩ | ⟨p1, p2⟩
  rotate_left
  · exact Or.inr ⟨fun z => p1 z.1, F_d_later_p0 h.1.symm rfl p2⟩
  have p40 := p4.1
  have q1 : ¬ F_g_placeOf o S g a1 a2 = (-1 : Int32) := fun z => by have := dk_eqc (k := -1) (by decide +kernel) z; omega
  have hcm := cx_come (o := o) (a1 := 0) (a2 := a3) (a3 := 40) h.2.1 h.1 ok.1.1 ok.2.2.1.1 h.2.2.1 (by decide +kernel) (by decide +kernel)
  rw [z0, z40] at hcm
  rcases hcm with ⟨e, w⟩ | ⟨e, w⟩
  rotate_left
  · exact Or.inr ⟨fun z => w ⟨z.2.1, z.2.2.1, z.2.2.2⟩, F_d_later_p2 h.1.symm rfl q1 rfl e⟩
  have ne : ¬ F_d_shiftsCome o S (0 : Int32) a3 (40 : Int32) = (0 : Int32) := by rw [e]; decide +kernel
  obtain ⟨S1, e1, r1, t1⟩ := cx_ahead (o := o) (a1 := a3) (n := a3.toInt.toNat) ok h (by omega) (by omega)
  exact Or.inl ⟨⟨p1, p2⟩, w, S1, _, F_d_later_p1 h.1.symm rfl q1 rfl ne e1.symm rfl, cx_gradeAt t1.2.2.2.2.1 p4 p3, r1⟩
/-- LATER on both sides -/
theorem sim_later (ok : s_ok G K A U) (hX : RX oX g G K A L U x SX) (hM : RM G K A L U x SM) : (F_d_later oX SX a1 a2 a3).2 = (F_m_later oM SM a1 a2 a3).2 ∧ RX oX g G K A L U x (F_d_later oX SX a1 a2 a3).1 ∧ RM G K A L U x (F_m_later oM SM a1 a2 a3).1 := by
  rcases cx_later (o := oX) (a1 := a1) (a2 := a2) (a3 := a3) ok hX with ⟨b1, b2, S1, y1, e1, v1, r1⟩ | ⟨b, e1⟩ <;> rcases mx_later (o := oM) (a1 := a1) (a2 := a2) (a3 := a3) ok hM with ⟨d1, d2, S2, y2, e2, v2, r2⟩ | ⟨d, e2⟩
  · rw [e1, e2]
    exact ⟨Int32.toInt_inj.mp (v1.trans v2.symm), r1, r2⟩
  · exact absurd ⟨b1, b2⟩ d
  · exact absurd ⟨d1, d2⟩ b
  · rw [e1, e2]
    exact ⟨rfl, hX, hM⟩
/-- OPENS of the class -/
theorem cx_opens (ok : s_ok G K A U) (h : RX o g G K A L U x S) : (((0 ≤ a1.toInt ∧ a1.toInt < G 0 0) ∧ 0 ≤ a2.toInt ∧ a2.toInt < G 0 1) ∧ ∃ (S1 : dg_S) (y : Int32), F_d_opens o S a1 a2 = (S1, y) ∧ s_fo (fun n => s_op G (s_n G K (G 0 3) n A) (8 * a2.toInt + a1.toInt)) (min 40 (999 - A 0 0)).toNat y.toInt ∧ RX o g G K A L U x S1) ∨ (¬ ((0 ≤ a1.toInt ∧ a1.toInt < G 0 0) ∧ 0 ≤ a2.toInt ∧ a2.toInt < G 0 1) ∧ F_d_opens o S a1 a2 = (S, (-1 : Int32))) := by
  have z0 : (0 : Int32).toInt = 0 := by decide +kernel
  have z1 : (1 : Int32).toInt = 1 := by decide +kernel
  have z40 : (40 : Int32).toInt = 40 := by decide +kernel
  have m1 : (-1 : Int32).toInt = -1 := by decide +kernel
  have hw0 := ok.2.2.1.1.1
  have h3 := ok.1.2.1
  rcases cx_place (o := o) (a1 := a1) (a2 := a2) h.2.1 ok.1.1.1 with ⟨p1, p2, p3, p4⟩ | ⟨p1, p2⟩
  rotate_left
  · exact Or.inr ⟨p1, F_d_opens_p4 h.1.symm rfl p2⟩
  have p40 := p4.1
  have q1 : ¬ F_g_placeOf o S g a1 a2 = (-1 : Int32) := fun z => by have := dk_eqc (k := -1) (by decide +kernel) z; omega
  obtain ⟨c, hc⟩ : ∃ c, c = 8 * a2.toInt + a1.toInt := ⟨_, rfl⟩
  rw [← hc] at p3 p4 p40 ⊢
  obtain ⟨pl, hpl⟩ : ∃ pl, pl = F_g_placeOf o S g a1 a2 := ⟨_, rfl⟩
  rw [← hpl] at p3 q1
  obtain ⟨S7, e7, r7, t7⟩ := cx_ahead (o := o) (a1 := 0) (n := 0) ok h z0 (by decide)
  obtain ⟨x9, h9⟩ : ∃ y, y = (999 : Int32) - zI S7 3 0 := ⟨_, rfl⟩
  have e9 : x9.toInt = 999 - A 0 0 := by rw [h9]; exact dk_subT (by decide +kernel) r7.2.2.1.2.1 (by omega) (by omega)
  obtain ⟨x10, h10⟩ : ∃ y, y = if x9 < (40 : Int32) then x9 else (40 : Int32) := ⟨_, rfl⟩
  obtain ⟨W, hW⟩ : ∃ W : Nat, W = (min 40 (999 - A 0 0)).toNat := ⟨_, rfl⟩
  rw [← hW]
  have e10 : x10.toInt = W := by
    rw [h10]
    by_cases u : x9 < (40 : Int32)
    · have := dk_ltc z40 u
      rw [if_pos u]
      omega
    · have := dk_nltc z40 u
      rw [if_neg u, z40]
      omega
  have main := lp_cnt2 (f := F_d_opens_B1 x10 o pl) (z := (S, (0 : Int32))) (W := W + 1) (P := fun k s => RX o g G K A L U x s ∧ (∀ m, m < k → ¬ s_op G (s_n G K (G 0 3) m A) c) ∧ cx_tr o g 10 G K (G 0 3) (s_n G K (G 0 3) k A) s) (Q := fun q => s_fo (fun n => s_op G (s_n G K (G 0 3) n A) c) W q.2.toInt ∧ RX o g G K A L U x q.1) (by omega) (fun k kI s hk hkI hP => by
    obtain ⟨t1, t2, t3⟩ := hP
    have okc := s_n_ok (K := K) (r := G 0 3) ok.1.1 ok.2.2.1.1 ok.2.2.1.2 k
    have q0 : ¬ x10 < kI := fun z => by have := w_lt.mp z; omega
    have eo := cx_isOpen (o := o) (a := pl) t3.2.2.2.2.1.1 (by omega) (by omega)
    rw [p3, show c + 8 - 8 = c by omega] at eo
    by_cases u : F_p_isOpen o s 10 pl = (0 : Int32)
    · rw [u, z0] at eo
      have nop : ¬ s_op G (s_n G K (G 0 3) k A) c := fun z => by
        rw [s_b1 z] at eo
        exact absurd eo (by decide)
      obtain ⟨S1, e1, r1, l1, -⟩ := cx_pass (o := o) (p := 10) (a1 := 1) (n := 1) pX_10 (by decide) ok.1.1 ok.2.1 okc.1 okc.2 ⟨by omega, by omega⟩ t1 t3 z1 (by decide)
      refine Or.inl ⟨S1, F_d_opens_p1 q0 rfl u e1.symm rfl, r1, fun m hm => ?_, l1⟩
      by_cases v : m = k
      · rw [v]
        exact nop
      · exact t2 m (by omega)
    · have op : s_op G (s_n G K (G 0 3) k A) c := by
        apply Classical.byContradiction
        intro z
        rw [s_b0 z] at eo
        exact u (dk_eqp z0 eo)
      exact Or.inr ⟨(s, kI), F_d_opens_p2 q0 rfl u, Or.inr ⟨k, hkI, by omega, op, t2⟩, t1⟩) (fun kI s hkI hP => by
    obtain ⟨t1, t2, -⟩ := hP
    exact ⟨(s, (-1 : Int32)), F_d_opens_p0 (w_lt.mpr (by omega)), Or.inl ⟨m1, fun m hm => t2 m (by omega)⟩, t1⟩) ((42 - ((0 : Int32)).toInt).toNat + 1) 0 0 S7 (by rw [z0]; omega) (by omega) z0 ⟨r7, fun m hm => absurd hm (Nat.not_lt_zero m), t7⟩
  refine Or.inl ⟨⟨p1, p2⟩, ?_⟩
  rw [F_d_opens_p3 h.1.symm hpl q1 e7.symm rfl h9 h10]
  exact ⟨_, _, rfl, main.1, main.2⟩
/-- OPENS on both sides -/
theorem sim_opens (ok : s_ok G K A U) (hX : RX oX g G K A L U x SX) (hM : RM G K A L U x SM) : (F_d_opens oX SX a1 a2).2 = (F_m_opens oM SM a1 a2).2 ∧ RX oX g G K A L U x (F_d_opens oX SX a1 a2).1 ∧ RM G K A L U x (F_m_opens oM SM a1 a2).1 := by
  rcases cx_opens (o := oX) (a1 := a1) (a2 := a2) ok hX with ⟨b1, S1, y1, e1, v1, r1⟩ | ⟨b, e1⟩ <;> rcases mx_opens (o := oM) (a1 := a1) (a2 := a2) ok hM with ⟨d1, S2, y2, e2, v2, r2⟩ | ⟨d, e2⟩
  · rw [e1, e2]
    exact ⟨Int32.toInt_inj.mp (v1.uniq v2), r1, r2⟩
  · exact absurd b1 d
  · exact absurd d1 b
  · rw [e1, e2]
    exact ⟨rfl, hX, hM⟩
theorem cx_tubGrades (hp : cx_pit G A S p) (hw : s_wf G A) : (F_p_tubGrades o S p).toInt = s_tg A 10 := by
  have z0 : (0 : Int32).toInt = 0 := by decide +kernel
  have z9 : (9 : Int32).toInt = 9 := by decide +kernel
  have w5 := hw.2.2.2.2.2
  obtain ⟨-, -, -, -, -, -, y7⟩ := hp
  rw [F_p_tubGrades_p2]
  refine lp_cnt (f := F_p_tubGrades_B1 S p) (z := (0 : Int32)) (W := 10) (P := fun c s => s.toInt = s_tg A c) (Q := fun q => q.toInt = s_tg A 10) (by omega) (fun c cI s hc hcI hP => ?_) (fun cI s hcI hP => ?_) ((11 - ((0 : Int32)).toInt).toNat + 1) 0 0 0 (by rw [z0]; decide) (by decide) z0 z0
  · have hP : s.toInt = s_tg A c := hP
    have b := s_tg_b w5 c (by omega)
    have hv' := y7 c hc
    have w5c := w5 c hc
    have cn : cI.toNatClampNeg = c := by rw [dk_clN]; omega
    have h3 : 0 ≤ (c : Int) * A 6 c := Int.mul_nonneg (by omega) w5c.1
    have h4 : (c : Int) * A 6 c ≤ 9 * 99 := Int.mul_le_mul (by omega) w5c.2 w5c.1 (by omega)
    refine ⟨_, F_p_tubGrades_p1 (fun q => by have := dk_gtc z9 q; omega) rfl rfl rfl rfl, ?_⟩
    rw [cn]
    exact dk_addT hP (dk_mulT hcI hv' (by omega) (by omega)) (by omega) (by omega)
  · exact ⟨s, F_p_tubGrades_p0 (dk_gtp z9 (by omega)), hP⟩
theorem cx_wholeWorth (hp : cx_pit G A S p) (hw : s_wf G A) (hcw : s_cw G A) : (F_p_wholeWorth o S p).toInt = s_wo G A := by
  have z0 : (0 : Int32).toInt = 0 := by decide +kernel
  have z72 : (72 : Int32).toInt = 72 := by decide +kernel
  have tg := s_tg_b hw.2.2.2.2.2 10 (by decide)
  rw [F_p_wholeWorth_p4 rfl]
  unfold s_wo
  refine lp_cnt (f := F_p_wholeWorth_B1 o S p) (z := (0 : Int32)) (W := 72) (P := fun c s => s.toInt = s_tg A 10 + s_ws G A (c - 8)) (Q := fun q => q.toInt = s_tg A 10 + s_ws G A 64) (by omega) (fun c cI s hc hcI hP => ?_) (fun cI s hcI hP => ?_) ((73 - ((0 : Int32)).toInt).toNat + 1) 0 0 (F_p_tubGrades o S p) (by rw [z0]; decide) (by decide) z0 (by
    show (F_p_tubGrades o S p).toInt = s_tg A 10 + 0
    rw [cx_tubGrades hp hw]
    omega)
  · have hP : s.toInt = s_tg A 10 + s_ws G A (c - 8) := hP
    have b := s_ws_b hcw (c - 8)
    have q0 : ¬ (72 : Int32) ≤ cI := fun q => by have := dk_gec z72 q; omega
    have cn : cI.toNatClampNeg = c := by rw [dk_clN]; omega
    have es := cx_isSolid0 (o := o) (a := cI) hp.1 (by omega) (by omega)
    rw [hcI] at es
    have step : s_ws G A (c + 1 - 8) = s_ws G A (c - 8) + s_if (s_so G A ((c : Int) - 8)) (s_c A ((c : Int) - 8)) 0 := by
      by_cases u : c < 8
      · rw [show c + 1 - 8 = 0 by omega, show c - 8 = 0 by omega, s_if_n (fun z => by have := z.1.1.1; omega)]
        show (0 : Int) = 0 + 0
        omega
      · rw [show c + 1 - 8 = (c - 8) + 1 by omega, show (c : Int) - 8 = ((c - 8 : Nat) : Int) by omega]
        rfl
    by_cases w : F_p_isSolid0 o S p cI = (0 : Int32)
    · rw [w, z0] at es
      have ns : ¬ s_so G A ((c : Int) - 8) := fun z => by
        rw [s_b1 z] at es
        exact absurd es (by decide)
      refine ⟨s, ?_, ?_⟩
      · rw [F_p_wholeWorth_p2 q0 rfl w]
        exact F_p_wholeWorth_p1 rfl
      · show s.toInt = s_tg A 10 + s_ws G A (c + 1 - 8)
        rw [step, s_if_n ns, hP]
        omega
    · have hso : s_so G A ((c : Int) - 8) := by
        apply Classical.byContradiction
        intro v
        rw [s_b0 v] at es
        exact w (dk_eqp z0 es)
      have v := hp.1.val (x := (c : Int)) (by omega) (by omega) hso
      unfold cx_at at v
      rw [show ((c : Int)).toNat = c by omega] at v
      have h2 := hso.2
      have cb := (hcw.1 _ hso.1).2
      refine ⟨s + S.2.1 (p + 1) cI.toNatClampNeg, ?_, ?_⟩
      · rw [F_p_wholeWorth_p3 q0 rfl rfl w rfl]
        exact F_p_wholeWorth_p1 rfl
      · show (s + S.2.1 (p + 1) cI.toNatClampNeg).toInt = s_tg A 10 + s_ws G A (c + 1 - 8)
        rw [step, s_if_y hso, cn, dk_addT hP v (by omega) (by omega)]
        omega
  · exact ⟨s, F_p_wholeWorth_p0 (dk_gep z72 (by omega)), hP⟩
/-- WORTH of the class -/
theorem cx_worth (ok : s_ok G K A U) (h : RX o g G K A L U x S) : ((0 ≤ a1.toInt ∧ a1.toInt ≤ 40 ∧ A 0 0 + a1.toInt ≤ 999) ∧ ∃ (S1 : dg_S) (y : Int32), F_d_worth o S a1 = (S1, y) ∧ y.toInt = s_wo G (s_n G K (G 0 3) a1.toInt.toNat A) ∧ RX o g G K A L U x S1) ∨ (¬ (0 ≤ a1.toInt ∧ a1.toInt ≤ 40 ∧ A 0 0 + a1.toInt ≤ 999) ∧ F_d_worth o S a1 = (S, (-1 : Int32))) := by
  have z0 : (0 : Int32).toInt = 0 := by decide +kernel
  have z40 : (40 : Int32).toInt = 40 := by decide +kernel
  have hcm := cx_come (o := o) (a1 := 0) (a2 := a1) (a3 := 40) h.2.1 h.1 ok.1.1 ok.2.2.1.1 h.2.2.1 (by decide +kernel) (by decide +kernel)
  rw [z0, z40] at hcm
  rcases hcm with ⟨e, w⟩ | ⟨e, w⟩
  rotate_left
  · exact Or.inr ⟨w, F_d_worth_p1 rfl e⟩
  have ne : ¬ F_d_shiftsCome o S (0 : Int32) a1 (40 : Int32) = (0 : Int32) := by rw [e]; decide +kernel
  obtain ⟨S1, e1, r1, t1⟩ := cx_ahead (o := o) (a1 := a1) (n := a1.toInt.toNat) ok h (by omega) (by omega)
  have okn := s_n_ok (K := K) (r := G 0 3) ok.1.1 ok.2.2.1.1 ok.2.2.1.2 a1.toInt.toNat
  exact Or.inl ⟨w, S1, _, F_d_worth_p0 rfl ne e1.symm rfl, cx_wholeWorth t1.2.2.2.2.1 okn.1 okn.2, r1⟩
/-- WORTH on both sides -/
theorem sim_worth (ok : s_ok G K A U) (hX : RX oX g G K A L U x SX) (hM : RM G K A L U x SM) : (F_d_worth oX SX a1).2 = (F_m_worth oM SM a1).2 ∧ RX oX g G K A L U x (F_d_worth oX SX a1).1 ∧ RM G K A L U x (F_m_worth oM SM a1).1 := by
  rcases cx_worth (o := oX) (a1 := a1) ok hX with ⟨b1, S1, y1, e1, v1, r1⟩ | ⟨b, e1⟩ <;> rcases mx_worth (o := oM) (a1 := a1) ok hM with ⟨d1, S2, y2, e2, v2, r2⟩ | ⟨d, e2⟩
  · rw [e1, e2]
    exact ⟨Int32.toInt_inj.mp (v1.trans v2.symm), r1, r2⟩
  · exact absurd b1 d
  · exact absurd d1 b
  · rw [e1, e2]
    exact ⟨rfl, hX, hM⟩
end DB
end
section
/-! cell on both sides -/
section DC
variable {o oX oM g n p : Nat} {G A A' : aR} {K : Nat → List Int} {L L' : s_L} {U : s_U} {S S0 S1 SX SM : dg_S} {x r c : Int} {a a1 a2 a3 : Int32}
/-- what is known of how far cells are -/
theorem mx_bfar {v : Nat} (hb : s_gb G) (hg : mx_gd G S) (hce : mx_ce G A S v) (hv : v ≤ 40) (hps : s_ps G A (G 0 2)) : b_far (G 0 2) (s_op G A) (s_ps G A) (s_fd G A) := by
  -- as in mx_measures: the search gives one
  obtain ⟨f, hf⟩ : ∃ f, b_far (G 0 2) (s_op G A) (s_ps G A) f := mx_bex hb hg hce hv hps
  have e : f = s_fd G A := by
    funext c
    exact s_fd_eq hf c
  rw [← e]
  exact hf
theorem s_fd_op (h : b_far (G 0 2) (s_op G A) (s_ps G A) (s_fd G A)) (hps : s_ps G A (G 0 2)) (hc : ¬ s_op G A c) : s_fd G A c = -1 := by
  rcases h c with ⟨e, -⟩ | ⟨n, -, -, hd⟩
  · exact e
  · exact absurd (b_D_op ⟨hps.1, by have := hps.2; omega⟩ n c hd.1) hc
theorem k_ms.rm (t : k_ms S S1) (hb : G 0 6 ≤ 16) (h : RM G K A L U x S) : RM G K A L U x S1 := h.keep hb t (fun b _ => id) (fun a _ => by omega) (fun a _ _ => by omega)
theorem k_r.rm (t : k_r S S1) (hb : G 0 6 ≤ 16) (h : RM G K A L U x S) : RM G K A L U x S1 := h.keep hb t (fun b _ => id) (fun a _ => by omega) (fun a _ _ => by omega)
theorem mx_canDig' (hb : s_gb G) (hg : mx_gd G S) {v : Nat} (h : mx_ce G A S v) (ha : a1.toInt = v) (hv : v ≤ 40) (hc : s_in G a2.toInt) : F_m_canDig o S a1 a2 = 1 ∧ (s_so G A a2.toInt ∧ 0 < s_ob G A a2.toInt) ∨ F_m_canDig o S a1 a2 = 0 ∧ ¬ (s_so G A a2.toInt ∧ 0 < s_ob G A a2.toInt) := by
  have e : F_m_canDig o S a1 a2 = F_m_canDigG o S a1 a2 := rfl
  rw [e]
  exact mx_canDig hb hg h ha hv hc
theorem s_b_i {P : Prop} {y : Int32} (h : y = 1 ∧ P ∨ y = 0 ∧ ¬ P) : y.toInt = s_b P := by
  rcases h with ⟨e, p⟩ | ⟨e, p⟩
  · rw [e, s_b1 p]
    decide +kernel
  · rw [e, s_b0 p]
    decide +kernel
/-- the reference: what cell tells -/
theorem mx_cell (ok : s_ok G K A U) (h : RM G K A L U x S) : (((0 ≤ a1.toInt ∧ a1.toInt < G 0 0) ∧ 0 ≤ a2.toInt ∧ a2.toInt < G 0 1) ∧ ∃ (S1 : dg_S) (y : Int32), F_m_cell o S a1 a2 a3 = (S1, y) ∧ y.toInt = s_ce G K (G 0 3) A (8 * a2.toInt + a1.toInt) a3.toInt ∧ RM G K A L U x S1) ∨ (¬ ((0 ≤ a1.toInt ∧ a1.toInt < G 0 0) ∧ 0 ≤ a2.toInt ∧ a2.toInt < G 0 1) ∧ F_m_cell o S a1 a2 a3 = (S, (-1 : Int32))) := by
  have z0 : (0 : Int32).toInt = 0 := by decide +kernel
  have z1 : (1 : Int32).toInt = 1 := by decide +kernel
  have z2 : (2 : Int32).toInt = 2 := by decide +kernel
  have z3 : (3 : Int32).toInt = 3 := by decide +kernel
  have z4 : (4 : Int32).toInt = 4 := by decide +kernel
  have z5 : (5 : Int32).toInt = 5 := by decide +kernel
  have m1 : (-1 : Int32).toInt = -1 := by decide +kernel
  have z8 : (100000000 : Int32).toInt = 100000000 := by decide +kernel
  have hb := ok.1.1.2.2.2
  have hgb := ok.1.1.1
  have h3 := ok.1.2.1
  have hg := h.1.1.1
  rcases mx_cellof (o := o) (a1 := a1) (a2 := a2) hg hgb with ⟨p1, p2, p3, p4, p5⟩ | ⟨p1, p2⟩
  rotate_left
  · exact Or.inr ⟨p1, F_m_cell_p13 rfl p2⟩
  refine Or.inl ⟨⟨p1, p2⟩, ?_⟩
  have q0 : ¬ F_m_isCell o S a1 a2 = (0 : Int32) := by rw [p3]; decide +kernel
  obtain ⟨w, hw⟩ : ∃ w, w = (8 : Int32) * a2 + a1 := ⟨_, rfl⟩
  rw [← hw] at p4
  obtain ⟨c, hc⟩ : ∃ c, c = 8 * a2.toInt + a1.toInt := ⟨_, rfl⟩
  rw [← hc] at p4 p5 ⊢
  have p50 := p5.1
  have wn : w.toNatClampNeg = c.toNat := by rw [dk_clN, p4]
  have adn : mx_ad 0 c = c.toNat := by unfold mx_ad; omega
  obtain ⟨S2, e2, f2, k2⟩ := mx_measures (o := o) (a1 := 0) hgb hg h.2.1.1 z0 (by decide) ok.2.2.1.2.2
  have r2 := k2.rm hb h
  have ce2 := r2.2.1.1
  have g2 := r2.1.1.1
  obtain ⟨i31, i32, il, iu⟩ := ce2 c p5
  rw [adn] at i31 i32
  obtain ⟨ff, fl, fu⟩ := f2 c p5
  have p5w : s_in G w.toInt := by rw [p4]; exact p5
  have ho := mx_op (o := o) (a := 0) (b := w) ce2 z0 (by decide) p5w
  rw [p4] at ho
  unfold s_ce
  by_cases c0 : a3 = (0 : Int32)
  · have d0 := dk_eqc z0 c0
    refine ⟨S2, _, F_m_cell_p1 rfl q0 rfl hw e2.symm c0 rfl, ?_, r2⟩
    rw [if_pos d0, wn]
    exact i31
  have d0 := dk_neqc z0 c0
  rw [if_neg d0]
  by_cases c1 : a3 = (1 : Int32)
  · have d1 := dk_eqc z1 c1
    rw [if_pos d1]
    rcases ho with ⟨e, y⟩ | ⟨e, y⟩
    · exact ⟨S2, 1, F_m_cell_p3 rfl q0 rfl hw e2.symm c0 c1 rfl (by rw [e]; decide +kernel), by rw [z1, s_b1 y], r2⟩
    · exact ⟨S2, 0, F_m_cell_p2 rfl q0 rfl hw e2.symm c0 c1 rfl e, by rw [z0, s_b0 y], r2⟩
  have d1 := dk_neqc z1 c1
  rw [if_neg d1]
  by_cases c2 : a3 = (2 : Int32)
  · have d2 := dk_eqc z2 c2
    rw [if_pos d2]
    have hl := mx_lit (o := o) (a := 0) (b := w) ce2 f2 z0 (by decide) r2.2.2.2.1 (by omega) p5w
    rw [p4] at hl
    rcases hl with ⟨e, y⟩ | ⟨e, y⟩
    · exact ⟨S2, 1, F_m_cell_p5 rfl q0 rfl hw e2.symm c0 c1 c2 rfl (by rw [e]; decide +kernel), by rw [z1, s_b1 y], r2⟩
    · exact ⟨S2, 0, F_m_cell_p4 rfl q0 rfl hw e2.symm c0 c1 c2 rfl e, by rw [z0, s_b0 y], r2⟩
  have d2 := dk_neqc z2 c2
  rw [if_neg d2]
  by_cases c3 : a3 = (3 : Int32)
  · have d3 := dk_eqc z3 c3
    refine ⟨S2, _, F_m_cell_p6 rfl q0 rfl hw e2.symm c0 c1 c2 c3 rfl, ?_, r2⟩
    rw [if_pos d3, wn, i32]
    unfold mx_cu
    by_cases u : s_c A c = -2
    · rw [if_pos u, s_b1 u]
    · rw [if_neg u, s_b0 u]
  have d3 := dk_neqc z3 c3
  rw [if_neg d3]
  by_cases c4 : a3 = (4 : Int32)
  · have d4 := dk_eqc z4 c4
    rw [if_pos d4]
    rcases ho with ⟨e, y⟩ | ⟨e, y⟩
    rotate_left
    · exact ⟨S2, -1, F_m_cell_p7 rfl q0 rfl hw e2.symm c0 c1 c2 c3 c4 rfl e, by rw [m1, s_if_n y], r2⟩
    have ne : ¬ F_m_isOpen o S2 (0 : Int32) w = (0 : Int32) := by rw [e]; decide +kernel
    rw [s_if_y y]
    unfold mx_fo at ff
    by_cases u : (100000000 : Int32) ≤ S2.2.1 42 w.toNatClampNeg
    · have d := dk_gec z8 u
      rw [wn, ff] at d
      refine ⟨S2, -1, F_m_cell_p8 rfl q0 rfl hw e2.symm c0 c1 c2 c3 c4 rfl ne rfl u, ?_, r2⟩
      rw [m1]
      split at d <;> omega
    · have d := dk_ngec z8 u
      rw [wn, ff] at d
      refine ⟨S2, _, F_m_cell_p9 rfl q0 rfl hw e2.symm c0 c1 c2 c3 c4 rfl ne rfl u, ?_, r2⟩
      rw [wn, ff]
      split at d
      · omega
      · rename_i v
        rw [if_neg v]
  have d4 := dk_neqc z4 c4
  rw [if_neg d4]
  by_cases c5 : a3 = (5 : Int32)
  rotate_left
  · have d5 := dk_neqc z5 c5
    rw [if_neg d5]
    exact ⟨S2, -1, F_m_cell_p0 rfl q0 e2.symm c0 c1 c2 c3 c4 c5, m1, r2⟩
  have d5 := dk_eqc z5 c5
  rw [if_pos d5]
  have hd := mx_canDig' (o := o) (a1 := 0) (a2 := w) hgb g2 ce2 z0 (by decide) p5w
  rw [p4] at hd
  rcases hd with ⟨e, y⟩ | ⟨e, y⟩
  rotate_left
  · exact ⟨S2, 0, F_m_cell_p10 rfl q0 rfl hw e2.symm c0 c1 c2 c3 c4 c5 rfl e, by rw [z0, s_b0 (fun z => y z.1)], r2⟩
  have ne : ¬ F_m_canDig o S2 (0 : Int32) w = (0 : Int32) := by rw [e]; decide +kernel
  obtain ⟨S4, x4, e4, k4, fa⟩ := mx_falls (o := o) (v := 0) (a1 := 0) (a2 := w) hgb ok.2.1 ok.2.2.1.1 r2.1.1 ce2 f2 z0 (by decide) r2.2.2.2.1 (by omega) p5w (by rw [p4]; exact y.1.2) r2.2.1.2.1
  rw [p4] at fa
  have r4 := k4.rm hb r2
  have e41 : S4 = (F_m_isFalling o S2 (0 : Int32) w).1 := by rw [e4]
  have e42 : x4 = (F_m_isFalling o S2 (0 : Int32) w).2 := by rw [e4]
  rcases fa with ⟨e9, v⟩ | ⟨e9, v⟩
  · exact ⟨S4, 0, F_m_cell_p11 rfl q0 rfl hw e2.symm c0 c1 c2 c3 c4 c5 rfl ne e41 e42 (by rw [e9]; decide +kernel), by rw [z0, s_b0 (fun z => z.2 v)], r4⟩
  · exact ⟨S4, 1, F_m_cell_p12 rfl q0 rfl hw e2.symm c0 c1 c2 c3 c4 c5 rfl ne e41 e42 e9, by rw [z1, s_b1 ⟨y, v⟩], r4⟩
/-- CELL on both sides -/
theorem sim_cell (ok : s_ok G K A U) (hX : RX oX g G K A L U x SX) (hM : RM G K A L U x SM) : (F_d_cell oX SX a1 a2 a3).2 = (F_m_cell oM SM a1 a2 a3).2 ∧ RX oX g G K A L U x (F_d_cell oX SX a1 a2 a3).1 ∧ RM G K A L U x (F_m_cell oM SM a1 a2 a3).1 := by
  have bf := mx_bfar ok.1.1.1 hM.1.1.1 hM.2.1.1 (by decide) ok.2.2.1.2.2
  rcases cx_cell (o := oX) (a1 := a1) (a2 := a2) (a3 := a3) ok (fun c hc => s_fd_op bf ok.2.2.1.2.2 hc) hX with ⟨b1, S1, y1, e1, v1, r1⟩ | ⟨b, e1⟩ <;> rcases mx_cell (o := oM) (a1 := a1) (a2 := a2) (a3 := a3) ok hM with ⟨d1, S2, y2, e2, v2, r2⟩ | ⟨d, e2⟩
  · rw [e1, e2]
    exact ⟨Int32.toInt_inj.mp (v1.trans v2.symm), r1, r2⟩
  · exact absurd b1 d
  · exact absurd d1 b
  · rw [e1, e2]
    exact ⟨rfl, hX, hM⟩
end DC
end
section
/-! what is sought ahead: the class's pit of trial; the best of some -/
theorem pX_222 : pX 222 := by
  have h1 : (222 : Nat) ∈ alX.getD 1 [] := by decide +kernel
  exact h1
/-- the best of all below n where P holds, the first of like ones; -1 without -/
noncomputable def s_bs (P : Nat → Prop) (f : Nat → Int) : Nat → Int × Int
  | 0 => (-1, -1)
  | n + 1 => s_if (P n ∧ (s_bs P f n).2 < f n) ((n : Int), f n) (s_bs P f n)
theorem s_bs_y {P : Nat → Prop} {f : Nat → Int} {n : Nat} (h : P n) (q : (s_bs P f n).2 < f n) : s_bs P f (n + 1) = ((n : Int), f n) := s_if_y ⟨h, q⟩
theorem s_bs_n {P : Nat → Prop} {f : Nat → Int} {n : Nat} (h : ¬ (P n ∧ (s_bs P f n).2 < f n)) : s_bs P f (n + 1) = s_bs P f n := s_if_n h
theorem s_bs_b {P : Nat → Prop} {f : Nat → Int} (hf : ∀ c, P c → 0 ≤ f c) : ∀ n : Nat, (s_bs P f n = (-1, -1) ∨ (0 ≤ (s_bs P f n).1 ∧ (s_bs P f n).1 < n ∧ P (s_bs P f n).1.toNat ∧ 0 ≤ (s_bs P f n).2))
  | 0 => Or.inl rfl
  | n + 1 => by
    have ih := s_bs_b hf n
    by_cases q : P n ∧ (s_bs P f n).2 < f n
    · rw [s_bs_y q.1 q.2]
      refine Or.inr ⟨?_, ?_, ?_, hf n q.1⟩
      · show (0 : Int) ≤ (n : Int)
        omega
      · show (n : Int) < ((n + 1 : Nat) : Int)
        omega
      · show P ((n : Int)).toNat
        rw [show ((n : Int)).toNat = n by omega]
        exact q.1
    · rw [s_bs_n q]
      rcases ih with ih | ⟨a, b, c, d⟩
      · exact Or.inl ih
      · exact Or.inr ⟨a, by omega, c, d⟩
section EA
variable {o oX oM g n p : Nat} {G A A' : aR} {K : Nat → List Int} {L L' : s_L} {U : s_U} {S S0 S1 SX SM : dg_S} {x x' r c v : Int} {a a1 a2 a3 a4 y : Int32}
theorem cx_pit_cellp (hp : pX p) (h : cx_pit G A S p) (hc : s_in G c) (hv : -2 ≤ v ∧ v ≤ 9) (hy : y.toInt = cx_en v) {i : Nat} (hi : i = (c + 8).toNat) : cx_pit G (s_up A 1 c.toNat v) (dg_uf S (p + 1) (upd (S.2.1 (p + 1)) i y)) p := by
  obtain ⟨y1, y2, y3, y4, y5, y6, y7⟩ := h
  have hc0 := hc.1
  have E : ∀ a b, a ≠ 1 → s_up A 1 c.toNat v a b = A a b := fun a b h => s_up_ne (fun z => h z.1)
  have ro : ∀ i', i' ≠ p + 1 → (dg_uf S (p + 1) (upd (S.2.1 (p + 1)) i y)).2.1 i' = S.2.1 i' := fun i' hi' => by rw [w_f, if_neg hi']
  have h9 := y1.up (S1 := dg_uf S (p + 1) (upd (S.2.1 (p + 1)) i y)) (x := c + 8) (v := v) (y := y) ⟨by omega, by omega⟩ (by rw [show c + 8 - 8 = c by omega]; exact hc) (by rw [w_f, if_pos rfl, hi]) hy hv
  rw [show c + 8 - 8 = c by omega] at h9
  exact ⟨h9, by rw [E _ _ (by decide)]; exact y2, by rw [E _ _ (by decide)]; exact y3, fun k hk => by rw [ro _ (by omega), E _ _ (by decide)]; exact y4 k hk, fun k hk => by rw [ro _ (by omega), ro _ (by omega), E _ _ (by decide), E _ _ (by decide)]; exact y5 k hk, fun k hk => by rw [ro _ (by omega), E _ _ (by decide)]; exact y6 k hk, fun k hk => by rw [ro _ (by omega), E _ _ (by decide)]; exact y7 k hk⟩
/-- what was sought stays: the fields of foresight and feeling -/
def k_sk (S S1 : dg_S) : Prop := (∀ b, zI S1 221 b = zI S 221 b) ∧ (∀ b, zI S1 229 b = zI S 229 b) ∧ S1.2.1 230 = S.2.1 230
theorem k_sk.rf : k_sk S S := ⟨fun _ => rfl, fun _ => rfl, rfl⟩
theorem k_sk.tr (h : k_sk S S0) (k : k_sk S0 S1) : k_sk S S1 := ⟨fun b => (k.1 b).trans (h.1 b), fun b => (k.2.1 b).trans (h.2.1 b), k.2.2.trans h.2.2⟩
theorem kp.sk {LF : Nat → Nat → Prop} {LA : Nat → Prop} (t : kp LF LA S S1) (f1 : ∀ b, ¬ LF 221 b) (f2 : ∀ b, ¬ LF 229 b) (fa : ¬ LA 230) : k_sk S S1 := ⟨fun b => t.I (f1 b), fun b => t.I (f2 b), (t.2 230 fa).1⟩
/-- the pit of trial 222 as the mine stands, but for what is changed there; n shifts of it -/
theorem cx_try (ok : s_ok G K A U) (okA : s_ok G K A' U) (h : RX o g G K A L U x S) {S3 : dg_S} (hS3 : RX o g G K A L U x S3) (p3 : cx_pit G A' S3 222) (hn : a1.toInt = n) (h40 : n ≤ 999) : ∃ S6 S7, F_w_enter o S3 g 222 (zI S g 3) = S6 ∧ F_w_pass o S6 a1 = S7 ∧ RX o g G K A L U x S7 ∧ cx_tr o g 222 G K (G 0 3) (s_n G K (G 0 3) n A') S7 ∧ k_sk S3 S7 := by
  have h3 := ok.1.2.1
  have sep := rX_sep h.2.1.1.1
  obtain ⟨S6, e6, f7, f6, f8, f9, k6⟩ := cx_enter (o := o) (S := S3) (g := g) (p := 222) (a := zI S g 3)
  have r3 : (zI S g 3).toInt = G 0 3 := h.2.1.2.1.2.2.1
  have r6 : RX o g G K A L U x S6 := hS3.keep k6 (by decide) (by decide) (fun a b _ _ => by omega) (fun b => by omega) (fun b => by omega) (fun a b _ _ => by omega) (fun a _ _ => id) (fun a _ _ => id) id (fun a _ _ => id)
  have p6 : cx_pit G A' S6 222 := p3.keep (fun i _ _ => (k6.2 i id).1) (fun b _ => k6.I (fun z => by omega))
  obtain ⟨S7, e7, r7, t7, k7⟩ := cx_pass (o := o) (p := 222) (a1 := a1) (n := n) (r := G 0 3) pX_222 (by decide) ok.1.1 ok.2.1 okA.2.2.1.1 okA.2.2.1.2 ⟨by omega, by omega⟩ r6 ⟨f7, f6, by rw [f8]; exact r3, r6.2.1.1, p6, Or.inl f9⟩ hn h40
  exact ⟨S6, S7, e6, e7, r7, t7, (k6.sk (fun b => by omega) (fun b => by omega) id).tr (k7.sk (fun b => by omega) (fun b => by omega) (by omega))⟩
/-- the pit of trial 222 is made as the mine stands -/
theorem cx_try0 (ok : s_ok G K A U) (h : RX o g G K A L U x S) : ∃ S2, F_p_copy o S 222 3 = S2 ∧ RX o g G K A L U x S2 ∧ cx_pit G A S2 222 ∧ k_sk S S2 := by
  have sep := rX_sep h.2.1.1.1
  obtain ⟨S2, e2, k2, p2⟩ := cx_copy (o := o) (S := S) (p := 222) (q := 3) pX_222 pX_3' (by decide) h.2.2.1 ok.1.1.2.2.2
  refine ⟨S2, e2, h.keep k2 (by omega) (by omega) (fun a b _ _ => by omega) (fun b => by omega) (fun b => by omega) (fun a b _ _ => by omega) (fun a _ _ => by omega) (fun a _ _ => by omega) (by omega) (fun a _ _ => by omega), p2, k2.sk (fun b => by omega) (fun b => by omega) (by omega)⟩
theorem s_n_okU (ok : s_ok G K A U) (n : Nat) : s_ok G K (s_n G K (G 0 3) n A) U := ⟨ok.1, ok.2.1, s_n_ok ok.1.1 ok.2.2.1.1 ok.2.2.1.2 n, ok.2.2.2⟩
theorem s_wo_b (ok : s_ok G K A U) : 0 ≤ s_wo G A ∧ s_wo G A ≤ 10000 := by
  have h1 := s_tg_b (A := A) ok.2.2.1.1.2.2.2.2.2 10 (by decide)
  have h2 := s_ws_b ok.2.2.1.2 64
  unfold s_wo
  omega
/-- worth, if a curtain were hung in c -/
noncomputable def s_sw (G : aR) (K : Nat → List Int) (A : aR) (n : Nat) (c : Nat) : Int := s_wo G (s_n G K (G 0 3) n (s_up A 1 c (-2)))
def s_sp9 (G A : aR) (c : Nat) : Prop := s_ps G A (c : Int) ∧ (c : Int) ≠ G 0 2
noncomputable def s_sh (G : aR) (K : Nat → List Int) (A : aR) (n m : Nat) : Int × Int := s_bs (s_sp9 G A) (s_sw G K A n) m
/-- one cell is tried -/
theorem cx_tryShade (ok : s_ok G K A U) (h : RX o g G K A L U x S) (hn : a1.toInt = n) (h40 : n ≤ 999) {d : Nat} (hc : s_sp9 G A d) (ha : a2.toInt = (d : Int) + 8) : ∃ S1, F_f_tryShade o S g 3 a1 a2 = S1 ∧ RX o g G K A L U x S1 ∧ ((zI S 221 5).toInt < s_sw G K A n d ∧ (zI S1 221 4).toInt = (d : Int) + 8 ∧ (zI S1 221 5).toInt = s_sw G K A n d ∨ ¬ (zI S 221 5).toInt < s_sw G K A n d ∧ zI S1 221 4 = zI S 221 4 ∧ zI S1 221 5 = zI S 221 5) ∧ (∀ b, b ≠ 4 → b ≠ 5 → zI S1 221 b = zI S 221 b) ∧ (∀ b, zI S1 229 b = zI S 229 b) ∧ S1.2.1 230 = S.2.1 230 := by
  obtain ⟨hps, hne⟩ := hc
  have c0 := hps.1.1
  have hA := s_up1_ok (v := -2) ok hps.1 hne ⟨by decide, by decide⟩
  rw [show ((d : Int)).toNat = d by omega] at hA
  obtain ⟨S2, e2, r2, p2, k2⟩ := cx_try0 (o := o) ok h
  obtain ⟨S3, h3⟩ : ∃ T, T = dg_uf S2 223 (upd (S2.2.1 223) a2.toNatClampNeg (254 : Int32)) := ⟨_, rfl⟩
  have t3 : kp (fun _ _ => False) (fun a => a = 223) S2 S3 := by rw [h3]; exact kp.uf kp.rf rfl
  have r3 : RX o g G K A L U x S3 := by
    have sep := rX_sep h.2.1.1.1
    exact r2.keep t3 id id (fun _ _ _ _ => id) (fun _ => id) (fun _ => id) (fun _ _ _ _ => id) (fun a _ _ => by omega) (fun a _ _ => by omega) (by decide) (fun a _ _ => by omega)
  have p3 : cx_pit G (s_up A 1 d (-2)) S3 222 := by
    rw [h3]
    have h9 := cx_pit_cellp (v := -2) (y := 254) (i := a2.toNatClampNeg) pX_222 p2 hps.1 ⟨by decide, by decide⟩ (by decide +kernel) (by rw [dk_clN, ha])
    rw [show ((d : Int)).toNat = d by omega] at h9
    exact h9
  obtain ⟨S6, S7, e6, e7, r7, t7, k7⟩ := cx_try (o := o) (a1 := a1) (n := n) ok hA h r3 p3 hn h40
  have k9 : k_sk S S7 := k2.tr ((t3.sk (fun _ => id) (fun _ => id) (by decide)).tr k7)
  have okn := s_n_okU hA n
  have ew : (F_p_wholeWorth o S7 222).toInt = s_sw G K A n d := cx_wholeWorth t7.2.2.2.2.1 okn.2.2.1.1 okn.2.2.1.2
  have Q : F_f_tryShade o S g 3 a1 a2 = F_f_tryShade_J1 o S7 a2 := F_f_tryShade_p2 e2.symm h3 rfl e6.symm e7.symm
  by_cases q : F_p_wholeWorth o S7 222 ≤ zI S7 221 5
  · have d5 := w_le.mp q
    rw [ew, k9.1] at d5
    exact ⟨S7, Q.trans (F_f_tryShade_p0 rfl rfl q), r7, Or.inr ⟨by omega, k9.1 _, k9.1 _⟩, fun b _ _ => k9.1 b, k9.2.1, k9.2.2⟩
  · have d5 : ¬ (F_p_wholeWorth o S7 222).toInt ≤ (zI S7 221 5).toInt := fun z => q (w_le.mpr z)
    rw [ew, k9.1] at d5
    obtain ⟨S16, h16⟩ : ∃ T, T = dg_uF S7 221 4 (.int a2) := ⟨_, rfl⟩
    obtain ⟨S17, h17⟩ : ∃ T, T = dg_uF S16 221 5 (.int (F_p_wholeWorth o S7 222)) := ⟨_, rfl⟩
    have t17 : kp (fun a b => a = 221 ∧ (b = 4 ∨ b = 5)) (fun _ => False) S7 S17 := by
      rw [h17, h16]
      exact kp.uF (kp.uF kp.rf ⟨rfl, Or.inl rfl⟩) ⟨rfl, Or.inr rfl⟩
    have sep := rX_sep h.2.1.1.1
    refine ⟨S17, Q.trans (F_f_tryShade_p1 rfl rfl q h16 h17), r7.keep t17 (by omega) (by omega) (fun a b _ _ => by omega) (fun b => by omega) (fun b => by omega) (fun a b _ _ => by omega) (fun a _ _ => id) (fun a _ _ => id) id (fun a _ _ => id), Or.inl ⟨by omega, ?_, ?_⟩, fun b b4 b5 => by rw [t17.I (fun z => by omega)]; exact k9.1 b, fun b => by rw [t17.I (fun z => by omega)]; exact k9.2.1 b, by rw [(t17.2 230 id).1]; exact k9.2.2⟩
    · rw [h17, w_I0 (by decide), h16, w_I, if_pos ⟨rfl, rfl⟩]
      exact ha
    · rw [h17, w_I, if_pos ⟨rfl, rfl⟩]
      exact ew
end EA
end
section
/-! to SHADE: both sides -/
section EB
variable {o oX oM g n p : Nat} {G A A' : aR} {K : Nat → List Int} {L L' : s_L} {U : s_U} {S S0 S1 SX SM : dg_S} {x x' r c v : Int} {a a1 a2 a3 a4 y : Int32}
/-- what was found, as the class holds it -/
def cx_shA (G : aR) (K : Nat → List Int) (A : aR) (n m : Nat) (S : dg_S) : Prop := (zI S 221 5).toInt = (s_sh G K A n m).2 ∧ (zI S 221 4).toInt = (if (s_sh G K A n m).1 < 0 then -1 else (s_sh G K A n m).1 + 8)
def cx_cs (G : aR) (K : Nat → List Int) (A : aR) (S : dg_S) : Prop := (zI S 221 2).toInt = 0 ∨ ∃ n : Nat, (zI S 221 2).toInt = n ∧ cx_shA G K A n 64 S
/-- what else was sought stays -/
def k_s4 (S S1 : dg_S) : Prop := (∀ b, b ≠ 2 → b ≠ 4 → b ≠ 5 → zI S1 221 b = zI S 221 b) ∧ (∀ b, zI S1 229 b = zI S 229 b) ∧ S1.2.1 230 = S.2.1 230
theorem s_sw_b (ok : s_ok G K A U) {d : Nat} (hc : s_sp9 G A d) : 0 ≤ s_sw G K A n d := by
  have hA := s_up1_ok (v := -2) ok hc.1.1 hc.2 ⟨by decide, by decide⟩
  rw [show ((d : Int)).toNat = d by omega] at hA
  exact (s_wo_b (s_n_okU hA n)).1
theorem s_sh_b (ok : s_ok G K A U) (m : Nat) : s_sh G K A n m = (-1, -1) ∨ (0 ≤ (s_sh G K A n m).1 ∧ (s_sh G K A n m).1 < m ∧ s_sp9 G A (s_sh G K A n m).1.toNat ∧ 0 ≤ (s_sh G K A n m).2) := s_bs_b (fun d hd => s_sw_b ok hd) m
theorem s_sh_y {d : Nat} (hc : s_sp9 G A d) (q : (s_sh G K A n d).2 < s_sw G K A n d) : s_sh G K A n (d + 1) = ((d : Int), s_sw G K A n d) := s_bs_y hc q
theorem s_sh_n {d : Nat} (h : ¬ (s_sp9 G A d ∧ (s_sh G K A n d).2 < s_sw G K A n d)) : s_sh G K A n (d + 1) = s_sh G K A n d := s_bs_n h
theorem cx_seekShade (ok : s_ok G K A U) (h : RX o g G K A L U x S) (hn : a1.toInt = n) (h1 : 1 ≤ n) (h40 : n ≤ 999) (hs : cx_cs G K A S) : ∃ S1, F_f_seekShade o S g 3 a1 = S1 ∧ RX o g G K A L U x S1 ∧ (zI S1 221 2).toInt = n ∧ cx_shA G K A n 64 S1 ∧ k_s4 S S1 := by
  have z0 : (0 : Int32).toInt = 0 := by decide +kernel
  have z72 : (72 : Int32).toInt = 72 := by decide +kernel
  have z255 : (255 : Int32).toInt = 255 := by decide +kernel
  have m1 : (-1 : Int32).toInt = -1 := by decide +kernel
  have sep := rX_sep h.2.1.1.1
  by_cases q : zI S 221 2 = a1
  · rcases hs with hs | ⟨n', e', w'⟩
    · rw [q] at hs
      omega
    · have en : n' = n := by rw [q] at e'; omega
      subst en
      exact ⟨S, F_f_seekShade_p6 rfl q, h, e', w', fun _ _ _ _ => rfl, fun _ => rfl, rfl⟩
  obtain ⟨S5, g5⟩ : ∃ T, T = dg_uF S 221 2 (.int a1) := ⟨_, rfl⟩
  obtain ⟨S7, g7⟩ : ∃ T, T = dg_uF S5 221 4 (.int (-1 : Int32)) := ⟨_, rfl⟩
  obtain ⟨S9, g9⟩ : ∃ T, T = dg_uF S7 221 5 (.int (-1 : Int32)) := ⟨_, rfl⟩
  have t9 : kp (fun a b => a = 221 ∧ (b = 2 ∨ b = 4 ∨ b = 5)) (fun _ => False) S S9 := by
    rw [g9, g7, g5]
    exact kp.uF (kp.uF (kp.uF kp.rf ⟨rfl, by decide⟩) ⟨rfl, by decide⟩) ⟨rfl, by decide⟩
  have r9 : RX o g G K A L U x S9 := h.keep t9 (by omega) (by omega) (fun a b _ _ => by omega) (fun b => by omega) (fun b => by omega) (fun a b _ _ => by omega) (fun a _ _ => id) (fun a _ _ => id) id (fun a _ _ => id)
  have i2 : (zI S9 221 2).toInt = n := by
    rw [g9, w_I0 (by decide), g7, w_I0 (by decide), g5, w_I, if_pos ⟨rfl, rfl⟩]
    exact hn
  have s9 : cx_shA G K A n 0 S9 := by
    refine ⟨?_, ?_⟩
    · rw [g9, w_I, if_pos ⟨rfl, rfl⟩]
      exact m1
    · rw [g9, w_I0 (by decide), g7, w_I, if_pos ⟨rfl, rfl⟩]
      exact m1
  have hsh : (zI S g 2).toInt = G 0 2 + 8 := h.2.1.1.2.1
  have main := lp_cnt (f := F_f_seekShade_B1 3 S g o a1) (z := S) (W := 72) (P := fun k T => RX o g G K A L U x T ∧ cx_shA G K A n (k - 8) T ∧ (∀ b, b ≠ 4 → b ≠ 5 → zI T 221 b = zI S9 221 b) ∧ (∀ b, zI T 229 b = zI S9 229 b) ∧ T.2.1 230 = S9.2.1 230) (Q := fun T => RX o g G K A L U x T ∧ cx_shA G K A n 64 T ∧ (∀ b, b ≠ 4 → b ≠ 5 → zI T 221 b = zI S9 221 b) ∧ (∀ b, zI T 229 b = zI S9 229 b) ∧ T.2.1 230 = S9.2.1 230) (by decide) (fun k kI T hk hkI hP => by
    obtain ⟨t1, t2, t3, t4, t5⟩ := hP
    have q0 : ¬ (72 : Int32) ≤ kI := fun z => by have := dk_gec z72 z; omega
    have kn : kI.toNatClampNeg = k := by rw [dk_clN]; omega
    have ce := t1.2.2.1.1 (k : Int) (by omega) (by omega)
    have stay : ¬ (8 ≤ k ∧ s_sp9 G A (k - 8)) → F_f_seekShade_B1 3 S g o a1 (kI, T) = F_f_seekShade_J2 kI T → ∃ s1, F_f_seekShade_B1 3 S g o a1 (kI, T) = .inl (kI + 1, s1) ∧ RX o g G K A L U x s1 ∧ cx_shA G K A n (k + 1 - 8) s1 ∧ (∀ b, b ≠ 4 → b ≠ 5 → zI s1 221 b = zI S9 221 b) ∧ (∀ b, zI s1 229 b = zI S9 229 b) ∧ s1.2.1 230 = S9.2.1 230 := fun hn9 e => by
      refine ⟨T, e.trans (F_f_seekShade_p1 rfl), t1, ?_, t3, t4, t5⟩
      have es : s_sh G K A n (k + 1 - 8) = s_sh G K A n (k - 8) := by
        by_cases u : k < 8
        · rw [show k + 1 - 8 = 0 by omega, show k - 8 = 0 by omega]
        · rw [show k + 1 - 8 = (k - 8) + 1 by omega]
          exact s_sh_n (fun z => hn9 ⟨by omega, z.1⟩)
      unfold cx_shA
      rw [es]
      exact t2
    have ev : (T.2.1 (3 + 1) kI.toNatClampNeg).toInt = cx_at T 3 (k : Int) := by
      rw [kn]
      unfold cx_at
      rw [show ((k : Int)).toNat = k by omega]
    by_cases q6 : T.2.1 (3 + 1) kI.toNatClampNeg = (255 : Int32)
    · have d6 := dk_eqc z255 q6
      rw [ev] at d6
      have hin : s_in G ((k : Int) - 8) := by
        apply Classical.byContradiction
        intro z
        have := ce.2 z
        omega
      obtain ⟨e1, l1, u1⟩ := ce.1 hin
      have sc : s_c A ((k : Int) - 8) = -1 := by
        rw [e1] at d6
        unfold cx_en at d6
        by_cases w : s_c A ((k : Int) - 8) = -1
        · exact w
        · rw [if_neg w] at d6
          split at d6 <;> omega
      have hin0 := hin.1
      have ek : ((k - 8 : Nat) : Int) = (k : Int) - 8 := by omega
      by_cases q7 : kI = zI S g 2
      · refine stay (fun z => ?_) (F_f_seekShade_p3 q0 rfl q6 rfl q7)
        have := z.2.2
        rw [ek] at this
        rw [q7] at hkI
        omega
      · have hne : ((k - 8 : Nat) : Int) ≠ G 0 2 := fun z => q7 (Int32.toInt_inj.mp (by rw [hkI, hsh]; omega))
        have hsp : s_sp9 G A (k - 8) := ⟨by rw [ek]; exact ⟨hin, sc⟩, hne⟩
        obtain ⟨T1, f1, f2, f3, f4, f5, f6⟩ := cx_tryShade (o := o) (a1 := a1) (a2 := kI) ok t1 hn h40 hsp (by rw [hkI]; omega)
        refine ⟨T1, (F_f_seekShade_p4 q0 rfl q6 rfl q7 f1.symm).trans (F_f_seekShade_p1 rfl), f2, ?_, fun b b4 b5 => (f4 b b4 b5).trans (t3 b b4 b5), fun b => (f5 b).trans (t4 b), f6.trans t5⟩
        rw [show k + 1 - 8 = (k - 8) + 1 by omega]
        rw [t2.1] at f3
        rcases f3 with ⟨w1, w2, w3⟩ | ⟨w1, w2, w3⟩
        · unfold cx_shA
          rw [s_sh_y hsp w1]
          refine ⟨w3, ?_⟩
          show _ = (if ((k - 8 : Nat) : Int) < 0 then (-1 : Int) else ((k - 8 : Nat) : Int) + 8)
          rw [if_neg (by omega)]
          exact w2
        · unfold cx_shA
          rw [s_sh_n (fun z => w1 z.2), w2, w3]
          exact t2
    · have d6 := dk_neqc z255 q6
      rw [ev] at d6
      refine stay (fun z => ?_) (F_f_seekShade_p2 q0 rfl q6)
      obtain ⟨z1, z2, -⟩ := z
      rw [show ((k - 8 : Nat) : Int) = (k : Int) - 8 by omega] at z2
      have e1 := (ce.1 z2.1).1
      rw [z2.2] at e1
      exact d6 e1) (fun kI T hkI hP => by
    exact ⟨T, F_f_seekShade_p0 (dk_gep z72 (by omega)), hP⟩) ((73 - ((0 : Int32)).toInt).toNat + 1) 0 0 S9 (by rw [z0]; decide) (by decide) z0 ⟨r9, s9, fun _ _ _ => rfl, fun _ => rfl, rfl⟩
  refine ⟨_, F_f_seekShade_p5 rfl q g5 g7 g9, main.1, by rw [main.2.2.1 2 (by decide) (by decide)]; exact i2, main.2.1, fun b b2 b4 b5 => by rw [main.2.2.1 b b4 b5]; exact t9.I (fun z => by omega), fun b => by rw [main.2.2.2.1 b]; exact t9.I (fun z => by omega), by rw [main.2.2.2.2]; exact (t9.2 230 id).1⟩
/-- what shade tells of the best -/
def s_shv (b : Int × Int) (w : Int) : Int := if b.1 < 0 then -1 else if w = 0 then b.1 % 8 else if w = 1 then b.1 / 8 else if w = 2 then b.2 else -1
theorem cx_shade (ok : s_ok G K A U) (h : RX o g G K A L U x S) (hs : cx_cs G K A S) : ∃ (S1 : dg_S) (y : Int32), F_d_shade o S a1 a2 = (S1, y) ∧ y.toInt = s_if (1 ≤ a1.toInt ∧ a1.toInt ≤ 20 ∧ A 0 0 + a1.toInt ≤ 999) (s_shv (s_sh G K A a1.toInt.toNat 64) a2.toInt) (-1) ∧ RX o g G K A L U x S1 ∧ cx_cs G K A S1 ∧ k_s4 S S1 := by
  have z0 : (0 : Int32).toInt = 0 := by decide +kernel
  have z1 : (1 : Int32).toInt = 1 := by decide +kernel
  have z2 : (2 : Int32).toInt = 2 := by decide +kernel
  have z20 : (20 : Int32).toInt = 20 := by decide +kernel
  have m1 : (-1 : Int32).toInt = -1 := by decide +kernel
  have hcm := cx_come (o := o) (a1 := 1) (a2 := a1) (a3 := 20) h.2.1 h.1 ok.1.1 ok.2.2.1.1 h.2.2.1 (by decide +kernel) (by decide +kernel)
  rw [z1, z20] at hcm
  rcases hcm with ⟨e, w⟩ | ⟨e, w⟩
  rotate_left
  · exact ⟨S, -1, F_d_shade_p5 rfl e, by rw [s_if_n w]; exact m1, h, hs, fun _ _ _ _ => rfl, fun _ => rfl, rfl⟩
  have ne : ¬ F_d_shiftsCome o S (1 : Int32) a1 (20 : Int32) = (0 : Int32) := by rw [e]; decide +kernel
  rw [s_if_y w]
  obtain ⟨m, hm⟩ : ∃ m : Nat, m = a1.toInt.toNat := ⟨_, rfl⟩
  rw [← hm]
  obtain ⟨S5, e5, r5, i2, s5, k5⟩ := cx_seekShade (o := o) (a1 := a1) (n := m) ok h (by omega) (by omega) (by omega) hs
  have hb := s_sh_b (n := m) ok 64
  have c5 : cx_cs G K A S5 := Or.inr ⟨m, i2, s5⟩
  obtain ⟨v5, v4⟩ := s5
  unfold s_shv
  by_cases q : zI S5 221 4 = (-1 : Int32)
  · have d := dk_eqc m1 q
    rw [v4] at d
    refine ⟨S5, -1, F_d_shade_p4 rfl ne h.1.symm e5.symm rfl q, ?_, r5, c5, k5⟩
    by_cases u : (s_sh G K A m 64).1 < 0
    · rw [if_pos u]
      exact m1
    · rw [if_neg u] at d
      omega
  have d := dk_neqc m1 q
  rw [v4] at d
  have u : ¬ (s_sh G K A m 64).1 < 0 := fun z => by
    rw [if_pos z] at d
    exact d rfl
  rw [if_neg u] at v4 ⊢
  have b64 : (s_sh G K A m 64).1 < 64 := by
    rcases hb with hb | hb
    · rw [hb]
      show (-1 : Int) < 64
      decide
    · exact hb.2.1
  by_cases c0 : a2 = (0 : Int32)
  · have d0 := dk_eqc z0 c0
    refine ⟨S5, _, F_d_shade_p1 rfl ne h.1.symm e5.symm rfl q c0 rfl, ?_, r5, c5, k5⟩
    rw [if_pos d0, cx_columnOf (by omega) (by omega), v4]
    omega
  have d0 := dk_neqc z0 c0
  rw [if_neg d0]
  by_cases c1 : a2 = (1 : Int32)
  · have d1 := dk_eqc z1 c1
    refine ⟨S5, _, F_d_shade_p2 rfl ne h.1.symm e5.symm rfl q c0 c1 rfl, ?_, r5, c5, k5⟩
    rw [if_pos d1, cx_rowOf (by omega) (by omega), v4]
    omega
  have d1 := dk_neqc z1 c1
  rw [if_neg d1]
  by_cases c2 : a2 = (2 : Int32)
  · have d2 := dk_eqc z2 c2
    refine ⟨S5, _, F_d_shade_p3 rfl ne h.1.symm e5.symm rfl q c0 c1 c2 rfl, ?_, r5, c5, k5⟩
    rw [if_pos d2]
    exact v5
  have d2 := dk_neqc z2 c2
  rw [if_neg d2]
  exact ⟨S5, -1, F_d_shade_p0 rfl ne h.1.symm e5.symm rfl q c0 c1 c2, m1, r5, c5, k5⟩
/-- the reference: may a curtain be hung -/
theorem mx_canHang (hg : mx_gd G S) (hb : s_gb G) (hce : mx_ce G A S 0) : F_m_canHang o S a1 = 1 ∧ (s_op G A a1.toInt ∧ a1.toInt ≠ G 0 2) ∨ F_m_canHang o S a1 = 0 ∧ ¬ (s_op G A a1.toInt ∧ a1.toInt ≠ G 0 2) := by
  have z0 : (0 : Int32).toInt = 0 := by decide +kernel
  have hsh : (S.2.1 4 (zI S 0 13).toNatClampNeg).toInt = G 0 2 := hg.2.2.2.1
  rcases mx_isCellOf (o := o) (a := a1) hg hb with ⟨e, y⟩ | ⟨e, y⟩
  rotate_left
  · exact Or.inr ⟨F_m_canHang_p0 rfl e, fun z => y z.1.1⟩
  have n1 : ¬ F_m_isCellOf o S a1 = (0 : Int32) := by rw [e]; decide +kernel
  rcases mx_op (o := o) (a := 0) (b := a1) hce z0 (by decide) y with ⟨f, w⟩ | ⟨f, w⟩
  rotate_left
  · exact Or.inr ⟨F_m_canHang_p1 rfl n1 rfl f, fun z => w z.1⟩
  have n2 : ¬ F_m_isOpen o S (0 : Int32) a1 = (0 : Int32) := by rw [f]; decide +kernel
  by_cases q : a1 = S.2.1 4 (zI S 0 13).toNatClampNeg
  · exact Or.inr ⟨F_m_canHang_p2 rfl n1 rfl n2 rfl rfl q, fun z => z.2 (by rw [q]; exact hsh)⟩
  · exact Or.inl ⟨F_m_canHang_p3 rfl n1 rfl n2 rfl rfl q, w, fun z => q (Int32.toInt_inj.mp (by rw [hsh, z]))⟩
/-- a curtain on layer 1 -/
theorem mx_lay_hung (hl : mx_lay G A L S 1) (hc : s_ps G A c) {i : Nat} (hi : i = mx_ad 1 c) : mx_lay G (s_up A 1 c.toNat (-2)) L (dg_uf S 32 (upd (S.2.1 32) i (1 : Int32))) 1 ∧ k_v 1 S (dg_uf S 32 (upd (S.2.1 32) i (1 : Int32))) := by
  subst hi
  have z1 : (1 : Int32).toInt = 1 := by decide +kernel
  have c0 := hc.1.1
  have adn : mx_ad 1 c = 64 * 1 + c.toNat := by unfold mx_ad; omega
  obtain ⟨y1, y2, y3, y4, y5, y6, y7, y8⟩ := hl
  obtain ⟨T, hT⟩ : ∃ T, T = dg_uf S 32 (upd (S.2.1 32) (mx_ad 1 c) (1 : Int32)) := ⟨_, rfl⟩
  have ro : ∀ i, i ≠ 32 → T.2.1 i = S.2.1 i := fun i i1 => by rw [hT, w_f, if_neg i1]
  have E : ∀ a b, a ≠ 1 → s_up A 1 c.toNat (-2) a b = A a b := fun a b h => s_up_ne (fun z => h z.1)
  rw [← hT]
  refine ⟨⟨fun d hd => ?_, by rw [ro 29 (by decide), E _ _ (by decide)]; exact y2, by rw [ro 30 (by decide), E _ _ (by decide)]; exact y3, by rw [ro 33 (by decide)]; exact ⟨y4.1, fun k hk => by rw [E _ _ (by decide)]; exact y4.2 k hk⟩, fun k hk => by rw [ro 35 (by decide), ro 36 (by decide), E _ _ (by decide), E _ _ (by decide)]; exact y5 k hk, by rw [ro 34 (by decide)]; exact ⟨y6.1, fun k hk => by rw [E _ _ (by decide)]; exact y6.2 k hk⟩, fun k hk => by rw [ro 37 (by decide), E _ _ (by decide)]; exact y7 k hk, y8.keep (by rw [ro 38 (by decide)]) (fun j _ _ => by rw [ro 39 (by decide)])⟩, ?_⟩
  · obtain ⟨i1, i2, i3, i4⟩ := y1 d hd
    have hd0 := hd.1
    rw [s_c_up c0.1 hd0.1, ro 31 (by decide), hT, w_f, if_pos rfl, w_u]
    by_cases z : d = c
    · subst z
      rw [if_pos rfl, if_pos rfl, i1, z1, hc.2]
      exact ⟨rfl, rfl, by decide, by decide⟩
    · rw [if_neg z, if_neg (fun w => z (by unfold mx_ad at w; omega))]
      exact ⟨i1, i2, i3, i4⟩
  · rw [hT]
    exact k_v.uf k_v.rf (by decide) (by decide) (mw 32 64 _ _ rfl (by omega))
theorem mx_shade (ok : s_ok G K A U) (h : RM G K A L U x S) : ∃ (S1 : dg_S) (y : Int32), F_m_shade o S a1 a2 = (S1, y) ∧ y.toInt = s_if (1 ≤ a1.toInt ∧ a1.toInt ≤ 20 ∧ A 0 0 + a1.toInt ≤ 999) (s_shv (s_sh G K A a1.toInt.toNat 64) a2.toInt) (-1) ∧ RM G K A L U x S1 := by
  have z0 : (0 : Int32).toInt = 0 := by decide +kernel
  have z1 : (1 : Int32).toInt = 1 := by decide +kernel
  have z2 : (2 : Int32).toInt = 2 := by decide +kernel
  have z20 : (20 : Int32).toInt = 20 := by decide +kernel
  have z64 : (64 : Int32).toInt = 64 := by decide +kernel
  have m1 : (-1 : Int32).toInt = -1 := by decide +kernel
  have hb := ok.1.1.2.2.2
  have hgb := ok.1.1.1
  have hcm := mx_come (o := o) (a1 := a1) (a2 := 1) (a3 := 20) h.1.1.1 h.2.1 ok.2.2.1.1 (by decide +kernel) (by decide +kernel)
  rw [z1, z20] at hcm
  rcases hcm with ⟨e, w⟩ | ⟨e, w⟩
  rotate_left
  · exact ⟨S, -1, F_m_shade_p0 rfl e, by rw [s_if_n w]; exact m1, h⟩
  have ne : ¬ F_m_isAhead o S a1 (1 : Int32) (20 : Int32) = (0 : Int32) := by rw [e]; decide +kernel
  rw [s_if_y w]
  obtain ⟨m, hm⟩ : ∃ m : Nat, m = a1.toInt.toNat := ⟨_, rfl⟩
  rw [← hm]
  have hsb := s_sh_b (n := m) ok
  have hj := mx_is (o := o) (S := S) (a := a2) (b := 0) (c := 2)
  rw [z0, z2] at hj
  rcases hj with ⟨f, u⟩ | ⟨f, u⟩
  rotate_left
  · refine ⟨S, -1, F_m_shade_p11 rfl ne rfl f, ?_, h⟩
    unfold s_shv
    rw [m1]
    split
    · rfl
    · rw [if_neg (by omega), if_neg (by omega), if_neg (by omega)]
  have nf : ¬ F_m_is o S a2 (0 : Int32) (2 : Int32) = (0 : Int32) := by rw [f]; decide +kernel
  have main := lp_cnt (f := F_m_shade_B2 a2 o a1) (z := (S, (0 : Int32))) (W := 64) (P := fun k s => RM G K A L U x s.2.2 ∧ s.1.toInt = (s_sh G K A m k).2 ∧ s.2.1.toInt = (s_sh G K A m k).1) (Q := fun q => ∃ (T : dg_S) (mo be : Int32), q = F_m_shade_J1 be T mo a2 o ∧ RM G K A L U x T ∧ mo.toInt = (s_sh G K A m 64).2 ∧ be.toInt = (s_sh G K A m 64).1) (by decide) (fun k kI s hk hkI hP => by
    obtain ⟨mo, be, T⟩ := s
    obtain ⟨t1, t2, t3⟩ := hP
    have t1 : RM G K A L U x T := t1
    have t2 : mo.toInt = (s_sh G K A m k).2 := t2
    have t3 : be.toInt = (s_sh G K A m k).1 := t3
    have q0 : ¬ (64 : Int32) ≤ kI := fun z => by have := dk_gec z64 z; omega
    have kn : kI.toNatClampNeg = k := by rw [dk_clN]; omega
    have stay : ¬ s_sp9 G A k → F_m_shade_B2 a2 o a1 (kI, mo, be, T) = F_m_shade_J3 kI mo be T → ∃ s1, F_m_shade_B2 a2 o a1 (kI, mo, be, T) = .inl (kI + 1, s1) ∧ RM G K A L U x s1.2.2 ∧ s1.1.toInt = (s_sh G K A m (k + 1)).2 ∧ s1.2.1.toInt = (s_sh G K A m (k + 1)).1 := fun hn e => by
      refine ⟨(mo, be, T), e.trans (F_m_shade_p5 rfl), t1, ?_, ?_⟩
      · rw [s_sh_n (fun z => hn z.1)]
        exact t2
      · rw [s_sh_n (fun z => hn z.1)]
        exact t3
    rcases mx_canHang (o := o) (a1 := kI) t1.1.1.1 hgb t1.2.1.1 with ⟨e1, y1⟩ | ⟨e1, y1⟩
    rotate_left
    · rw [hkI] at y1
      exact stay (fun z => y1 ⟨⟨z.1.1, by rw [z.1.2]; decide⟩, z.2⟩) (F_m_shade_p6 q0 rfl e1)
    rw [hkI] at y1
    have n1 : ¬ F_m_canHang o T kI = (0 : Int32) := by rw [e1]; decide +kernel
    obtain ⟨i31, i32, il, iu⟩ := t1.2.1.1 (k : Int) y1.1.1
    have ad0 : mx_ad 0 (k : Int) = k := by unfold mx_ad; omega
    rw [ad0] at i32
    have yc := y1.1.2
    by_cases q1 : T.2.1 32 kI.toNatClampNeg = (1 : Int32)
    · have d1 := dk_eqc z1 q1
      rw [kn, i32] at d1
      refine stay (fun z => ?_) (F_m_shade_p9 q0 rfl n1 rfl q1)
      rw [z.1.2] at d1
      exact absurd d1 (by decide)
    have d1 := dk_neqc z1 q1
    rw [kn, i32] at d1
    have sc : s_c A (k : Int) = -1 := by
      unfold mx_cu at d1
      by_cases u : s_c A (k : Int) = -2
      · rw [if_pos u] at d1
        exact absurd rfl d1
      · omega
    have hsp : s_sp9 G A k := ⟨⟨y1.1.1, sc⟩, y1.2⟩
    have hA := s_up1_ok (v := -2) ok hsp.1.1 hsp.2 ⟨by decide, by decide⟩
    rw [show ((k : Int)).toNat = k by omega] at hA
    obtain ⟨T2, e2, r2, l2⟩ := mx_try (o := o) ok t1
    have e64 : ((64 : Int32) + kI).toInt = 64 + (k : Int) := dk_addT z64 hkI (by omega) (by omega)
    have n64 : ((64 : Int32) + kI).toNatClampNeg = mx_ad 1 (k : Int) := by
      rw [dk_clN, e64]
      unfold mx_ad
      omega
    obtain ⟨l3, k3⟩ := mx_lay_hung (i := ((64 : Int32) + kI).toNatClampNeg) l2 hsp.1 n64
    rw [show ((k : Int)).toNat = k by omega] at l3
    obtain ⟨T3, h3⟩ : ∃ T3, T3 = dg_uf T2 32 (upd (T2.2.1 32) ((64 : Int32) + kI).toNatClampNeg (1 : Int32)) := ⟨_, rfl⟩
    rw [← h3] at l3 k3
    have r3 : RM G K A L U x T3 := r2.v hb k3 (by decide) (k3.lay r2.2.1 (by decide) hb)
    have a00 : s_up A 1 k (-2) 0 0 = A 0 0 := s_up_ne (fun z => absurd z.1 (by decide))
    obtain ⟨T4, L4, e4, r4, l4⟩ := mx_runs (o := o) (a1 := a1) (n := m) ok r3 hA.2.2.1.1 hA.2.2.1.2 l3 (by omega) (by omega) (by rw [a00]; omega)
    have okn := s_n_okU hA m
    have ew : (F_m_worthOf o T4 (1 : Int32)).toInt = s_sw G K A m k := mx_worthOf r4.1.1.1 hgb l4 okn.2.2.1.1 okn.2.2.1.2 z1 (by decide)
    by_cases q5 : mo < F_m_worthOf o T4 (1 : Int32)
    · have d5 := w_lt.mp q5
      rw [t2, ew] at d5
      refine ⟨(F_m_worthOf o T4 (1 : Int32), kI, T4), (F_m_shade_p7 q0 rfl n1 rfl q1 e2.symm rfl h3 e4.symm rfl q5 rfl).trans (F_m_shade_p5 rfl), r4, ?_, ?_⟩
      · rw [s_sh_y hsp d5]
        exact ew
      · rw [s_sh_y hsp d5]
        exact hkI
    · have d5 : ¬ mo.toInt < (F_m_worthOf o T4 (1 : Int32)).toInt := fun z => q5 (w_lt.mpr z)
      rw [t2, ew] at d5
      refine ⟨(mo, be, T4), (F_m_shade_p8 q0 rfl n1 rfl q1 e2.symm rfl h3 e4.symm rfl q5).trans (F_m_shade_p5 rfl), r4, ?_, ?_⟩
      · rw [s_sh_n (fun z => d5 z.2)]
        exact t2
      · rw [s_sh_n (fun z => d5 z.2)]
        exact t3) (fun kI s hkI hP => by
    obtain ⟨mo, be, T⟩ := s
    exact ⟨_, F_m_shade_p4 (dk_gep z64 (by omega)), T, mo, be, rfl, hP.1, hP.2.1, hP.2.2⟩) ((65 - ((0 : Int32)).toInt).toNat + 1) 0 0 ((-1 : Int32), (-1 : Int32), S) (by rw [z0]; decide) (by decide) z0 ⟨h, m1, m1⟩
  rw [F_m_shade_p10 rfl ne rfl nf]
  obtain ⟨T, mo, be, eq, rT, v2, v1⟩ := main
  rw [eq]
  unfold s_shv
  have h64 := hsb 64
  by_cases q : be = (-1 : Int32)
  · have d := dk_eqc m1 q
    rw [v1] at d
    refine ⟨T, mo, F_m_shade_p1 q, ?_, rT⟩
    rw [if_pos (by omega), v2]
    rcases h64 with h64 | h64
    · rw [h64]
    · omega
  have d := dk_neqc m1 q
  rw [v1] at d
  have h64 : 0 ≤ (s_sh G K A m 64).1 := by
    rcases h64 with h64 | h64
    · rw [h64] at d
      exact absurd rfl d
    · exact h64.1
  rw [if_neg (by omega)]
  by_cases c2 : a2 = (2 : Int32)
  · have d2 := dk_eqc z2 c2
    refine ⟨T, mo, F_m_shade_p3 q c2, ?_, rT⟩
    rw [if_neg (by omega), if_neg (by omega), if_pos d2]
    exact v2
  have d2 := dk_neqc z2 c2
  by_cases c0 : a2 = (0 : Int32)
  · have d0 := dk_eqc z0 c0
    refine ⟨T, _, F_m_shade_p2 q c2 rfl, ?_, rT⟩
    rw [if_pos d0, F_m_partOf_p1 c0 rfl, dk_remL (b := 8) (by omega) (by decide +kernel) (by decide), v1]
  · have d0 := dk_neqc z0 c0
    refine ⟨T, _, F_m_shade_p2 q c2 rfl, ?_, rT⟩
    rw [if_neg d0, if_pos (by omega), F_m_partOf_p0 c0 rfl, dk_divL (b := 8) (by omega) (by decide +kernel) (by decide), v1]
/-- SHADE on both sides -/
theorem sim_shade (ok : s_ok G K A U) (hX : RX oX g G K A L U x SX) (hs : cx_cs G K A SX) (hM : RM G K A L U x SM) : (F_d_shade oX SX a1 a2).2 = (F_m_shade oM SM a1 a2).2 ∧ RX oX g G K A L U x (F_d_shade oX SX a1 a2).1 ∧ cx_cs G K A (F_d_shade oX SX a1 a2).1 ∧ k_s4 SX (F_d_shade oX SX a1 a2).1 ∧ RM G K A L U x (F_m_shade oM SM a1 a2).1 := by
  obtain ⟨S1, y1, e1, v1, r1, c1, k1⟩ := cx_shade (o := oX) (a1 := a1) (a2 := a2) ok hX hs
  obtain ⟨S2, y2, e2, v2, r2⟩ := mx_shade (o := oM) (a1 := a1) (a2 := a2) ok hM
  rw [e1, e2]
  exact ⟨Int32.toInt_inj.mp (v1.trans v2.symm), r1, c1, k1, r2⟩
end EB
end
section
/-! to CHANGE: both sides -/
def s_wr (k a b : Nat) : Nat := if k = a then b else if k = b then a else k
/-- two rows of the plan taken for one another -/
def s_wp (A : aR) (a b : Nat) : aR := fun r i => if r = 3 ∨ r = 4 then A r (s_wr i a b) else A r i
theorem s_wp_o {A : aR} {a b r i : Nat} (h3 : r ≠ 3) (h4 : r ≠ 4) : s_wp A a b r i = A r i := by
  unfold s_wp
  rw [if_neg (fun z => by rcases z with z | z <;> omega)]
theorem s_wp_3 {A : aR} {a b i : Nat} : s_wp A a b 3 i = A 3 (s_wr i a b) := by
  unfold s_wp
  rw [if_pos (Or.inl rfl)]
theorem s_wp_4 {A : aR} {a b i : Nat} : s_wp A a b 4 i = A 4 (s_wr i a b) := by
  unfold s_wp
  rw [if_pos (Or.inr rfl)]
theorem s_wr_self {k a : Nat} : s_wr k a a = k := by
  unfold s_wr
  by_cases h : k = a
  · rw [if_pos h, h]
  · rw [if_neg h, if_neg h]
theorem s_wp_self {A : aR} {a : Nat} : s_wp A a a = A := by
  funext r i
  unfold s_wp
  rw [s_wr_self]
  split <;> rfl
theorem s_wr_lt {k a b m : Nat} (hk : k < m) (h : a = b ∨ (a < m ∧ b < m)) : s_wr k a b < m := by
  rcases h with h | h
  · rw [h, s_wr_self]
    exact hk
  · unfold s_wr
    split
    · exact h.2
    · split
      · exact h.1
      · exact hk
/-- a row written at a and at b -/
theorem s_wr_row {r : Nat → Int32} {a b k : Nat} : upd (upd r a (r b)) b (r a) k = r (s_wr k a b) := by
  rw [w_u, w_u]
  unfold s_wr
  by_cases h : k = b
  · rw [if_pos h]
    by_cases h2 : k = a
    · rw [if_pos h2, ← h, ← h2]
    · rw [if_neg h2, if_pos h]
  · rw [if_neg h]
    by_cases h2 : k = a
    · rw [if_pos h2, if_pos h2]
    · rw [if_neg h2, if_neg h2, if_neg h]
abbrev s_T : Type := Int × Int × Int
noncomputable def s_ci (f : Nat → Nat → Int) (a : Nat) (q : s_T) : Nat → s_T
  | 0 => q
  | m + 1 => s_if ((s_ci f a q m).2.2 < f a (a + 1 + m)) ((a : Int), ((a + 1 + m : Nat) : Int), f a (a + 1 + m)) (s_ci f a q m)
noncomputable def s_co (f : Nat → Nat → Int) (pl : Nat) (q : s_T) : Nat → s_T
  | 0 => q
  | a + 1 => s_ci f a (s_co f pl q a) (pl - (a + 1))
theorem s_ci_y {f : Nat → Nat → Int} {a m : Nat} {q : s_T} (h : (s_ci f a q m).2.2 < f a (a + 1 + m)) : s_ci f a q (m + 1) = ((a : Int), ((a + 1 + m : Nat) : Int), f a (a + 1 + m)) := s_if_y h
theorem s_ci_n {f : Nat → Nat → Int} {a m : Nat} {q : s_T} (h : ¬ (s_ci f a q m).2.2 < f a (a + 1 + m)) : s_ci f a q (m + 1) = s_ci f a q m := s_if_n h
/-- grades of all tubs, if two rows were changed -/
noncomputable def s_fg (G : aR) (K : Nat → List Int) (A : aR) (n a b : Nat) : Int := s_tg (s_n G K (G 0 3) n (s_wp A a b)) 10
noncomputable def s_cq (G : aR) (K : Nat → List Int) (A : aR) (n : Nat) : s_T := (-1, -1, s_fg G K A n 0 0)
noncomputable def s_cR (G : aR) (K : Nat → List Int) (A : aR) (n m : Nat) : s_T := s_co (s_fg G K A n) (G 0 6).toNat (s_cq G K A n) m
/-- what change tells -/
def s_cv (q : s_T) (w : Int) : Int := if q.1 = -1 then -1 else if w = 0 then q.1 else if w = 1 then q.2.1 else if w = 2 then q.2.2 else -1
section EC
variable {o oX oM g n p : Nat} {G A A' : aR} {K : Nat → List Int} {L L' : s_L} {U : s_U} {S S0 S1 SX SM : dg_S} {x x' r c v : Int} {a a1 a2 a3 a4 y : Int32} {q : s_T} {i j : Nat}
theorem s_wp_ok (ok : s_ok G K A U) (h : i = j ∨ ((i : Int) < G 0 6 ∧ (j : Int) < G 0 6)) : s_ok G K (s_wp A i j) U := by
  obtain ⟨hG, hK, ⟨⟨w0, w1, w2, w3, w4, w5⟩, hcw⟩, hU⟩ := ok
  have E : ∀ a b, a ≠ 3 → a ≠ 4 → s_wp A i j a b = A a b := fun a b h3 h4 => s_wp_o h3 h4
  have g6 := hG.1.2.2
  refine ⟨hG, hK, ⟨⟨by rw [E _ _ (by decide) (by decide)]; exact w0, by rw [E _ _ (by decide) (by decide)]; exact w1, fun k hk => by rw [E _ _ (by decide) (by decide)]; exact w2 k hk, fun k hk => ?_, fun k hk => by rw [E _ _ (by decide) (by decide)]; exact w4 k hk, fun k hk => by rw [E _ _ (by decide) (by decide)]; exact w5 k hk⟩, fun d hd => ?_, hcw.2.1, ?_⟩, hU⟩
  · rw [s_wp_3, s_wp_4]
    have hl := s_wr_lt (k := k) (a := i) (b := j) (m := (G 0 6).toNat) (by omega) (by omega)
    exact w3 _ (by omega)
  · have := hcw.1 d hd
    unfold s_c at this ⊢
    rw [E _ _ (by decide) (by decide)]
    exact this
  · have := hcw.2.2
    unfold s_c at this ⊢
    rw [E _ _ (by decide) (by decide)]
    exact this
theorem cx_changeRows (hp : pX p) (h : cx_pit G A S p) (hi : a1.toInt = i) (hj : a2.toInt = j) (hij : i = j ∨ ((i : Int) < G 0 6 ∧ (j : Int) < G 0 6)) : ∃ S1, F_p_changeRows o S p a1 a2 = S1 ∧ cx_pit G (s_wp A i j) S1 p ∧ kp (fun _ _ => False) (fun a => a = p + 3 ∨ a = p + 4) S S1 := by
  have ni : a1.toNatClampNeg = i := by rw [dk_clN]; omega
  have nj : a2.toNatClampNeg = j := by rw [dk_clN]; omega
  obtain ⟨S8, h8⟩ : ∃ T, T = dg_uf S (p + 3) (upd (S.2.1 (p + 3)) a1.toNatClampNeg (S.2.1 (p + 3) a2.toNatClampNeg)) := ⟨_, rfl⟩
  obtain ⟨S12, h12⟩ : ∃ T, T = dg_uf S8 (p + 4) (upd (S8.2.1 (p + 4)) a1.toNatClampNeg (S8.2.1 (p + 4) a2.toNatClampNeg)) := ⟨_, rfl⟩
  obtain ⟨S14, h14⟩ : ∃ T, T = dg_uf S12 (p + 3) (upd (S12.2.1 (p + 3)) a2.toNatClampNeg (S.2.1 (p + 3) a1.toNatClampNeg)) := ⟨_, rfl⟩
  obtain ⟨S16, h16⟩ : ∃ T, T = dg_uf S14 (p + 4) (upd (S14.2.1 (p + 4)) a2.toNatClampNeg (S.2.1 (p + 4) a1.toNatClampNeg)) := ⟨_, rfl⟩
  have n34 : ¬ p + 3 = p + 4 := by omega
  have n43 : ¬ p + 4 = p + 3 := by omega
  have r3 : ∀ k, S16.2.1 (p + 3) k = S.2.1 (p + 3) (s_wr k i j) := fun k => by
    rw [h16, w_f, if_neg n34, h14, w_f, if_pos rfl, h12, w_f, if_neg n34, h8, w_f, if_pos rfl, ni, nj]
    exact s_wr_row
  have r4 : ∀ k, S16.2.1 (p + 4) k = S.2.1 (p + 4) (s_wr k i j) := fun k => by
    rw [h16, w_f, if_pos rfl, h14, w_f, if_neg n43, h12, w_f, if_pos rfl, h8, w_f, if_neg n43, ni, nj]
    exact s_wr_row
  have t16 : kp (fun _ _ => False) (fun a => a = p + 3 ∨ a = p + 4) S S16 := by
    rw [h16, h14, h12, h8]
    exact kp.uf (kp.uf (kp.uf (kp.uf kp.rf (Or.inl rfl)) (Or.inr rfl)) (Or.inl rfl)) (Or.inr rfl)
  refine ⟨S16, (F_p_changeRows_p1 rfl rfl rfl h8 rfl h12 h14 h16).trans F_p_changeRows_p0, ?_, t16⟩
  obtain ⟨y1, y2, y3, y4, y5, y6, y7⟩ := h
  have E : ∀ a b, a ≠ 3 → a ≠ 4 → s_wp A i j a b = A a b := fun a b h3 h4 => s_wp_o h3 h4
  have ro : ∀ k, k ≠ p + 3 → k ≠ p + 4 → S16.2.1 k = S.2.1 k := fun k k3 k4 => (t16.2 k (fun z => by rcases z with z | z <;> omega)).1
  have fo : ∀ b, zI S16 p b = zI S p b := fun b => t16.I id
  refine ⟨fun z z0 z1 => ?_, by rw [fo, E _ _ (by decide) (by decide)]; exact y2, by rw [fo, E _ _ (by decide) (by decide)]; exact y3, fun k hk => by rw [ro _ (by omega) (by omega), E _ _ (by decide) (by decide)]; exact y4 k hk, fun k hk => ?_, fun k hk => by rw [ro _ (by omega) (by omega), E _ _ (by decide) (by decide)]; exact y6 k hk, fun k hk => by rw [ro _ (by omega) (by omega), E _ _ (by decide) (by decide)]; exact y7 k hk⟩
  · have h9 := (y1.keep (S1 := S16) (ro _ (by omega) (by omega))) z z0 z1
    unfold s_c at h9 ⊢
    rw [E _ _ (by decide) (by decide)]
    exact h9
  · rw [r3, r4, s_wp_3, s_wp_4]
    have hl := s_wr_lt (k := k) (a := i) (b := j) (m := (G 0 6).toNat) (by omega) (by omega)
    exact y5 _ (by omega)
theorem cx_gradesBehind (ok : s_ok G K A U) (h : RX o g G K A L U x S) (hn : a1.toInt = n) (h40 : n ≤ 999) (hi : a2.toInt = i) (hj : a3.toInt = j) (hij : i = j ∨ ((i : Int) < G 0 6 ∧ (j : Int) < G 0 6)) : ∃ (S1 : dg_S) (y : Int32), F_f_gradesBehind o S g 3 a1 a2 a3 = (S1, y) ∧ y.toInt = s_fg G K A n i j ∧ RX o g G K A L U x S1 ∧ k_sk S S1 := by
  have sep := rX_sep h.2.1.1.1
  have hA := s_wp_ok ok hij
  obtain ⟨S2, e2, r2, p2, k2⟩ := cx_try0 (o := o) ok h
  obtain ⟨S3, e3, p3, t3⟩ := cx_changeRows (o := o) (a1 := a2) (a2 := a3) pX_222 p2 hi hj hij
  have r3 : RX o g G K A L U x S3 := r2.keep t3 id id (fun _ _ _ _ => id) (fun _ => id) (fun _ => id) (fun _ _ _ _ => id) (fun a _ _ => by omega) (fun a _ _ => by omega) (by decide) (fun a _ _ => by omega)
  obtain ⟨S6, S7, e6, e7, r7, t7, k7⟩ := cx_try (o := o) (a1 := a1) (n := n) ok hA h r3 p3 hn h40
  have okn := s_n_okU hA n
  refine ⟨S7, _, (F_f_gradesBehind_p1 e2.symm e3.symm rfl e6.symm e7.symm).trans (F_f_gradesBehind_p0 rfl), cx_tubGrades t7.2.2.2.2.1 okn.2.2.1.1, r7, k2.tr ((t3.sk (fun _ => id) (fun _ => id) (by decide)).tr k7)⟩
def cx_chA (q : s_T) (S : dg_S) : Prop := (zI S 221 6).toInt = q.1 ∧ (zI S 221 7).toInt = q.2.1 ∧ (zI S 221 8).toInt = q.2.2
def cx_cc (G : aR) (K : Nat → List Int) (A : aR) (S : dg_S) : Prop := (zI S 221 3).toInt = 0 ∨ ∃ n : Nat, (zI S 221 3).toInt = n ∧ cx_chA (s_cR G K A n (G 0 6).toNat) S
def k_s5 (S S1 : dg_S) : Prop := (∀ b, b ≠ 3 → b ≠ 6 → b ≠ 7 → b ≠ 8 → zI S1 221 b = zI S 221 b) ∧ (∀ b, zI S1 229 b = zI S 229 b) ∧ S1.2.1 230 = S.2.1 230
/-- within the loops -/
def k_s6 (S S1 : dg_S) : Prop := (∀ b, b ≠ 6 → b ≠ 7 → b ≠ 8 → zI S1 221 b = zI S 221 b) ∧ (∀ b, zI S1 229 b = zI S 229 b) ∧ S1.2.1 230 = S.2.1 230
theorem k_s6.tr (h : k_s6 S S0) (k : k_s6 S0 S1) : k_s6 S S1 := ⟨fun b x y z => (k.1 b x y z).trans (h.1 b x y z), fun b => (k.2.1 b).trans (h.2.1 b), k.2.2.trans h.2.2⟩
theorem k_sk.s6 (h : k_sk S S1) : k_s6 S S1 := ⟨fun b _ _ _ => h.1 b, h.2.1, h.2.2⟩
/-- the rows behind one -/
theorem cx_chin (ok : s_ok G K A U) (hn : a1.toInt = n) (h40 : n ≤ 999) {S9 : dg_S} {x5 iI : Int32} (h5 : x5.toInt = G 0 6) (hi : iI.toInt = i) (hlt : (i : Int) < G 0 6) {z : (Int32 × Int32 × Int32 × dg_S) ⊕ dg_S} {u w : Int32} {fu : Nat} (hf : 17 - (i + 1) + 1 ≤ fu) (h : RX o g G K A L U x S) (hq : cx_chA q S) (hk : k_s6 S9 S) : ∃ (T : dg_S) (u1 w1 : Int32), lp (F_f_seekChange_B4 x5 iI o g 3 a1) z fu (iI + 1, u, w, S) = F_f_seekChange_J3 iI u1 w1 T ∧ RX o g G K A L U x T ∧ cx_chA (s_ci (s_fg G K A n) i q ((G 0 6).toNat - (i + 1))) T ∧ k_s6 S9 T := by
  have g6 := ok.1.1.2.2
  have e1 : (iI + 1).toInt = ((i + 1 : Nat) : Int) := by
    rw [dk_addT hi (b := 1) (by decide +kernel) (by omega) (by omega)]
    omega
  have main := lp_cnt (f := F_f_seekChange_B4 x5 iI o g 3 a1) (z := z) (W := (G 0 6).toNat) (P := fun k s => RX o g G K A L U x s.2.2 ∧ cx_chA (s_ci (s_fg G K A n) i q (k - (i + 1))) s.2.2 ∧ k_s6 S9 s.2.2 ∧ i + 1 ≤ k) (Q := fun r => ∃ (T : dg_S) (u1 w1 : Int32), r = F_f_seekChange_J3 iI u1 w1 T ∧ RX o g G K A L U x T ∧ cx_chA (s_ci (s_fg G K A n) i q ((G 0 6).toNat - (i + 1))) T ∧ k_s6 S9 T) (by omega) (fun k kI s hk hkI hP => by
    obtain ⟨u, w, T⟩ := s
    obtain ⟨t1, t2, t3, t4⟩ := hP
    have q0 : ¬ x5 ≤ kI := fun z => by have := w_le.mp z; omega
    obtain ⟨T1, y, f1, f2, f3, f4⟩ := cx_gradesBehind (o := o) (a1 := a1) (a2 := iI) (a3 := kI) (i := i) (j := k) ok t1 hn h40 hi hkI (Or.inr ⟨hlt, by omega⟩)
    have ek : k + 1 - (i + 1) = (k - (i + 1)) + 1 := by omega
    have ek2 : i + 1 + (k - (i + 1)) = k := by omega
    obtain ⟨v6, v7, v8⟩ := t2
    have i8 : zI T1 221 8 = zI T 221 8 := f4.1 8
    by_cases q8 : y ≤ zI T1 221 8
    · have d8 := w_le.mp q8
      rw [f2, i8] at d8
      refine ⟨(u, w, T1), (F_f_seekChange_p4 q0 (by rw [f1]) (show y = _ by rw [f1]) rfl q8).trans (F_f_seekChange_p3 rfl), f3, ?_, t3.tr f4.s6, by omega⟩
      have v8 : (zI T 221 8).toInt = _ := v8
      rw [ek, s_ci_n (by rw [ek2]; omega)]
      exact ⟨by rw [f4.1]; exact v6, by rw [f4.1]; exact v7, by rw [f4.1]; exact v8⟩
    · have d8 : ¬ y.toInt ≤ (zI T1 221 8).toInt := fun z => q8 (w_le.mpr z)
      rw [f2, i8] at d8
      have v8 : (zI T 221 8).toInt = _ := v8
      obtain ⟨T2, g2⟩ : ∃ X, X = dg_uF T1 221 6 (.int iI) := ⟨_, rfl⟩
      obtain ⟨T3, g3⟩ : ∃ X, X = dg_uF T2 221 7 (.int kI) := ⟨_, rfl⟩
      obtain ⟨T4, g4⟩ : ∃ X, X = dg_uF T3 221 8 (.int y) := ⟨_, rfl⟩
      have k4 : kp (fun a b => a = 221 ∧ (b = 6 ∨ b = 7 ∨ b = 8)) (fun _ => False) T1 T4 := by
        rw [g4, g3, g2]
        exact kp.uF (kp.uF (kp.uF kp.rf ⟨rfl, by decide⟩) ⟨rfl, by decide⟩) ⟨rfl, by decide⟩
      have sep := rX_sep t1.2.1.1.1
      refine ⟨(iI, kI, T4), ((F_f_seekChange_p6 q0 (by rw [f1]) (show y = _ by rw [f1]) rfl q8 g2 g3 g4).trans F_f_seekChange_p5).trans (F_f_seekChange_p3 rfl), f3.keep k4 (by omega) (by omega) (fun a b _ _ => by omega) (fun b => by omega) (fun b => by omega) (fun a b _ _ => by omega) (fun a _ _ => id) (fun a _ _ => id) id (fun a _ _ => id), ?_, t3.tr (f4.s6.tr ⟨fun b b6 b7 b8 => k4.I (fun z => by omega), fun b => k4.I (fun z => by omega), (k4.2 230 id).1⟩), by omega⟩
      rw [ek, s_ci_y (by rw [ek2]; omega), ek2]
      refine ⟨?_, ?_, ?_⟩
      · show (zI T4 221 6).toInt = (i : Int)
        rw [g4, w_I0 (by decide), g3, w_I0 (by decide), g2, w_I, if_pos ⟨rfl, rfl⟩]
        exact hi
      · show (zI T4 221 7).toInt = (k : Int)
        rw [g4, w_I0 (by decide), g3, w_I, if_pos ⟨rfl, rfl⟩]
        exact hkI
      · show (zI T4 221 8).toInt = s_fg G K A n i k
        rw [g4, w_I, if_pos ⟨rfl, rfl⟩]
        exact f2) (fun kI s hkI hP => by
    obtain ⟨u, w, T⟩ := s
    exact ⟨_, F_f_seekChange_p2 (w_le.mpr (by omega)), T, u, w, rfl, hP.1, hP.2.1, hP.2.2.1⟩) fu (i + 1) (iI + 1) (u, w, S) (by omega) (by omega) e1 ⟨h, by rw [Nat.sub_self]; exact hq, hk, Nat.le_refl _⟩
  exact main
theorem cx_seekChange (ok : s_ok G K A U) (h : RX o g G K A L U x S) (hn : a1.toInt = n) (h1 : 1 ≤ n) (h40 : n ≤ 999) (hs : cx_cc G K A S) : ∃ S1, F_f_seekChange o S g 3 a1 = S1 ∧ RX o g G K A L U x S1 ∧ (zI S1 221 3).toInt = n ∧ cx_chA (s_cR G K A n (G 0 6).toNat) S1 ∧ k_s5 S S1 := by
  have z0 : (0 : Int32).toInt = 0 := by decide +kernel
  have m1 : (-1 : Int32).toInt = -1 := by decide +kernel
  have sep := rX_sep h.2.1.1.1
  have g6 := ok.1.1.2.2
  by_cases q : zI S 221 3 = a1
  · rcases hs with hs | ⟨n', e', w'⟩
    · rw [q] at hs
      omega
    · have en : n' = n := by rw [q] at e'; omega
      subst en
      exact ⟨S, F_f_seekChange_p10 rfl q, h, e', w', fun _ _ _ _ _ => rfl, fun _ => rfl, rfl⟩
  obtain ⟨S5, g5⟩ : ∃ T, T = dg_uF S 221 3 (.int a1) := ⟨_, rfl⟩
  obtain ⟨S7, g7⟩ : ∃ T, T = dg_uF S5 221 6 (.int (-1 : Int32)) := ⟨_, rfl⟩
  obtain ⟨S9, g9⟩ : ∃ T, T = dg_uF S7 221 7 (.int (-1 : Int32)) := ⟨_, rfl⟩
  have t9 : kp (fun a b => a = 221 ∧ (b = 3 ∨ b = 6 ∨ b = 7)) (fun _ => False) S S9 := by
    rw [g9, g7, g5]
    exact kp.uF (kp.uF (kp.uF kp.rf ⟨rfl, by decide⟩) ⟨rfl, by decide⟩) ⟨rfl, by decide⟩
  have r9 : RX o g G K A L U x S9 := h.keep t9 (by omega) (by omega) (fun a b _ _ => by omega) (fun b => by omega) (fun b => by omega) (fun a b _ _ => by omega) (fun a _ _ => id) (fun a _ _ => id) id (fun a _ _ => id)
  obtain ⟨S13, x12, f1, f2, f3, f4⟩ := cx_gradesBehind (o := o) (a1 := a1) (a2 := 0) (a3 := 0) (i := 0) (j := 0) ok r9 hn h40 z0 z0 (Or.inl rfl)
  obtain ⟨S14, g14⟩ : ∃ T, T = dg_uF S13 221 8 (.int x12) := ⟨_, rfl⟩
  have k14 : kp (fun a b => a = 221 ∧ b = 8) (fun _ => False) S13 S14 := by
    rw [g14]
    exact kp.uF kp.rf ⟨rfl, rfl⟩
  have r14 : RX o g G K A L U x S14 := f3.keep k14 (by omega) (by omega) (fun a b _ _ => by omega) (fun b => by omega) (fun b => by omega) (fun a b _ _ => by omega) (fun a _ _ => id) (fun a _ _ => id) id (fun a _ _ => id)
  have s14 : cx_chA (s_cq G K A n) S14 := by
    refine ⟨?_, ?_, ?_⟩
    · rw [k14.I (by decide), f4.1, g9, w_I0 (by decide), g7, w_I, if_pos ⟨rfl, rfl⟩]
      exact m1
    · rw [k14.I (by decide), f4.1, g9, w_I, if_pos ⟨rfl, rfl⟩]
      exact m1
    · rw [g14, w_I, if_pos ⟨rfl, rfl⟩]
      exact f2
  have i3 : (zI S14 221 3).toInt = n := by
    rw [k14.I (by decide), f4.1, g9, w_I0 (by decide), g7, w_I0 (by decide), g5, w_I, if_pos ⟨rfl, rfl⟩]
    exact hn
  have h6 : (zI S g 8).toInt = G 0 6 := h.2.1.1.2.2.1
  have main := lp_cnt (f := F_f_seekChange_B2 S g o 3 a1) (z := S) (W := (G 0 6).toNat) (P := fun k s => RX o g G K A L U x s.2.2 ∧ cx_chA (s_cR G K A n k) s.2.2 ∧ k_s6 S14 s.2.2) (Q := fun T => RX o g G K A L U x T ∧ cx_chA (s_cR G K A n (G 0 6).toNat) T ∧ k_s6 S14 T) (by omega) (fun k kI s hk hkI hP => by
    obtain ⟨u, w, T⟩ := s
    obtain ⟨t1, t2, t3⟩ := hP
    have q0 : ¬ zI S g 8 ≤ kI := fun z => by have := w_le.mp z; omega
    have e1 : (kI + (1 : Int32)).toInt = (k : Int) + 1 := dk_addT hkI (by decide +kernel) (by omega) (by omega)
    obtain ⟨T1, u1, w1, l1, l2, l3, l4⟩ := cx_chin (o := o) (a1 := a1) (n := n) (i := k) (x5 := zI S g 8) (iI := kI) (z := Sum.inr S) (u := u) (w := w) (fu := (17 - (kI + (1 : Int32)).toInt).toNat + 1) ok hn h40 h6 hkI (by omega) (by omega) t1 t2 t3
    exact ⟨(u1, w1, T1), ((F_f_seekChange_p7 rfl q0 rfl).trans l1).trans (F_f_seekChange_p1 rfl), l2, l3, l4⟩) (fun kI s hkI hP => by
    obtain ⟨u, w, T⟩ := s
    exact ⟨T, F_f_seekChange_p0 rfl (w_le.mpr (by omega)), hP⟩) ((17 - ((0 : Int32)).toInt).toNat + 1) 0 0 ((-1 : Int32), (-1 : Int32), S14) (by rw [z0]; omega) (by omega) z0 ⟨r14, s14, fun _ _ _ _ => rfl, fun _ => rfl, rfl⟩
  refine ⟨_, (F_f_seekChange_p9 rfl q g5 g7 g9 (by rw [f1]) (show x12 = _ by rw [f1])).trans (F_f_seekChange_p8 g14), main.1, by rw [main.2.2.1 3 (by decide) (by decide) (by decide)]; exact i3, main.2.1, fun b b3 b6 b7 b8 => ?_, fun b => ?_, ?_⟩
  · rw [main.2.2.1 b b6 b7 b8, k14.I (fun z => by omega), f4.1]
    exact t9.I (fun z => by omega)
  · rw [main.2.2.2.1 b, k14.I (fun z => by omega), f4.2.1]
    exact t9.I (fun z => by omega)
  · rw [main.2.2.2.2, (k14.2 230 id).1, f4.2.2]
    exact (t9.2 230 id).1
theorem cx_change (ok : s_ok G K A U) (h : RX o g G K A L U x S) (hs : cx_cc G K A S) : ∃ (S1 : dg_S) (y : Int32), F_d_change o S a1 a2 = (S1, y) ∧ y.toInt = s_if (1 ≤ a1.toInt ∧ a1.toInt ≤ 20 ∧ A 0 0 + a1.toInt ≤ 999) (s_cv (s_cR G K A a1.toInt.toNat (G 0 6).toNat) a2.toInt) (-1) ∧ RX o g G K A L U x S1 ∧ cx_cc G K A S1 ∧ k_s5 S S1 := by
  have z0 : (0 : Int32).toInt = 0 := by decide +kernel
  have z1 : (1 : Int32).toInt = 1 := by decide +kernel
  have z2 : (2 : Int32).toInt = 2 := by decide +kernel
  have z20 : (20 : Int32).toInt = 20 := by decide +kernel
  have m1 : (-1 : Int32).toInt = -1 := by decide +kernel
  have hcm := cx_come (o := o) (a1 := 1) (a2 := a1) (a3 := 20) h.2.1 h.1 ok.1.1 ok.2.2.1.1 h.2.2.1 (by decide +kernel) (by decide +kernel)
  rw [z1, z20] at hcm
  rcases hcm with ⟨e, w⟩ | ⟨e, w⟩
  rotate_left
  · exact ⟨S, -1, F_d_change_p5 rfl e, by rw [s_if_n w]; exact m1, h, hs, fun _ _ _ _ _ => rfl, fun _ => rfl, rfl⟩
  have ne : ¬ F_d_shiftsCome o S (1 : Int32) a1 (20 : Int32) = (0 : Int32) := by rw [e]; decide +kernel
  rw [s_if_y w]
  obtain ⟨m, hm⟩ : ∃ m : Nat, m = a1.toInt.toNat := ⟨_, rfl⟩
  rw [← hm]
  obtain ⟨S5, e5, r5, i3, s5, k5⟩ := cx_seekChange (o := o) (a1 := a1) (n := m) ok h (by omega) (by omega) (by omega) hs
  have c5 : cx_cc G K A S5 := Or.inr ⟨m, i3, s5⟩
  obtain ⟨v6, v7, v8⟩ := s5
  unfold s_cv
  by_cases q : zI S5 221 6 = (-1 : Int32)
  · have d := dk_eqc m1 q
    rw [v6] at d
    refine ⟨S5, -1, F_d_change_p4 rfl ne h.1.symm e5.symm rfl q, ?_, r5, c5, k5⟩
    rw [if_pos d]
    exact m1
  have d := dk_neqc m1 q
  rw [v6] at d
  rw [if_neg d]
  by_cases c0 : a2 = (0 : Int32)
  · have d0 := dk_eqc z0 c0
    refine ⟨S5, _, F_d_change_p1 rfl ne h.1.symm e5.symm rfl q c0, ?_, r5, c5, k5⟩
    rw [if_pos d0]
    exact v6
  have d0 := dk_neqc z0 c0
  rw [if_neg d0]
  by_cases c1 : a2 = (1 : Int32)
  · have d1 := dk_eqc z1 c1
    refine ⟨S5, _, F_d_change_p2 rfl ne h.1.symm e5.symm rfl q c0 c1 rfl, ?_, r5, c5, k5⟩
    rw [if_pos d1]
    exact v7
  have d1 := dk_neqc z1 c1
  rw [if_neg d1]
  by_cases c2 : a2 = (2 : Int32)
  · have d2 := dk_eqc z2 c2
    refine ⟨S5, _, F_d_change_p3 rfl ne h.1.symm e5.symm rfl q c0 c1 c2 rfl, ?_, r5, c5, k5⟩
    rw [if_pos d2]
    exact v8
  have d2 := dk_neqc z2 c2
  rw [if_neg d2]
  exact ⟨S5, -1, F_d_change_p0 rfl ne h.1.symm e5.symm rfl q c0 c1 c2, m1, r5, c5, k5⟩
end EC
end
section
/-! to CHANGE: the reference; both sides -/
section ED
variable {o oX oM g n p : Nat} {G A A' : aR} {K : Nat → List Int} {L L' : s_L} {U : s_U} {S S0 S1 SX SM : dg_S} {x x' r c v : Int} {a a1 a2 a3 a4 y : Int32} {q : s_T} {i j : Nat}
/-- layer 1 with two rows changed -/
theorem mx_changes (ok : s_ok G K A U) (h : RM G K A L U x S) (hi : a1.toInt = i) (hj : a2.toInt = j) (hij : (i : Int) < G 0 6 ∧ (j : Int) < G 0 6) : ∃ S1, F_m_changes o S a1 a2 = S1 ∧ RM G K A L U x S1 ∧ mx_lay G (s_wp A i j) L S1 1 ∧ k_v 1 S S1 := by
  have hb := ok.1.1.2.2.2
  have ni : a1.toNatClampNeg = i := by rw [dk_clN]; omega
  have nj : a2.toNatClampNeg = j := by rw [dk_clN]; omega
  obtain ⟨S3, e3, r3, l3, k3⟩ := mx_try1 (o := o) ok h
  have z16 : (16 : Int32).toInt = 16 := by decide +kernel
  have ei : ((16 : Int32) + a1).toInt = 16 + (i : Int) := dk_addT z16 hi (by omega) (by omega)
  have ej : ((16 : Int32) + a2).toInt = 16 + (j : Int) := dk_addT z16 hj (by omega) (by omega)
  have mi : ((16 : Int32) + a1).toNatClampNeg = 16 + i := by rw [dk_clN, ei]; omega
  have mj : ((16 : Int32) + a2).toNatClampNeg = 16 + j := by rw [dk_clN, ej]; omega
  obtain ⟨S16, h16⟩ : ∃ T, T = dg_uf S3 35 (upd (S3.2.1 35) ((16 : Int32) + a1).toNatClampNeg (S3.2.1 35 a2.toNatClampNeg)) := ⟨_, rfl⟩
  obtain ⟨S21, h21⟩ : ∃ T, T = dg_uf S16 36 (upd (S16.2.1 36) ((16 : Int32) + a1).toNatClampNeg (S16.2.1 36 a2.toNatClampNeg)) := ⟨_, rfl⟩
  obtain ⟨S26, h26⟩ : ∃ T, T = dg_uf S21 35 (upd (S21.2.1 35) ((16 : Int32) + a2).toNatClampNeg (S21.2.1 35 a1.toNatClampNeg)) := ⟨_, rfl⟩
  obtain ⟨S31, h31⟩ : ∃ T, T = dg_uf S26 36 (upd (S26.2.1 36) ((16 : Int32) + a2).toNatClampNeg (S26.2.1 36 a1.toNatClampNeg)) := ⟨_, rfl⟩
  have k31 : k_v 1 S3 S31 := by
    rw [h31, mj]
    refine k_v.uf ?_ (by decide) (by decide) (mw 36 16 _ _ rfl (by omega))
    rw [h26, mj]
    refine k_v.uf ?_ (by decide) (by decide) (mw 35 16 _ _ rfl (by omega))
    rw [h21, mi]
    refine k_v.uf ?_ (by decide) (by decide) (mw 36 16 _ _ rfl (by omega))
    rw [h16, mi]
    exact k_v.uf k_v.rf (by decide) (by decide) (mw 35 16 _ _ rfl (by omega))
  have r31 : RM G K A L U x S31 := r3.v hb k31 (by decide) (k31.lay r3.2.1 (by decide) hb)
  have r35 : ∀ k, k < 16 → S31.2.1 35 (16 + k) = if k = j then S3.2.1 35 i else if k = i then S3.2.1 35 j else S3.2.1 35 (16 + k) := fun k hk => by
    have w1 : S21.2.1 35 i = S3.2.1 35 i := by
      rw [h21, w_f, if_neg (by decide), h16, w_f, if_pos rfl, w_u, mi, if_neg (by omega)]
    rw [h31, w_f, if_neg (by decide), h26, w_f, if_pos rfl, w_u, mj, ni, w1]
    by_cases z : k = j
    · rw [if_pos (by omega), if_pos z]
    · rw [if_neg (by omega), if_neg z, h21, w_f, if_neg (by decide), h16, w_f, if_pos rfl, w_u, mi, nj]
      by_cases z2 : k = i
      · rw [if_pos (by omega), if_pos z2]
      · rw [if_neg (by omega), if_neg z2]
  have r36 : ∀ k, k < 16 → S31.2.1 36 (16 + k) = if k = j then S3.2.1 36 i else if k = i then S3.2.1 36 j else S3.2.1 36 (16 + k) := fun k hk => by
    have w0 : ∀ l, S16.2.1 36 l = S3.2.1 36 l := fun l => by rw [h16, w_f, if_neg (by decide)]
    have w1 : S26.2.1 36 i = S3.2.1 36 i := by
      rw [h26, w_f, if_neg (by decide), h21, w_f, if_pos rfl, w_u, mi, if_neg (by omega), w0]
    rw [h31, w_f, if_pos rfl, w_u, mj, ni, w1]
    by_cases z : k = j
    · rw [if_pos (by omega), if_pos z]
    · rw [if_neg (by omega), if_neg z, h26, w_f, if_neg (by decide), h21, w_f, if_pos rfl, w_u, mi, nj]
      by_cases z2 : k = i
      · rw [if_pos (by omega), if_pos z2, w0]
      · rw [if_neg (by omega), if_neg z2, w0]
  have ro : ∀ k, k ≠ 35 → k ≠ 36 → S31.2.1 k = S3.2.1 k := fun k k5 k6 => by rw [h31, w_f, if_neg k6, h26, w_f, if_neg k5, h21, w_f, if_neg k6, h16, w_f, if_neg k5]
  have y0 := r3.2.1.2.2.2.2.1
  obtain ⟨y1, y2, y3, y4, y5, y6, y7, y8⟩ := l3
  have E : ∀ a b, a ≠ 3 → a ≠ 4 → s_wp A i j a b = A a b := fun a b h3 h4 => s_wp_o h3 h4
  refine ⟨S31, (F_m_changes_p1 e3.symm rfl rfl h16 rfl rfl h21 rfl rfl h26).trans (F_m_changes_p0 rfl rfl h31), r31, ⟨fun d hd => ?_, by rw [ro 29 (by decide) (by decide), E _ _ (by decide) (by decide)]; exact y2, by rw [ro 30 (by decide) (by decide), E _ _ (by decide) (by decide)]; exact y3, by rw [ro 33 (by decide) (by decide)]; exact ⟨y4.1, fun k hk => by rw [E _ _ (by decide) (by decide)]; exact y4.2 k hk⟩, fun k hk => ?_, by rw [ro 34 (by decide) (by decide)]; exact ⟨y6.1, fun k hk => by rw [E _ _ (by decide) (by decide)]; exact y6.2 k hk⟩, fun k hk => by rw [ro 37 (by decide) (by decide), E _ _ (by decide) (by decide)]; exact y7 k hk, y8.keep (by rw [ro 38 (by decide) (by decide)]) (fun j _ _ => by rw [ro 39 (by decide) (by decide)])⟩, k3.tr k31⟩
  · have h9 := y1 d hd
    unfold s_c at h9 ⊢
    rw [ro 31 (by decide) (by decide), ro 32 (by decide) (by decide), E _ _ (by decide) (by decide)]
    exact h9
  · rw [show 16 * 1 + k = 16 + k by omega, r35 k (by omega), r36 k (by omega), s_wp_3, s_wp_4]
    unfold s_wr
    have yi := y0 i hij.1
    have yj := y0 j hij.2
    have yk := y5 k hk
    rw [show 16 * 0 + i = i by omega] at yi
    rw [show 16 * 0 + j = j by omega] at yj
    rw [show 16 * 1 + k = 16 + k by omega] at yk
    by_cases z2 : k = i
    · by_cases z : k = j
      · have e : i = j := by omega
        simp only [if_pos z2, if_pos z]
        rw [e]
        exact yj
      · simp only [if_pos z2, if_neg z]
        exact yj
    · by_cases z : k = j
      · simp only [if_neg z2, if_pos z]
        exact yi
      · simp only [if_neg z2, if_neg z]
        exact yk
/-- grades with two rows changed, n shifts -/
theorem mx_chg (ok : s_ok G K A U) (h : RM G K A L U x S) (hn : a3.toInt = n) (h40 : n ≤ 40) (h9 : A 0 0 + n ≤ 999) (hi : a1.toInt = i) (hj : a2.toInt = j) (hij : (i : Int) < G 0 6 ∧ (j : Int) < G 0 6) : ∃ S1 S2, F_m_changes o S a1 a2 = S1 ∧ F_m_runsOn o S1 a3 = S2 ∧ RM G K A L U x S2 ∧ (F_m_tubGrades o S2 (1 : Int32)).toInt = s_fg G K A n i j ∧ k_v 1 S S2 := by
  have hA := s_wp_ok (i := i) (j := j) ok (Or.inr hij)
  obtain ⟨S1, e1, r1, l1, k1⟩ := mx_changes (o := o) ok h hi hj hij
  obtain ⟨S2, L2, e2, r2, l2, k2⟩ := mx_runs1 (o := o) (a1 := a3) (n := n) ok r1 hA.2.2.1.1 hA.2.2.1.2 l1 hn h40 (by rw [s_wp_o (by decide) (by decide)]; exact h9)
  have okn := s_n_okU hA n
  exact ⟨S1, S2, e1, e2, r2, mx_tubGrades l2 okn.2.2.1.1 (by decide +kernel) (by decide), k1.tr k2⟩
def mx_chA (q : s_T) (u w y : Int32) : Prop := w.toInt = q.1 ∧ u.toInt = q.2.1 ∧ y.toInt = q.2.2
theorem mx_chin (ok : s_ok G K A U) (hn : a1.toInt = n) (h40 : n ≤ 40) (h9 : A 0 0 + n ≤ 999) {x5 iI : Int32} {S9 : dg_S} (h5 : (S9.2.1 9 x5.toNatClampNeg).toInt = G 0 6) (hk9 : k_v 1 S9 S) (hi : iI.toInt = i) (hlt : (i : Int) < G 0 6) {z : (Int32 × Int32 × Int32 × Int32 × dg_S) ⊕ (dg_S × Int32)} {u w y : Int32} {fu : Nat} (hf : 17 - (i + 1) + 1 ≤ fu) (h : RM G K A L U x S) (hq : mx_chA q u w y) : ∃ (T : dg_S) (u1 w1 y1 : Int32), lp (F_m_change_B4 x5 iI o a1) z fu (iI + 1, u, w, y, S) = F_m_change_J3 iI u1 w1 y1 T ∧ RM G K A L U x T ∧ mx_chA (s_ci (s_fg G K A n) i q ((G 0 6).toNat - (i + 1))) u1 w1 y1 ∧ k_v 1 S9 T := by
  have g6 := ok.1.1.2.2
  have e1 : (iI + 1).toInt = ((i + 1 : Nat) : Int) := by
    rw [dk_addT hi (b := 1) (by decide +kernel) (by omega) (by omega)]
    omega
  have main := lp_cnt (f := F_m_change_B4 x5 iI o a1) (z := z) (W := (G 0 6).toNat) (P := fun k s => RM G K A L U x s.2.2.2 ∧ mx_chA (s_ci (s_fg G K A n) i q (k - (i + 1))) s.1 s.2.1 s.2.2.1 ∧ i + 1 ≤ k ∧ k_v 1 S9 s.2.2.2) (Q := fun r => ∃ (T : dg_S) (u1 w1 y1 : Int32), r = F_m_change_J3 iI u1 w1 y1 T ∧ RM G K A L U x T ∧ mx_chA (s_ci (s_fg G K A n) i q ((G 0 6).toNat - (i + 1))) u1 w1 y1 ∧ k_v 1 S9 T) (by omega) (fun k kI s hk hkI hP => by
    obtain ⟨u, w, y, T⟩ := s
    obtain ⟨t1, t2, t4, t5⟩ := hP
    have t1 : RM G K A L U x T := t1
    have t5 : k_v 1 S9 T := t5
    have t2 : mx_chA (s_ci (s_fg G K A n) i q (k - (i + 1))) u w y := t2
    have h6 : (T.2.1 9 x5.toNatClampNeg).toInt = G 0 6 := by rw [t5.row (by decide)]; exact h5
    have q0 : ¬ T.2.1 9 x5.toNatClampNeg ≤ kI := fun z => by have := w_le.mp z; omega
    obtain ⟨T1, T2, f1, f2, f3, f4, f5⟩ := mx_chg (o := o) (a1 := iI) (a2 := kI) (a3 := a1) (i := i) (j := k) ok t1 hn h40 h9 hi hkI ⟨hlt, by omega⟩
    have ek : k + 1 - (i + 1) = (k - (i + 1)) + 1 := by omega
    have ek2 : i + 1 + (k - (i + 1)) = k := by omega
    obtain ⟨v6, v7, v8⟩ := t2
    by_cases q8 : y < F_m_tubGrades o T2 (1 : Int32)
    · have d8 := w_lt.mp q8
      rw [f4] at d8
      refine ⟨(kI, iI, _, T2), (F_m_change_p9 rfl q0 f1.symm f2.symm rfl q8 rfl).trans (F_m_change_p8 rfl), f3, ?_, by omega, t5.tr f5⟩
      rw [ek, s_ci_y (by rw [ek2]; omega), ek2]
      exact ⟨hi, hkI, f4⟩
    · have d8 : ¬ y.toInt < (F_m_tubGrades o T2 (1 : Int32)).toInt := fun z => q8 (w_lt.mpr z)
      rw [f4] at d8
      refine ⟨(u, w, y, T2), (F_m_change_p10 rfl q0 f1.symm f2.symm rfl q8).trans (F_m_change_p8 rfl), f3, ?_, by omega, t5.tr f5⟩
      rw [ek, s_ci_n (by rw [ek2]; omega)]
      exact ⟨v6, v7, v8⟩) (fun kI s hkI hP => by
    obtain ⟨u, w, y, T⟩ := s
    have t1 : RM G K A L U x T := hP.1
    have t5 : k_v 1 S9 T := hP.2.2.2
    have h6 : (T.2.1 9 x5.toNatClampNeg).toInt = G 0 6 := by rw [t5.row (by decide)]; exact h5
    exact ⟨_, F_m_change_p7 rfl (w_le.mpr (by omega)), T, u, w, y, rfl, hP.1, hP.2.1, t5⟩) fu (i + 1) (iI + 1) (u, w, y, S) (by omega) (by omega) e1 ⟨h, by rw [Nat.sub_self]; exact hq, Nat.le_refl _, hk9⟩
  exact main
theorem mx_change (ok : s_ok G K A U) (h : RM G K A L U x S) : ∃ (S1 : dg_S) (y : Int32), F_m_change o S a1 a2 = (S1, y) ∧ y.toInt = s_if (1 ≤ a1.toInt ∧ a1.toInt ≤ 20 ∧ A 0 0 + a1.toInt ≤ 999) (s_cv (s_cR G K A a1.toInt.toNat (G 0 6).toNat) a2.toInt) (-1) ∧ RM G K A L U x S1 := by
  have z0 : (0 : Int32).toInt = 0 := by decide +kernel
  have z1 : (1 : Int32).toInt = 1 := by decide +kernel
  have z2 : (2 : Int32).toInt = 2 := by decide +kernel
  have z20 : (20 : Int32).toInt = 20 := by decide +kernel
  have m1 : (-1 : Int32).toInt = -1 := by decide +kernel
  have hb := ok.1.1.2.2.2
  have g6 := ok.1.1.2.2
  have hcm := mx_come (o := o) (a1 := a1) (a2 := 1) (a3 := 20) h.1.1.1 h.2.1 ok.2.2.1.1 (by decide +kernel) (by decide +kernel)
  rw [z1, z20] at hcm
  rcases hcm with ⟨e, w⟩ | ⟨e, w⟩
  rotate_left
  · exact ⟨S, -1, F_m_change_p0 rfl e, by rw [s_if_n w]; exact m1, h⟩
  have ne : ¬ F_m_isAhead o S a1 (1 : Int32) (20 : Int32) = (0 : Int32) := by rw [e]; decide +kernel
  rw [s_if_y w]
  obtain ⟨m, hm⟩ : ∃ m : Nat, m = a1.toInt.toNat := ⟨_, rfl⟩
  rw [← hm]
  have hj := mx_is (o := o) (S := S) (a := a2) (b := 0) (c := 2)
  rw [z0, z2] at hj
  rcases hj with ⟨f, u⟩ | ⟨f, u⟩
  rotate_left
  · refine ⟨S, -1, F_m_change_p13 rfl ne rfl f, ?_, h⟩
    unfold s_cv
    rw [m1]
    split
    · rfl
    · rw [if_neg (by omega), if_neg (by omega), if_neg (by omega)]
  have nf : ¬ F_m_is o S a2 (0 : Int32) (2 : Int32) = (0 : Int32) := by rw [f]; decide +kernel
  obtain ⟨S2, e2, r2, l2, k2⟩ := mx_try1 (o := o) ok h
  obtain ⟨S3, L3, e3, r3, l3, k3⟩ := mx_runs1 (o := o) (a1 := a1) (n := m) ok r2 ok.2.2.1.1 ok.2.2.1.2 l2 (by omega) (by omega) (by omega)
  have okn := s_n_okU ok m
  have eg : (F_m_tubGrades o S3 (1 : Int32)).toInt = s_fg G K A m 0 0 := by
    unfold s_fg
    rw [s_wp_self]
    exact mx_tubGrades l3 okn.2.2.1.1 z1 (by decide)
  have h5 : (S.2.1 9 (zI S 0 13).toNatClampNeg).toInt = G 0 6 := h.1.1.1.2.2.2.2
  have main := lp_cnt (f := F_m_change_B2 S a2 o a1) (z := (S, (0 : Int32))) (W := (G 0 6).toNat) (P := fun k s => RM G K A L U x s.2.2.2 ∧ mx_chA (s_cR G K A m k) s.1 s.2.1 s.2.2.1 ∧ k_v 1 S s.2.2.2) (Q := fun r => ∃ (T : dg_S) (u1 w1 y1 : Int32), r = F_m_change_J1 w1 T a2 u1 y1 ∧ RM G K A L U x T ∧ mx_chA (s_cR G K A m (G 0 6).toNat) u1 w1 y1) (by omega) (fun k kI s hk hkI hP => by
    obtain ⟨u, w, y, T⟩ := s
    obtain ⟨t1, t2, t3⟩ := hP
    have t3 : k_v 1 S T := t3
    have h6 : (T.2.1 9 (zI S 0 13).toNatClampNeg).toInt = G 0 6 := by rw [t3.row (by decide)]; exact h5
    have q0 : ¬ T.2.1 9 (zI S 0 13).toNatClampNeg ≤ kI := fun z => by have := w_le.mp z; omega
    have e1 : (kI + (1 : Int32)).toInt = (k : Int) + 1 := dk_addT hkI (by decide +kernel) (by omega) (by omega)
    obtain ⟨T1, u1, w1, y1, l1, l2, l3, l4⟩ := mx_chin (o := o) (a1 := a1) (n := m) (i := k) (x5 := zI S 0 13) (iI := kI) (S9 := S) (z := Sum.inr (S, (0 : Int32))) (u := u) (w := w) (y := y) (fu := (17 - (kI + (1 : Int32)).toInt).toNat + 1) ok (by omega) (by omega) (by omega) h5 t3 hkI (by omega) (by omega) t1 t2
    exact ⟨(u1, w1, y1, T1), ((F_m_change_p11 rfl rfl q0 rfl).trans l1).trans (F_m_change_p6 rfl), l2, l3, l4⟩) (fun kI s hkI hP => by
    obtain ⟨u, w, y, T⟩ := s
    have t3 : k_v 1 S T := hP.2.2
    have h6 : (T.2.1 9 (zI S 0 13).toNatClampNeg).toInt = G 0 6 := by rw [t3.row (by decide)]; exact h5
    exact ⟨_, F_m_change_p5 rfl rfl (w_le.mpr (by omega)), T, u, w, y, rfl, hP.1, hP.2.1⟩) ((17 - ((0 : Int32)).toInt).toNat + 1) 0 0 ((-1 : Int32), (-1 : Int32), F_m_tubGrades o S3 (1 : Int32), S3) (by rw [z0]; omega) (by omega) z0 ⟨r3, ⟨m1, m1, eg⟩, k2.tr k3⟩
  rw [F_m_change_p12 rfl ne rfl nf e2.symm e3.symm rfl]
  obtain ⟨T, u1, w1, y1, eq, rT, v6, v7, v8⟩ := main
  rw [eq]
  unfold s_cv
  by_cases q : w1 = (-1 : Int32)
  · have d := dk_eqc m1 q
    rw [v6] at d
    refine ⟨T, _, F_m_change_p4 q, ?_, rT⟩
    rw [if_pos d]
    exact m1
  have d := dk_neqc m1 q
  rw [v6] at d
  rw [if_neg d]
  by_cases c0 : a2 = (0 : Int32)
  · have d0 := dk_eqc z0 c0
    refine ⟨T, _, F_m_change_p3 q c0, ?_, rT⟩
    rw [if_pos d0]
    exact v6
  have d0 := dk_neqc z0 c0
  rw [if_neg d0]
  by_cases c1 : a2 = (1 : Int32)
  · have d1 := dk_eqc z1 c1
    refine ⟨T, _, F_m_change_p2 q c0 c1, ?_, rT⟩
    rw [if_pos d1]
    exact v7
  have d1 := dk_neqc z1 c1
  rw [if_neg d1, if_pos (by omega)]
  exact ⟨T, _, F_m_change_p1 q c0 c1, v8, rT⟩
/-- CHANGE on both sides -/
theorem sim_change (ok : s_ok G K A U) (hX : RX oX g G K A L U x SX) (hs : cx_cc G K A SX) (hM : RM G K A L U x SM) : (F_d_change oX SX a1 a2).2 = (F_m_change oM SM a1 a2).2 ∧ RX oX g G K A L U x (F_d_change oX SX a1 a2).1 ∧ cx_cc G K A (F_d_change oX SX a1 a2).1 ∧ k_s5 SX (F_d_change oX SX a1 a2).1 ∧ RM G K A L U x (F_m_change oM SM a1 a2).1 := by
  obtain ⟨S1, y1, e1, v1, r1, c1, k1⟩ := cx_change (o := oX) (a1 := a1) (a2 := a2) ok hX hs
  obtain ⟨S2, y2, e2, v2, r2⟩ := mx_change (o := oM) (a1 := a1) (a2 := a2) ok hM
  rw [e1, e2]
  exact ⟨Int32.toInt_inj.mp (v1.trans v2.symm), r1, c1, k1, r2⟩
end ED
end
section
/-! ODDS: both sides -/
/-- whether a cell is open behind a shift -/
noncomputable def s_o1 (G : aR) (K : Nat → List Int) (A : aR) (t : Int) : Int := s_b (s_op G (s_tk G K (G 0 3) A) t)
noncomputable def s_os (G : aR) (K : Nat → List Int) (A : aR) (t : Int) : Nat → Int
  | 0 => 0
  | n + 1 => s_os G K A t n + s_if (s_in G (n : Int)) (s_o1 G K (s_cl G A (n : Int)).1 t * G 0 4) 0
noncomputable def s_od (G : aR) (K : Nat → List Int) (A : aR) (t : Int) : Int := s_o1 G K A t * (G 0 0 * G 0 1) * (100 - G 0 4) + s_os G K A t 64
section EE
variable {o oX oM g n p : Nat} {G A A' : aR} {K : Nat → List Int} {L L' : s_L} {U : s_U} {S S0 S1 SX SM : dg_S} {x x' r c v t : Int} {a a1 a2 a3 a4 y : Int32}
theorem s_o1_01 : s_o1 G K A t = 0 ∨ s_o1 G K A t = 1 := s_b01 _
theorem s_oq_b (hq : 0 ≤ G 0 4 ∧ G 0 4 ≤ 100) : 0 ≤ s_o1 G K A t * G 0 4 ∧ s_o1 G K A t * G 0 4 ≤ 100 := by
  rcases s_o1_01 (G := G) (K := K) (A := A) (t := t) with h | h <;> (rw [h]; omega)
theorem s_os_y {n : Nat} (h : s_in G (n : Int)) : s_os G K A t (n + 1) = s_os G K A t n + s_o1 G K (s_cl G A (n : Int)).1 t * G 0 4 := by
  show s_os G K A t n + s_if (s_in G (n : Int)) _ 0 = _
  rw [s_if_y h]
theorem s_os_n {n : Nat} (h : ¬ s_in G (n : Int)) : s_os G K A t (n + 1) = s_os G K A t n := by
  show s_os G K A t n + s_if (s_in G (n : Int)) _ 0 = _
  rw [s_if_n h]
  omega
theorem s_os_b (hq : 0 ≤ G 0 4 ∧ G 0 4 ≤ 100) : ∀ n : Nat, 0 ≤ s_os G K A t n ∧ s_os G K A t n ≤ 100 * n
  | 0 => ⟨Int.le_refl _, by show (0 : Int) ≤ 100 * ((0 : Nat) : Int); omega⟩
  | n + 1 => by
    have ih := s_os_b hq n
    by_cases h : s_in G (n : Int)
    · rw [s_os_y h]
      have := s_oq_b (G := G) (K := K) (A := (s_cl G A (n : Int)).1) (t := t) hq
      omega
    · rw [s_os_n h]
      omega
theorem s_os_le {m : Nat} (h : 8 * G 0 1 ≤ (m : Int)) : ∀ d : Nat, s_os G K A t (m + d) = s_os G K A t m
  | 0 => rfl
  | d + 1 => by
    rw [show m + (d + 1) = (m + d) + 1 by omega, s_os_n (fun z => by have := z.2.2; omega)]
    exact s_os_le h d
theorem s_cl_okU (ok : s_ok G K A U) : s_ok G K (s_cl G A c).1 U := by
  have h := s_cl_ok (c := c) ok.2.2.1.1 ok.2.2.1.2
  exact ⟨ok.1, ok.2.1, ⟨h.1, h.2.1⟩, ok.2.2.2⟩
theorem s_cl_same (h : ¬ s_op G A c) : (s_cl G A c).1 = A := by
  unfold s_cl
  rw [s_if_n (fun z => h z.1)]
/-- the class: behind a quake, or none -/
theorem cx_openBehind (ok : s_ok G K A U) (h : RX o g G K A L U x S) (ht : s_in G t) (ha2 : a2.toInt = t + 8) (hq : (a1 = (-1 : Int32) ∧ A' = A) ∨ ∃ c, s_in G c ∧ a1.toInt = c + 8 ∧ A' = (s_cl G A c).1) : ∃ (S1 : dg_S) (y : Int32), F_f_openBehind o S g 3 a1 a2 = (S1, y) ∧ y.toInt = s_o1 G K A' t ∧ RX o g G K A L U x S1 ∧ k_sk S S1 := by
  have z0 : (0 : Int32).toInt = 0 := by decide +kernel
  have z1 : (1 : Int32).toInt = 1 := by decide +kernel
  have h3 := ok.1.2.1
  have ht0 := ht.1
  have sep := rX_sep h.2.1.1.1
  obtain ⟨S1, e1, r1, p1, k1⟩ := cx_try0 (o := o) ok h
  obtain ⟨S3, e3, f7, f6, f8, f9, k3⟩ := cx_enter (o := o) (S := S1) (g := g) (p := 222) (a := zI S g 3)
  have q3 : (zI S g 3).toInt = G 0 3 := h.2.1.2.1.2.2.1
  have r3 : RX o g G K A L U x S3 := r1.keep k3 (by decide) (by decide) (fun a b _ _ => by omega) (fun b => by omega) (fun b => by omega) (fun a b _ _ => by omega) (fun a _ _ => id) (fun a _ _ => id) id (fun a _ _ => id)
  have p3 : cx_pit G A S3 222 := p1.keep (fun i _ _ => (k3.2 i id).1) (fun b _ => k3.I (fun z => by omega))
  have l3 : cx_LI G A (G 0 3) S3 := Or.inl f9
  have cl : ∃ (S5 : dg_S) (y5 : Int32), F_w_closeCell o S3 a1 = (S5, y5) ∧ cx_pit G A' S5 222 ∧ cx_LI G A' (G 0 3) S5 ∧ kp (fun a b => a = 214 ∧ b = 9) (fun a => a = 223) S3 S5 ∧ s_ok G K A' U := by
    rcases hq with ⟨q1, q2⟩ | ⟨c, q1, q2, q3⟩
    · subst q2
      exact ⟨S3, 0, F_w_closeCell_p0 q1, p3, l3, kp.rf, ok⟩
    · subst q3
      obtain ⟨S5, y5, c1, -, c3, c4, c5⟩ := cx_close (o := o) (p := 222) (a1 := a1) pX_222 f7 f6 r3.2.1.1 p3 q1 q2 l3
      exact ⟨S5, y5, c1, c3, c4, c5, s_cl_okU ok⟩
  obtain ⟨S5, y5, e5, p5, l5, k5, okA⟩ := cl
  have r5 : RX o g G K A L U x S5 := r3.keep k5 (by decide) (by decide) (fun a b _ _ => by omega) (fun b => by omega) (fun b => by omega) (fun a b _ _ => by omega) (fun a _ _ => by omega) (fun a _ _ => by omega) (by decide) (fun a _ _ => by omega)
  obtain ⟨S6, e6, r6, t6, k6⟩ := cx_pass (o := o) (p := 222) (a1 := 1) (n := 1) (r := G 0 3) pX_222 (by decide) ok.1.1 ok.2.1 okA.2.2.1.1 okA.2.2.1.2 ⟨by omega, by omega⟩ r5 ⟨by rw [k5.R (by decide)]; exact f7, by rw [k5.R (by decide)]; exact f6, by rw [k5.I (by decide), f8]; exact q3, r5.2.1.1, p5, l5⟩ z1 (by decide)
  have ks : k_sk S S6 := k1.tr ((k3.sk (fun b => by omega) (fun b => by omega) id).tr ((k5.sk (fun b => by omega) (fun b => by omega) (by decide)).tr (k6.sk (fun b => by omega) (fun b => by omega) (by omega))))
  have Q : F_f_openBehind o S g 3 a1 a2 = F_f_openBehind_J1 o S6 a2 := F_f_openBehind_p2 e1.symm rfl e3.symm (by rw [e5]) e6.symm
  have eo := cx_isOpen (o := o) (a := a2) t6.2.2.2.2.1.1 (by omega) (by omega)
  rw [ha2, show t + 8 - 8 = t by omega] at eo
  have eo : (F_p_isOpen o S6 222 a2).toInt = s_o1 G K A' t := eo
  by_cases q : F_p_isOpen o S6 222 a2 = (0 : Int32)
  · rw [q, z0] at eo
    exact ⟨S6, 0, Q.trans (F_f_openBehind_p0 rfl q), by rw [z0]; exact eo, r6, ks⟩
  · have d := dk_neqc z0 q
    refine ⟨S6, 1, Q.trans (F_f_openBehind_p1 rfl q), ?_, r6, ks⟩
    rw [z1]
    rcases s_o1_01 (G := G) (K := K) (A := A') (t := t) with w | w <;> omega
theorem cx_oddsOf (ok : s_ok G K A U) (h : RX o g G K A L U x S) (ht : s_in G t) (ha1 : a1.toInt = t + 8) : ∃ (S1 : dg_S) (y : Int32), F_f_oddsOf o S g 3 a1 = (S1, y) ∧ y.toInt = s_od G K A t ∧ RX o g G K A L U x S1 ∧ k_sk S S1 := by
  have z0 : (0 : Int32).toInt = 0 := by decide +kernel
  have z8 : (8 : Int32).toInt = 8 := by decide +kernel
  have z100 : (100 : Int32).toInt = 100 := by decide +kernel
  have hgb := ok.1.1.1
  have hq := ok.1.2.2.1
  obtain ⟨g0, g1, g3, g4, -⟩ := h.2.1.2.1
  obtain ⟨S6, x5, e6, v5, r6, k6⟩ := cx_openBehind (o := o) (a1 := (-1 : Int32)) (a2 := a1) (A' := A) ok h ht ha1 (Or.inl ⟨rfl, rfl⟩)
  obtain ⟨m, hm⟩ : ∃ m, m = G 0 0 * G 0 1 := ⟨_, rfl⟩
  have m0 : 0 ≤ m := by rw [hm]; exact Int.mul_nonneg (by omega) (by omega)
  have m49 : m ≤ 7 * 7 := by rw [hm]; exact Int.mul_le_mul (by omega) (by omega) (by omega) (by omega)
  have e3 : (zI S g 0 * zI S g 1).toInt = m := by rw [dk_mulT g0 g1 (by omega) (by omega), hm]
  have e9 : ((100 : Int32) - zI S g 4).toInt = 100 - G 0 4 := dk_subT z100 g4 (by omega) (by omega)
  have e10 : (x5 * (zI S g 0 * zI S g 1) * ((100 : Int32) - zI S g 4)).toInt = s_o1 G K A t * m * (100 - G 0 4) ∧ 0 ≤ s_o1 G K A t * m * (100 - G 0 4) ∧ s_o1 G K A t * m * (100 - G 0 4) ≤ 4900 := by
    have d0 : 0 ≤ m * (100 - G 0 4) := Int.mul_nonneg m0 (by omega)
    have d1 : m * (100 - G 0 4) ≤ (7 * 7) * 100 := Int.mul_le_mul m49 (by omega) (by omega) (by omega)
    rcases s_o1_01 (G := G) (K := K) (A := A) (t := t) with w | w
    · rw [w] at v5 ⊢
      have e7 : (x5 * (zI S g 0 * zI S g 1)).toInt = 0 * m := dk_mulT v5 e3 (by omega) (by omega)
      refine ⟨dk_mulT e7 e9 ?_ ?_, ?_, ?_⟩ <;> rw [Int.zero_mul, Int.zero_mul] <;> decide
    · rw [w] at v5 ⊢
      have e7 : (x5 * (zI S g 0 * zI S g 1)).toInt = 1 * m := dk_mulT v5 e3 (by omega) (by omega)
      refine ⟨dk_mulT e7 e9 ?_ ?_, ?_, ?_⟩ <;> rw [Int.one_mul] <;> omega
  obtain ⟨b0, hb0⟩ : ∃ b, b = s_o1 G K A t * m * (100 - G 0 4) := ⟨_, rfl⟩
  rw [← hb0] at e10
  have main := lp_cnt (f := F_f_oddsOf_B1 o g 3 x5 (zI S g 4) a1) (z := (S, (0 : Int32))) (W := (8 * G 0 1 + 8).toNat) (P := fun k s => RX o g G K A L U x s.2 ∧ s.1.toInt = b0 + s_os G K A t (k - 8) ∧ 8 ≤ k ∧ k_sk S s.2) (Q := fun q => RX o g G K A L U x q.1 ∧ q.2.toInt = b0 + s_os G K A t (8 * G 0 1).toNat ∧ k_sk S q.1) (by omega) (fun k kI s hk hkI hP => by
    obtain ⟨u, T⟩ := s
    obtain ⟨t1, t2, t3, t4⟩ := hP
    have t1 : RX o g G K A L U x T := t1
    have t2 : u.toInt = b0 + s_os G K A t (k - 8) := t2
    have f1 : (zI T g 1).toInt = G 0 1 := t1.2.1.2.1.2.1
    have ee : ((8 : Int32) * zI T g 1 + (8 : Int32)).toInt = 8 * G 0 1 + 8 := dk_addT (dk_mulT z8 f1 (by omega) (by omega)) z8 (by omega) (by omega)
    have eE : F_g_endOfPlaces o T g = (8 : Int32) * zI T g 1 + (8 : Int32) := F_g_endOfPlaces_p0 rfl rfl rfl
    have q0 : ¬ F_g_endOfPlaces o T g ≤ kI := fun z => by
      have := w_le.mp z
      rw [eE, ee] at this
      omega
    have kn : kI.toNatClampNeg = k := by rw [dk_clN]; omega
    have ek : k + 1 - 8 = (k - 8) + 1 := by omega
    have ek2 : ((k - 8 : Nat) : Int) = (k : Int) - 8 := by omega
    have ce := t1.2.2.1.1 (k : Int) (by omega) (by omega)
    have ev : (T.2.1 (3 + 1) kI.toNatClampNeg).toInt = cx_at T 3 (k : Int) := by
      rw [kn]
      unfold cx_at
      rw [show ((k : Int)).toNat = k by omega]
    have sb := s_os_b (G := G) (K := K) (A := A) (t := t) hq (k - 8)
    by_cases q6 : T.2.1 (3 + 1) kI.toNatClampNeg = (100 : Int32)
    · have d6 := dk_eqc z100 q6
      rw [ev] at d6
      have nin : ¬ s_in G ((k - 8 : Nat) : Int) := fun z => by
        rw [ek2] at z
        obtain ⟨e1, l1, u1⟩ := ce.1 z
        rw [e1] at d6
        unfold cx_en at d6
        split at d6
        · omega
        · split at d6 <;> omega
      refine ⟨(u, T), (F_f_oddsOf_p2 rfl q0 rfl q6).trans (F_f_oddsOf_p1 rfl), t1, ?_, by omega, t4⟩
      rw [ek, s_os_n nin]
      exact t2
    · have d6 := dk_neqc z100 q6
      rw [ev] at d6
      have hin : s_in G ((k : Int) - 8) := by
        apply Classical.byContradiction
        intro z
        exact d6 (ce.2 z)
      have hin' : s_in G ((k - 8 : Nat) : Int) := by rw [ek2]; exact hin
      have go : ∀ (w : Int32) (T1 : dg_S), w.toInt = s_o1 G K (s_cl G A ((k - 8 : Nat) : Int)).1 t → RX o g G K A L U x T1 → k_sk S T1 → F_f_oddsOf_B1 o g 3 x5 (zI S g 4) a1 (kI, u, T) = F_f_oddsOf_J3 w (zI S g 4) u kI T1 → ∃ s1, F_f_oddsOf_B1 o g 3 x5 (zI S g 4) a1 (kI, u, T) = .inl (kI + 1, s1) ∧ RX o g G K A L U x s1.2 ∧ s1.1.toInt = b0 + s_os G K A t (k + 1 - 8) ∧ 8 ≤ k + 1 ∧ k_sk S s1.2 := fun w T1 hw hr hk9 e => by
        have ob := s_oq_b (G := G) (K := K) (A := (s_cl G A ((k - 8 : Nat) : Int)).1) (t := t) hq
        have em : (w * zI S g 4).toInt = s_o1 G K (s_cl G A ((k - 8 : Nat) : Int)).1 t * G 0 4 := dk_mulT hw g4 (by omega) (by omega)
        refine ⟨(u + w * zI S g 4, T1), (e.trans (F_f_oddsOf_p3 rfl rfl)).trans (F_f_oddsOf_p1 rfl), hr, ?_, by omega, hk9⟩
        show (u + w * zI S g 4).toInt = b0 + s_os G K A t (k + 1 - 8)
        rw [ek, s_os_y hin', dk_addT t2 em (by omega) (by omega)]
        omega
      have eo := cx_isOpen (o := o) (a := kI) t1.2.2.1.1 (by omega) (by omega)
      rw [hkI] at eo
      by_cases q7 : F_p_isOpen o T 3 kI = (0 : Int32)
      · rw [q7, z0] at eo
        have nop : ¬ s_op G A ((k : Int) - 8) := fun z => by
          rw [s_b1 z] at eo
          exact absurd eo (by decide)
        refine go x5 T ?_ t1 t4 (F_f_oddsOf_p4 rfl q0 rfl q6 rfl q7)
        rw [ek2, s_cl_same nop]
        exact v5
      · obtain ⟨T1, w, f1, f2, f3, f4⟩ := cx_openBehind (o := o) (a1 := kI) (a2 := a1) (A' := (s_cl G A ((k : Int) - 8)).1) ok t1 ht ha1 (Or.inr ⟨(k : Int) - 8, hin, by omega, rfl⟩)
        exact go w T1 (by rw [ek2]; exact f2) f3 (t4.tr f4) (F_f_oddsOf_p5 rfl q0 rfl q6 rfl q7 (by rw [f1]) (by rw [f1]))) (fun kI s hkI hP => by
    obtain ⟨u, T⟩ := s
    obtain ⟨t1, t2, t3, t4⟩ := hP
    have t1 : RX o g G K A L U x T := t1
    have f1 : (zI T g 1).toInt = G 0 1 := t1.2.1.2.1.2.1
    have ee : ((8 : Int32) * zI T g 1 + (8 : Int32)).toInt = 8 * G 0 1 + 8 := dk_addT (dk_mulT z8 f1 (by omega) (by omega)) z8 (by omega) (by omega)
    have eE : F_g_endOfPlaces o T g = (8 : Int32) * zI T g 1 + (8 : Int32) := F_g_endOfPlaces_p0 rfl rfl rfl
    refine ⟨(T, u), F_f_oddsOf_p0 rfl (w_le.mpr (by rw [eE, ee]; omega)), t1, ?_, t4⟩
    rw [show (8 * G 0 1).toNat = (8 * G 0 1 + 8).toNat - 8 by omega]
    exact t2) ((65 - ((8 : Int32)).toInt).toNat + 1) 8 8 (x5 * (zI S g 0 * zI S g 1) * ((100 : Int32) - zI S g 4), S6) (by rw [z8]; omega) (by omega) z8 ⟨r6, by show _ = b0 + s_os G K A t 0; rw [e10.1]; show b0 = b0 + 0; omega, by decide, k6⟩
  rw [F_f_oddsOf_p6 (x_5 := x5) (S_6 := S6) rfl rfl rfl (by rw [e6]) (by rw [e6]) rfl rfl rfl rfl]
  obtain ⟨n1, n2, n3⟩ := main
  refine ⟨_, _, rfl, n2.trans ?_, n1, n3⟩
  unfold s_od
  rw [hb0, hm]
  have e64 := s_os_le (G := G) (K := K) (A := A) (t := t) (m := (8 * G 0 1).toNat) (by omega) (64 - (8 * G 0 1).toNat)
  rw [show (8 * G 0 1).toNat + (64 - (8 * G 0 1).toNat) = 64 by omega] at e64
  rw [e64]
/-- what odds tells -/
noncomputable def s_oV (G : aR) (K : Nat → List Int) (A : aR) (u w : Int) : Int := if u = -1 then 100 * (G 0 0 * G 0 1) else s_if ((0 ≤ u ∧ u < G 0 0) ∧ 0 ≤ w ∧ w < G 0 1) (s_od G K A (8 * w + u)) (-1)
theorem cx_odds (ok : s_ok G K A U) (h : RX o g G K A L U x S) : ∃ (S1 : dg_S) (y : Int32), F_d_odds o S a1 a2 = (S1, y) ∧ y.toInt = s_if (A 0 0 < 999) (s_oV G K A a1.toInt a2.toInt) (-1) ∧ RX o g G K A L U x S1 ∧ k_sk S S1 := by
  have z1 : (1 : Int32).toInt = 1 := by decide +kernel
  have z100 : (100 : Int32).toInt = 100 := by decide +kernel
  have m1 : (-1 : Int32).toInt = -1 := by decide +kernel
  have hgb := ok.1.1.1
  have hcm := cx_come (o := o) (a1 := 1) (a2 := 1) (a3 := 1) h.2.1 h.1 ok.1.1 ok.2.2.1.1 h.2.2.1 (by decide +kernel) (by decide +kernel)
  rw [z1] at hcm
  rcases hcm with ⟨e, w⟩ | ⟨e, w⟩
  rotate_left
  · exact ⟨S, -1, F_d_odds_p3 rfl e, by rw [s_if_n (by omega)]; exact m1, h, k_sk.rf⟩
  have ne : ¬ F_d_shiftsCome o S (1 : Int32) (1 : Int32) (1 : Int32) = (0 : Int32) := by rw [e]; decide +kernel
  rw [s_if_y (by omega)]
  unfold s_oV
  by_cases c0 : a1 = (-1 : Int32)
  · have d0 := dk_eqc m1 c0
    obtain ⟨g0, g1, -⟩ := h.2.1.2.1
    have m0 : 0 ≤ G 0 0 * G 0 1 := Int.mul_nonneg (by omega) (by omega)
    have m49 : G 0 0 * G 0 1 ≤ 7 * 7 := Int.mul_le_mul (by omega) (by omega) (by omega) (by omega)
    have e1 : ((100 : Int32) * zI S g 0).toInt = 100 * G 0 0 := dk_mulT z100 g0 (by omega) (by omega)
    refine ⟨S, _, F_d_odds_p2 rfl ne c0 h.1.symm rfl rfl rfl rfl, ?_, h, k_sk.rf⟩
    rw [if_pos d0, dk_mulT e1 g1 (by rw [Int.mul_assoc]; omega) (by rw [Int.mul_assoc]; omega), Int.mul_assoc]
  have d0 := dk_neqc m1 c0
  rw [if_neg d0]
  rcases cx_place (o := o) (a1 := a1) (a2 := a2) h.2.1 hgb with ⟨p1, p2, p3, p4⟩ | ⟨p1, p2⟩
  rotate_left
  · exact ⟨S, -1, F_d_odds_p1 rfl ne c0 h.1.symm rfl p2, by rw [s_if_n p1]; exact m1, h, k_sk.rf⟩
  have p40 := p4.1
  have n8 : ¬ F_g_placeOf o S g a1 a2 = (-1 : Int32) := fun z => by have := dk_eqc (k := -1) m1 z; omega
  obtain ⟨S1, y, e1, v1, r1, k1⟩ := cx_oddsOf (o := o) (a1 := F_g_placeOf o S g a1 a2) (t := 8 * a2.toInt + a1.toInt) ok h p4 p3
  refine ⟨S1, y, F_d_odds_p0 rfl ne c0 h.1.symm rfl n8 (by rw [e1]) (by rw [e1]), ?_, r1, k1⟩
  rw [s_if_y ⟨p1, p2⟩]
  exact v1
/-- the reference: behind a quake -/
theorem mx_qb1 (ok : s_ok G K A U) (h : RM G K A L U x S) (h9 : A 0 0 < 999) (hc : s_in G c) (ha : a1.toInt = c) (ht : s_in G t) (ha2 : a2.toInt = t) : ∃ S1 S2 S3, F_m_copies o S (1 : Int32) (0 : Int32) = S1 ∧ (F_m_isSolidBy o S1 (1 : Int32) a1).1 = S2 ∧ (F_m_ticks o S2 (1 : Int32)).1 = S3 ∧ RM G K A L U x S3 ∧ k_v 1 S S3 ∧ (F_m_isOpen o S3 (1 : Int32) a2).toInt = s_o1 G K (s_cl G A c).1 t := by
  have z1 : (1 : Int32).toInt = 1 := by decide +kernel
  have hb := ok.1.1.2.2.2
  obtain ⟨S1, e1, r1, l1, k1⟩ := mx_try1 (o := o) ok h
  obtain ⟨S2, y2, e2, -, l2, k2⟩ := mx_close (o := o) (v := 1) (a1 := 1) (a2 := a1) hb r1.1.1.1 l1 z1 (by decide) hc ha
  have r2 : RM G K A L U x S2 := r1.v hb k2 (by decide) (k2.lay r1.2.1 (by decide) hb)
  have okA := s_cl_okU (c := c) ok
  obtain ⟨S3, y3, e3, r3, l3, k3⟩ := mx_tick1 (o := o) ok r2 okA.2.2.1.1 okA.2.2.1.2 l2
  have a00 : (s_cl G A c).1 0 0 = A 0 0 := (s_cl_ok (c := c) ok.2.2.1.1 ok.2.2.1.2).2.2.1
  rw [s_tu_tk (by rw [a00]; exact h9)] at l3
  refine ⟨S1, S2, S3, e1, by rw [e2], by rw [e3], r3, (k1.tr k2).tr k3, ?_⟩
  have ho := mx_op (o := o) (a := 1) (b := a2) l3.1 z1 (by decide) (by rw [ha2]; exact ht)
  rw [ha2] at ho
  exact s_b_i ho
/-- the reference: behind no quake -/
theorem mx_qb2 (ok : s_ok G K A U) (h : RM G K A L U x S) (h9 : A 0 0 < 999) (ht : s_in G t) (ha2 : a2.toInt = t) : ∃ S1 S3, F_m_copies o S (1 : Int32) (0 : Int32) = S1 ∧ (F_m_ticks o S1 (1 : Int32)).1 = S3 ∧ RM G K A L U x S3 ∧ k_v 1 S S3 ∧ (F_m_isOpen o S3 (1 : Int32) a2).toInt = s_o1 G K A t := by
  have z1 : (1 : Int32).toInt = 1 := by decide +kernel
  obtain ⟨S1, e1, r1, l1, k1⟩ := mx_try1 (o := o) ok h
  obtain ⟨S3, y3, e3, r3, l3, k3⟩ := mx_tick1 (o := o) ok r1 ok.2.2.1.1 ok.2.2.1.2 l1
  rw [s_tu_tk h9] at l3
  refine ⟨S1, S3, e1, by rw [e3], r3, k1.tr k3, ?_⟩
  have ho := mx_op (o := o) (a := 1) (b := a2) l3.1 z1 (by decide) (by rw [ha2]; exact ht)
  rw [ha2] at ho
  exact s_b_i ho
theorem mx_oloop1 (ok : s_ok G K A U) (h : RM G K A L U x S) (h9 : A 0 0 < 999) (ht : s_in G t) {w : Int32} (hw : w.toInt = t) {b0 : Int} (hb0 : 0 ≤ b0 ∧ b0 ≤ 4900) {u : Int32} (hu : u.toInt = b0) {S9 : dg_S} (h6 : (S9.2.1 6 (zI S9 0 13).toNatClampNeg).toInt = G 0 4) (hk9 : k_v 1 S9 S) {z : dg_S × Int32} : ∃ (T : dg_S) (y : Int32), lp (F_m_odds_B1 o w (zI S9 0 13)) z ((65 - ((0 : Int32)).toInt).toNat + 1) ((0 : Int32), u, S) = (T, y) ∧ y.toInt = b0 + s_os G K A t 64 ∧ RM G K A L U x T := by
  have z0 : (0 : Int32).toInt = 0 := by decide +kernel
  have z64 : (64 : Int32).toInt = 64 := by decide +kernel
  have hq := ok.1.2.2.1
  have hgb := ok.1.1.1
  have main := lp_cnt (f := F_m_odds_B1 o w (zI S9 0 13)) (z := z) (W := 64) (P := fun k s => RM G K A L U x s.2 ∧ s.1.toInt = b0 + s_os G K A t k ∧ k_v 1 S9 s.2) (Q := fun q => RM G K A L U x q.1 ∧ q.2.toInt = b0 + s_os G K A t 64) (by decide) (fun k kI s hk hkI hP => by
    obtain ⟨u, T⟩ := s
    obtain ⟨t1, t2, t3⟩ := hP
    have t1 : RM G K A L U x T := t1
    have t2 : u.toInt = b0 + s_os G K A t k := t2
    have q0 : ¬ (64 : Int32) ≤ kI := fun z => by have := dk_gec z64 z; omega
    have sb := s_os_b (G := G) (K := K) (A := A) (t := t) hq k
    rcases mx_isCellOf (o := o) (a := kI) t1.1.1.1 hgb with ⟨e1, y1⟩ | ⟨e1, y1⟩
    rotate_left
    · rw [hkI] at y1
      refine ⟨(u, T), (F_m_odds_p7 q0 rfl e1).trans (F_m_odds_p3 rfl), t1, ?_, t3⟩
      show u.toInt = b0 + s_os G K A t (k + 1)
      rw [s_os_n y1]
      exact t2
    rw [hkI] at y1
    have n1 : ¬ F_m_isCellOf o T kI = (0 : Int32) := by rw [e1]; decide +kernel
    obtain ⟨T1, T2, T3, f1, f2, f3, f4, f5, f6⟩ := mx_qb1 (o := o) (a1 := kI) (a2 := w) (c := (k : Int)) ok t1 h9 y1 hkI ht hw
    have g6 : (T3.2.1 6 (zI S9 0 13).toNatClampNeg).toInt = G 0 4 := by rw [(t3.tr f5).row (by decide)]; exact h6
    have ob := s_oq_b (G := G) (K := K) (A := (s_cl G A (k : Int)).1) (t := t) hq
    have go : ∀ w' : Int32, w'.toInt = s_o1 G K (s_cl G A (k : Int)).1 t * G 0 4 → F_m_odds_B1 o w (zI S9 0 13) (kI, u, T) = F_m_odds_J3 u w' kI T3 → ∃ s1, F_m_odds_B1 o w (zI S9 0 13) (kI, u, T) = .inl (kI + 1, s1) ∧ RM G K A L U x s1.2 ∧ s1.1.toInt = b0 + s_os G K A t (k + 1) ∧ k_v 1 S9 s1.2 := fun w' hw' e => by
      refine ⟨(u + w', T3), (e.trans (F_m_odds_p4 rfl)).trans (F_m_odds_p3 rfl), f4, ?_, t3.tr f5⟩
      show (u + w').toInt = b0 + s_os G K A t (k + 1)
      rw [s_os_y y1, dk_addT t2 hw' (by omega) (by omega)]
      omega
    by_cases q : F_m_isOpen o T3 (1 : Int32) w = (0 : Int32)
    · rw [q, z0] at f6
      exact go 0 (by rw [z0, ← f6, Int.zero_mul]) (F_m_odds_p5 q0 rfl n1 f1.symm f2.symm f3.symm rfl q)
    · have d := dk_neqc z0 q
      have w1 : s_o1 G K (s_cl G A (k : Int)).1 t = 1 := by
        rcases s_o1_01 (G := G) (K := K) (A := (s_cl G A (k : Int)).1) (t := t) with w | w <;> omega
      exact go _ (by rw [w1, Int.one_mul]; exact g6) (F_m_odds_p6 q0 rfl n1 f1.symm f2.symm f3.symm rfl q rfl)) (fun kI s hkI hP => by
    obtain ⟨u, T⟩ := s
    exact ⟨(T, u), F_m_odds_p2 (dk_gep z64 (by omega)), hP.1, hP.2.1⟩) ((65 - ((0 : Int32)).toInt).toNat + 1) 0 0 (u, S) (by rw [z0]; decide) (by decide) z0 ⟨h, by show u.toInt = b0 + 0; omega, hk9⟩
  exact ⟨_, _, rfl, main.2, main.1⟩
theorem mx_oloop4 (ok : s_ok G K A U) (h : RM G K A L U x S) (h9 : A 0 0 < 999) (ht : s_in G t) {w : Int32} (hw : w.toInt = t) {b0 : Int} (hb0 : 0 ≤ b0 ∧ b0 ≤ 4900) {u : Int32} (hu : u.toInt = b0) {S9 : dg_S} (h6 : (S9.2.1 6 (zI S9 0 13).toNatClampNeg).toInt = G 0 4) (hk9 : k_v 1 S9 S) {z : dg_S × Int32} : ∃ (T : dg_S) (y : Int32), lp (F_m_odds_B4 o w (zI S9 0 13)) z ((65 - ((0 : Int32)).toInt).toNat + 1) ((0 : Int32), u, S) = (T, y) ∧ y.toInt = b0 + s_os G K A t 64 ∧ RM G K A L U x T := by
  have z0 : (0 : Int32).toInt = 0 := by decide +kernel
  have z64 : (64 : Int32).toInt = 64 := by decide +kernel
  have hq := ok.1.2.2.1
  have hgb := ok.1.1.1
  have main := lp_cnt (f := F_m_odds_B4 o w (zI S9 0 13)) (z := z) (W := 64) (P := fun k s => RM G K A L U x s.2 ∧ s.1.toInt = b0 + s_os G K A t k ∧ k_v 1 S9 s.2) (Q := fun q => RM G K A L U x q.1 ∧ q.2.toInt = b0 + s_os G K A t 64) (by decide) (fun k kI s hk hkI hP => by
    obtain ⟨u, T⟩ := s
    obtain ⟨t1, t2, t3⟩ := hP
    have t1 : RM G K A L U x T := t1
    have t2 : u.toInt = b0 + s_os G K A t k := t2
    have q0 : ¬ (64 : Int32) ≤ kI := fun z => by have := dk_gec z64 z; omega
    have sb := s_os_b (G := G) (K := K) (A := A) (t := t) hq k
    rcases mx_isCellOf (o := o) (a := kI) t1.1.1.1 hgb with ⟨e1, y1⟩ | ⟨e1, y1⟩
    rotate_left
    · rw [hkI] at y1
      refine ⟨(u, T), (F_m_odds_p14 q0 rfl e1).trans (F_m_odds_p10 rfl), t1, ?_, t3⟩
      show u.toInt = b0 + s_os G K A t (k + 1)
      rw [s_os_n y1]
      exact t2
    rw [hkI] at y1
    have n1 : ¬ F_m_isCellOf o T kI = (0 : Int32) := by rw [e1]; decide +kernel
    obtain ⟨T1, T2, T3, f1, f2, f3, f4, f5, f6⟩ := mx_qb1 (o := o) (a1 := kI) (a2 := w) (c := (k : Int)) ok t1 h9 y1 hkI ht hw
    have g6 : (T3.2.1 6 (zI S9 0 13).toNatClampNeg).toInt = G 0 4 := by rw [(t3.tr f5).row (by decide)]; exact h6
    have ob := s_oq_b (G := G) (K := K) (A := (s_cl G A (k : Int)).1) (t := t) hq
    have go : ∀ w' : Int32, w'.toInt = s_o1 G K (s_cl G A (k : Int)).1 t * G 0 4 → F_m_odds_B4 o w (zI S9 0 13) (kI, u, T) = F_m_odds_J6 u w' kI T3 → ∃ s1, F_m_odds_B4 o w (zI S9 0 13) (kI, u, T) = .inl (kI + 1, s1) ∧ RM G K A L U x s1.2 ∧ s1.1.toInt = b0 + s_os G K A t (k + 1) ∧ k_v 1 S9 s1.2 := fun w' hw' e => by
      refine ⟨(u + w', T3), (e.trans (F_m_odds_p11 rfl)).trans (F_m_odds_p10 rfl), f4, ?_, t3.tr f5⟩
      show (u + w').toInt = b0 + s_os G K A t (k + 1)
      rw [s_os_y y1, dk_addT t2 hw' (by omega) (by omega)]
      omega
    by_cases q : F_m_isOpen o T3 (1 : Int32) w = (0 : Int32)
    · rw [q, z0] at f6
      exact go 0 (by rw [z0, ← f6, Int.zero_mul]) (F_m_odds_p12 q0 rfl n1 f1.symm f2.symm f3.symm rfl q)
    · have d := dk_neqc z0 q
      have w1 : s_o1 G K (s_cl G A (k : Int)).1 t = 1 := by
        rcases s_o1_01 (G := G) (K := K) (A := (s_cl G A (k : Int)).1) (t := t) with w | w <;> omega
      exact go _ (by rw [w1, Int.one_mul]; exact g6) (F_m_odds_p13 q0 rfl n1 f1.symm f2.symm f3.symm rfl q rfl)) (fun kI s hkI hP => by
    obtain ⟨u, T⟩ := s
    exact ⟨(T, u), F_m_odds_p9 (dk_gep z64 (by omega)), hP.1, hP.2.1⟩) ((65 - ((0 : Int32)).toInt).toNat + 1) 0 0 (u, S) (by rw [z0]; decide) (by decide) z0 ⟨h, by show u.toInt = b0 + 0; omega, hk9⟩
  exact ⟨_, _, rfl, main.2, main.1⟩
theorem mx_odds (ok : s_ok G K A U) (h : RM G K A L U x S) : ∃ (S1 : dg_S) (y : Int32), F_m_odds o S a1 a2 = (S1, y) ∧ y.toInt = s_if (A 0 0 < 999) (s_oV G K A a1.toInt a2.toInt) (-1) ∧ RM G K A L U x S1 := by
  have z0 : (0 : Int32).toInt = 0 := by decide +kernel
  have z1 : (1 : Int32).toInt = 1 := by decide +kernel
  have z100 : (100 : Int32).toInt = 100 := by decide +kernel
  have m1 : (-1 : Int32).toInt = -1 := by decide +kernel
  have hgb := ok.1.1.1
  have hq := ok.1.2.2.1
  have hcm := mx_come (o := o) (a1 := 1) (a2 := 1) (a3 := 1) h.1.1.1 h.2.1 ok.2.2.1.1 (by decide +kernel) (by decide +kernel)
  rw [z1] at hcm
  rcases hcm with ⟨e, w⟩ | ⟨e, w⟩
  rotate_left
  · exact ⟨S, -1, F_m_odds_p0 rfl e, by rw [s_if_n (by omega)]; exact m1, h⟩
  have ne : ¬ F_m_isAhead o S (1 : Int32) (1 : Int32) (1 : Int32) = (0 : Int32) := by rw [e]; decide +kernel
  rw [s_if_y (by omega)]
  have h9 : A 0 0 < 999 := by omega
  have f2 : (S.2.1 2 (zI S 0 13).toNatClampNeg).toInt = G 0 0 := h.1.1.1.2.1
  have f3 : (S.2.1 3 (zI S 0 13).toNatClampNeg).toInt = G 0 1 := h.1.1.1.2.2.1
  have f6 : (S.2.1 6 (zI S 0 13).toNatClampNeg).toInt = G 0 4 := h.1.2.1.2.1
  obtain ⟨m, hm⟩ : ∃ m, m = G 0 0 * G 0 1 := ⟨_, rfl⟩
  have m0 : 0 ≤ m := by rw [hm]; exact Int.mul_nonneg (by omega) (by omega)
  have m49 : m ≤ 7 * 7 := by rw [hm]; exact Int.mul_le_mul (by omega) (by omega) (by omega) (by omega)
  have e7 : (S.2.1 2 (zI S 0 13).toNatClampNeg * S.2.1 3 (zI S 0 13).toNatClampNeg).toInt = m := by rw [dk_mulT f2 f3 (by omega) (by omega), hm]
  unfold s_oV
  rw [← hm]
  by_cases c0 : a1 = (-1 : Int32)
  · have d0 := dk_eqc m1 c0
    refine ⟨S, _, F_m_odds_p1 rfl rfl rfl rfl rfl ne c0 rfl, ?_, h⟩
    rw [if_pos d0]
    exact dk_mulT z100 e7 (by omega) (by omega)
  have d0 := dk_neqc m1 c0
  rw [if_neg d0]
  rcases mx_cellof (o := o) (a1 := a1) (a2 := a2) h.1.1.1 hgb with ⟨p1, p2, p3, p4, p5⟩ | ⟨p1, p2⟩
  rotate_left
  · exact ⟨S, -1, F_m_odds_p16 rfl ne c0 rfl p2, by rw [s_if_n p1]; exact m1, h⟩
  have nc : ¬ F_m_isCell o S a1 a2 = (0 : Int32) := by rw [p3]; decide +kernel
  rw [s_if_y ⟨p1, p2⟩]
  obtain ⟨t, htt⟩ : ∃ t, t = 8 * a2.toInt + a1.toInt := ⟨_, rfl⟩
  rw [← htt] at p4 p5 ⊢
  obtain ⟨S1, S3, e1, e3, r3, k3, v3⟩ := mx_qb2 (o := o) (a2 := (8 : Int32) * a2 + a1) ok h h9 p5 p4
  unfold s_od
  rw [← hm]
  by_cases q : F_m_isOpen o S3 (1 : Int32) ((8 : Int32) * a2 + a1) = (0 : Int32)
  · rw [q, z0] at v3
    obtain ⟨T, y, l1, l2, l3⟩ := mx_oloop1 (o := o) (S9 := S) (u := 0) (b0 := 0) (z := (S, (0 : Int32))) ok r3 h9 p5 p4 ⟨by decide, by decide⟩ z0 f6 k3
    refine ⟨T, y, (F_m_odds_p8 rfl rfl ne c0 rfl nc rfl rfl e1.symm e3.symm rfl q).trans l1, ?_, l3⟩
    rw [l2, ← v3, Int.zero_mul, Int.zero_mul]
  · have d := dk_neqc z0 q
    have w1 : s_o1 G K A t = 1 := by
      rcases s_o1_01 (G := G) (K := K) (A := A) (t := t) with w | w <;> omega
    have g6 : (S3.2.1 6 (zI S 0 13).toNatClampNeg).toInt = G 0 4 := by rw [k3.row (by decide)]; exact f6
    have e9 : ((100 : Int32) - S3.2.1 6 (zI S 0 13).toNatClampNeg).toInt = 100 - G 0 4 := dk_subT z100 g6 (by omega) (by omega)
    have d00 : 0 ≤ (100 - G 0 4) * m := Int.mul_nonneg (by omega) m0
    have d01 : (100 - G 0 4) * m ≤ 100 * (7 * 7) := Int.mul_le_mul (by omega) m49 m0 (by omega)
    have e10 : (((100 : Int32) - S3.2.1 6 (zI S 0 13).toNatClampNeg) * (S.2.1 2 (zI S 0 13).toNatClampNeg * S.2.1 3 (zI S 0 13).toNatClampNeg)).toInt = (100 - G 0 4) * m := dk_mulT e9 e7 (by omega) (by omega)
    obtain ⟨T, y, l1, l2, l3⟩ := mx_oloop4 (o := o) (S9 := S) (u := ((100 : Int32) - S3.2.1 6 (zI S 0 13).toNatClampNeg) * (S.2.1 2 (zI S 0 13).toNatClampNeg * S.2.1 3 (zI S 0 13).toNatClampNeg)) (b0 := (100 - G 0 4) * m) (z := (S, (0 : Int32))) ok r3 h9 p5 p4 ⟨by omega, by omega⟩ e10 f6 k3
    refine ⟨T, y, (F_m_odds_p15 rfl rfl rfl rfl rfl ne c0 rfl nc rfl rfl e1.symm e3.symm rfl q rfl rfl rfl).trans l1, ?_, l3⟩
    rw [l2, w1, Int.one_mul, Int.mul_comm]
/-- ODDS on both sides -/
theorem sim_odds (ok : s_ok G K A U) (hX : RX oX g G K A L U x SX) (hM : RM G K A L U x SM) : (F_d_odds oX SX a1 a2).2 = (F_m_odds oM SM a1 a2).2 ∧ RX oX g G K A L U x (F_d_odds oX SX a1 a2).1 ∧ k_sk SX (F_d_odds oX SX a1 a2).1 ∧ RM G K A L U x (F_m_odds oM SM a1 a2).1 := by
  obtain ⟨S1, y1, e1, v1, r1, k1⟩ := cx_odds (o := oX) (a1 := a1) (a2 := a2) ok hX
  obtain ⟨S2, y2, e2, v2, r2⟩ := mx_odds (o := oM) (a1 := a1) (a2 := a2) ok hM
  rw [e1, e2]
  exact ⟨Int32.toInt_inj.mp (v1.trans v2.symm), r1, k1, r2⟩
end EE
end
section
/-! SALE: both sides -/
/-- a loop that has a counter alone -/
theorem lp_cnt1 {ρ : Type} {f : Int32 → Int32 ⊕ ρ} {z : ρ} {W : Nat} {P : Nat → Prop} {Q : ρ → Prop} (hW : W < 2000000000) (hs : ∀ (c : Nat) (cI : Int32), c < W → cI.toInt = c → P c → (f cI = .inl (cI + 1) ∧ P (c + 1)) ∨ ∃ r, f cI = .inr r ∧ Q r) (he : ∀ (cI : Int32), cI.toInt = W → P W → ∃ r, f cI = .inr r ∧ Q r) : ∀ (n c : Nat) (cI : Int32), W + 1 ≤ n + c → c ≤ W → cI.toInt = c → P c → Q (lp f z n cI) := by
  intro n
  induction n with
  | zero =>
    intro c cI h1 h2
    omega
  | succ n ih =>
    intro c cI h1 h2 h3 h4
    by_cases q : c < W
    · rcases hs c cI q h3 h4 with ⟨e1, p1⟩ | ⟨r, e1, q1⟩
      · rw [lp_sl e1]
        refine ih (c + 1) (cI + 1) (by omega) (by omega) ?_ p1
        rw [dk_addT h3 (b := 1) (by decide +kernel) (by omega) (by omega)]
        omega
      · rw [lp_sr e1]
        exact q1
    · have ec : c = W := by omega
      subst ec
      obtain ⟨r, e1, q1⟩ := he cI h3 h4
      rw [lp_sr e1]
      exact q1
/-- bits of a set of orders -/
def s_pc (n : Nat) : Nat := n % 2 + n / 2 % 2 + n / 4 % 2 + n / 8 % 2 + n / 16 % 2
def s_wd (G : aR) (s : Nat) (g : Int) : Nat → Int
  | 0 => 0
  | k + 1 => s_wd G s g k + (if mx_bit s k = 1 ∧ g ≤ G 2 k then G 3 k else 0)
def s_pd (G : aR) (s : Nat) : Nat → Int
  | 0 => 0
  | k + 1 => s_pd G s k + (if mx_bit s k = 1 then G 4 k else 0)
/-- can all of a set be sold -/
def s_cA (G A : aR) (s : Nat) : Prop := ∀ k : Nat, (k : Int) < G 0 7 → mx_bit s k = 1 → A 5 k ≠ 1 ∧ s_wd G s (G 2 k) (G 0 7).toNat ≤ s_sz A (G 2 k).toNat (10 - (G 2 k).toNat)
noncomputable def s_bS (G A : aR) : Nat → Nat
  | 0 => 0
  | m + 1 => s_if (1 ≤ m ∧ s_cA G A m ∧ (s_pd G (s_bS G A m) (G 0 7).toNat < s_pd G m (G 0 7).toNat ∨ s_pd G (s_bS G A m) (G 0 7).toNat = s_pd G m (G 0 7).toNat ∧ s_pc m < s_pc (s_bS G A m))) m (s_bS G A m)
section EF
variable {o oX oM g n p : Nat} {G A A' : aR} {K : Nat → List Int} {L L' : s_L} {U : s_U} {S S0 S1 SX SM : dg_S} {x x' r c v t : Int} {a a1 a2 a3 a4 b y : Int32} {s : Nat}
theorem w_bit (h : 0 ≤ a.toInt ∧ a.toInt < 64) (hb : 0 ≤ b.toInt ∧ b.toInt < 6) : ((a >>> (b &&& 31)) &&& 1).toInt = mx_bit a.toInt b.toInt.toNat ∧ (mx_bit a.toInt b.toInt.toNat = 0 ∨ mx_bit a.toInt b.toInt.toNat = 1) := by
  have key : ∀ n : Nat, n < 64 → ∀ k : Nat, k < 6 → ((Int32.ofInt (n : Int) >>> (Int32.ofInt (k : Int) &&& 31)) &&& 1).toInt = mx_bit (n : Int) k ∧ (mx_bit (n : Int) k = 0 ∨ mx_bit (n : Int) k = 1) := by decide +kernel
  obtain ⟨e1, e2⟩ := key a.toInt.toNat (by omega) b.toInt.toNat (by omega)
  rw [show ((a.toInt.toNat : Nat) : Int) = a.toInt by omega, show ((b.toInt.toNat : Nat) : Int) = b.toInt by omega, Int32.ofInt_toInt, Int32.ofInt_toInt] at e1
  rw [show ((a.toInt.toNat : Nat) : Int) = a.toInt by omega] at e2
  exact ⟨e1, e2⟩
theorem w_shl1 (h : 0 ≤ a.toInt ∧ a.toInt ≤ 5) : ((1 : Int32) <<< (a &&& 31)).toInt = ((2 ^ a.toInt.toNat : Nat) : Int) ∧ 2 ^ a.toInt.toNat ≤ 32 := by
  have key : ∀ n : Nat, n < 6 → ((1 : Int32) <<< (Int32.ofInt (n : Int) &&& 31)).toInt = ((2 ^ n : Nat) : Int) ∧ 2 ^ n ≤ 32 := by decide +kernel
  have e1 := key a.toInt.toNat (by omega)
  rw [show ((a.toInt.toNat : Nat) : Int) = a.toInt by omega, Int32.ofInt_toInt] at e1
  exact e1
theorem w_pc (h : 0 ≤ a.toInt ∧ a.toInt < 32) : (F_bitCount o S a).toInt = s_pc a.toInt.toNat := by
  have key : ∀ n : Nat, n < 32 → (F_bitCount 0 (fun _ _ => .int 0, fun _ _ => 0, fun _ _ => 0) (Int32.ofInt (n : Int))).toInt = s_pc n := by decide +kernel
  have e1 := key a.toInt.toNat (by omega)
  rw [show ((a.toInt.toNat : Nat) : Int) = a.toInt by omega, Int32.ofInt_toInt] at e1
  exact e1
theorem w_pcl : ∀ (fuel m : Nat) (a b : Int32) (z : Int32), a.toInt = m → m < 32 → 0 ≤ b.toInt → b.toInt + s_pc m ≤ 100 → s_pc m < fuel → (lp F_m_bits_B1 z fuel (a, b)).toInt = b.toInt + s_pc m := by
  have key : ∀ n : Nat, n < 32 → n ≠ 0 → (Int32.ofInt (n : Int) &&& (Int32.ofInt (n : Int) - 1)).toInt < 32 ∧ 0 ≤ (Int32.ofInt (n : Int) &&& (Int32.ofInt (n : Int) - 1)).toInt ∧ s_pc (Int32.ofInt (n : Int) &&& (Int32.ofInt (n : Int) - 1)).toInt.toNat + 1 = s_pc n := by decide +kernel
  have z0 : (0 : Int32).toInt = 0 := by decide +kernel
  have pz : s_pc 0 = 0 := rfl
  have pb : ∀ n : Nat, n < 32 → s_pc n ≤ 5 := by decide +kernel
  intro fuel
  induction fuel with
  | zero =>
    intro m a b z _ _ _ _ h
    omega
  | succ f ih =>
    intro m a b z ha hm hb hb9 hf
    by_cases q : a = (0 : Int32)
    · have d := dk_eqc z0 q
      have em : m = 0 := by omega
      rw [lp_sr (F_m_bits_p0 q), em, pz]
      omega
    · have d := dk_neqc z0 q
      obtain ⟨k1, k2, k3⟩ := key m hm (by omega)
      rw [show ((m : Nat) : Int) = a.toInt by omega, Int32.ofInt_toInt] at k1 k2 k3
      have e1 : (b + 1).toInt = b.toInt + 1 := dk_addT rfl (by decide +kernel) (by omega) (by omega)
      have pm := pb m hm
      rw [lp_sl (F_m_bits_p1 q rfl rfl rfl), ih (a &&& (a - 1)).toInt.toNat (a &&& (a - 1)) (b + 1) z (by omega) (by omega) (by omega) (by omega) (by omega), e1]
      omega
theorem w_bits (h : 0 ≤ a.toInt ∧ a.toInt < 32) : (F_m_bits o S a).toInt = s_pc a.toInt.toNat := by
  have key : ∀ n : Nat, n < 32 → (Int32.ofInt (n : Int)).toUInt32.toNat = n ∧ s_pc n ≤ n ∧ s_pc n ≤ 5 := by decide +kernel
  obtain ⟨e1, e2, e5⟩ := key a.toInt.toNat (by omega)
  rw [show ((a.toInt.toNat : Nat) : Int) = a.toInt by omega, Int32.ofInt_toInt] at e1
  have z0 : (0 : Int32).toInt = 0 := by decide +kernel
  rw [F_m_bits_p2, w_pcl _ a.toInt.toNat a 0 0 (by omega) (by omega) (by decide +kernel) (by rw [z0]; omega) (by rw [e1]; omega), z0]
  omega
theorem s_wd_b {gr : Int} (ok : s_ok G K A U) : ∀ k : Nat, (k : Int) ≤ G 0 7 → 0 ≤ s_wd G s gr k ∧ s_wd G s gr k ≤ 9 * k
  | 0, _ => ⟨Int.le_refl _, by show (0 : Int) ≤ 9 * ((0 : Nat) : Int); omega⟩
  | k + 1, hk => by
    have ih := s_wd_b (gr := gr) ok k (by omega)
    have h3 := (ok.1.2.2.2.2.2.2.2 k (by omega)).2.1
    show 0 ≤ s_wd G s gr k + (if mx_bit s k = 1 ∧ gr ≤ G 2 k then G 3 k else 0) ∧ s_wd G s gr k + (if mx_bit s k = 1 ∧ gr ≤ G 2 k then G 3 k else 0) ≤ 9 * ((k + 1 : Nat) : Int)
    split <;> omega
theorem s_pd_b (ok : s_ok G K A U) : ∀ k : Nat, (k : Int) ≤ G 0 7 → 0 ≤ s_pd G s k ∧ s_pd G s k ≤ 999 * k
  | 0, _ => ⟨Int.le_refl _, by show (0 : Int) ≤ 999 * ((0 : Nat) : Int); omega⟩
  | k + 1, hk => by
    have ih := s_pd_b ok k (by omega)
    have h3 := (ok.1.2.2.2.2.2.2.2 k (by omega)).2.2
    show 0 ≤ s_pd G s k + (if mx_bit s k = 1 then G 4 k else 0) ∧ s_pd G s k + (if mx_bit s k = 1 then G 4 k else 0) ≤ 999 * ((k + 1 : Nat) : Int)
    split <;> omega
/-- wanted from every grade on, where wanted from the grades of the set -/
theorem s_cA_all (ok : s_ok G K A U) : s_cA G A s ↔ (∀ k : Nat, (k : Int) < G 0 7 → mx_bit s k = 1 → A 5 k ≠ 1) ∧ ∀ gr : Nat, gr < 10 → s_wd G s gr (G 0 7).toNat ≤ s_sz A gr (10 - gr) := by
  have h7 := ok.1.2.2.2.2.1
  have hg := ok.1.2.2.2.2.2.2.2
  have w5 := ok.2.2.1.1.2.2.2.2.2
  refine ⟨fun h => ⟨fun k hk hb => (h k hk hb).1, ?_⟩, fun h k hk hb => ⟨h.1 k hk hb, ?_⟩⟩
  · have st : ∀ (gr : Nat), (∀ k : Nat, (k : Int) < G 0 7 → mx_bit s k = 1 → G 2 k ≠ gr) → ∀ k : Nat, (k : Int) ≤ G 0 7 → s_wd G s gr k = s_wd G s ((gr + 1 : Nat) : Int) k := by
      intro gr hn k
      induction k with
      | zero => intro _; rfl
      | succ k ih =>
        intro hk
        have ih := ih (by omega)
        show s_wd G s gr k + (if mx_bit s k = 1 ∧ (gr : Int) ≤ G 2 k then G 3 k else 0) = s_wd G s ((gr + 1 : Nat) : Int) k + (if mx_bit s k = 1 ∧ ((gr + 1 : Nat) : Int) ≤ G 2 k then G 3 k else 0)
        rw [ih]
        by_cases hb : mx_bit s k = 1
        · have hne := hn k (by omega) hb
          by_cases hl : (gr : Int) ≤ G 2 k
          · rw [if_pos ⟨hb, hl⟩, if_pos ⟨hb, by omega⟩]
          · rw [if_neg (fun z => hl z.2), if_neg (fun z => hl (by omega))]
        · rw [if_neg (fun z => hb z.1), if_neg (fun z => hb z.1)]
    have sz : ∀ gr : Nat, gr < 10 → s_sz A (gr + 1) (10 - (gr + 1)) ≤ s_sz A gr (10 - gr) := by
      intro gr hgr
      have e : ∀ m : Nat, s_sz A gr (m + 1) = A 6 gr + s_sz A (gr + 1) m := by
        intro m
        induction m with
        | zero => show (0 : Int) + A 6 (gr + 0) = A 6 gr + 0; rw [Nat.add_zero]; omega
        | succ m ih =>
          show s_sz A gr (m + 1) + A 6 (gr + (m + 1)) = A 6 gr + (s_sz A (gr + 1) m + A 6 (gr + 1 + m))
          rw [ih, show gr + (m + 1) = gr + 1 + m by omega]
          omega
      have e1 := e (10 - (gr + 1))
      rw [show 10 - (gr + 1) + 1 = 10 - gr by omega] at e1
      have := (w5 gr hgr).1
      omega
    have main : ∀ d : Nat, d ≤ 10 → s_wd G s ((10 - d : Nat) : Int) (G 0 7).toNat ≤ s_sz A (10 - d) (10 - (10 - d)) := by
      intro d
      induction d with
      | zero =>
        intro _
        have z : ∀ k : Nat, (k : Int) ≤ G 0 7 → s_wd G s ((10 : Nat) : Int) k = 0 := by
          intro k
          induction k with
          | zero => intro _; rfl
          | succ k ih =>
            intro hk
            have ih := ih (by omega)
            have h2 := (hg k (by omega)).1
            show s_wd G s ((10 : Nat) : Int) k + (if mx_bit s k = 1 ∧ ((10 : Nat) : Int) ≤ G 2 k then G 3 k else 0) = 0
            rw [ih, if_neg (fun z => by omega)]
            rfl
        have e := z (G 0 7).toNat (by omega)
        show s_wd G s ((10 : Nat) : Int) (G 0 7).toNat ≤ (0 : Int)
        omega
      | succ d ih =>
        intro hd
        have ih := ih (by omega)
        by_cases hx : ∃ k : Nat, (k : Int) < G 0 7 ∧ mx_bit s k = 1 ∧ G 2 k = ((10 - (d + 1) : Nat) : Int)
        · obtain ⟨k, hk, hb, he⟩ := hx
          have := (h k hk hb).2
          rw [he, show (((10 - (d + 1) : Nat) : Int)).toNat = 10 - (d + 1) by omega] at this
          exact this
        · have e := st (10 - (d + 1)) (fun k hk hb he => hx ⟨k, hk, hb, he⟩) (G 0 7).toNat (by omega)
          have e2 := sz (10 - (d + 1)) (by omega)
          rw [e]
          rw [show 10 - (d + 1) + 1 = 10 - d by omega] at e2 ⊢
          omega
    intro gr hgr
    have := main (10 - gr) (by omega)
    rw [show 10 - (10 - gr) = gr by omega] at this
    exact this
  · have h2 := (hg k hk).1
    have := h.2 (G 2 k).toNat (by omega)
    rw [show (((G 2 k).toNat : Nat) : Int) = G 2 k by omega] at this
    exact this
theorem s_bS_y {m : Nat} (h1 : 1 ≤ m) (h2 : s_cA G A m) (h3 : s_pd G (s_bS G A m) (G 0 7).toNat < s_pd G m (G 0 7).toNat ∨ s_pd G (s_bS G A m) (G 0 7).toNat = s_pd G m (G 0 7).toNat ∧ s_pc m < s_pc (s_bS G A m)) : s_bS G A (m + 1) = m := s_if_y ⟨h1, h2, h3⟩
theorem s_bS_n {m : Nat} (h : ¬ (s_cA G A m ∧ (s_pd G (s_bS G A m) (G 0 7).toNat < s_pd G m (G 0 7).toNat ∨ s_pd G (s_bS G A m) (G 0 7).toNat = s_pd G m (G 0 7).toNat ∧ s_pc m < s_pc (s_bS G A m)))) : s_bS G A (m + 1) = s_bS G A m := s_if_n (fun z => h z.2)
theorem s_bS_lt : ∀ m : Nat, s_bS G A m ≤ m - 1
  | 0 => Nat.le_refl _
  | m + 1 => by
    have ih := s_bS_lt m
    by_cases h : s_cA G A m ∧ (s_pd G (s_bS G A m) (G 0 7).toNat < s_pd G m (G 0 7).toNat ∨ s_pd G (s_bS G A m) (G 0 7).toNat = s_pd G m (G 0 7).toNat ∧ s_pc m < s_pc (s_bS G A m))
    · by_cases h1 : 1 ≤ m
      · rw [s_bS_y h1 h.1 h.2]
        omega
      · have : s_bS G A (m + 1) = s_bS G A m := s_if_n (fun z => h1 z.1)
        rw [this]
        omega
    · rw [s_bS_n h]
      omega
end EF
end
section
/-! SALE: both sides, 2 -/
section EG
variable {o oX oM g n p : Nat} {G A A' : aR} {K : Nat → List Int} {L L' : s_L} {U : s_U} {S S0 S1 SX SM : dg_S} {x x' r c v t : Int} {a a1 a2 a3 a4 b y : Int32} {s : Nat}
theorem cx_wanted (ok : s_ok G K A U) (h : RX o g G K A L U x S) (ha : a1.toInt = s) (hs : s < 32) {gr : Int} (hg : a2.toInt = gr) : (F_d_wantedFrom o S a1 a2).toInt = s_wd G s gr (G 0 7).toNat := by
  have z0 : (0 : Int32).toInt = 0 := by decide +kernel
  have z1 : (1 : Int32).toInt = 1 := by decide +kernel
  have h7 := ok.1.2.2.2.2.1
  obtain ⟨-, -, -, -, -, f11⟩ := h.2.1.2.1
  have ho := h.2.1.2.2.2.2
  rw [F_d_wantedFrom_p5]
  refine lp_cnt (f := F_d_wantedFrom_B1 o S a1 a2) (z := (0 : Int32)) (W := (G 0 7).toNat) (P := fun k u => u.toInt = s_wd G s gr k) (Q := fun q => q.toInt = s_wd G s gr (G 0 7).toNat) (by omega) (fun k kI u hk hkI hP => ?_) (fun kI u hkI hP => ?_) ((6 - ((0 : Int32)).toInt).toNat + 1) 0 0 0 (by rw [z0]; omega) (by omega) z0 z0
  · have hP : u.toInt = s_wd G s gr k := hP
    have kn : kI.toNatClampNeg = k := by rw [dk_clN]; omega
    have q0 : ¬ zI S g 11 ≤ kI := fun z => by have := w_le.mp z; omega
    have bw := s_wd_b (s := s) (gr := gr) ok k (by omega)
    have h3 := (ok.1.2.2.2.2.2.2.2 k (by omega)).2.1
    obtain ⟨o2, o3, -⟩ := ho k (by omega)
    obtain ⟨b1, b2⟩ := w_bit (a := a1) (b := kI) (by omega) (by omega)
    rw [ha, hkI, show ((k : Int)).toNat = k by omega] at b1 b2
    have stay : (if mx_bit s k = 1 ∧ gr ≤ G 2 k then G 3 k else 0) = 0 → F_d_wantedFrom_B1 o S a1 a2 (kI, u) = F_d_wantedFrom_J2 kI u → ∃ s1, F_d_wantedFrom_B1 o S a1 a2 (kI, u) = .inl (kI + 1, s1) ∧ s1.toInt = s_wd G s gr (k + 1) := fun e0 e => by
      refine ⟨u, e.trans (F_d_wantedFrom_p1 rfl), ?_⟩
      show u.toInt = s_wd G s gr k + (if mx_bit s k = 1 ∧ gr ≤ G 2 k then G 3 k else 0)
      rw [e0, hP]
      omega
    by_cases q1 : (a1 >>> (kI &&& 31)) &&& (1 : Int32) = (1 : Int32)
    · have d1 := dk_eqc z1 q1
      rw [b1] at d1
      by_cases q2 : S.2.1 (g + 6) kI.toNatClampNeg < a2
      · have d2 := w_lt.mp q2
        rw [kn, o2, hg] at d2
        exact stay (if_neg (fun z => by omega)) (F_d_wantedFrom_p3 h.1.symm rfl q0 rfl rfl q1 rfl q2)
      · have d2 : ¬ (S.2.1 (g + 6) kI.toNatClampNeg).toInt < a2.toInt := fun z => q2 (w_lt.mpr z)
        rw [kn, o2, hg] at d2
        refine ⟨u + S.2.1 (g + 7) kI.toNatClampNeg, (F_d_wantedFrom_p4 h.1.symm rfl q0 rfl rfl q1 rfl q2 rfl rfl).trans (F_d_wantedFrom_p1 rfl), ?_⟩
        show (u + S.2.1 (g + 7) kI.toNatClampNeg).toInt = s_wd G s gr k + (if mx_bit s k = 1 ∧ gr ≤ G 2 k then G 3 k else 0)
        rw [if_pos ⟨d1, by omega⟩, kn]
        exact dk_addT hP o3 (by omega) (by omega)
    · have d1 := dk_neqc z1 q1
      rw [b1] at d1
      exact stay (if_neg (fun z => d1 z.1)) (F_d_wantedFrom_p2 h.1.symm rfl q0 rfl rfl q1)
  · exact ⟨u, F_d_wantedFrom_p0 h.1.symm rfl (w_le.mpr (by omega)), hP⟩
theorem cx_paid (ok : s_ok G K A U) (h : RX o g G K A L U x S) (ha : a1.toInt = s) (hs : s < 32) : (F_d_paidFor o S a1).toInt = s_pd G s (G 0 7).toNat := by
  have z0 : (0 : Int32).toInt = 0 := by decide +kernel
  have z1 : (1 : Int32).toInt = 1 := by decide +kernel
  have h7 := ok.1.2.2.2.2.1
  obtain ⟨-, -, -, -, -, f11⟩ := h.2.1.2.1
  have ho := h.2.1.2.2.2.2
  rw [F_d_paidFor_p4]
  refine lp_cnt (f := F_d_paidFor_B1 o S a1) (z := (0 : Int32)) (W := (G 0 7).toNat) (P := fun k u => u.toInt = s_pd G s k) (Q := fun q => q.toInt = s_pd G s (G 0 7).toNat) (by omega) (fun k kI u hk hkI hP => ?_) (fun kI u hkI hP => ?_) ((6 - ((0 : Int32)).toInt).toNat + 1) 0 0 0 (by rw [z0]; omega) (by omega) z0 z0
  · have hP : u.toInt = s_pd G s k := hP
    have kn : kI.toNatClampNeg = k := by rw [dk_clN]; omega
    have q0 : ¬ zI S g 11 ≤ kI := fun z => by have := w_le.mp z; omega
    have bw := s_pd_b (s := s) ok k (by omega)
    have h3 := (ok.1.2.2.2.2.2.2.2 k (by omega)).2.2
    obtain ⟨-, -, o4⟩ := ho k (by omega)
    obtain ⟨b1, b2⟩ := w_bit (a := a1) (b := kI) (by omega) (by omega)
    rw [ha, hkI, show ((k : Int)).toNat = k by omega] at b1 b2
    by_cases q1 : (a1 >>> (kI &&& 31)) &&& (1 : Int32) = (1 : Int32)
    · have d1 := dk_eqc z1 q1
      rw [b1] at d1
      refine ⟨u + S.2.1 (g + 8) kI.toNatClampNeg, (F_d_paidFor_p3 h.1.symm rfl q0 rfl rfl q1 rfl rfl).trans (F_d_paidFor_p1 rfl), ?_⟩
      show (u + S.2.1 (g + 8) kI.toNatClampNeg).toInt = s_pd G s k + (if mx_bit s k = 1 then G 4 k else 0)
      rw [if_pos d1, kn]
      exact dk_addT hP o4 (by omega) (by omega)
    · have d1 := dk_neqc z1 q1
      rw [b1] at d1
      refine ⟨u, (F_d_paidFor_p2 h.1.symm rfl q0 rfl rfl q1).trans (F_d_paidFor_p1 rfl), ?_⟩
      show u.toInt = s_pd G s k + (if mx_bit s k = 1 then G 4 k else 0)
      rw [if_neg d1, hP]
      omega
  · exact ⟨u, F_d_paidFor_p0 h.1.symm rfl (w_le.mpr (by omega)), hP⟩
theorem cx_canAll (ok : s_ok G K A U) (h : RX o g G K A L U x S) (ha : a1.toInt = s) (hs : s < 32) : F_d_canAllBeSold o S a1 = 1 ∧ s_cA G A s ∨ F_d_canAllBeSold o S a1 = 0 ∧ ¬ s_cA G A s := by
  have z0 : (0 : Int32).toInt = 0 := by decide +kernel
  have z1 : (1 : Int32).toInt = 1 := by decide +kernel
  have h7 := ok.1.2.2.2.2.1
  obtain ⟨-, -, -, -, -, f11⟩ := h.2.1.2.1
  have ho := h.2.1.2.2.2.2
  have w5 := ok.2.2.1.1
  rw [F_d_canAllBeSold_p6]
  refine lp_cnt1 (f := F_d_canAllBeSold_B1 o S a1) (z := (0 : Int32)) (W := (G 0 7).toNat) (P := fun k => ∀ j : Nat, j < k → mx_bit s j = 1 → A 5 j ≠ 1 ∧ s_wd G s (G 2 j) (G 0 7).toNat ≤ s_sz A (G 2 j).toNat (10 - (G 2 j).toNat)) (Q := fun q => q = 1 ∧ s_cA G A s ∨ q = 0 ∧ ¬ s_cA G A s) (by omega) (fun k kI hk hkI hP => ?_) (fun kI hkI hP => ?_) ((6 - ((0 : Int32)).toInt).toNat + 1) 0 0 (by rw [z0]; omega) (by omega) z0 (fun j hj => absurd hj (Nat.not_lt_zero j))
  · have kn : kI.toNatClampNeg = k := by rw [dk_clN]; omega
    have q0 : ¬ zI S g 11 ≤ kI := fun z => by have := w_le.mp z; omega
    have hgk := ok.1.2.2.2.2.2.2.2 k (by omega)
    obtain ⟨o2, o3, o4⟩ := ho k (by omega)
    obtain ⟨b1, b2⟩ := w_bit (a := a1) (b := kI) (by omega) (by omega)
    rw [ha, hkI, show ((k : Int)).toNat = k by omega] at b1 b2
    by_cases q1 : (a1 >>> (kI &&& 31)) &&& (1 : Int32) = (0 : Int32)
    · have d1 := dk_eqc z0 q1
      rw [b1] at d1
      refine Or.inl ⟨(F_d_canAllBeSold_p5 h.1.symm rfl q0 rfl rfl q1).trans (F_d_canAllBeSold_p1 rfl), fun j hj hb => ?_⟩
      by_cases u : j = k
      · subst u
        omega
      · exact hP j (by omega) hb
    · have d1 := dk_neqc z0 q1
      rw [b1] at d1
      have hb : mx_bit s k = 1 := by omega
      have hsd : (S.2.1 8 kI.toNatClampNeg).toInt = A 5 k := by rw [kn]; exact h.2.2.1.2.2.2.2.2.1 k (by omega)
      by_cases q2 : S.2.1 8 kI.toNatClampNeg = (1 : Int32)
      · have d2 := dk_eqc z1 q2
        rw [hsd] at d2
        exact Or.inr ⟨0, F_d_canAllBeSold_p2 h.1.symm rfl q0 rfl rfl q1 rfl q2, Or.inr ⟨rfl, fun z => (z k (by omega) hb).1 d2⟩⟩
      · have d2 := dk_neqc z1 q2
        rw [hsd] at d2
        have o2' : (S.2.1 (g + 6) kI.toNatClampNeg).toInt = G 2 k := by rw [kn]; exact o2
        have ew := cx_wanted (o := o) (a1 := a1) (a2 := S.2.1 (g + 6) kI.toNatClampNeg) ok h ha hs o2'
        have et := cx_tubsFrom (o := o) (a1 := S.2.1 (g + 6) kI.toNatClampNeg) (n := (G 2 k).toNat) h.2.2.1 w5 (by rw [o2']; omega) (by omega)
        by_cases q3 : F_d_wantedFrom o S a1 (S.2.1 (g + 6) kI.toNatClampNeg) ≤ F_p_tubsFrom o S 3 (S.2.1 (g + 6) kI.toNatClampNeg)
        · have d3 := w_le.mp q3
          rw [ew, et] at d3
          refine Or.inl ⟨(F_d_canAllBeSold_p3 h.1.symm rfl q0 rfl rfl q1 rfl rfl q2 rfl rfl q3).trans (F_d_canAllBeSold_p1 rfl), fun j hj hb' => ?_⟩
          by_cases u : j = k
          · subst u
            exact ⟨d2, d3⟩
          · exact hP j (by omega) hb'
        · have d3 : ¬ (F_d_wantedFrom o S a1 (S.2.1 (g + 6) kI.toNatClampNeg)).toInt ≤ (F_p_tubsFrom o S 3 (S.2.1 (g + 6) kI.toNatClampNeg)).toInt := fun z => q3 (w_le.mpr z)
          rw [ew, et] at d3
          exact Or.inr ⟨0, F_d_canAllBeSold_p4 h.1.symm rfl q0 rfl rfl q1 rfl rfl q2 rfl rfl q3, Or.inr ⟨rfl, fun z => d3 (z k (by omega) hb).2⟩⟩
  · exact ⟨1, F_d_canAllBeSold_p0 h.1.symm rfl (w_le.mpr (by omega)), Or.inl ⟨rfl, fun k hk hb => hP k (by omega) hb⟩⟩
/-- better than the best so far -/
def s_bt (G : aR) (m b : Nat) : Prop := s_pd G b (G 0 7).toNat < s_pd G m (G 0 7).toNat ∨ s_pd G b (G 0 7).toNat = s_pd G m (G 0 7).toNat ∧ s_pc m < s_pc b
theorem cx_better (ok : s_ok G K A U) (h : RX o g G K A L U x S) (ha : a1.toInt = s) (hs : s < 32) {b : Nat} (hb : a2.toInt = b) (hb9 : b < 32) : F_d_isBetterSale o S a1 a2 = 1 ∧ s_bt G s b ∨ F_d_isBetterSale o S a1 a2 = 0 ∧ ¬ s_bt G s b := by
  have z0 : (0 : Int32).toInt = 0 := by decide +kernel
  have h7 := ok.1.2.2.2.2.1
  have e1 := cx_paid (o := o) ok h ha hs
  have e2 := cx_paid (o := o) ok h hb hb9
  have b1 := s_pd_b (s := s) ok (G 0 7).toNat (by omega)
  have b2 := s_pd_b (s := b) ok (G 0 7).toNat (by omega)
  have e5 : (F_d_paidFor o S a1 - F_d_paidFor o S a2).toInt = s_pd G s (G 0 7).toNat - s_pd G b (G 0 7).toNat := dk_subT e1 e2 (by omega) (by omega)
  unfold s_bt
  by_cases q1 : (0 : Int32) < F_d_paidFor o S a1 - F_d_paidFor o S a2
  · have d1 := dk_gtc z0 q1
    exact Or.inl ⟨F_d_isBetterSale_p0 rfl rfl rfl q1, Or.inl (by omega)⟩
  have d1 := dk_ngtc z0 q1
  by_cases q2 : F_d_paidFor o S a1 - F_d_paidFor o S a2 = (0 : Int32)
  · have d2 := dk_eqc z0 q2
    have p1 := w_pc (o := o) (S := S) (a := a1) (by omega)
    have p2 := w_pc (o := o) (S := S) (a := a2) (by omega)
    rw [ha, show ((s : Int)).toNat = s by omega] at p1
    rw [hb, show ((b : Int)).toNat = b by omega] at p2
    by_cases q3 : F_bitCount o S a2 ≤ F_bitCount o S a1
    · have d3 := w_le.mp q3
      rw [p1, p2] at d3
      exact Or.inr ⟨F_d_isBetterSale_p2 rfl rfl rfl q1 q2 rfl rfl q3, fun z => by rcases z with z | z <;> omega⟩
    · have d3 : ¬ (F_bitCount o S a2).toInt ≤ (F_bitCount o S a1).toInt := fun z => q3 (w_le.mpr z)
      rw [p1, p2] at d3
      exact Or.inl ⟨F_d_isBetterSale_p3 rfl rfl rfl q1 q2 rfl rfl q3, Or.inr ⟨by omega, by omega⟩⟩
  · have d2 := dk_neqc z0 q2
    exact Or.inr ⟨F_d_isBetterSale_p1 rfl rfl rfl q1 q2, fun z => by rcases z with z | z <;> omega⟩
/-- what sale tells -/
noncomputable def s_sV (G A : aR) (w : Int) : Int := if w = 0 then (s_bS G A (2 ^ (G 0 7).toNat) : Int) else if w = 1 then s_pd G (s_bS G A (2 ^ (G 0 7).toNat)) (G 0 7).toNat else -1
theorem cx_sale (ok : s_ok G K A U) (h : RX o g G K A L U x S) : (F_d_sale o S a1).toInt = s_sV G A a1.toInt := by
  have z0 : (0 : Int32).toInt = 0 := by decide +kernel
  have z1 : (1 : Int32).toInt = 1 := by decide +kernel
  have m1 : (-1 : Int32).toInt = -1 := by decide +kernel
  have h7 := ok.1.2.2.2.2.1
  obtain ⟨-, -, -, -, -, f11⟩ := h.2.1.2.1
  obtain ⟨w1, w2⟩ := w_shl1 (a := zI S g 11) (by omega)
  rw [f11] at w1 w2
  have hpos : 1 ≤ 2 ^ (G 0 7).toNat := Nat.one_le_two_pow
  have main : (a1 = (0 : Int32) ∨ a1 = (1 : Int32)) → (F_d_sale_J1 o S a1).toInt = s_sV G A a1.toInt := fun hw => by
    rw [F_d_sale_p6]
    refine lp_cnt (f := F_d_sale_B2 o S a1) (z := (0 : Int32)) (W := 2 ^ (G 0 7).toNat) (P := fun k u => u.toInt = s_bS G A k) (Q := fun q => q.toInt = s_sV G A a1.toInt) (by omega) (fun k kI u hk hkI hP => ?_) (fun kI u hkI hP => ?_) ((2147483648 - ((1 : Int32)).toInt).toNat + 1) 1 1 0 (by rw [z1]; omega) hpos z1 (by
      show (0 : Int32).toInt = ((s_bS G A 1 : Nat) : Int)
      have : s_bS G A 1 = 0 := by
        have := s_bS_lt (G := G) (A := A) 1
        omega
      rw [this, z0]
      rfl)
    · have hP : u.toInt = ((s_bS G A k : Nat) : Int) := hP
      have q0 : ¬ (1 : Int32) <<< (zI S g 11 &&& 31) ≤ kI := fun z => by have := w_le.mp z; omega
      have bl := s_bS_lt (G := G) (A := A) k
      have stay : ¬ (s_cA G A k ∧ s_bt G k (s_bS G A k)) → F_d_sale_B2 o S a1 (kI, u) = F_d_sale_J3 kI u → ∃ s1, F_d_sale_B2 o S a1 (kI, u) = .inl (kI + 1, s1) ∧ s1.toInt = ((s_bS G A (k + 1) : Nat) : Int) := fun hn e => by
        refine ⟨u, e.trans (F_d_sale_p2 rfl), ?_⟩
        rw [s_bS_n hn]
        exact hP
      rcases cx_canAll (o := o) (a1 := kI) ok h hkI (by omega) with ⟨e, v⟩ | ⟨e, v⟩
      rotate_left
      · exact stay (fun z => v z.1) (F_d_sale_p3 h.1.symm rfl rfl q0 rfl e)
      have ne : ¬ F_d_canAllBeSold o S kI = (0 : Int32) := by rw [e]; decide +kernel
      by_cases k1 : 1 ≤ k
      rotate_left
      · have k0 : k = 0 := by omega
        subst k0
        -- the counter begins at 1
        have hb0 : s_bS G A 0 = 0 := rfl
        rcases cx_better (o := o) (a1 := kI) (a2 := u) (b := s_bS G A 0) ok h hkI (by omega) hP (by omega) with ⟨f, w⟩ | ⟨f, w⟩
        · exfalso
          rw [hb0] at w
          unfold s_bt at w
          omega
        · exact stay (fun z => w z.2) (F_d_sale_p4 h.1.symm rfl rfl q0 rfl ne rfl f)
      rcases cx_better (o := o) (a1 := kI) (a2 := u) (b := s_bS G A k) ok h hkI (by omega) hP (by omega) with ⟨f, w⟩ | ⟨f, w⟩
      · have nf : ¬ F_d_isBetterSale o S kI u = (0 : Int32) := by rw [f]; decide +kernel
        refine ⟨kI, (F_d_sale_p5 h.1.symm rfl rfl q0 rfl ne rfl nf).trans (F_d_sale_p2 rfl), ?_⟩
        rw [s_bS_y k1 v w]
        exact hkI
      · exact stay (fun z => w z.2) (F_d_sale_p4 h.1.symm rfl rfl q0 rfl ne rfl f)
    · have hP : u.toInt = ((s_bS G A (2 ^ (G 0 7).toNat) : Nat) : Int) := hP
      have bl := s_bS_lt (G := G) (A := A) (2 ^ (G 0 7).toNat)
      have q0 : (1 : Int32) <<< (zI S g 11 &&& 31) ≤ kI := w_le.mpr (by omega)
      unfold s_sV
      by_cases c0 : a1 = (0 : Int32)
      · have d0 := dk_eqc z0 c0
        refine ⟨u, F_d_sale_p1 h.1.symm rfl rfl q0 c0, ?_⟩
        rw [if_pos d0]
        exact hP
      · have d0 := dk_neqc z0 c0
        have d1 : a1.toInt = 1 := by
          rcases hw with hw | hw
          · exact absurd hw c0
          · exact dk_eqc z1 hw
        refine ⟨_, F_d_sale_p0 h.1.symm rfl rfl q0 c0 rfl, ?_⟩
        rw [if_neg d0, if_pos d1]
        exact cx_paid ok h hP (by omega)
  by_cases c0 : a1 = (0 : Int32)
  · rw [F_d_sale_p7 c0]
    exact main (Or.inl c0)
  by_cases c1 : a1 = (1 : Int32)
  · rw [F_d_sale_p8 c0 c1]
    exact main (Or.inr c1)
  · have d0 := dk_neqc z0 c0
    have d1 := dk_neqc z1 c1
    rw [F_d_sale_p9 c0 c1, m1]
    unfold s_sV
    rw [if_neg d0, if_neg d1]
end EG
end
section
/-! SALE: the reference; both sides -/
section EH
variable {o oX oM g n p : Nat} {G A A' : aR} {K : Nat → List Int} {L L' : s_L} {U : s_U} {S S0 S1 SX SM : dg_S} {x x' r c v t : Int} {a a1 a2 a3 a4 b y : Int32} {s : Nat}
/-- the bank, as a number -/
theorem mx_bank (h : RM G K A L U x S) : ∃ b : Nat, b ≤ 1 ∧ (zI S 0 13).toInt = b ∧ (zI S 0 13).toNatClampNeg = b := by
  obtain ⟨b, hb1, hbk, -⟩ := h.1.1.2
  exact ⟨b, hb1, hbk, by rw [dk_clN]; omega⟩
theorem mx_areTubs (ok : s_ok G K A U) (h : RM G K A L U x S) (ha : a1.toInt = s) (hs : s < 32) : F_m_areTubs o S a1 = 1 ∧ (∀ gr : Nat, gr < 10 → s_wd G s gr (G 0 7).toNat ≤ s_sz A gr (10 - gr)) ∨ F_m_areTubs o S a1 = 0 ∧ ¬ (∀ gr : Nat, gr < 10 → s_wd G s gr (G 0 7).toNat ≤ s_sz A gr (10 - gr)) := by
  have z0 : (0 : Int32).toInt = 0 := by decide +kernel
  have z10 : (10 : Int32).toInt = 10 := by decide +kernel
  have e5 : (5 : Int32).toInt = ((5 : Nat) : Int) := by decide +kernel
  have h7 := ok.1.2.2.2.2.1
  obtain ⟨b, hb1, hbk, bn⟩ := mx_bank h
  have f12 : (S.2.1 12 (zI S 0 13).toNatClampNeg).toInt = G 0 7 := h.1.2.1.2.2.2
  have ho := h.1.2.2.2.2
  rw [F_m_areTubs_p10]
  refine lp_cnt1 (f := F_m_areTubs_B1 S o a1) (z := (0 : Int32)) (W := 10) (P := fun k => ∀ gr : Nat, gr < k → s_wd G s gr (G 0 7).toNat ≤ s_sz A gr (10 - gr)) (Q := fun q => q = 1 ∧ (∀ gr : Nat, gr < 10 → s_wd G s gr (G 0 7).toNat ≤ s_sz A gr (10 - gr)) ∨ q = 0 ∧ ¬ (∀ gr : Nat, gr < 10 → s_wd G s gr (G 0 7).toNat ≤ s_sz A gr (10 - gr))) (by decide) (fun i iI hi hiI hP => ?_) (fun iI hiI hP => ⟨1, F_m_areTubs_p0 (dk_gep z10 (by omega)), Or.inl ⟨rfl, hP⟩⟩) ((11 - ((0 : Int32)).toInt).toNat + 1) 0 0 (by rw [z0]; decide) (by decide) z0 (fun j hj => absurd hj (Nat.not_lt_zero j))
  have q0 : ¬ (10 : Int32) ≤ iI := fun z => by have := dk_gec z10 z; omega
  have inn := lp_cnt (f := F_m_areTubs_B3 S o iI a1) (z := (Sum.inr (0 : Int32) : Int32 ⊕ Int32)) (W := (G 0 7).toNat) (P := fun k u => u.toInt = s_wd G s i k) (Q := fun q => ∃ w : Int32, q = F_m_areTubs_J2 o S iI w ∧ w.toInt = s_wd G s i (G 0 7).toNat) (by omega) (fun k kI u hk hkI hP => by
    have hP : u.toInt = s_wd G s i k := hP
    have q1 : ¬ S.2.1 12 (zI S 0 13).toNatClampNeg ≤ kI := fun z => by have := w_le.mp z; omega
    have bw := s_wd_b (s := s) (gr := (i : Int)) ok k (by omega)
    have h3 := (ok.1.2.2.2.2.2.2.2 k (by omega)).2.1
    obtain ⟨o2, o3, -⟩ := ho k (by omega)
    rw [bn] at o2 o3
    have pl : ((5 : Int32) * zI S 0 13 + kI).toNatClampNeg = 5 * b + k := mx_pl (c := k) hbk (by omega) hkI (by omega) e5 (by omega) (by omega)
    have stay : (if mx_bit s k = 1 ∧ (i : Int) ≤ G 2 k then G 3 k else 0) = 0 → F_m_areTubs_B3 S o iI a1 (kI, u) = F_m_areTubs_J5 u kI → ∃ s1, F_m_areTubs_B3 S o iI a1 (kI, u) = .inl (kI + 1, s1) ∧ s1.toInt = s_wd G s i (k + 1) := fun e0 e => by
      refine ⟨u + (0 : Int32), (e.trans F_m_areTubs_p5).trans (F_m_areTubs_p4 rfl rfl), ?_⟩
      show (u + (0 : Int32)).toInt = s_wd G s i k + (if mx_bit s k = 1 ∧ (i : Int) ≤ G 2 k then G 3 k else 0)
      rw [e0, dk_addT hP z0 (by omega) (by omega)]
    rcases mx_has2 (o := o) (S := S) (a := a1) (b := kI) (by omega) (by omega) with ⟨e, v⟩ | ⟨e, v⟩
    rotate_left
    · rw [ha, hkI, show ((k : Int)).toNat = k by omega] at v
      exact stay (if_neg (fun z => by omega)) (F_m_areTubs_p6 rfl rfl q1 rfl e)
    rw [ha, hkI, show ((k : Int)).toNat = k by omega] at v
    have n1 : ¬ F_m_has2 o S a1 kI = (0 : Int32) := by rw [e]; decide +kernel
    by_cases q2 : S.2.1 13 ((5 : Int32) * zI S 0 13 + kI).toNatClampNeg < iI
    · have d2 := w_lt.mp q2
      rw [pl, o2, hiI] at d2
      exact stay (if_neg (fun z => by omega)) (F_m_areTubs_p7 rfl rfl q1 rfl n1 rfl rfl rfl q2)
    · have d2 : ¬ (S.2.1 13 ((5 : Int32) * zI S 0 13 + kI).toNatClampNeg).toInt < iI.toInt := fun z => q2 (w_lt.mpr z)
      rw [pl, o2, hiI] at d2
      refine ⟨u + S.2.1 14 ((5 : Int32) * zI S 0 13 + kI).toNatClampNeg, (F_m_areTubs_p8 rfl rfl q1 rfl n1 rfl rfl rfl q2 rfl rfl rfl).trans (F_m_areTubs_p4 rfl rfl), ?_⟩
      show (u + S.2.1 14 ((5 : Int32) * zI S 0 13 + kI).toNatClampNeg).toInt = s_wd G s i k + (if mx_bit s k = 1 ∧ (i : Int) ≤ G 2 k then G 3 k else 0)
      rw [if_pos ⟨v, by omega⟩, pl]
      exact dk_addT hP o3 (by omega) (by omega)) (fun kI u hkI hP => ⟨_, F_m_areTubs_p3 rfl rfl (w_le.mpr (by omega)), u, rfl, hP⟩) ((6 - ((0 : Int32)).toInt).toNat + 1) 0 0 0 (by rw [z0]; omega) (by omega) z0 z0
  obtain ⟨w, e1, e2⟩ := inn
  have et := mx_tubsFrom (o := o) (a1 := 0) (a2 := iI) (n := i) h.2.1 ok.2.2.1.1 z0 (by decide) hiI (by omega)
  have Q := (F_m_areTubs_p9 (S := S) (o := o) (a1 := a1) q0).trans e1
  by_cases q3 : w ≤ F_m_tubsFrom o S (0 : Int32) iI
  · have d3 := w_le.mp q3
    rw [e2, et] at d3
    refine Or.inl ⟨Q.trans (F_m_areTubs_p1 rfl q3 rfl), fun j hj => ?_⟩
    by_cases u : j = i
    · subst u
      exact d3
    · exact hP j (by omega)
  · have d3 : ¬ w.toInt ≤ (F_m_tubsFrom o S (0 : Int32) iI).toInt := fun z => q3 (w_le.mpr z)
    rw [e2, et] at d3
    exact Or.inr ⟨0, Q.trans (F_m_areTubs_p2 rfl q3), Or.inr ⟨rfl, fun z => d3 (z i (by omega))⟩⟩
/-- sold orders of a set -/
theorem w_and0 (ha : a.toInt = s) (hs : s < 32) (hb : 0 ≤ b.toInt ∧ b.toInt < 64) : a &&& b = (0 : Int32) ↔ ∀ k, k < 5 → ¬ (mx_bit s k = 1 ∧ mx_bit b.toInt k = 1) := by
  have key : ∀ s : Nat, s < 32 → ∀ d : Nat, d < 64 → ((Int32.ofInt (s : Int) &&& Int32.ofInt (d : Int) = 0) ↔ ∀ k, k < 5 → ¬ (mx_bit (s : Int) k = 1 ∧ mx_bit (d : Int) k = 1)) := by decide +kernel
  have e1 := key s hs b.toInt.toNat (by omega)
  rw [show ((b.toInt.toNat : Nat) : Int) = b.toInt by omega, ← ha, Int32.ofInt_toInt, Int32.ofInt_toInt, ha] at e1
  exact e1
theorem s_bit_lt : ∀ n : Nat, n < 6 → ∀ s : Nat, s < 2 ^ n → ∀ k, k < 5 → mx_bit (s : Int) k = 1 → k < n := by decide +kernel
theorem mx_sale (ok : s_ok G K A U) (h : RM G K A L U x S) : (F_m_sale o S a1).toInt = s_sV G A a1.toInt := by
  have z0 : (0 : Int32).toInt = 0 := by decide +kernel
  have z1 : (1 : Int32).toInt = 1 := by decide +kernel
  have m1 : (-1 : Int32).toInt = -1 := by decide +kernel
  have n0 : (0 : Int32).toNatClampNeg = 0 := by decide +kernel
  have e5 : (5 : Int32).toInt = ((5 : Nat) : Int) := by decide +kernel
  have h7 := ok.1.2.2.2.2.1
  obtain ⟨b, hb1, hbk, bn⟩ := mx_bank h
  have f12 : (S.2.1 12 (zI S 0 13).toNatClampNeg).toInt = G 0 7 := h.1.2.1.2.2.2
  have ho := h.1.2.2.2.2
  obtain ⟨sb1, sb2⟩ := h.2.1.2.2.2.2.2.1
  obtain ⟨w1, w2⟩ := w_shl1 (a := S.2.1 12 (zI S 0 13).toNatClampNeg) (by omega)
  rw [f12] at w1 w2
  have hpos : 1 ≤ 2 ^ (G 0 7).toNat := Nat.one_le_two_pow
  have hj := mx_is (o := o) (S := S) (a := a1) (b := 0) (c := 1)
  rw [z0, z1] at hj
  rcases hj with ⟨f, u⟩ | ⟨f, u⟩
  rotate_left
  · rw [F_m_sale_p16 rfl f, m1]
    unfold s_sV
    rw [if_neg (by omega), if_neg (by omega)]
  have nf : ¬ F_m_is o S a1 (0 : Int32) (1 : Int32) = (0 : Int32) := by rw [f]; decide +kernel
  rw [F_m_sale_p15 rfl nf]
  refine lp_cnt (f := F_m_sale_B1 S a1 o) (z := (0 : Int32)) (W := 2 ^ (G 0 7).toNat) (P := fun k u => u.1.toInt = s_pd G (s_bS G A k) (G 0 7).toNat ∧ u.2.toInt = s_bS G A k ∧ 1 ≤ k) (Q := fun q => q.toInt = s_sV G A a1.toInt) (by omega) (fun k kI u hk hkI hP => ?_) (fun kI u hkI hP => ?_) ((2147483648 - ((1 : Int32)).toInt).toNat + 1) 1 1 (0, 0) (by rw [z1]; omega) hpos z1 (by
    have e : s_bS G A 1 = 0 := by
      have := s_bS_lt (G := G) (A := A) 1
      omega
    have ez : ∀ m : Nat, s_pd G 0 m = 0 := fun m => by
      induction m with
      | zero => rfl
      | succ m ih =>
        show s_pd G 0 m + (if mx_bit ((0 : Nat) : Int) m = 1 then G 4 m else 0) = 0
        have e0 : mx_bit ((0 : Nat) : Int) m = 0 := by
          unfold mx_bit
          simp
        rw [ih, e0, if_neg (by decide)]
        rfl
    rw [e, ez]
    exact ⟨z0, z0, Nat.le_refl _⟩)
  · obtain ⟨mo, be⟩ := u
    obtain ⟨p1, p2, k1⟩ := hP
    have p1 : mo.toInt = s_pd G (s_bS G A k) (G 0 7).toNat := p1
    have p2 : be.toInt = ((s_bS G A k : Nat) : Int) := p2
    have q0 : ¬ (1 : Int32) <<< (S.2.1 12 (zI S 0 13).toNatClampNeg &&& 31) ≤ kI := fun z => by have := w_le.mp z; omega
    have bl := s_bS_lt (G := G) (A := A) k
    have stay : ¬ (s_cA G A k ∧ s_bt G k (s_bS G A k)) → F_m_sale_B1 S a1 o (kI, mo, be) = F_m_sale_J2 kI mo be → ∃ s1, F_m_sale_B1 S a1 o (kI, mo, be) = .inl (kI + 1, s1) ∧ s1.1.toInt = s_pd G (s_bS G A (k + 1)) (G 0 7).toNat ∧ s1.2.toInt = s_bS G A (k + 1) ∧ 1 ≤ k + 1 := fun hn e => by
      refine ⟨(mo, be), e.trans (F_m_sale_p2 rfl), ?_⟩
      rw [s_bS_n hn]
      exact ⟨p1, p2, by omega⟩
    have hand := w_and0 (a := kI) (b := S.2.1 34 (0 : Int32).toNatClampNeg) hkI (by omega) (by rw [n0]; exact sb1)
    have hall := s_cA_all (A := A) (s := k) ok
    by_cases q1 : kI &&& S.2.1 34 (0 : Int32).toNatClampNeg = (0 : Int32)
    rotate_left
    · refine stay (fun z => ?_) (F_m_sale_p3 rfl rfl rfl q0 rfl rfl q1)
      apply q1
      rw [hand]
      intro j hj hz
      rw [n0, ← sb2 j hj] at hz
      have hl := s_bit_lt (G 0 7).toNat (by omega) k hk j hj hz.1
      exact (hall.mp z.1).1 j (by omega) hz.1 hz.2
    have hsold : ∀ j : Nat, (j : Int) < G 0 7 → mx_bit k j = 1 → A 5 j ≠ 1 := fun j hj hz hs => by
      have := (hand.mp q1) j (by omega)
      rw [n0, ← sb2 j (by omega)] at this
      exact this ⟨hz, hs⟩
    rcases mx_areTubs (o := o) (a1 := kI) ok h hkI (by omega) with ⟨e, v⟩ | ⟨e, v⟩
    rotate_left
    · exact stay (fun z => v (hall.mp z.1).2) (F_m_sale_p14 rfl rfl rfl q0 rfl rfl q1 rfl e)
    have ne : ¬ F_m_areTubs o S kI = (0 : Int32) := by rw [e]; decide +kernel
    have hcA : s_cA G A k := hall.mpr ⟨hsold, v⟩
    have inn := lp_cnt (f := F_m_sale_B5 (S.2.1 12 (zI S 0 13).toNatClampNeg) mo kI be o S (zI S 0 13)) (z := (Sum.inr (0 : Int32) : (Int32 × Int32 × Int32) ⊕ Int32)) (W := (G 0 7).toNat) (P := fun j w => w.toInt = s_pd G k j) (Q := fun q => ∃ w : Int32, q = F_m_sale_J3 w mo kI be o S ∧ w.toInt = s_pd G k (G 0 7).toNat) (by omega) (fun j jI w hj hjI hW => by
      have hW : w.toInt = s_pd G k j := hW
      have q2 : ¬ S.2.1 12 (zI S 0 13).toNatClampNeg ≤ jI := fun z => by have := w_le.mp z; omega
      have bw := s_pd_b (s := k) ok j (by omega)
      have h3 := (ok.1.2.2.2.2.2.2.2 j (by omega)).2.2
      obtain ⟨-, -, o4⟩ := ho j (by omega)
      rw [bn] at o4
      have pl : ((5 : Int32) * zI S 0 13 + jI).toNatClampNeg = 5 * b + j := mx_pl (c := j) hbk (by omega) hjI (by omega) e5 (by omega) (by omega)
      rcases mx_has2 (o := o) (S := S) (a := kI) (b := jI) (by omega) (by omega) with ⟨e, v⟩ | ⟨e, v⟩
      · rw [hkI, hjI, show ((j : Int)).toNat = j by omega] at v
        refine ⟨w + S.2.1 15 ((5 : Int32) * zI S 0 13 + jI).toNatClampNeg, (F_m_sale_p12 q2 rfl (by rw [e]; decide +kernel) rfl rfl rfl).trans (F_m_sale_p10 rfl rfl), ?_⟩
        show (w + S.2.1 15 ((5 : Int32) * zI S 0 13 + jI).toNatClampNeg).toInt = s_pd G k j + (if mx_bit k j = 1 then G 4 j else 0)
        rw [if_pos v, pl]
        exact dk_addT hW o4 (by omega) (by omega)
      · rw [hkI, hjI, show ((j : Int)).toNat = j by omega] at v
        refine ⟨w + (0 : Int32), (F_m_sale_p11 q2 rfl e).trans (F_m_sale_p10 rfl rfl), ?_⟩
        show (w + (0 : Int32)).toInt = s_pd G k j + (if mx_bit k j = 1 then G 4 j else 0)
        rw [if_neg (by omega)]
        exact dk_addT hW z0 (by omega) (by omega)) (fun jI w hjI hW => ⟨_, F_m_sale_p9 (w_le.mpr (by omega)), w, rfl, hW⟩) ((6 - ((0 : Int32)).toInt).toNat + 1) 0 0 0 (by rw [z0]; omega) (by omega) z0 z0
    obtain ⟨w, e1, e2⟩ := inn
    have Q := (F_m_sale_p13 (a1 := a1) (x_523 := mo) (x_524 := be) rfl rfl rfl q0 rfl rfl q1 rfl ne).trans e1
    have b1 := s_pd_b (s := k) ok (G 0 7).toNat (by omega)
    have take : s_bt G k (s_bS G A k) → F_m_sale_J3 w mo kI be o S = F_m_sale_J4 kI w → ∃ s1, F_m_sale_B1 S a1 o (kI, mo, be) = .inl (kI + 1, s1) ∧ s1.1.toInt = s_pd G (s_bS G A (k + 1)) (G 0 7).toNat ∧ s1.2.toInt = s_bS G A (k + 1) ∧ 1 ≤ k + 1 := fun hb e => by
      refine ⟨(w, kI), ((Q.trans e).trans F_m_sale_p5).trans (F_m_sale_p2 rfl), ?_⟩
      rw [s_bS_y k1 hcA hb]
      exact ⟨e2, hkI, by omega⟩
    by_cases q3 : w < mo
    · have d3 := w_lt.mp q3
      rw [e2, p1] at d3
      exact stay (fun z => by
        rcases z.2 with z | z <;> omega) (Q.trans (F_m_sale_p4 q3))
    have d3 : ¬ w.toInt < mo.toInt := fun z => q3 (w_lt.mpr z)
    rw [e2, p1] at d3
    by_cases q4 : w = mo
    · have d4 := w_eq.mp q4
      rw [e2, p1] at d4
      have c1 := w_bits (o := o) (S := S) (a := kI) (by omega)
      have c2 := w_bits (o := o) (S := S) (a := be) (by omega)
      rw [hkI, show ((k : Int)).toNat = k by omega] at c1
      rw [p2, show (((s_bS G A k : Nat) : Int)).toNat = s_bS G A k by omega] at c2
      by_cases q5 : F_m_bits o S kI < F_m_bits o S be
      · have d5 := w_lt.mp q5
        rw [c1, c2] at d5
        exact take (Or.inr ⟨by omega, by omega⟩) (F_m_sale_p7 q3 q4 rfl rfl q5)
      · have d5 : ¬ (F_m_bits o S kI).toInt < (F_m_bits o S be).toInt := fun z => q5 (w_lt.mpr z)
        rw [c1, c2] at d5
        exact stay (fun z => by
          rcases z.2 with z | z <;> omega) (Q.trans (F_m_sale_p8 q3 q4 rfl rfl q5))
    · have d4 : ¬ w.toInt = mo.toInt := fun z => q4 (w_eq.mpr z)
      rw [e2, p1] at d4
      exact take (Or.inl (by omega)) (F_m_sale_p6 q3 q4)
  · obtain ⟨mo, be⟩ := u
    obtain ⟨p1, p2, -⟩ := hP
    have p1 : mo.toInt = s_pd G (s_bS G A (2 ^ (G 0 7).toNat)) (G 0 7).toNat := p1
    have p2 : be.toInt = ((s_bS G A (2 ^ (G 0 7).toNat) : Nat) : Int) := p2
    have q0 : (1 : Int32) <<< (S.2.1 12 (zI S 0 13).toNatClampNeg &&& 31) ≤ kI := w_le.mpr (by omega)
    unfold s_sV
    by_cases c0 : a1 = (0 : Int32)
    · have d0 := dk_eqc z0 c0
      refine ⟨be, F_m_sale_p1 rfl rfl rfl q0 c0, ?_⟩
      rw [if_pos d0]
      exact p2
    · have d0 := dk_neqc z0 c0
      refine ⟨mo, F_m_sale_p0 rfl rfl rfl q0 c0, ?_⟩
      rw [if_neg d0, if_pos (by omega)]
      exact p1
/-- SALE on both sides -/
theorem sim_sale (ok : s_ok G K A U) (hX : RX oX g G K A L U x SX) (hM : RM G K A L U x SM) : F_d_sale oX SX a1 = F_m_sale oM SM a1 := Int32.toInt_inj.mp ((cx_sale ok hX).trans (mx_sale ok hM).symm)
end EH
end
