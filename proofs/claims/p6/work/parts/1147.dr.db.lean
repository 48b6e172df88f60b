/-! the class looks ahead -/
section DB
variable {o oX oM g n p : Nat} {G A A' : aR} {K : Nat → List Int} {L L' : s_L} {U : s_U} {S S0 S1 SX SM : dg_S} {x r c : Int} {a a1 a2 a3 : Int32}
/-- the works as they stand over a pit of trial -/
def cx_tr (o g p : Nat) (G : aR) (K : Nat → List Int) (r : Int) (A : aR) (S : dg_S) : Prop := zR o S 214 7 = p ∧ zR o S 214 6 = g ∧ (zI S 214 8).toInt = r ∧ cx_gt G K S g ∧ cx_pit G A S p ∧ cx_LI G A r S
theorem pX_17 {p : Nat} (h : pX p) : p = 3 ∨ p = 10 ∨ (42 ≤ p ∧ p < 182) ∨ 222 ≤ p := by
  have k : ∀ p ∈ alX.getD 1 [], p = 3 ∨ p = 10 ∨ (42 ≤ p ∧ p < 182) ∨ 222 ≤ p := by decide +kernel
  exact k p h
/-- n shifts of a pit of trial -/
theorem cx_pass (hp : pX p) (hp3 : p ≠ 3 ∧ ¬ (42 ≤ p ∧ p < 182)) (hG : s_gw G) (hK : s_cd K) (hw : s_wf G A') (hcw : s_cw G A') (hr9 : 0 ≤ r ∧ r ≤ 900) (h : RX o g G K A L U x S) (ht : cx_tr o g p G K r A' S) (hn : a1.toInt = n) (h40 : n ≤ 999) : ∃ S1, F_w_pass o S a1 = S1 ∧ RX o g G K A L U x S1 ∧ cx_tr o g p G K r (s_n G K r n A') S1 ∧ k_wp p S S1 := by
  have z0 : (0 : Int32).toInt = 0 := by decide +kernel
  have sep := pX_sep hp
  have sep17 := pX_17 hp
  have sep3 := pX_ne hp pX_3' hp3.1
  have seph : ∀ k, k < 20 → p + 6 < 42 + 7 * k ∨ 42 + 7 * k + 6 < p := fun k hk => pX_ne hp (pX_h hk) (by omega)
  have s0 := seph 0 (by decide)
  have s19 := seph 19 (by decide)
  have main := lp_cnt (f := F_w_pass_B1 a1 o S) (z := S) (W := n) (P := fun c s => RX o g G K A L U x s ∧ cx_tr o g p G K r (s_n G K r c A') s ∧ k_wp p S s) (Q := fun q => RX o g G K A L U x q ∧ cx_tr o g p G K r (s_n G K r n A') q ∧ k_wp p S q) (by omega) (fun c cI s hc hcI hP => by
    obtain ⟨t1, ⟨t2, t3, t4, t5, t6, t7⟩, t8⟩ := hP
    have okc := s_n_ok (K := K) (r := r) hG hw hcw c
    have sg := rX_sep t5.1
    have q0 : ¬ a1 ≤ cI := fun z => by have := w_le.mp z; omega
    obtain ⟨S1, e1, k1, p1, l1, -⟩ := cx_tick (o := o) (S0 := S) (S := s) hp ht.1 t2 t3 hG hK okc.1 okc.2 t5 t4 hr9 t6 t7 q0
    exact ⟨S1, e1, t1.keep k1 (by omega) (by omega) (fun a b _ _ => by omega) (fun b => by omega) (fun b => by omega) (fun a b _ _ => by omega) (fun a _ _ => by omega) (fun a _ _ => by omega) (by omega) (fun a _ _ => by omega), ⟨by rw [k1.R (fun z => by omega)]; exact t2, by rw [k1.R (fun z => by omega)]; exact t3, by rw [k1.I (fun z => by omega)]; exact t4, t5.keep (fun i _ _ => (k1.2 i (fun z => by omega)).1) (fun b => k1.I (fun z => by omega)), p1, l1⟩, t8.tr k1⟩) (fun cI s hcI hP => ⟨s, F_w_pass_p0 (w_le.mpr (by omega)), hP⟩) ((2147483648 - ((0 : Int32)).toInt).toNat + 1) 0 0 S (by rw [z0]; omega) (by omega) z0 ⟨h, ht, kp.rf⟩
  rw [F_w_pass_p3]
  exact ⟨_, rfl, main.1, main.2⟩
theorem pX_10 : pX 10 := by
  have h1 : (10 : Nat) ∈ alX.getD 1 [] := by decide +kernel
  exact h1
/-- what lies ahead on the pit of trial -/
theorem cx_ahead (ok : s_ok G K A U) (h : RX o g G K A L U x S) (hn : a1.toInt = n) (h40 : n ≤ 999) : ∃ S1, F_d_lookAhead o S a1 = S1 ∧ RX o g G K A L U x S1 ∧ cx_tr o g 10 G K (G 0 3) (s_n G K (G 0 3) n A) S1 := by
  have hb := ok.1.1.2.2.2
  have h3 := ok.1.2.1
  have sep := rX_sep h.2.1.1.1
  obtain ⟨S2, e2, k2, p2⟩ := cx_copy (o := o) (p := 10) (q := 3) pX_10 pX_3' (by decide) h.2.2.1 hb
  have r2 : RX o g G K A L U x S2 := h.keep k2 (by decide) (by decide) (fun a b _ _ => by omega) (fun b => by omega) (fun b => by omega) (fun a b _ _ => by omega) (fun a _ _ => by omega) (fun a _ _ => by omega) (by decide) (fun a _ _ => by omega)
  obtain ⟨S7, e7, f7, f6, f8, f9, k7⟩ := cx_enter (o := o) (S := S2) (g := g) (p := 10) (a := zI S g 3)
  have r3 : (zI S g 3).toInt = G 0 3 := h.2.1.2.1.2.2.1
  have r7 : RX o g G K A L U x S7 := r2.keep k7 (by decide) (by decide) (fun a b _ _ => by omega) (fun b => by omega) (fun b => by omega) (fun a b _ _ => by omega) (fun a _ _ => id) (fun a _ _ => id) id (fun a _ _ => id)
  have p7 : cx_pit G A S7 10 := p2.keep (fun i _ _ => (k7.2 i id).1) (fun b _ => k7.I (fun z => by omega))
  obtain ⟨S1, e1, r1, t1, -⟩ := cx_pass (o := o) (p := 10) (a1 := a1) (n := n) (r := G 0 3) pX_10 (by decide) ok.1.1 ok.2.1 ok.2.2.1.1 ok.2.2.1.2 ⟨by omega, by omega⟩ r7 ⟨f7, f6, by rw [f8]; exact r3, r7.2.1.1, p7, Or.inl f9⟩ hn h40
  exact ⟨S1, F_d_lookAhead_p0 e2.symm h.1.symm rfl e7.symm e1.symm, r1, t1⟩
theorem cx_gradeAt (h : cx_pit G A S p) (hc : s_in G c) (ha : a1.toInt = c + 8) : (F_p_gradeAt o S p a1).toInt = (if s_c A c < 0 then -1 else s_c A c) := by
  have z0 : (0 : Int32).toInt = 0 := by decide +kernel
  have m1 : (-1 : Int32).toInt = -1 := by decide +kernel
  have hc0 := hc.1
  have an : a1.toNatClampNeg = (c + 8).toNat := by rw [dk_clN, ha]
  obtain ⟨e, l, u⟩ := (h.1 (c + 8) (by omega) (by omega)).1 (by rw [show c + 8 - 8 = c by omega]; exact hc)
  rw [show c + 8 - 8 = c by omega] at e l u
  have es := cx_isSolid0 (o := o) (a := a1) h.1 (by omega) (by omega)
  rw [ha, show c + 8 - 8 = c by omega] at es
  by_cases w : F_p_isSolid0 o S p a1 = (0 : Int32)
  · rw [w, z0] at es
    rw [F_p_gradeAt_p0 rfl w, m1, if_pos]
    apply Classical.byContradiction
    intro v
    rw [s_b1 ⟨hc, by omega⟩] at es
    exact absurd es (by decide)
  · have sc : s_so G A c := by
      apply Classical.byContradiction
      intro v
      rw [s_b0 v] at es
      exact w (dk_eqp z0 es)
    have sc2 := sc.2
    rw [F_p_gradeAt_p1 rfl rfl w, if_neg (by omega), an]
    have e4 : (S.2.1 (p + 1) (c + 8).toNat).toInt = cx_en (s_c A c) := e
    rw [e4]
    unfold cx_en
    rw [if_neg (by omega), if_neg (by omega)]
/-- LATER of the class -/
theorem cx_later (ok : s_ok G K A U) (h : RX o g G K A L U x S) : (((0 ≤ a1.toInt ∧ a1.toInt < G 0 0) ∧ 0 ≤ a2.toInt ∧ a2.toInt < G 0 1) ∧ (0 ≤ a3.toInt ∧ a3.toInt ≤ 40 ∧ A 0 0 + a3.toInt ≤ 999) ∧ ∃ (S1 : dg_S) (y : Int32), F_d_later o S a1 a2 a3 = (S1, y) ∧ y.toInt = (if s_c (s_n G K (G 0 3) a3.toInt.toNat A) (8 * a2.toInt + a1.toInt) < 0 then -1 else s_c (s_n G K (G 0 3) a3.toInt.toNat A) (8 * a2.toInt + a1.toInt)) ∧ RX o g G K A L U x S1) ∨ (¬ (((0 ≤ a1.toInt ∧ a1.toInt < G 0 0) ∧ 0 ≤ a2.toInt ∧ a2.toInt < G 0 1) ∧ 0 ≤ a3.toInt ∧ a3.toInt ≤ 40 ∧ A 0 0 + a3.toInt ≤ 999) ∧ F_d_later o S a1 a2 a3 = (S, (-1 : Int32))) := by
  have z0 : (0 : Int32).toInt = 0 := by decide +kernel
  have z40 : (40 : Int32).toInt = 40 := by decide +kernel
  rcases cx_place (o := o) (a1 := a1) (a2 := a2) h.2.1 ok.1.1.1 with ⟨p1, p2, p3, p4⟩ | ⟨p1, p2⟩
  rotate_left
  · exact Or.inr ⟨fun z => p1 z.1, F_d_later_p0 h.1.symm rfl p2⟩
  have p40 := p4.1
  have q1 : ¬ F_g_placeOf o S g a1 a2 = (-1 : Int32) := fun z => by have := dk_eqc (k := -1) (by decide +kernel) z; omega
  have hcm := cx_come (o := o) (a1 := 0) (a2 := a3) (a3 := 40) h.2.1 h.1 ok.1.1 ok.2.2.1.1 h.2.2.1 (by decide +kernel) (by decide +kernel)
  rw [z0, z40] at hcm
  rcases hcm with ⟨e, w⟩ | ⟨e, w⟩
  rotate_left
  · exact Or.inr ⟨fun z => w ⟨z.2.1, z.2.2.1, z.2.2.2⟩, F_d_later_p2 h.1.symm rfl q1 rfl e⟩
  have ne : ¬ F_d_shiftsCome o S (0 : Int32) a3 (40 : Int32) = (0 : Int32) := by rw [e]; decide +kernel
  obtain ⟨S1, e1, r1, t1⟩ := cx_ahead (o := o) (a1 := a3) (n := a3.toInt.toNat) ok h (by omega) (by omega)
  exact Or.inl ⟨⟨p1, p2⟩, w, S1, _, F_d_later_p1 h.1.symm rfl q1 rfl ne e1.symm rfl, cx_gradeAt t1.2.2.2.2.1 p4 p3, r1⟩
/-- LATER on both sides -/
theorem sim_later (ok : s_ok G K A U) (hX : RX oX g G K A L U x SX) (hM : RM G K A L U x SM) : (F_d_later oX SX a1 a2 a3).2 = (F_m_later oM SM a1 a2 a3).2 ∧ RX oX g G K A L U x (F_d_later oX SX a1 a2 a3).1 ∧ RM G K A L U x (F_m_later oM SM a1 a2 a3).1 := by
  rcases cx_later (o := oX) (a1 := a1) (a2 := a2) (a3 := a3) ok hX with ⟨b1, b2, S1, y1, e1, v1, r1⟩ | ⟨b, e1⟩ <;> rcases mx_later (o := oM) (a1 := a1) (a2 := a2) (a3 := a3) ok hM with ⟨d1, d2, S2, y2, e2, v2, r2⟩ | ⟨d, e2⟩
  · rw [e1, e2]
    exact ⟨Int32.toInt_inj.mp (v1.trans v2.symm), r1, r2⟩
  · exact absurd ⟨b1, b2⟩ d
  · exact absurd ⟨d1, d2⟩ b
  · rw [e1, e2]
    exact ⟨rfl, hX, hM⟩
/-- OPENS of the class -/
theorem cx_opens (ok : s_ok G K A U) (h : RX o g G K A L U x S) : (((0 ≤ a1.toInt ∧ a1.toInt < G 0 0) ∧ 0 ≤ a2.toInt ∧ a2.toInt < G 0 1) ∧ ∃ (S1 : dg_S) (y : Int32), F_d_opens o S a1 a2 = (S1, y) ∧ s_fo (fun n => s_op G (s_n G K (G 0 3) n A) (8 * a2.toInt + a1.toInt)) (min 40 (999 - A 0 0)).toNat y.toInt ∧ RX o g G K A L U x S1) ∨ (¬ ((0 ≤ a1.toInt ∧ a1.toInt < G 0 0) ∧ 0 ≤ a2.toInt ∧ a2.toInt < G 0 1) ∧ F_d_opens o S a1 a2 = (S, (-1 : Int32))) := by
  have z0 : (0 : Int32).toInt = 0 := by decide +kernel
  have z1 : (1 : Int32).toInt = 1 := by decide +kernel
  have z40 : (40 : Int32).toInt = 40 := by decide +kernel
  have m1 : (-1 : Int32).toInt = -1 := by decide +kernel
  have hw0 := ok.2.2.1.1.1
  have h3 := ok.1.2.1
  rcases cx_place (o := o) (a1 := a1) (a2 := a2) h.2.1 ok.1.1.1 with ⟨p1, p2, p3, p4⟩ | ⟨p1, p2⟩
  rotate_left
  · exact Or.inr ⟨p1, F_d_opens_p4 h.1.symm rfl p2⟩
  have p40 := p4.1
  have q1 : ¬ F_g_placeOf o S g a1 a2 = (-1 : Int32) := fun z => by have := dk_eqc (k := -1) (by decide +kernel) z; omega
  obtain ⟨c, hc⟩ : ∃ c, c = 8 * a2.toInt + a1.toInt := ⟨_, rfl⟩
  rw [← hc] at p3 p4 p40 ⊢
  obtain ⟨pl, hpl⟩ : ∃ pl, pl = F_g_placeOf o S g a1 a2 := ⟨_, rfl⟩
  rw [← hpl] at p3 q1
  obtain ⟨S7, e7, r7, t7⟩ := cx_ahead (o := o) (a1 := 0) (n := 0) ok h z0 (by decide)
  obtain ⟨x9, h9⟩ : ∃ y, y = (999 : Int32) - zI S7 3 0 := ⟨_, rfl⟩
  have e9 : x9.toInt = 999 - A 0 0 := by rw [h9]; exact dk_subT (by decide +kernel) r7.2.2.1.2.1 (by omega) (by omega)
  obtain ⟨x10, h10⟩ : ∃ y, y = if x9 < (40 : Int32) then x9 else (40 : Int32) := ⟨_, rfl⟩
  obtain ⟨W, hW⟩ : ∃ W : Nat, W = (min 40 (999 - A 0 0)).toNat := ⟨_, rfl⟩
  rw [← hW]
  have e10 : x10.toInt = W := by
    rw [h10]
    by_cases u : x9 < (40 : Int32)
    · have := dk_ltc z40 u
      rw [if_pos u]
      omega
    · have := dk_nltc z40 u
      rw [if_neg u, z40]
      omega
  have main := lp_cnt2 (f := F_d_opens_B1 x10 o pl) (z := (S, (0 : Int32))) (W := W + 1) (P := fun k s => RX o g G K A L U x s ∧ (∀ m, m < k → ¬ s_op G (s_n G K (G 0 3) m A) c) ∧ cx_tr o g 10 G K (G 0 3) (s_n G K (G 0 3) k A) s) (Q := fun q => s_fo (fun n => s_op G (s_n G K (G 0 3) n A) c) W q.2.toInt ∧ RX o g G K A L U x q.1) (by omega) (fun k kI s hk hkI hP => by
    obtain ⟨t1, t2, t3⟩ := hP
    have okc := s_n_ok (K := K) (r := G 0 3) ok.1.1 ok.2.2.1.1 ok.2.2.1.2 k
    have q0 : ¬ x10 < kI := fun z => by have := w_lt.mp z; omega
    have eo := cx_isOpen (o := o) (a := pl) t3.2.2.2.2.1.1 (by omega) (by omega)
    rw [p3, show c + 8 - 8 = c by omega] at eo
    by_cases u : F_p_isOpen o s 10 pl = (0 : Int32)
    · rw [u, z0] at eo
      have nop : ¬ s_op G (s_n G K (G 0 3) k A) c := fun z => by
        rw [s_b1 z] at eo
        exact absurd eo (by decide)
      obtain ⟨S1, e1, r1, l1, -⟩ := cx_pass (o := o) (p := 10) (a1 := 1) (n := 1) pX_10 (by decide) ok.1.1 ok.2.1 okc.1 okc.2 ⟨by omega, by omega⟩ t1 t3 z1 (by decide)
      refine Or.inl ⟨S1, F_d_opens_p1 q0 rfl u e1.symm rfl, r1, fun m hm => ?_, l1⟩
      by_cases v : m = k
      · rw [v]
        exact nop
      · exact t2 m (by omega)
    · have op : s_op G (s_n G K (G 0 3) k A) c := by
        apply Classical.byContradiction
        intro z
        rw [s_b0 z] at eo
        exact u (dk_eqp z0 eo)
      exact Or.inr ⟨(s, kI), F_d_opens_p2 q0 rfl u, Or.inr ⟨k, hkI, by omega, op, t2⟩, t1⟩) (fun kI s hkI hP => by
    obtain ⟨t1, t2, -⟩ := hP
    exact ⟨(s, (-1 : Int32)), F_d_opens_p0 (w_lt.mpr (by omega)), Or.inl ⟨m1, fun m hm => t2 m (by omega)⟩, t1⟩) ((42 - ((0 : Int32)).toInt).toNat + 1) 0 0 S7 (by rw [z0]; omega) (by omega) z0 ⟨r7, fun m hm => absurd hm (Nat.not_lt_zero m), t7⟩
  refine Or.inl ⟨⟨p1, p2⟩, ?_⟩
  rw [F_d_opens_p3 h.1.symm hpl q1 e7.symm rfl h9 h10]
  exact ⟨_, _, rfl, main.1, main.2⟩
/-- OPENS on both sides -/
theorem sim_opens (ok : s_ok G K A U) (hX : RX oX g G K A L U x SX) (hM : RM G K A L U x SM) : (F_d_opens oX SX a1 a2).2 = (F_m_opens oM SM a1 a2).2 ∧ RX oX g G K A L U x (F_d_opens oX SX a1 a2).1 ∧ RM G K A L U x (F_m_opens oM SM a1 a2).1 := by
  rcases cx_opens (o := oX) (a1 := a1) (a2 := a2) ok hX with ⟨b1, S1, y1, e1, v1, r1⟩ | ⟨b, e1⟩ <;> rcases mx_opens (o := oM) (a1 := a1) (a2 := a2) ok hM with ⟨d1, S2, y2, e2, v2, r2⟩ | ⟨d, e2⟩
  · rw [e1, e2]
    exact ⟨Int32.toInt_inj.mp (v1.uniq v2), r1, r2⟩
  · exact absurd b1 d
  · exact absurd d1 b
  · rw [e1, e2]
    exact ⟨rfl, hX, hM⟩
theorem cx_tubGrades (hp : cx_pit G A S p) (hw : s_wf G A) : (F_p_tubGrades o S p).toInt = s_tg A 10 := by
  have z0 : (0 : Int32).toInt = 0 := by decide +kernel
  have z9 : (9 : Int32).toInt = 9 := by decide +kernel
  have w5 := hw.2.2.2.2.2
  obtain ⟨-, -, -, -, -, -, y7⟩ := hp
  rw [F_p_tubGrades_p2]
  refine lp_cnt (f := F_p_tubGrades_B1 S p) (z := (0 : Int32)) (W := 10) (P := fun c s => s.toInt = s_tg A c) (Q := fun q => q.toInt = s_tg A 10) (by omega) (fun c cI s hc hcI hP => ?_) (fun cI s hcI hP => ?_) ((11 - ((0 : Int32)).toInt).toNat + 1) 0 0 0 (by rw [z0]; decide) (by decide) z0 z0
  · have hP : s.toInt = s_tg A c := hP
    have b := s_tg_b w5 c (by omega)
    have hv' := y7 c hc
    have w5c := w5 c hc
    have cn : cI.toNatClampNeg = c := by rw [dk_clN]; omega
    have h3 : 0 ≤ (c : Int) * A 6 c := Int.mul_nonneg (by omega) w5c.1
    have h4 : (c : Int) * A 6 c ≤ 9 * 99 := Int.mul_le_mul (by omega) w5c.2 w5c.1 (by omega)
    refine ⟨_, F_p_tubGrades_p1 (fun q => by have := dk_gtc z9 q; omega) rfl rfl rfl rfl, ?_⟩
    rw [cn]
    exact dk_addT hP (dk_mulT hcI hv' (by omega) (by omega)) (by omega) (by omega)
  · exact ⟨s, F_p_tubGrades_p0 (dk_gtp z9 (by omega)), hP⟩
theorem cx_wholeWorth (hp : cx_pit G A S p) (hw : s_wf G A) (hcw : s_cw G A) : (F_p_wholeWorth o S p).toInt = s_wo G A := by
  have z0 : (0 : Int32).toInt = 0 := by decide +kernel
  have z72 : (72 : Int32).toInt = 72 := by decide +kernel
  have tg := s_tg_b hw.2.2.2.2.2 10 (by decide)
  rw [F_p_wholeWorth_p4 rfl]
  unfold s_wo
  refine lp_cnt (f := F_p_wholeWorth_B1 o S p) (z := (0 : Int32)) (W := 72) (P := fun c s => s.toInt = s_tg A 10 + s_ws G A (c - 8)) (Q := fun q => q.toInt = s_tg A 10 + s_ws G A 64) (by omega) (fun c cI s hc hcI hP => ?_) (fun cI s hcI hP => ?_) ((73 - ((0 : Int32)).toInt).toNat + 1) 0 0 (F_p_tubGrades o S p) (by rw [z0]; decide) (by decide) z0 (by
    show (F_p_tubGrades o S p).toInt = s_tg A 10 + 0
    rw [cx_tubGrades hp hw]
    omega)
  · have hP : s.toInt = s_tg A 10 + s_ws G A (c - 8) := hP
    have b := s_ws_b hcw (c - 8)
    have q0 : ¬ (72 : Int32) ≤ cI := fun q => by have := dk_gec z72 q; omega
    have cn : cI.toNatClampNeg = c := by rw [dk_clN]; omega
    have es := cx_isSolid0 (o := o) (a := cI) hp.1 (by omega) (by omega)
    rw [hcI] at es
    have step : s_ws G A (c + 1 - 8) = s_ws G A (c - 8) + s_if (s_so G A ((c : Int) - 8)) (s_c A ((c : Int) - 8)) 0 := by
      by_cases u : c < 8
      · rw [show c + 1 - 8 = 0 by omega, show c - 8 = 0 by omega, s_if_n (fun z => by have := z.1.1.1; omega)]
        show (0 : Int) = 0 + 0
        omega
      · rw [show c + 1 - 8 = (c - 8) + 1 by omega, show (c : Int) - 8 = ((c - 8 : Nat) : Int) by omega]
        rfl
    by_cases w : F_p_isSolid0 o S p cI = (0 : Int32)
    · rw [w, z0] at es
      have ns : ¬ s_so G A ((c : Int) - 8) := fun z => by
        rw [s_b1 z] at es
        exact absurd es (by decide)
      refine ⟨s, ?_, ?_⟩
      · rw [F_p_wholeWorth_p2 q0 rfl w]
        exact F_p_wholeWorth_p1 rfl
      · show s.toInt = s_tg A 10 + s_ws G A (c + 1 - 8)
        rw [step, s_if_n ns, hP]
        omega
    · have hso : s_so G A ((c : Int) - 8) := by
        apply Classical.byContradiction
        intro v
        rw [s_b0 v] at es
        exact w (dk_eqp z0 es)
      have v := hp.1.val (x := (c : Int)) (by omega) (by omega) hso
      unfold cx_at at v
      rw [show ((c : Int)).toNat = c by omega] at v
      have h2 := hso.2
      have cb := (hcw.1 _ hso.1).2
      refine ⟨s + S.2.1 (p + 1) cI.toNatClampNeg, ?_, ?_⟩
      · rw [F_p_wholeWorth_p3 q0 rfl rfl w rfl]
        exact F_p_wholeWorth_p1 rfl
      · show (s + S.2.1 (p + 1) cI.toNatClampNeg).toInt = s_tg A 10 + s_ws G A (c + 1 - 8)
        rw [step, s_if_y hso, cn, dk_addT hP v (by omega) (by omega)]
        omega
  · exact ⟨s, F_p_wholeWorth_p0 (dk_gep z72 (by omega)), hP⟩
/-- WORTH of the class -/
theorem cx_worth (ok : s_ok G K A U) (h : RX o g G K A L U x S) : ((0 ≤ a1.toInt ∧ a1.toInt ≤ 40 ∧ A 0 0 + a1.toInt ≤ 999) ∧ ∃ (S1 : dg_S) (y : Int32), F_d_worth o S a1 = (S1, y) ∧ y.toInt = s_wo G (s_n G K (G 0 3) a1.toInt.toNat A) ∧ RX o g G K A L U x S1) ∨ (¬ (0 ≤ a1.toInt ∧ a1.toInt ≤ 40 ∧ A 0 0 + a1.toInt ≤ 999) ∧ F_d_worth o S a1 = (S, (-1 : Int32))) := by
  have z0 : (0 : Int32).toInt = 0 := by decide +kernel
  have z40 : (40 : Int32).toInt = 40 := by decide +kernel
  have hcm := cx_come (o := o) (a1 := 0) (a2 := a1) (a3 := 40) h.2.1 h.1 ok.1.1 ok.2.2.1.1 h.2.2.1 (by decide +kernel) (by decide +kernel)
  rw [z0, z40] at hcm
  rcases hcm with ⟨e, w⟩ | ⟨e, w⟩
  rotate_left
  · exact Or.inr ⟨w, F_d_worth_p1 rfl e⟩
  have ne : ¬ F_d_shiftsCome o S (0 : Int32) a1 (40 : Int32) = (0 : Int32) := by rw [e]; decide +kernel
  obtain ⟨S1, e1, r1, t1⟩ := cx_ahead (o := o) (a1 := a1) (n := a1.toInt.toNat) ok h (by omega) (by omega)
  have okn := s_n_ok (K := K) (r := G 0 3) ok.1.1 ok.2.2.1.1 ok.2.2.1.2 a1.toInt.toNat
  exact Or.inl ⟨w, S1, _, F_d_worth_p0 rfl ne e1.symm rfl, cx_wholeWorth t1.2.2.2.2.1 okn.1 okn.2, r1⟩
/-- WORTH on both sides -/
theorem sim_worth (ok : s_ok G K A U) (hX : RX oX g G K A L U x SX) (hM : RM G K A L U x SM) : (F_d_worth oX SX a1).2 = (F_m_worth oM SM a1).2 ∧ RX oX g G K A L U x (F_d_worth oX SX a1).1 ∧ RM G K A L U x (F_m_worth oM SM a1).1 := by
  rcases cx_worth (o := oX) (a1 := a1) ok hX with ⟨b1, S1, y1, e1, v1, r1⟩ | ⟨b, e1⟩ <;> rcases mx_worth (o := oM) (a1 := a1) ok hM with ⟨d1, S2, y2, e2, v2, r2⟩ | ⟨d, e2⟩
  · rw [e1, e2]
    exact ⟨Int32.toInt_inj.mp (v1.trans v2.symm), r1, r2⟩
  · exact absurd b1 d
  · exact absurd d1 b
  · rw [e1, e2]
    exact ⟨rfl, hX, hM⟩
end DB
