/-! to SHADE: both sides -/
section EB
variable {o oX oM g n p : Nat} {G A A' : aR} {K : Nat → List Int} {L L' : s_L} {U : s_U} {S S0 S1 SX SM : dg_S} {x x' r c v : Int} {a a1 a2 a3 a4 y : Int32}
/-- what was found, as the class holds it -/
def cx_shA (G : aR) (K : Nat → List Int) (A : aR) (n m : Nat) (S : dg_S) : Prop := (zI S 221 5).toInt = (s_sh G K A n m).2 ∧ (zI S 221 4).toInt = (if (s_sh G K A n m).1 < 0 then -1 else (s_sh G K A n m).1 + 8)
def cx_cs (G : aR) (K : Nat → List Int) (A : aR) (S : dg_S) : Prop := (zI S 221 2).toInt = 0 ∨ ∃ n : Nat, (zI S 221 2).toInt = n ∧ cx_shA G K A n 64 S
/-- what else was sought stays -/
def k_s4 (S S1 : dg_S) : Prop := (∀ b, b ≠ 2 → b ≠ 4 → b ≠ 5 → zI S1 221 b = zI S 221 b) ∧ (∀ b, zI S1 229 b = zI S 229 b) ∧ S1.2.1 230 = S.2.1 230
theorem s_sw_b (ok : s_ok G K A U) {d : Nat} (hc : s_sp9 G A d) : 0 ≤ s_sw G K A n d := by
  have hA := s_up1_ok (v := -2) ok hc.1.1 hc.2 ⟨by decide, by decide⟩
  rw [show ((d : Int)).toNat = d by omega] at hA
  exact (s_wo_b (s_n_okU hA n)).1
theorem s_sh_b (ok : s_ok G K A U) (m : Nat) : s_sh G K A n m = (-1, -1) ∨ (0 ≤ (s_sh G K A n m).1 ∧ (s_sh G K A n m).1 < m ∧ s_sp9 G A (s_sh G K A n m).1.toNat ∧ 0 ≤ (s_sh G K A n m).2) := s_bs_b (fun d hd => s_sw_b ok hd) m
theorem s_sh_y {d : Nat} (hc : s_sp9 G A d) (q : (s_sh G K A n d).2 < s_sw G K A n d) : s_sh G K A n (d + 1) = ((d : Int), s_sw G K A n d) := s_bs_y hc q
theorem s_sh_n {d : Nat} (h : ¬ (s_sp9 G A d ∧ (s_sh G K A n d).2 < s_sw G K A n d)) : s_sh G K A n (d + 1) = s_sh G K A n d := s_bs_n h
theorem cx_seekShade (ok : s_ok G K A U) (h : RX o g G K A L U x S) (hn : a1.toInt = n) (h1 : 1 ≤ n) (h40 : n ≤ 999) (hs : cx_cs G K A S) : ∃ S1, F_f_seekShade o S g 3 a1 = S1 ∧ RX o g G K A L U x S1 ∧ (zI S1 221 2).toInt = n ∧ cx_shA G K A n 64 S1 ∧ k_s4 S S1 := by
  have z0 : (0 : Int32).toInt = 0 := by decide +kernel
  have z72 : (72 : Int32).toInt = 72 := by decide +kernel
  have z255 : (255 : Int32).toInt = 255 := by decide +kernel
  have m1 : (-1 : Int32).toInt = -1 := by decide +kernel
  have sep := rX_sep h.2.1.1.1
  by_cases q : zI S 221 2 = a1
  · rcases hs with hs | ⟨n', e', w'⟩
    · rw [q] at hs
      omega
    · have en : n' = n := by rw [q] at e'; omega
      subst en
      exact ⟨S, F_f_seekShade_p6 rfl q, h, e', w', fun _ _ _ _ => rfl, fun _ => rfl, rfl⟩
  obtain ⟨S5, g5⟩ : ∃ T, T = dg_uF S 221 2 (.int a1) := ⟨_, rfl⟩
  obtain ⟨S7, g7⟩ : ∃ T, T = dg_uF S5 221 4 (.int (-1 : Int32)) := ⟨_, rfl⟩
  obtain ⟨S9, g9⟩ : ∃ T, T = dg_uF S7 221 5 (.int (-1 : Int32)) := ⟨_, rfl⟩
  have t9 : kp (fun a b => a = 221 ∧ (b = 2 ∨ b = 4 ∨ b = 5)) (fun _ => False) S S9 := by
    rw [g9, g7, g5]
    exact kp.uF (kp.uF (kp.uF kp.rf ⟨rfl, by decide⟩) ⟨rfl, by decide⟩) ⟨rfl, by decide⟩
  have r9 : RX o g G K A L U x S9 := h.keep t9 (by omega) (by omega) (fun a b _ _ => by omega) (fun b => by omega) (fun b => by omega) (fun a b _ _ => by omega) (fun a _ _ => id) (fun a _ _ => id) id (fun a _ _ => id)
  have i2 : (zI S9 221 2).toInt = n := by
    rw [g9, w_I0 (by decide), g7, w_I0 (by decide), g5, w_I, if_pos ⟨rfl, rfl⟩]
    exact hn
  have s9 : cx_shA G K A n 0 S9 := by
    refine ⟨?_, ?_⟩
    · rw [g9, w_I, if_pos ⟨rfl, rfl⟩]
      exact m1
    · rw [g9, w_I0 (by decide), g7, w_I, if_pos ⟨rfl, rfl⟩]
      exact m1
  have hsh : (zI S g 2).toInt = G 0 2 + 8 := h.2.1.1.2.1
  have main := lp_cnt (f := F_f_seekShade_B1 3 S g o a1) (z := S) (W := 72) (P := fun k T => RX o g G K A L U x T ∧ cx_shA G K A n (k - 8) T ∧ (∀ b, b ≠ 4 → b ≠ 5 → zI T 221 b = zI S9 221 b) ∧ (∀ b, zI T 229 b = zI S9 229 b) ∧ T.2.1 230 = S9.2.1 230) (Q := fun T => RX o g G K A L U x T ∧ cx_shA G K A n 64 T ∧ (∀ b, b ≠ 4 → b ≠ 5 → zI T 221 b = zI S9 221 b) ∧ (∀ b, zI T 229 b = zI S9 229 b) ∧ T.2.1 230 = S9.2.1 230) (by decide) (fun k kI T hk hkI hP => by
    obtain ⟨t1, t2, t3, t4, t5⟩ := hP
    have q0 : ¬ (72 : Int32) ≤ kI := fun z => by have := dk_gec z72 z; omega
    have kn : kI.toNatClampNeg = k := by rw [dk_clN]; omega
    have ce := t1.2.2.1.1 (k : Int) (by omega) (by omega)
    have stay : ¬ (8 ≤ k ∧ s_sp9 G A (k - 8)) → F_f_seekShade_B1 3 S g o a1 (kI, T) = F_f_seekShade_J2 kI T → ∃ s1, F_f_seekShade_B1 3 S g o a1 (kI, T) = .inl (kI + 1, s1) ∧ RX o g G K A L U x s1 ∧ cx_shA G K A n (k + 1 - 8) s1 ∧ (∀ b, b ≠ 4 → b ≠ 5 → zI s1 221 b = zI S9 221 b) ∧ (∀ b, zI s1 229 b = zI S9 229 b) ∧ s1.2.1 230 = S9.2.1 230 := fun hn9 e => by
      refine ⟨T, e.trans (F_f_seekShade_p1 rfl), t1, ?_, t3, t4, t5⟩
      have es : s_sh G K A n (k + 1 - 8) = s_sh G K A n (k - 8) := by
        by_cases u : k < 8
        · rw [show k + 1 - 8 = 0 by omega, show k - 8 = 0 by omega]
        · rw [show k + 1 - 8 = (k - 8) + 1 by omega]
          exact s_sh_n (fun z => hn9 ⟨by omega, z.1⟩)
      unfold cx_shA
      rw [es]
      exact t2
    have ev : (T.2.1 (3 + 1) kI.toNatClampNeg).toInt = cx_at T 3 (k : Int) := by
      rw [kn]
      unfold cx_at
      rw [show ((k : Int)).toNat = k by omega]
    by_cases q6 : T.2.1 (3 + 1) kI.toNatClampNeg = (255 : Int32)
    · have d6 := dk_eqc z255 q6
      rw [ev] at d6
      have hin : s_in G ((k : Int) - 8) := by
        apply Classical.byContradiction
        intro z
        have := ce.2 z
        omega
      obtain ⟨e1, l1, u1⟩ := ce.1 hin
      have sc : s_c A ((k : Int) - 8) = -1 := by
        rw [e1] at d6
        unfold cx_en at d6
        by_cases w : s_c A ((k : Int) - 8) = -1
        · exact w
        · rw [if_neg w] at d6
          split at d6 <;> omega
      have hin0 := hin.1
      have ek : ((k - 8 : Nat) : Int) = (k : Int) - 8 := by omega
      by_cases q7 : kI = zI S g 2
      · refine stay (fun z => ?_) (F_f_seekShade_p3 q0 rfl q6 rfl q7)
        have := z.2.2
        rw [ek] at this
        rw [q7] at hkI
        omega
      · have hne : ((k - 8 : Nat) : Int) ≠ G 0 2 := fun z => q7 (Int32.toInt_inj.mp (by rw [hkI, hsh]; omega))
        have hsp : s_sp9 G A (k - 8) := ⟨by rw [ek]; exact ⟨hin, sc⟩, hne⟩
        obtain ⟨T1, f1, f2, f3, f4, f5, f6⟩ := cx_tryShade (o := o) (a1 := a1) (a2 := kI) ok t1 hn h40 hsp (by rw [hkI]; omega)
        refine ⟨T1, (F_f_seekShade_p4 q0 rfl q6 rfl q7 f1.symm).trans (F_f_seekShade_p1 rfl), f2, ?_, fun b b4 b5 => (f4 b b4 b5).trans (t3 b b4 b5), fun b => (f5 b).trans (t4 b), f6.trans t5⟩
        rw [show k + 1 - 8 = (k - 8) + 1 by omega]
        rw [t2.1] at f3
        rcases f3 with ⟨w1, w2, w3⟩ | ⟨w1, w2, w3⟩
        · unfold cx_shA
          rw [s_sh_y hsp w1]
          refine ⟨w3, ?_⟩
          show _ = (if ((k - 8 : Nat) : Int) < 0 then (-1 : Int) else ((k - 8 : Nat) : Int) + 8)
          rw [if_neg (by omega)]
          exact w2
        · unfold cx_shA
          rw [s_sh_n (fun z => w1 z.2), w2, w3]
          exact t2
    · have d6 := dk_neqc z255 q6
      rw [ev] at d6
      refine stay (fun z => ?_) (F_f_seekShade_p2 q0 rfl q6)
      obtain ⟨z1, z2, -⟩ := z
      rw [show ((k - 8 : Nat) : Int) = (k : Int) - 8 by omega] at z2
      have e1 := (ce.1 z2.1).1
      rw [z2.2] at e1
      exact d6 e1) (fun kI T hkI hP => by
    exact ⟨T, F_f_seekShade_p0 (dk_gep z72 (by omega)), hP⟩) ((73 - ((0 : Int32)).toInt).toNat + 1) 0 0 S9 (by rw [z0]; decide) (by decide) z0 ⟨r9, s9, fun _ _ _ => rfl, fun _ => rfl, rfl⟩
  refine ⟨_, F_f_seekShade_p5 rfl q g5 g7 g9, main.1, by rw [main.2.2.1 2 (by decide) (by decide)]; exact i2, main.2.1, fun b b2 b4 b5 => by rw [main.2.2.1 b b4 b5]; exact t9.I (fun z => by omega), fun b => by rw [main.2.2.2.1 b]; exact t9.I (fun z => by omega), by rw [main.2.2.2.2]; exact (t9.2 230 id).1⟩
/-- what shade tells of the best -/
def s_shv (b : Int × Int) (w : Int) : Int := if b.1 < 0 then -1 else if w = 0 then b.1 % 8 else if w = 1 then b.1 / 8 else if w = 2 then b.2 else -1
theorem cx_shade (ok : s_ok G K A U) (h : RX o g G K A L U x S) (hs : cx_cs G K A S) : ∃ (S1 : dg_S) (y : Int32), F_d_shade o S a1 a2 = (S1, y) ∧ y.toInt = s_if (1 ≤ a1.toInt ∧ a1.toInt ≤ 20 ∧ A 0 0 + a1.toInt ≤ 999) (s_shv (s_sh G K A a1.toInt.toNat 64) a2.toInt) (-1) ∧ RX o g G K A L U x S1 ∧ cx_cs G K A S1 ∧ k_s4 S S1 := by
  have z0 : (0 : Int32).toInt = 0 := by decide +kernel
  have z1 : (1 : Int32).toInt = 1 := by decide +kernel
  have z2 : (2 : Int32).toInt = 2 := by decide +kernel
  have z20 : (20 : Int32).toInt = 20 := by decide +kernel
  have m1 : (-1 : Int32).toInt = -1 := by decide +kernel
  have hcm := cx_come (o := o) (a1 := 1) (a2 := a1) (a3 := 20) h.2.1 h.1 ok.1.1 ok.2.2.1.1 h.2.2.1 (by decide +kernel) (by decide +kernel)
  rw [z1, z20] at hcm
  rcases hcm with ⟨e, w⟩ | ⟨e, w⟩
  rotate_left
  · exact ⟨S, -1, F_d_shade_p5 rfl e, by rw [s_if_n w]; exact m1, h, hs, fun _ _ _ _ => rfl, fun _ => rfl, rfl⟩
  have ne : ¬ F_d_shiftsCome o S (1 : Int32) a1 (20 : Int32) = (0 : Int32) := by rw [e]; decide +kernel
  rw [s_if_y w]
  obtain ⟨m, hm⟩ : ∃ m : Nat, m = a1.toInt.toNat := ⟨_, rfl⟩
  rw [← hm]
  obtain ⟨S5, e5, r5, i2, s5, k5⟩ := cx_seekShade (o := o) (a1 := a1) (n := m) ok h (by omega) (by omega) (by omega) hs
  have hb := s_sh_b (n := m) ok 64
  have c5 : cx_cs G K A S5 := Or.inr ⟨m, i2, s5⟩
  obtain ⟨v5, v4⟩ := s5
  unfold s_shv
  by_cases q : zI S5 221 4 = (-1 : Int32)
  · have d := dk_eqc m1 q
    rw [v4] at d
    refine ⟨S5, -1, F_d_shade_p4 rfl ne h.1.symm e5.symm rfl q, ?_, r5, c5, k5⟩
    by_cases u : (s_sh G K A m 64).1 < 0
    · rw [if_pos u]
      exact m1
    · rw [if_neg u] at d
      omega
  have d := dk_neqc m1 q
  rw [v4] at d
  have u : ¬ (s_sh G K A m 64).1 < 0 := fun z => by
    rw [if_pos z] at d
    exact d rfl
  rw [if_neg u] at v4 ⊢
  have b64 : (s_sh G K A m 64).1 < 64 := by
    rcases hb with hb | hb
    · rw [hb]
      show (-1 : Int) < 64
      decide
    · exact hb.2.1
  by_cases c0 : a2 = (0 : Int32)
  · have d0 := dk_eqc z0 c0
    refine ⟨S5, _, F_d_shade_p1 rfl ne h.1.symm e5.symm rfl q c0 rfl, ?_, r5, c5, k5⟩
    rw [if_pos d0, cx_columnOf (by omega) (by omega), v4]
    omega
  have d0 := dk_neqc z0 c0
  rw [if_neg d0]
  by_cases c1 : a2 = (1 : Int32)
  · have d1 := dk_eqc z1 c1
    refine ⟨S5, _, F_d_shade_p2 rfl ne h.1.symm e5.symm rfl q c0 c1 rfl, ?_, r5, c5, k5⟩
    rw [if_pos d1, cx_rowOf (by omega) (by omega), v4]
    omega
  have d1 := dk_neqc z1 c1
  rw [if_neg d1]
  by_cases c2 : a2 = (2 : Int32)
  · have d2 := dk_eqc z2 c2
    refine ⟨S5, _, F_d_shade_p3 rfl ne h.1.symm e5.symm rfl q c0 c1 c2 rfl, ?_, r5, c5, k5⟩
    rw [if_pos d2]
    exact v5
  have d2 := dk_neqc z2 c2
  rw [if_neg d2]
  exact ⟨S5, -1, F_d_shade_p0 rfl ne h.1.symm e5.symm rfl q c0 c1 c2, m1, r5, c5, k5⟩
/-- the reference: may a curtain be hung -/
theorem mx_canHang (hg : mx_gd G S) (hb : s_gb G) (hce : mx_ce G A S 0) : F_m_canHang o S a1 = 1 ∧ (s_op G A a1.toInt ∧ a1.toInt ≠ G 0 2) ∨ F_m_canHang o S a1 = 0 ∧ ¬ (s_op G A a1.toInt ∧ a1.toInt ≠ G 0 2) := by
  have z0 : (0 : Int32).toInt = 0 := by decide +kernel
  have hsh : (S.2.1 4 (zI S 0 13).toNatClampNeg).toInt = G 0 2 := hg.2.2.2.1
  rcases mx_isCellOf (o := o) (a := a1) hg hb with ⟨e, y⟩ | ⟨e, y⟩
  rotate_left
  · exact Or.inr ⟨F_m_canHang_p0 rfl e, fun z => y z.1.1⟩
  have n1 : ¬ F_m_isCellOf o S a1 = (0 : Int32) := by rw [e]; decide +kernel
  rcases mx_op (o := o) (a := 0) (b := a1) hce z0 (by decide) y with ⟨f, w⟩ | ⟨f, w⟩
  rotate_left
  · exact Or.inr ⟨F_m_canHang_p1 rfl n1 rfl f, fun z => w z.1⟩
  have n2 : ¬ F_m_isOpen o S (0 : Int32) a1 = (0 : Int32) := by rw [f]; decide +kernel
  by_cases q : a1 = S.2.1 4 (zI S 0 13).toNatClampNeg
  · exact Or.inr ⟨F_m_canHang_p2 rfl n1 rfl n2 rfl rfl q, fun z => z.2 (by rw [q]; exact hsh)⟩
  · exact Or.inl ⟨F_m_canHang_p3 rfl n1 rfl n2 rfl rfl q, w, fun z => q (Int32.toInt_inj.mp (by rw [hsh, z]))⟩
/-- a curtain on layer 1 -/
theorem mx_lay_hung (hl : mx_lay G A L S 1) (hc : s_ps G A c) {i : Nat} (hi : i = mx_ad 1 c) : mx_lay G (s_up A 1 c.toNat (-2)) L (dg_uf S 32 (upd (S.2.1 32) i (1 : Int32))) 1 ∧ k_v 1 S (dg_uf S 32 (upd (S.2.1 32) i (1 : Int32))) := by
  subst hi
  have z1 : (1 : Int32).toInt = 1 := by decide +kernel
  have c0 := hc.1.1
  have adn : mx_ad 1 c = 64 * 1 + c.toNat := by unfold mx_ad; omega
  obtain ⟨y1, y2, y3, y4, y5, y6, y7, y8⟩ := hl
  obtain ⟨T, hT⟩ : ∃ T, T = dg_uf S 32 (upd (S.2.1 32) (mx_ad 1 c) (1 : Int32)) := ⟨_, rfl⟩
  have ro : ∀ i, i ≠ 32 → T.2.1 i = S.2.1 i := fun i i1 => by rw [hT, w_f, if_neg i1]
  have E : ∀ a b, a ≠ 1 → s_up A 1 c.toNat (-2) a b = A a b := fun a b h => s_up_ne (fun z => h z.1)
  rw [← hT]
  refine ⟨⟨fun d hd => ?_, by rw [ro 29 (by decide), E _ _ (by decide)]; exact y2, by rw [ro 30 (by decide), E _ _ (by decide)]; exact y3, by rw [ro 33 (by decide)]; exact ⟨y4.1, fun k hk => by rw [E _ _ (by decide)]; exact y4.2 k hk⟩, fun k hk => by rw [ro 35 (by decide), ro 36 (by decide), E _ _ (by decide), E _ _ (by decide)]; exact y5 k hk, by rw [ro 34 (by decide)]; exact ⟨y6.1, fun k hk => by rw [E _ _ (by decide)]; exact y6.2 k hk⟩, fun k hk => by rw [ro 37 (by decide), E _ _ (by decide)]; exact y7 k hk, y8.keep (by rw [ro 38 (by decide)]) (fun j _ _ => by rw [ro 39 (by decide)])⟩, ?_⟩
  · obtain ⟨i1, i2, i3, i4⟩ := y1 d hd
    have hd0 := hd.1
    rw [s_c_up c0.1 hd0.1, ro 31 (by decide), hT, w_f, if_pos rfl, w_u]
    by_cases z : d = c
    · subst z
      rw [if_pos rfl, if_pos rfl, i1, z1, hc.2]
      exact ⟨rfl, rfl, by decide, by decide⟩
    · rw [if_neg z, if_neg (fun w => z (by unfold mx_ad at w; omega))]
      exact ⟨i1, i2, i3, i4⟩
  · rw [hT]
    exact k_v.uf k_v.rf (by decide) (by decide) (mw 32 64 _ _ rfl (by omega))
theorem mx_shade (ok : s_ok G K A U) (h : RM G K A L U x S) : ∃ (S1 : dg_S) (y : Int32), F_m_shade o S a1 a2 = (S1, y) ∧ y.toInt = s_if (1 ≤ a1.toInt ∧ a1.toInt ≤ 20 ∧ A 0 0 + a1.toInt ≤ 999) (s_shv (s_sh G K A a1.toInt.toNat 64) a2.toInt) (-1) ∧ RM G K A L U x S1 := by
  have z0 : (0 : Int32).toInt = 0 := by decide +kernel
  have z1 : (1 : Int32).toInt = 1 := by decide +kernel
  have z2 : (2 : Int32).toInt = 2 := by decide +kernel
  have z20 : (20 : Int32).toInt = 20 := by decide +kernel
  have z64 : (64 : Int32).toInt = 64 := by decide +kernel
  have m1 : (-1 : Int32).toInt = -1 := by decide +kernel
  have hb := ok.1.1.2.2.2
  have hgb := ok.1.1.1
  have hcm := mx_come (o := o) (a1 := a1) (a2 := 1) (a3 := 20) h.1.1.1 h.2.1 ok.2.2.1.1 (by decide +kernel) (by decide +kernel)
  rw [z1, z20] at hcm
  rcases hcm with ⟨e, w⟩ | ⟨e, w⟩
  rotate_left
  · exact ⟨S, -1, F_m_shade_p0 rfl e, by rw [s_if_n w]; exact m1, h⟩
  have ne : ¬ F_m_isAhead o S a1 (1 : Int32) (20 : Int32) = (0 : Int32) := by rw [e]; decide +kernel
  rw [s_if_y w]
  obtain ⟨m, hm⟩ : ∃ m : Nat, m = a1.toInt.toNat := ⟨_, rfl⟩
  rw [← hm]
  have hsb := s_sh_b (n := m) ok
  have hj := mx_is (o := o) (S := S) (a := a2) (b := 0) (c := 2)
  rw [z0, z2] at hj
  rcases hj with ⟨f, u⟩ | ⟨f, u⟩
  rotate_left
  · refine ⟨S, -1, F_m_shade_p11 rfl ne rfl f, ?_, h⟩
    unfold s_shv
    rw [m1]
    split
    · rfl
    · rw [if_neg (by omega), if_neg (by omega), if_neg (by omega)]
  have nf : ¬ F_m_is o S a2 (0 : Int32) (2 : Int32) = (0 : Int32) := by rw [f]; decide +kernel
  have main := lp_cnt (f := F_m_shade_B2 a2 o a1) (z := (S, (0 : Int32))) (W := 64) (P := fun k s => RM G K A L U x s.2.2 ∧ s.1.toInt = (s_sh G K A m k).2 ∧ s.2.1.toInt = (s_sh G K A m k).1) (Q := fun q => ∃ (T : dg_S) (mo be : Int32), q = F_m_shade_J1 be T mo a2 o ∧ RM G K A L U x T ∧ mo.toInt = (s_sh G K A m 64).2 ∧ be.toInt = (s_sh G K A m 64).1) (by decide) (fun k kI s hk hkI hP => by
    obtain ⟨mo, be, T⟩ := s
    obtain ⟨t1, t2, t3⟩ := hP
    have t1 : RM G K A L U x T := t1
    have t2 : mo.toInt = (s_sh G K A m k).2 := t2
    have t3 : be.toInt = (s_sh G K A m k).1 := t3
    have q0 : ¬ (64 : Int32) ≤ kI := fun z => by have := dk_gec z64 z; omega
    have kn : kI.toNatClampNeg = k := by rw [dk_clN]; omega
    have stay : ¬ s_sp9 G A k → F_m_shade_B2 a2 o a1 (kI, mo, be, T) = F_m_shade_J3 kI mo be T → ∃ s1, F_m_shade_B2 a2 o a1 (kI, mo, be, T) = .inl (kI + 1, s1) ∧ RM G K A L U x s1.2.2 ∧ s1.1.toInt = (s_sh G K A m (k + 1)).2 ∧ s1.2.1.toInt = (s_sh G K A m (k + 1)).1 := fun hn e => by
      refine ⟨(mo, be, T), e.trans (F_m_shade_p5 rfl), t1, ?_, ?_⟩
      · rw [s_sh_n (fun z => hn z.1)]
        exact t2
      · rw [s_sh_n (fun z => hn z.1)]
        exact t3
    rcases mx_canHang (o := o) (a1 := kI) t1.1.1.1 hgb t1.2.1.1 with ⟨e1, y1⟩ | ⟨e1, y1⟩
    rotate_left
    · rw [hkI] at y1
      exact stay (fun z => y1 ⟨⟨z.1.1, by rw [z.1.2]; decide⟩, z.2⟩) (F_m_shade_p6 q0 rfl e1)
    rw [hkI] at y1
    have n1 : ¬ F_m_canHang o T kI = (0 : Int32) := by rw [e1]; decide +kernel
    obtain ⟨i31, i32, il, iu⟩ := t1.2.1.1 (k : Int) y1.1.1
    have ad0 : mx_ad 0 (k : Int) = k := by unfold mx_ad; omega
    rw [ad0] at i32
    have yc := y1.1.2
    by_cases q1 : T.2.1 32 kI.toNatClampNeg = (1 : Int32)
    · have d1 := dk_eqc z1 q1
      rw [kn, i32] at d1
      refine stay (fun z => ?_) (F_m_shade_p9 q0 rfl n1 rfl q1)
      rw [z.1.2] at d1
      exact absurd d1 (by decide)
    have d1 := dk_neqc z1 q1
    rw [kn, i32] at d1
    have sc : s_c A (k : Int) = -1 := by
      unfold mx_cu at d1
      by_cases u : s_c A (k : Int) = -2
      · rw [if_pos u] at d1
        exact absurd rfl d1
      · omega
    have hsp : s_sp9 G A k := ⟨⟨y1.1.1, sc⟩, y1.2⟩
    have hA := s_up1_ok (v := -2) ok hsp.1.1 hsp.2 ⟨by decide, by decide⟩
    rw [show ((k : Int)).toNat = k by omega] at hA
    obtain ⟨T2, e2, r2, l2⟩ := mx_try (o := o) ok t1
    have e64 : ((64 : Int32) + kI).toInt = 64 + (k : Int) := dk_addT z64 hkI (by omega) (by omega)
    have n64 : ((64 : Int32) + kI).toNatClampNeg = mx_ad 1 (k : Int) := by
      rw [dk_clN, e64]
      unfold mx_ad
      omega
    obtain ⟨l3, k3⟩ := mx_lay_hung (i := ((64 : Int32) + kI).toNatClampNeg) l2 hsp.1 n64
    rw [show ((k : Int)).toNat = k by omega] at l3
    obtain ⟨T3, h3⟩ : ∃ T3, T3 = dg_uf T2 32 (upd (T2.2.1 32) ((64 : Int32) + kI).toNatClampNeg (1 : Int32)) := ⟨_, rfl⟩
    rw [← h3] at l3 k3
    have r3 : RM G K A L U x T3 := r2.v hb k3 (by decide) (k3.lay r2.2.1 (by decide) hb)
    have a00 : s_up A 1 k (-2) 0 0 = A 0 0 := s_up_ne (fun z => absurd z.1 (by decide))
    obtain ⟨T4, L4, e4, r4, l4⟩ := mx_runs (o := o) (a1 := a1) (n := m) ok r3 hA.2.2.1.1 hA.2.2.1.2 l3 (by omega) (by omega) (by rw [a00]; omega)
    have okn := s_n_okU hA m
    have ew : (F_m_worthOf o T4 (1 : Int32)).toInt = s_sw G K A m k := mx_worthOf r4.1.1.1 hgb l4 okn.2.2.1.1 okn.2.2.1.2 z1 (by decide)
    by_cases q5 : mo < F_m_worthOf o T4 (1 : Int32)
    · have d5 := w_lt.mp q5
      rw [t2, ew] at d5
      refine ⟨(F_m_worthOf o T4 (1 : Int32), kI, T4), (F_m_shade_p7 q0 rfl n1 rfl q1 e2.symm rfl h3 e4.symm rfl q5 rfl).trans (F_m_shade_p5 rfl), r4, ?_, ?_⟩
      · rw [s_sh_y hsp d5]
        exact ew
      · rw [s_sh_y hsp d5]
        exact hkI
    · have d5 : ¬ mo.toInt < (F_m_worthOf o T4 (1 : Int32)).toInt := fun z => q5 (w_lt.mpr z)
      rw [t2, ew] at d5
      refine ⟨(mo, be, T4), (F_m_shade_p8 q0 rfl n1 rfl q1 e2.symm rfl h3 e4.symm rfl q5).trans (F_m_shade_p5 rfl), r4, ?_, ?_⟩
      · rw [s_sh_n (fun z => d5 z.2)]
        exact t2
      · rw [s_sh_n (fun z => d5 z.2)]
        exact t3) (fun kI s hkI hP => by
    obtain ⟨mo, be, T⟩ := s
    exact ⟨_, F_m_shade_p4 (dk_gep z64 (by omega)), T, mo, be, rfl, hP.1, hP.2.1, hP.2.2⟩) ((65 - ((0 : Int32)).toInt).toNat + 1) 0 0 ((-1 : Int32), (-1 : Int32), S) (by rw [z0]; decide) (by decide) z0 ⟨h, m1, m1⟩
  rw [F_m_shade_p10 rfl ne rfl nf]
  obtain ⟨T, mo, be, eq, rT, v2, v1⟩ := main
  rw [eq]
  unfold s_shv
  have h64 := hsb 64
  by_cases q : be = (-1 : Int32)
  · have d := dk_eqc m1 q
    rw [v1] at d
    refine ⟨T, mo, F_m_shade_p1 q, ?_, rT⟩
    rw [if_pos (by omega), v2]
    rcases h64 with h64 | h64
    · rw [h64]
    · omega
  have d := dk_neqc m1 q
  rw [v1] at d
  have h64 : 0 ≤ (s_sh G K A m 64).1 := by
    rcases h64 with h64 | h64
    · rw [h64] at d
      exact absurd rfl d
    · exact h64.1
  rw [if_neg (by omega)]
  by_cases c2 : a2 = (2 : Int32)
  · have d2 := dk_eqc z2 c2
    refine ⟨T, mo, F_m_shade_p3 q c2, ?_, rT⟩
    rw [if_neg (by omega), if_neg (by omega), if_pos d2]
    exact v2
  have d2 := dk_neqc z2 c2
  by_cases c0 : a2 = (0 : Int32)
  · have d0 := dk_eqc z0 c0
    refine ⟨T, _, F_m_shade_p2 q c2 rfl, ?_, rT⟩
    rw [if_pos d0, F_m_partOf_p1 c0 rfl, dk_remL (b := 8) (by omega) (by decide +kernel) (by decide), v1]
  · have d0 := dk_neqc z0 c0
    refine ⟨T, _, F_m_shade_p2 q c2 rfl, ?_, rT⟩
    rw [if_neg d0, if_pos (by omega), F_m_partOf_p0 c0 rfl, dk_divL (b := 8) (by omega) (by decide +kernel) (by decide), v1]
/-- SHADE on both sides -/
theorem sim_shade (ok : s_ok G K A U) (hX : RX oX g G K A L U x SX) (hs : cx_cs G K A SX) (hM : RM G K A L U x SM) : (F_d_shade oX SX a1 a2).2 = (F_m_shade oM SM a1 a2).2 ∧ RX oX g G K A L U x (F_d_shade oX SX a1 a2).1 ∧ cx_cs G K A (F_d_shade oX SX a1 a2).1 ∧ k_s4 SX (F_d_shade oX SX a1 a2).1 ∧ RM G K A L U x (F_m_shade oM SM a1 a2).1 := by
  obtain ⟨S1, y1, e1, v1, r1, c1, k1⟩ := cx_shade (o := oX) (a1 := a1) (a2 := a2) ok hX hs
  obtain ⟨S2, y2, e2, v2, r2⟩ := mx_shade (o := oM) (a1 := a1) (a2 := a2) ok hM
  rw [e1, e2]
  exact ⟨Int32.toInt_inj.mp (v1.trans v2.symm), r1, c1, k1, r2⟩
end EB
