/-! the class spreads light: how far -/
theorem pX_sep {p : Nat} (h : pX p) : p + 6 < 184 ∨ 222 ≤ p := by
  have h1 : ∀ p ∈ alX.getD 1 [], p + 6 < 184 ∨ 222 ≤ p := by decide +kernel
  exact h1 p h
def cx_far (S : dg_S) (c : Int) : Int := if 0 ≤ c + 8 ∧ c + 8 < 72 then (S.2.1 217 (c + 8).toNat).toInt else -1
def cx_q (S : dg_S) (i : Nat) : Int := (S.2.1 220 i).toInt - 8
theorem cx_ce.keep {G A : aR} {S S1 : dg_S} {p : Nat} (h : cx_ce G A S p) (e : S1.2.1 (p + 1) = S.2.1 (p + 1)) : cx_ce G A S1 p := by
  intro x h0 h1
  have : cx_at S1 p x = cx_at S p x := by
    unfold cx_at
    rw [e]
  rw [this]
  exact h x h0 h1
/-- rows 217 and 220 alone -/
def k_sl (S S1 : dg_S) : Prop := kp (fun _ _ => False) (fun a => a = 217 ∨ a = 220) S S1
theorem k_sl.ce {G A : aR} {S S1 : dg_S} {p : Nat} (h : k_sl S S1) (hp : pX p) (c : cx_ce G A S p) : cx_ce G A S1 p := c.keep (h.2 (p + 1) (by have := pX_sep hp; omega)).1
theorem s_in_56 {G : aR} {c : Int} (hG : G 0 0 ≤ 7 ∧ G 0 1 ≤ 7) (h : s_in G c) : 0 ≤ c ∧ c < 56 := by
  unfold s_in at h
  omega
section XF
variable {G A : aR} {S0 S S1 : dg_S} {p o : Nat} {a : Int32} {k w : Nat} {N : Int → Prop} {sh : Int}
abbrev cx_B (G A : aR) (S : dg_S) (k w : Nat) (N : Int → Prop) : Prop := b_I (G 0 2) (s_op G A) (s_ps G A) (cx_far S) (cx_q S) k w N
/-- one neighbour of the k-th -/
theorem cx_st1 (hG : G 0 0 ≤ 7 ∧ G 0 1 ≤ 7) (hp : pX p) (hS : zR o S0 214 7 = p) (hc : cx_ce G A S p) (h : cx_B G A S k w N) (hk : k < w) (ha : a.toInt - 8 = cx_q S k) (hps : s_ps G A (cx_q S k)) {i sd m : Int32} {b : Int} (hi : ¬ (4 : Int32) ≤ i) (hs : zV (dk_sides i.toNatClampNeg) = sd) (hb : sd.toInt = b) (hn : b = -8 ∨ b = -1 ∨ b = 1 ∨ b = 8) (hm : m.toInt = w) :
    ∃ (m1 : Int32) (S1 : dg_S) (w1 : Nat), F_w_stepFrom_B1 a o S0 (i, m, S) = .inl (i + 1, m1, S1) ∧ m1.toInt = w1 ∧ cx_B G A S1 k w1 (fun c => N c ∨ c = cx_q S k + b) ∧ w ≤ w1 ∧ (∀ i, i < w → cx_q S1 i = cx_q S i) ∧ k_sl S S1 := by
  have hq := (h.2.2.1 k hk).1
  have hq0 : 0 ≤ cx_q S k ∧ cx_q S k < 56 := s_in_56 hG hq.2.2.1
  have ea : (a + sd).toInt = a.toInt + b := dk_addT rfl hb (by omega) (by omega)
  have e0 : 0 ≤ (a + sd).toInt ∧ (a + sd).toInt < 72 := by omega
  have hd : (a + sd).toInt - 8 = cx_q S k + b := by omega
  have hfar : cx_far S (cx_q S k + b) = (S.2.1 217 (a + sd).toNatClampNeg).toInt := by
    unfold cx_far
    rw [if_pos (by omega), show cx_q S k + b + 8 = (a + sd).toInt by omega]
    rfl
  have hop := cx_isOpen (o := o) (a := a + sd) hc e0.1 e0.2
  rw [hd] at hop
  have w64 := h.w64
  by_cases q1 : S.2.1 217 (a + sd).toNatClampNeg = (-1 : Int32)
  · have f1 : cx_far S (cx_q S k + b) = -1 := by rw [hfar, q1]; decide +kernel
    by_cases q2 : F_p_isOpen o S p (a + sd) = (0 : Int32)
    · refine ⟨m, S, w, F_w_stepFrom_p2 hi hs.symm rfl rfl q1 hS.symm rfl q2 rfl, hm, ?_, Nat.le_refl _, fun _ _ => rfl, kp.rf⟩
      refine h.more (fun c hc1 => ?_)
      rcases hc1 with z | z
      · exact Or.inl z
      · refine Or.inr (fun z1 _ => ?_)
        rw [z] at z1
        rw [q2, s_b1 z1] at hop
        exact absurd hop (by decide +kernel)
    · have hop1 : s_op G A (cx_q S k + b) := by
        apply Classical.byContradiction
        intro z
        rw [s_b0 z] at hop
        exact q2 (dk_eqp (k := 0) (by decide +kernel) hop)
      obtain ⟨n, en, ni, -⟩ := (h.2.2.1 k hk).2
      have hfk : cx_far S (cx_q S k) = (S.2.1 217 a.toNatClampNeg).toInt := by
        unfold cx_far
        rw [if_pos (by omega), show cx_q S k + 8 = a.toInt by omega]
        rfl
      have ev : (S.2.1 217 a.toNatClampNeg + (1 : Int32)).toInt = cx_far S (cx_q S k) + 1 := by
        rw [hfk]
        rw [hfk] at en
        exact dk_addT rfl (by decide +kernel) (by omega) (by omega)
      obtain ⟨S2, hS2⟩ : ∃ S2, S2 = dg_uf S 217 (upd (S.2.1 217) (a + sd).toNatClampNeg (S.2.1 217 a.toNatClampNeg + (1 : Int32))) := ⟨_, rfl⟩
      obtain ⟨S3, hS3⟩ : ∃ S3, S3 = dg_uf S2 220 (upd (S2.2.1 220) m.toNatClampNeg (a + sd)) := ⟨_, rfl⟩
      have em : (m + 1).toInt = (w : Int) + 1 := by rw [← hm]; exact dk_addT rfl (by decide +kernel) (by omega) (by omega)
      have emn : m.toNatClampNeg = w := by rw [dk_clN]; omega
      have r217 : S3.2.1 217 = upd (S.2.1 217) (a + sd).toNatClampNeg (S.2.1 217 a.toNatClampNeg + (1 : Int32)) := by
        rw [hS3, w_f, if_neg (by decide), hS2, w_f, if_pos rfl]
      have r220 : S3.2.1 220 = upd (S.2.1 220) w (a + sd) := by
        rw [hS3, w_f, if_pos rfl, emn, hS2, w_f, if_neg (by decide)]
      have kk : k_sl S S3 := by
        rw [hS3, hS2]
        exact (kp.uf (kp.uf kp.rf (Or.inl rfl)) (Or.inr rfl))
      have q3 : ∀ i, i < w → cx_q S3 i = cx_q S i := fun i hi => by
        unfold cx_q
        rw [r220, w_u, if_neg (by omega)]
      refine ⟨m + 1, S3, w + 1, F_w_stepFrom_p3 hi hs.symm rfl rfl q1 hS.symm rfl q2 rfl rfl hS2 hS3 rfl rfl, by rw [em]; omega, ?_, by omega, q3, kk⟩
      refine h.push hk hps (by unfold b_nb; omega) hop1 f1 (by have := hop1.1.1; omega) ?_ (fun c hc1 => ?_) ?_ q3 (fun c z => z)
      · unfold cx_far
        rw [if_pos (by omega), r217, w_u, if_pos (by rw [dk_clN]; omega), ev]
        rfl
      · unfold cx_far
        by_cases z : 0 ≤ c + 8 ∧ c + 8 < 72
        · rw [if_pos z, if_pos z, r217, w_u, if_neg (by rw [dk_clN]; omega)]
        · rw [if_neg z, if_neg z]
      · unfold cx_q
        rw [r220, w_u, if_pos rfl]
        exact hd
  · refine ⟨m, S, w, F_w_stepFrom_p1 hi hs.symm rfl rfl q1 rfl, hm, ?_, Nat.le_refl _, fun _ _ => rfl, kp.rf⟩
    refine h.more (fun c hc1 => ?_)
    rcases hc1 with z | z
    · exact Or.inl z
    · refine Or.inr (fun _ _ => ?_)
      rw [z, hfar]
      exact dk_neqc (k := -1) (by decide +kernel) q1
theorem cx_step (hG : G 0 0 ≤ 7 ∧ G 0 1 ≤ 7) (hp : pX p) (hS : zR o S 214 7 = p) (hc : cx_ce G A S p) (h : cx_B G A S k w (fun _ => False)) (hk : k < w) (ha : a.toInt - 8 = cx_q S k) (hps : s_ps G A (cx_q S k)) {m : Int32} (hm : m.toInt = w) :
    ∃ (m1 : Int32) (S1 : dg_S) (w1 : Nat), F_w_stepFrom o S a m = (S1, m1) ∧ m1.toInt = w1 ∧ cx_B G A S1 (k + 1) w1 (fun _ => False) ∧ k_sl S S1 ∧ (∀ i, i < w → cx_q S1 i = cx_q S i) ∧ w ≤ w1 := by
  obtain ⟨m1, S1, w1, e1, n1, B1, k1, q1, t1⟩ := cx_st1 (S0 := S) (i := 0) (sd := -8) (b := -8) hG hp hS hc h hk ha hps (by decide +kernel) (by decide +kernel) (by decide +kernel) (by omega) hm
  have p1 := q1 k hk
  obtain ⟨m2, S2, w2, e2, n2, B2, k2, q2, t2⟩ := cx_st1 (S0 := S) (i := 0 + 1) (sd := -1) (b := -1) hG hp hS (t1.ce hp hc) B1 (by omega) (by rw [p1]; exact ha) (by rw [p1]; exact hps) (by decide +kernel) (by decide +kernel) (by decide +kernel) (by omega) n1
  have p2 := (q2 k (by omega)).trans p1
  obtain ⟨m3, S3, w3, e3, n3, B3, k3, q3, t3⟩ := cx_st1 (S0 := S) (i := 0 + 1 + 1) (sd := 1) (b := 1) hG hp hS (t2.ce hp (t1.ce hp hc)) B2 (by omega) (by rw [p2]; exact ha) (by rw [p2]; exact hps) (by decide +kernel) (by decide +kernel) (by decide +kernel) (by omega) n2
  have p3 := (q3 k (by omega)).trans p2
  obtain ⟨m4, S4, w4, e4, n4, B4, k4, q4, t4⟩ := cx_st1 (S0 := S) (i := 0 + 1 + 1 + 1) (sd := 8) (b := 8) hG hp hS (t3.ce hp (t2.ce hp (t1.ce hp hc))) B3 (by omega) (by rw [p3]; exact ha) (by rw [p3]; exact hps) (by decide +kernel) (by decide +kernel) (by decide +kernel) (by omega) n3
  have p4 := (q4 k (by omega)).trans p3
  have e5 : F_w_stepFrom_B1 a o S (0 + 1 + 1 + 1 + 1, m4, S4) = .inr (S4, m4) := F_w_stepFrom_p0 (by decide +kernel)
  refine ⟨m4, S4, w4, ?_, n4, ?_, ((t1.tr t2).tr t3).tr t4, fun i hi => ?_, by omega⟩
  · rw [F_w_stepFrom_p4, show ((5 - ((0 : Int32)).toInt).toNat + 1) = 5 + 1 by decide +kernel, lp_sl e1, lp_sl e2, lp_sl e3, lp_sl e4, lp_sr e5]
  · refine B4.next (by omega) (fun _ d hd => ?_)
    rw [p4] at hd
    rw [p3, p2, p1]
    unfold b_nb at hd
    omega
  · rw [q4 i (by omega), q3 i (by omega), q2 i (by omega), q1 i (by omega)]
end XF
