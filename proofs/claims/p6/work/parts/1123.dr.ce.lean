/-! the reference: how far cells are -/
def mx_far (S : dg_S) (c : Int) : Int := if 0 ≤ c ∧ c < 64 then mx_fi (S.2.1 42 c.toNat).toInt else -1
def mx_q (S : dg_S) (i : Nat) : Int := (S.2.1 43 i).toInt
abbrev mx_B (G A : aR) (S : dg_S) (k w : Nat) (N : Int → Prop) : Prop := b_I (G 0 2) (s_op G A) (s_ps G A) (mx_far S) (mx_q S) k w N
def mx_h (S : dg_S) : Prop := ∀ c : Nat, c < 64 → mx_lv (S.2.1 42 c).toInt
/-- rows 42 and 43 alone -/
def k_ms (S S1 : dg_S) : Prop := kp (fun _ _ => False) (fun a => a = 42 ∨ a = 43) S S1
theorem mx_far_v {S : dg_S} {c : Int} (h0 : 0 ≤ c) (h1 : c < 64) : mx_far S c = mx_fi (S.2.1 42 c.toNat).toInt := by
  unfold mx_far
  rw [if_pos ⟨h0, h1⟩]
theorem mx_fi_n {x : Int} (h : mx_lv x) : (mx_fi x = -1 ↔ x = 100000000) ∧ (mx_fi x ≠ -1 → mx_fi x = x) ∧ mx_fo (mx_fi x) = x ∧ -1 ≤ mx_fi x ∧ mx_fi x ≤ 63 := by
  unfold mx_lv at h
  unfold mx_fi mx_fo
  by_cases z : x = 100000000
  · rw [if_pos z, if_pos rfl]
    exact ⟨⟨fun _ => z, fun _ => rfl⟩, fun q => absurd rfl q, z.symm, by decide, by decide⟩
  · rw [if_neg z, if_neg (by omega)]
    exact ⟨⟨fun q => by omega, fun q => absurd q z⟩, fun _ => rfl, rfl, by omega, by omega⟩
theorem mx_ce.keep {G A : aR} {S S1 : dg_S} {v : Nat} (h : mx_ce G A S v) (e1 : S1.2.1 31 = S.2.1 31) (e2 : S1.2.1 32 = S.2.1 32) : mx_ce G A S1 v := by
  intro c hc
  rw [e1, e2]
  exact h c hc
theorem mx_gd.keep {G : aR} {S S1 : dg_S} (h : mx_gd G S) (e0 : ∀ b, zI S1 0 b = zI S 0 b) (e : ∀ i, i ≤ 19 → S1.2.1 i = S.2.1 i) : mx_gd G S1 := by
  obtain ⟨h1, h2, h3, h4, h5⟩ := h
  refine ⟨by rw [e0]; exact h1, ?_, ?_, ?_, ?_⟩
  · rw [e0, e 2 (by decide)]; exact h2
  · rw [e0, e 3 (by decide)]; exact h3
  · rw [e0, e 4 (by decide)]; exact h4
  · rw [e0, e 9 (by decide)]; exact h5
theorem k_ms.gd {G : aR} {S S1 : dg_S} (t : k_ms S S1) (h : mx_gd G S) : mx_gd G S1 := h.keep (fun b => t.I id) (fun i hi => (t.2 i (by omega)).1)
theorem k_ms.ce {G A : aR} {S S1 : dg_S} {v : Nat} (t : k_ms S S1) (h : mx_ce G A S v) : mx_ce G A S1 v := h.keep (t.2 31 (by omega)).1 (t.2 32 (by omega)).1
section MS
variable {G A : aR} {S0 S S1 : dg_S} {v o k w : Nat} {r : Int} {a a1 bk sh : Int32} {N : Int → Prop}
theorem mx_ms1 (hb : s_gb G) (hg : mx_gd G S) (hce : mx_ce G A S v) (ha : a1.toInt = v) (hv : v ≤ 40) (h : mx_B G A S k w N) (hh : mx_h S) (hk : k < w) (hq : a.toInt = mx_q S k) (hps : s_ps G A (mx_q S k)) {x i i' m : Int32} {b : Int} (hi : i.toInt < 4) (ei : i' = i + 1) (hd : mx_dd i.toInt = b) (hn : b = -8 ∨ b = -1 ∨ b = 1 ∨ b = 8) (hm : m.toInt = w) :
    ∃ (m1 : Int32) (S1 : dg_S) (w1 : Nat), F_m_measures_B4 x S0 bk o a a1 (i, m, S) = .inl (i', m1, S1) ∧ m1.toInt = w1 ∧ mx_B G A S1 k w1 (fun c => N c ∨ c = mx_q S k + b) ∧ mx_h S1 ∧ w ≤ w1 ∧ (∀ i, i < w → mx_q S1 i = mx_q S i) ∧ k_ms S S1 := by
  have c4 : ¬ (4 : Int32) ≤ i := fun z => by have := dk_gec (k := 4) (by decide +kernel) z; omega
  have hc : s_in G a.toInt := by rw [hq]; exact hps.1
  have hbe := mx_beside (o := o) (a := a) (b := i) hg hb hc
  rw [hd] at hbe
  rcases hbe with ⟨e, q⟩ | ⟨e, q⟩
  · have n1 : ¬ F_m_besideOf o S a i = (-1 : Int32) := fun z => by
      have := dk_eqc (k := -1) (by decide +kernel) z
      have := q.1.1
      omega
    have q' := q
    rw [← e] at q'
    obtain ⟨y, hy⟩ : ∃ y, y = F_m_besideOf o S a i := ⟨_, rfl⟩
    rw [← hy] at e n1 q'
    have hyn : y.toNatClampNeg = y.toInt.toNat := rfl
    have hy0 := q'.1
    have lv := hh y.toInt.toNat (by omega)
    have fn := mx_fi_n lv
    have ey : y.toInt = mx_q S k + b := by rw [e, hq]
    have hfd : mx_far S (mx_q S k + b) = mx_fi (S.2.1 42 y.toInt.toNat).toInt := by
      rw [← ey]
      exact mx_far_v hy0.1 hy0.2
    rcases mx_op (o := o) (b := y) hce ha hv q' with ⟨f, j⟩ | ⟨f, j⟩
    · have n2 : ¬ F_m_isOpen o S a1 y = (0 : Int32) := by rw [f]; decide +kernel
      by_cases q2 : (100000000 : Int32) ≤ S.2.1 42 y.toNatClampNeg
      · have d2 := dk_gec (k := 100000000) (by decide +kernel) q2
        have f1 : mx_far S (mx_q S k + b) = -1 := by
          rw [hfd]
          unfold mx_lv at lv
          exact fn.1.mpr (by rw [hyn] at d2; omega)
        obtain ⟨n, en, ni, -⟩ := (h.2.2.1 k hk).2
        have hqk := (h.2.2.1 k hk).1
        have w64 := h.w64
        have lva := hh a.toInt.toNat (by omega)
        have fna := mx_fi_n lva
        have hfa : mx_far S (mx_q S k) = mx_fi (S.2.1 42 a.toInt.toNat).toInt := by
          rw [← hq]
          exact mx_far_v hc.1.1 hc.1.2
        have eva : (S.2.1 42 a.toNatClampNeg).toInt = n := by
          rw [hfa] at en
          have := fna.2.1 (by omega)
          show (S.2.1 42 a.toInt.toNat).toInt = n
          omega
        have ev : (S.2.1 42 a.toNatClampNeg + (1 : Int32)).toInt = (n : Int) + 1 := dk_addT eva (by decide +kernel) (by omega) (by omega)
        obtain ⟨S2, hS2⟩ : ∃ S2, S2 = dg_uf S 42 (upd (S.2.1 42) y.toNatClampNeg (S.2.1 42 a.toNatClampNeg + (1 : Int32))) := ⟨_, rfl⟩
        obtain ⟨S3, hS3⟩ : ∃ S3, S3 = dg_uf S2 43 (upd (S2.2.1 43) m.toNatClampNeg y) := ⟨_, rfl⟩
        have em : (m + 1).toInt = ((w + 1 : Nat) : Int) := by
          rw [dk_addT (a := (w : Int)) (b := 1) hm (by decide +kernel) (by omega) (by omega)]
          omega
        have emn : m.toNatClampNeg = w := by rw [dk_clN]; omega
        have r42 : S3.2.1 42 = upd (S.2.1 42) y.toInt.toNat (S.2.1 42 a.toNatClampNeg + (1 : Int32)) := by
          rw [hS3, w_f, if_neg (by decide), hS2, w_f, if_pos rfl, hyn]
        have r43 : S3.2.1 43 = upd (S.2.1 43) w y := by
          rw [hS3, w_f, if_pos rfl, emn, hS2, w_f, if_neg (by decide)]
        have kk : k_ms S S3 := by
          rw [hS3, hS2]
          exact (kp.uf (kp.uf kp.rf (Or.inl rfl)) (Or.inr rfl))
        have q3 : ∀ i, i < w → mx_q S3 i = mx_q S i := fun i hi => by
          unfold mx_q
          rw [r43, w_u, if_neg (by omega)]
        have nn : mx_fi ((n : Int) + 1) = (n : Int) + 1 := by
          unfold mx_fi
          rw [if_neg (by omega)]
        have B3 : mx_B G A S3 k (w + 1) (fun c => N c ∨ c = mx_q S k + b) := by
          refine h.push hk hps (by unfold b_nb; omega) (by rw [← ey]; exact j) f1 (by omega) ?_ (fun c hc1 => ?_) ?_ q3 (fun c z => z)
          · rw [en, ← ey, mx_far_v hy0.1 hy0.2, r42, w_u, if_pos rfl, ev]
            exact nn
          · unfold mx_far
            by_cases z : 0 ≤ c ∧ c < 64
            · rw [if_pos z, if_pos z, r42, w_u, if_neg (by omega)]
            · rw [if_neg z, if_neg z]
          · unfold mx_q
            rw [r43, w_u, if_pos rfl]
            exact ey
        have w64' := B3.w64
        refine ⟨m + 1, S3, w + 1, F_m_measures_p5 c4 hy n1 rfl n2 rfl q2 rfl rfl hS2 hS3 rfl ei, em, B3, fun c hc1 => ?_, by omega, q3, kk⟩
        rw [r42, w_u]
        split
        · rw [ev]
          exact Or.inr ⟨by omega, by omega⟩
        · exact hh c hc1
      · have d2 := dk_ngec (k := 100000000) (by decide +kernel) q2
        refine ⟨m, S, w, F_m_measures_p6 c4 hy n1 rfl n2 rfl q2 ei, hm, ?_, hh, Nat.le_refl _, fun _ _ => rfl, kp.rf⟩
        refine h.more (fun c hc1 => ?_)
        rcases hc1 with z | z
        · exact Or.inl z
        · refine Or.inr (fun _ _ z1 => ?_)
          rw [z, hfd] at z1
          have := fn.1.mp z1
          rw [hyn] at d2
          omega
    · refine ⟨m, S, w, F_m_measures_p4 c4 hy n1 rfl f ei, hm, ?_, hh, Nat.le_refl _, fun _ _ => rfl, kp.rf⟩
      refine h.more (fun c hc1 => ?_)
      rcases hc1 with z | z
      · exact Or.inl z
      · refine Or.inr (fun z1 _ => absurd ?_ j)
        rw [ey, ← z]
        exact z1
  · refine ⟨m, S, w, F_m_measures_p3 c4 rfl e ei, hm, ?_, hh, Nat.le_refl _, fun _ _ => rfl, kp.rf⟩
    refine h.more (fun c hc1 => ?_)
    rcases hc1 with z | z
    · exact Or.inl z
    · refine Or.inr (fun z1 _ => absurd ?_ q)
      rw [hq, ← z]
      exact z1.1
theorem mx_ms4 (hb : s_gb G) (hg : mx_gd G S) (hce : mx_ce G A S v) (ha : a1.toInt = v) (hv : v ≤ 40) (h : mx_B G A S k w (fun _ => False)) (hh : mx_h S) (hk : k < w) (hq : a.toInt = mx_q S k) (hps : s_ps G A (mx_q S k)) {x m : Int32} (hm : m.toInt = w) {z9 : (Int32 × Int32 × dg_S) ⊕ dg_S} :
    ∃ (m1 : Int32) (S1 : dg_S) (w1 : Nat), lp (F_m_measures_B4 x S0 bk o a a1) z9 ((5 - ((0 : Int32)).toInt).toNat + 1) ((0 : Int32), m, S) = .inl (x + 1, m1, S1) ∧ m1.toInt = w1 ∧ mx_B G A S1 (k + 1) w1 (fun _ => False) ∧ mx_h S1 ∧ (∀ i, i < w → mx_q S1 i = mx_q S i) ∧ k_ms S S1 := by
  have z0 : (0 : Int32).toInt = 0 := by decide +kernel
  have t1 : (1 : Int32).toInt = 1 := by decide +kernel
  have t2 : (2 : Int32).toInt = 2 := by decide +kernel
  have t3 : (3 : Int32).toInt = 3 := by decide +kernel
  obtain ⟨m1, S1, w1, e1, n1, B1, h1, l1, q1, k1⟩ := mx_ms1 (S0 := S0) (o := o) (bk := bk) (x := x) (i := 0) (i' := 1) (b := -8) hb hg hce ha hv h hh hk hq hps (by rw [z0]; omega) (by decide +kernel) (by rw [z0]; rfl) (by omega) hm
  have p1 := q1 k hk
  obtain ⟨m2, S2, w2, e2, n2, B2, h2, l2, q2, k2⟩ := mx_ms1 (S0 := S0) (o := o) (bk := bk) (x := x) (i := 1) (i' := 2) (b := 1) hb (k1.gd hg) (k1.ce hce) ha hv B1 h1 (by omega) (by rw [p1]; exact hq) (by rw [p1]; exact hps) (by rw [t1]; omega) (by decide +kernel) (by rw [t1]; rfl) (by omega) n1
  have p2 := (q2 k (by omega)).trans p1
  have kk2 := k1.tr k2
  obtain ⟨m3, S3, w3, e3, n3, B3, h3, l3, q3, k3⟩ := mx_ms1 (S0 := S0) (o := o) (bk := bk) (x := x) (i := 2) (i' := 3) (b := 8) hb (k_ms.gd kk2 hg) (k_ms.ce kk2 hce) ha hv B2 h2 (by omega) (by rw [p2]; exact hq) (by rw [p2]; exact hps) (by rw [t2]; omega) (by decide +kernel) (by rw [t2]; rfl) (by omega) n2
  have p3 := (q3 k (by omega)).trans p2
  have kk3 := kk2.tr k3
  obtain ⟨m4, S4, w4, e4, n4, B4, h4, l4, q4, k4⟩ := mx_ms1 (S0 := S0) (o := o) (bk := bk) (x := x) (i := 3) (i' := 4) (b := -1) hb (k_ms.gd kk3 hg) (k_ms.ce kk3 hce) ha hv B3 h3 (by omega) (by rw [p3]; exact hq) (by rw [p3]; exact hps) (by rw [t3]; omega) (by decide +kernel) (by rw [t3]; rfl) (by omega) n3
  have p4 := (q4 k (by omega)).trans p3
  refine ⟨m4, S4, w4, ?_, n4, ?_, h4, fun i hi => ?_, kk3.tr k4⟩
  · rw [show ((5 - ((0 : Int32)).toInt).toNat + 1) = 5 + 1 by rw [z0]; rfl]
    have e5 : F_m_measures_B4 x S0 bk o a a1 (4, m4, S4) = .inr (.inl (x + 1, m4, S4)) := by
      rw [F_m_measures_p2 (by decide +kernel), F_m_measures_p1 rfl]
    exact (lp_sl (n := 5) e1).trans ((lp_sl (n := 4) e2).trans ((lp_sl (n := 3) e3).trans ((lp_sl (n := 2) e4).trans (lp_sr (n := 1) e5))))
  · refine B4.next (by omega) (fun _ d hd => ?_)
    rw [p4] at hd
    rw [p3, p2, p1]
    unfold b_nb at hd
    omega
  · rw [q4 i (by omega), q3 i (by omega), q2 i (by omega), q1 i hi]
theorem mx_mturn (hb : s_gb G) (hg : mx_gd G S) (hce : mx_ce G A S v) (ha : a1.toInt = v) (hv : v ≤ 40) (h : mx_B G A S k w (fun _ => False)) (hh : mx_h S) (hk : k < w) {kI wI : Int32} (hkI : kI.toInt = k) (hwI : wI.toInt = w) :
    ∃ (m1 : Int32) (S1 : dg_S) (w1 : Nat), F_m_measures_B2 a1 S0 bk o (kI, wI, S) = .inl (kI + 1, m1, S1) ∧ m1.toInt = w1 ∧ mx_B G A S1 (k + 1) w1 (fun _ => False) ∧ mx_h S1 ∧ k_ms S S1 := by
  have w64 := h.w64
  have hq := (h.2.2.1 k hk).1
  have hc : s_in G (mx_q S k) := hq.2.2.1
  have c0 : ¬ wI ≤ kI := fun z => by
    have := dk_lec (k := kI.toInt) rfl z
    omega
  have ekn : kI.toNatClampNeg = k := by rw [dk_clN]; omega
  obtain ⟨a, ha9⟩ : ∃ a, a = S.2.1 43 kI.toNatClampNeg := ⟨_, rfl⟩
  have hqa : a.toInt = mx_q S k := by rw [ha9, ekn]; rfl
  have ad := mx_adr (a := a1) (b := a) ha hv (by omega)
  obtain ⟨-, e2, l, u⟩ := hce (mx_q S k) hc
  rw [← hqa] at e2
  unfold mx_cu at e2
  by_cases q1 : S.2.1 32 ((64 : Int32) * a1 + a).toNatClampNeg = (1 : Int32)
  · have d1 := dk_eqc (k := 1) (by decide +kernel) q1
    have np : ¬ s_ps G A (mx_q S k) := fun z => by
      rw [ad, e2, if_neg (by rw [hqa]; have := z.2; omega)] at d1
      exact absurd d1 (by decide)
    exact ⟨wI, S, w, F_m_measures_p8 c0 ha9 rfl rfl rfl q1 rfl, hwI, h.next hk (fun z => absurd z np), hh, kp.rf⟩
  · have d1 := dk_neqc (k := 1) (by decide +kernel) q1
    have hp1 : s_ps G A (mx_q S k) := by
      refine ⟨hc, ?_⟩
      have h1 := hq.2.2.2
      by_cases z : s_c A a.toInt = -2
      · rw [ad, e2, if_pos z] at d1
        exact absurd rfl d1
      · rw [hqa] at z
        omega
    obtain ⟨m1, S1, w1, e1, n1, B1, h1, -, k1⟩ := mx_ms4 (S0 := S0) (o := o) (bk := bk) (x := kI) (z9 := Sum.inr S0) hb hg hce ha hv h hh hk hqa hp1 hwI
    exact ⟨m1, S1, w1, (F_m_measures_p7 c0 ha9 rfl rfl rfl q1).trans e1, n1, B1, h1, k1⟩
theorem mx_mloop (hb : s_gb G) (ha : a1.toInt = v) (hv : v ≤ 40) {z : dg_S} : ∀ (n k w : Nat) (kI wI : Int32) (S : dg_S), 65 ≤ n + k → mx_gd G S → mx_ce G A S v → mx_B G A S k w (fun _ => False) → mx_h S → kI.toInt = k → wI.toInt = w → ∃ (S1 : dg_S) (k1 w1 : Nat), lp (F_m_measures_B2 a1 S0 bk o) z n (kI, wI, S) = S1 ∧ mx_B G A S1 k1 w1 (fun _ => False) ∧ mx_h S1 ∧ w1 ≤ k1 ∧ k_ms S S1 := by
  intro n
  induction n with
  | zero =>
    intro k w kI wI S hn hg hc h hh hk hw
    have := h.w64
    have := h.1.2.1
    omega
  | succ n ih =>
    intro k w kI wI S hn hg hc h hh hk hw
    have w64 := h.w64
    by_cases q : k < w
    · obtain ⟨m1, S1, w1, e1, n1, B1, h1, t1⟩ := mx_mturn (S0 := S0) (o := o) (bk := bk) hb hg hc ha hv h hh q hk hw
      have ek : (kI + 1).toInt = ((k + 1 : Nat) : Int) := by
        rw [dk_addT (a := (k : Int)) (b := 1) hk (by decide +kernel) (by omega) (by omega)]
        omega
      obtain ⟨S2, k2, w2, e2, B2, h2, l2, t2⟩ := ih (k + 1) w1 (kI + 1) m1 S1 (by omega) (t1.gd hg) (t1.ce hc) B1 h1 ek n1
      exact ⟨S2, k2, w2, (lp_sl e1).trans e2, B2, h2, l2, t1.tr t2⟩
    · have c0 : wI ≤ kI := dk_lep (k := kI.toInt) rfl (by omega)
      exact ⟨S, k, w, lp_sr (F_m_measures_p0 c0), h, hh, by omega, kp.rf⟩
/-- all cells far, but the shaft's -/
def mx_ini (sh : Int32) (S : dg_S) (c : Nat) : Prop := ∀ j : Nat, j < c → S.2.1 42 j = if (j : Int) = sh.toInt then (0 : Int32) else 100000000
theorem mx_iloop {z : dg_S} : ∀ (n c : Nat) (cI : Int32) (S : dg_S), 65 ≤ n + c → c ≤ 64 → cI.toInt = c → mx_ini sh S c → ∃ S1, lp (F_m_measures_B5 sh a1 S0 bk o) z n (cI, S) = F_m_measures_J1 S1 sh a1 S0 bk o ∧ mx_ini sh S1 64 ∧ k_ms S S1 := by
  intro n
  induction n with
  | zero =>
    intro c cI S hn hc
    omega
  | succ n ih =>
    intro c cI S hn hc hcI hi
    by_cases q : (64 : Int32) ≤ cI
    · have d := dk_gec (k := 64) (by decide +kernel) q
      have ec : c = 64 := by omega
      subst ec
      exact ⟨S, lp_sr (F_m_measures_p10 q), hi, kp.rf⟩
    · have d := dk_ngec (k := 64) (by decide +kernel) q
      have ek : (cI + 1).toInt = ((c + 1 : Nat) : Int) := by
        rw [dk_addT (a := (c : Int)) (b := 1) hcI (by decide +kernel) (by omega) (by omega)]
        omega
      have ecn : cI.toNatClampNeg = c := by rw [dk_clN]; omega
      have go : ∀ y : Int32, y = (if (c : Int) = sh.toInt then (0 : Int32) else 100000000) → ∃ S2, S2 = dg_uf S 42 (upd (S.2.1 42) cI.toNatClampNeg y) ∧ mx_ini sh S2 (c + 1) ∧ k_ms S S2 := fun y hy => by
        refine ⟨_, rfl, fun j hj => ?_, kp.uf kp.rf (Or.inl rfl)⟩
        rw [w_f, if_pos rfl, w_u, ecn]
        by_cases e : j = c
        · rw [if_pos e, hy, e]
        · rw [if_neg e]
          exact hi j (by omega)
      by_cases q2 : cI = sh
      · obtain ⟨S2, e2, i2, k2⟩ := go 0 (by rw [if_pos (by rw [← q2, hcI])])
        obtain ⟨S1, e1, i1, k1⟩ := ih (c + 1) (cI + 1) S2 (by omega) (by omega) ek i2
        exact ⟨S1, (lp_sl (F_m_measures_p12 q q2 e2 rfl)).trans e1, i1, k2.tr k1⟩
      · obtain ⟨S2, e2, i2, k2⟩ := go 100000000 (by rw [if_neg (fun z => q2 (Int32.toInt_inj.mp (by rw [hcI, z])))])
        obtain ⟨S1, e1, i1, k1⟩ := ih (c + 1) (cI + 1) S2 (by omega) (by omega) ek i2
        exact ⟨S1, (lp_sl (F_m_measures_p11 q q2 e2 rfl)).trans e1, i1, k2.tr k1⟩
theorem mx_measures (hb : s_gb G) (hg : mx_gd G S) (hce : mx_ce G A S v) (ha : a1.toInt = v) (hv : v ≤ 40) (hps : s_ps G A (G 0 2)) : ∃ S1, F_m_measures o S a1 = S1 ∧ mx_fr G A S1 ∧ k_ms S S1 := by
  have z0 : (0 : Int32).toInt = 0 := by decide +kernel
  have z1 : (1 : Int32).toInt = 1 := by decide +kernel
  have z8 : (100000000 : Int32).toInt = 100000000 := by decide +kernel
  have zn : (0 : Int32).toNatClampNeg = 0 := by decide +kernel
  have hsi := hps.1.1
  obtain ⟨bk, hbk⟩ : ∃ bk, bk = zI S 0 13 := ⟨_, rfl⟩
  obtain ⟨sh, hsh⟩ : ∃ sh, sh = S.2.1 4 bk.toNatClampNeg := ⟨_, rfl⟩
  have esh : sh.toInt = G 0 2 := by rw [hsh, hbk]; exact hg.2.2.2.1
  obtain ⟨S2, e2, i2, k2⟩ := mx_iloop (S0 := S) (o := o) (bk := bk) (sh := sh) (a1 := a1) (z := S) ((65 - ((0 : Int32)).toInt).toNat + 1) 0 0 S (by rw [z0]; decide) (by decide) z0 (fun j hj => absurd hj (Nat.not_lt_zero j))
  obtain ⟨S3, hS3⟩ : ∃ S3, S3 = dg_uf S2 43 (upd (S2.2.1 43) (0 : Int32).toNatClampNeg sh) := ⟨_, rfl⟩
  have k3 : k_ms S S3 := by
    rw [hS3]
    exact kp.uf k2 (Or.inr rfl)
  have r42 : S3.2.1 42 = S2.2.1 42 := by rw [hS3, w_f, if_neg (by decide)]
  have r43 : S3.2.1 43 0 = sh := by rw [hS3, w_f, if_pos rfl, w_u, zn, if_pos rfl]
  have hh : mx_h S3 := fun c hc => by
    rw [r42, i2 c hc]
    split
    · rw [z0]
      exact Or.inr ⟨by decide, by decide⟩
    · exact Or.inl z8
  have f0 : mx_far S3 (G 0 2) = 0 := by
    rw [mx_far_v hsi.1 hsi.2, r42, i2 _ (by omega), if_pos (by omega), z0]
    rfl
  have fn : ∀ c, c ≠ G 0 2 → mx_far S3 c = -1 := fun c hc1 => by
    unfold mx_far
    by_cases z : 0 ≤ c ∧ c < 64
    · rw [if_pos z, r42, i2 _ (by omega), if_neg (by omega), z8]
      rfl
    · rw [if_neg z]
  have B0 : mx_B G A S3 0 1 (fun _ => False) := by
    refine b_I.init ?_ f0 fn hsi ⟨hps.1, by have := hps.2; omega⟩
    unfold mx_q
    rw [r43]
    exact esh
  obtain ⟨S1, k1, w1, e1, B1, h1, l1, t1⟩ := mx_mloop (S0 := S) (o := o) (bk := bk) (z := S) hb ha hv ((65 - ((0 : Int32)).toInt).toNat + 1) 0 1 0 1 S3 (by rw [z0]; decide) (k3.gd hg) (k3.ce hce) B0 hh z0 z1
  refine ⟨S1, ?_, fun c hc => ?_, k3.tr t1⟩
  · rw [F_m_measures_p13 hbk hsh, e2, F_m_measures_p9 hS3]
    exact e1
  · have hc0 := hc.1
    have fn := mx_fi_n (h1 c.toNat (by omega))
    have e := s_fd_eq (B1.far l1) c
    rw [mx_far_v hc0.1 hc0.2] at e
    rw [← e]
    exact ⟨fn.2.2.1.symm, fn.2.2.2.1, fn.2.2.2.2⟩
theorem mx_bex (hb : s_gb G) (hg : mx_gd G S) (hce : mx_ce G A S v) (hv : v ≤ 40) (hps : s_ps G A (G 0 2)) : ∃ f, b_far (G 0 2) (s_op G A) (s_ps G A) f := by
  obtain ⟨a1, ha⟩ : ∃ a1 : Int32, a1.toInt = v := ⟨Int32.ofInt v, by
    have key : ∀ n : Nat, n ≤ 40 → (Int32.ofInt (n : Int)).toInt = n := by decide +kernel
    exact key v hv⟩
  obtain ⟨o, -⟩ : ∃ o : Nat, o = 0 := ⟨0, rfl⟩
  have z0 : (0 : Int32).toInt = 0 := by decide +kernel
  have z1 : (1 : Int32).toInt = 1 := by decide +kernel
  have z8 : (100000000 : Int32).toInt = 100000000 := by decide +kernel
  have zn : (0 : Int32).toNatClampNeg = 0 := by decide +kernel
  have hsi := hps.1.1
  obtain ⟨bk, hbk⟩ : ∃ bk, bk = zI S 0 13 := ⟨_, rfl⟩
  obtain ⟨sh, hsh⟩ : ∃ sh, sh = S.2.1 4 bk.toNatClampNeg := ⟨_, rfl⟩
  have esh : sh.toInt = G 0 2 := by rw [hsh, hbk]; exact hg.2.2.2.1
  obtain ⟨S2, e2, i2, k2⟩ := mx_iloop (S0 := S) (o := o) (bk := bk) (sh := sh) (a1 := a1) (z := S) ((65 - ((0 : Int32)).toInt).toNat + 1) 0 0 S (by rw [z0]; decide) (by decide) z0 (fun j hj => absurd hj (Nat.not_lt_zero j))
  obtain ⟨S3, hS3⟩ : ∃ S3, S3 = dg_uf S2 43 (upd (S2.2.1 43) (0 : Int32).toNatClampNeg sh) := ⟨_, rfl⟩
  have k3 : k_ms S S3 := by
    rw [hS3]
    exact kp.uf k2 (Or.inr rfl)
  have r42 : S3.2.1 42 = S2.2.1 42 := by rw [hS3, w_f, if_neg (by decide)]
  have r43 : S3.2.1 43 0 = sh := by rw [hS3, w_f, if_pos rfl, w_u, zn, if_pos rfl]
  have hh : mx_h S3 := fun c hc => by
    rw [r42, i2 c hc]
    split
    · rw [z0]
      exact Or.inr ⟨by decide, by decide⟩
    · exact Or.inl z8
  have f0 : mx_far S3 (G 0 2) = 0 := by
    rw [mx_far_v hsi.1 hsi.2, r42, i2 _ (by omega), if_pos (by omega), z0]
    rfl
  have fn : ∀ c, c ≠ G 0 2 → mx_far S3 c = -1 := fun c hc1 => by
    unfold mx_far
    by_cases z : 0 ≤ c ∧ c < 64
    · rw [if_pos z, r42, i2 _ (by omega), if_neg (by omega), z8]
      rfl
    · rw [if_neg z]
  have B0 : mx_B G A S3 0 1 (fun _ => False) := by
    refine b_I.init ?_ f0 fn hsi ⟨hps.1, by have := hps.2; omega⟩
    unfold mx_q
    rw [r43]
    exact esh
  obtain ⟨S1, k1, w1, e1, B1, h1, l1, t1⟩ := mx_mloop (S0 := S) (o := o) (bk := bk) (z := S) hb ha hv ((65 - ((0 : Int32)).toInt).toNat + 1) 0 1 0 1 S3 (by rw [z0]; decide) (k3.gd hg) (k3.ce hce) B0 hh z0 z1
  exact ⟨_, B1.far l1⟩
end MS
