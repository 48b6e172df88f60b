/-! the class spreads light, all of it -/
section XT
variable {G A : aR} {S0 S S1 : dg_S} {p g o k w : Nat} {a : Int32} {r : Int}
/-- where the spreading stands -/
def cx_LP (G A : aR) (r : Int) (S0 S : dg_S) (k w : Nat) : Prop := cx_B G A S k w (fun _ => False) ∧ ∃ ec : Nat, (zI S 214 4).toInt = ec ∧ cx_L G A r (cx_far S) (fun c d => b_nb c d ∧ ∃ i, i < k ∧ cx_q S i = c) S ec
theorem cx_same {k1 w1 : Nat} {N N1 : Int → Prop} (h : cx_B G A S k w N) (h1 : cx_B G A S1 k1 w1 N1) (hq : ∀ i, i < w → cx_q S1 i = cx_q S i) (hw : w ≤ w1) {i : Nat} (hi : i < w) : cx_far S1 (cx_q S i) = cx_far S (cx_q S i) := by
  obtain ⟨-, n, e, -, d⟩ := h.2.2.1 i hi
  obtain ⟨-, n1, e1, -, d1⟩ := h1.2.2.1 i (by omega)
  rw [hq i hi] at e1 d1
  have a : ¬ n < n1 := fun z => d1.2 n z d.1
  have b : ¬ n1 < n := fun z => d.2 n1 z d1.1
  rw [e, e1]
  omega
theorem cx_turn (hG : G 0 0 ≤ 7 ∧ G 0 1 ≤ 7) (hp : pX p) (hS : zR o S0 214 7 = p) (hS2 : zR o S 214 7 = p) (hr : (zI S0 214 8).toInt = r) (hc : cx_ce G A S p) (h : cx_LP G A r S0 S k w) (hk : k < w) {kI wI eI : Int32} (hkI : kI.toInt = k) (hwI : wI.toInt = w) :
    ∃ (w1 : Nat) (wI1 eI1 : Int32) (S1 : dg_S), F_w_spreadLight_B2 o S0 (kI, wI, eI, S) = .inl (kI + 1, wI1, eI1, S1) ∧ wI1.toInt = w1 ∧ (kI + 1).toInt = ((k + 1 : Nat) : Int) ∧ k_lo S S1 ∧ cx_LP G A r S0 S1 (k + 1) w1 := by
  obtain ⟨hB, ec, hec, hL⟩ := h
  have w64 := hB.w64
  have hq := (hB.2.2.1 k hk).1
  have hq0 : 0 ≤ cx_q S k ∧ cx_q S k < 56 := s_in_56 hG hq.2.2.1
  have c0 : ¬ wI ≤ kI := fun z => by
    have := dk_lec (k := kI.toInt) rfl z
    omega
  have ek : (kI + 1).toInt = ((k + 1 : Nat) : Int) := by
    rw [dk_addT (a := (k : Int)) (b := 1) hkI (by decide +kernel) (by omega) (by omega)]
    omega
  have ekn : kI.toNatClampNeg = k := by rw [dk_clN]; omega
  obtain ⟨a, ha⟩ : ∃ a, a = S.2.1 220 kI.toNatClampNeg := ⟨_, rfl⟩
  have hqa : a.toInt - 8 = cx_q S k := by rw [ha, ekn]; rfl
  have hat : cx_at S p a.toInt = (S.2.1 (p + 1) a.toNatClampNeg).toInt := rfl
  have hps := hc.ps (x := a.toInt) (by omega) (by omega)
  rw [hqa] at hps
  obtain ⟨n, en, ni, -⟩ := (hB.2.2.1 k hk).2
  have hfk : cx_far S (cx_q S k) = (S.2.1 217 a.toNatClampNeg).toInt := by
    unfold cx_far
    rw [if_pos (by omega), show cx_q S k + 8 = a.toInt by omega]
    rfl
  have ext : ∀ (S1 : dg_S) (w1 : Nat), cx_B G A S1 (k + 1) w1 (fun _ => False) → (∀ i, i < w → cx_q S1 i = cx_q S i) → (∀ i, i < w → cx_far S1 (cx_q S i) = cx_far S (cx_q S i)) → (¬ cx_lq G A r (cx_far S) (cx_q S k)) → cx_L G A r (cx_far S) (fun c d => b_nb c d ∧ ∃ i, i < k ∧ cx_q S i = c) S1 ec → cx_L G A r (cx_far S1) (fun c d => b_nb c d ∧ ∃ i, i < k + 1 ∧ cx_q S1 i = c) S1 ec := by
    intro S1 w1 B1 q1 f1 nl L1
    refine L1.to (fun c d hd => ?_) (fun c d hd => ?_) (fun c d hd hl => ?_)
    · obtain ⟨-, i, hi, ei⟩ := hd
      rw [← ei]
      exact f1 i (by omega)
    · obtain ⟨hn, i, hi, ei⟩ := hd
      exact ⟨hn, i, by omega, by rw [q1 i (by omega)]; exact ei⟩
    · obtain ⟨hn, i, hi, ei⟩ := hd
      by_cases z : i < k
      · exact ⟨hn, i, z, by rw [← q1 i (by omega)]; exact ei⟩
      · have z1 : i = k := by omega
        subst z1
        rw [q1 i hk] at ei
        refine absurd ?_ nl
        rw [← ei] at hl
        exact ⟨hl.1, by rw [← f1 i hk]; exact hl.2⟩
  have keepL : ∀ S1, k_sl S S1 → cx_L G A r (cx_far S) (fun c d => b_nb c d ∧ ∃ i, i < k ∧ cx_q S i = c) S ec → cx_L G A r (cx_far S) (fun c d => b_nb c d ∧ ∃ i, i < k ∧ cx_q S i = c) S1 ec := by
    intro S1 t L
    have e1 : cx_bm S1 = cx_bm S := by
      funext x
      unfold cx_bm
      rw [(t.2 218 (by omega)).1]
    have e2 : cx_ex S1 = cx_ex S := by
      funext x
      unfold cx_ex
      rw [(t.2 219 (by omega)).1]
    unfold cx_L at L ⊢
    rw [e1, e2]
    exact L
  by_cases q1 : S.2.1 (p + 1) a.toNatClampNeg = (255 : Int32)
  · have hp1 : s_ps G A (cx_q S k) := hps.mp (by rw [hat, q1]; decide +kernel)
    by_cases q2 : zI S0 214 8 < S.2.1 217 a.toNatClampNeg
    · have d2 := dk_ltc (k := (S.2.1 217 a.toNatClampNeg).toInt) rfl q2
      obtain ⟨m1, S1, w1, e1, n1, B1, t1, q3, w3⟩ := cx_step (o := o) (m := wI) hG hp hS2 hc hB hk hqa hp1 hwI
      have hf1 : ∀ i, i < w → cx_far S1 (cx_q S i) = cx_far S (cx_q S i) := fun i hi => cx_same hB B1 q3 (by omega) hi
      refine ⟨w1, m1, eI, S1, F_w_spreadLight_p2 c0 ha hS.symm rfl q1 rfl rfl q2 (by rw [e1]) (by rw [e1]) rfl, n1, ek, t1.lo, B1, ec, ?_, ext S1 w1 B1 q3 hf1 (fun z => ?_) (keepL S1 t1 hL)⟩
      · rw [t1.I (fun z => z)]
        exact hec
      · have := z.2
        omega
    · have d2 := dk_nltc (k := (S.2.1 217 a.toNatClampNeg).toInt) rfl q2
      have hl : cx_lq G A r (cx_far S) (cx_q S k) := ⟨hp1, by omega⟩
      obtain ⟨S1, e1, f1, n1, L1, t1⟩ := cx_shine (o := o) (a := a) hp hS2 hc hL (by omega) hqa.symm hl hfk.symm (by omega) (fun c d hd hl2 => by
        obtain ⟨-, i, hi, ei⟩ := hd
        rw [← ei]
        exact hB.2.2.2.1 i k (by omega) hk) hec
      have B0 : cx_B G A S1 k w (fun _ => False) := by
        have r1 : cx_far S1 = cx_far S := by
          funext c
          unfold cx_far
          rw [(t1.2 217 (by omega)).1]
        have r2 : cx_q S1 = cx_q S := by
          funext i
          unfold cx_q
          rw [(t1.2 220 (by omega)).1]
        unfold cx_B
        rw [r1, r2]
        exact hB
      have r1 : cx_far S1 = cx_far S := by
        funext c
        unfold cx_far
        rw [(t1.2 217 (by omega)).1]
      have r2 : cx_q S1 = cx_q S := by
        funext i
        unfold cx_q
        rw [(t1.2 220 (by omega)).1]
      obtain ⟨m2, S2, w2, e2, n2, B2, t2, q3, w3⟩ := cx_step (o := o) (m := wI) hG hp (by rw [t1.R (fun z => absurd z.2 (by decide))]; exact hS2) (t1.ce hp hc) B0 hk (by rw [r2]; exact hqa) (by rw [r2]; exact hp1) hwI
      have hf2 : ∀ i, i < w → cx_far S2 (cx_q S i) = cx_far S (cx_q S i) := fun i hi => by
        have := cx_same B0 B2 q3 (by omega) hi
        rw [r1, r2] at this
        exact this
      have q4 : ∀ i, i < w → cx_q S2 i = cx_q S i := fun i hi => by rw [q3 i hi, r2]
      refine ⟨w2, m2, zI S1 214 4, S2, F_w_spreadLight_p3 c0 ha hS.symm rfl q1 rfl rfl q2 f1.symm rfl (by rw [e2]) (by rw [e2]) rfl, n2, ek, t1.lo.tr t2.lo, B2, e1, ?_, ?_⟩
      · rw [t2.I (fun z => z)]
        exact n1
      · have b1 : cx_bm S2 = cx_bm S1 := by
          funext x
          unfold cx_bm
          rw [(t2.2 218 (by omega)).1]
        have b2 : cx_ex S2 = cx_ex S1 := by
          funext x
          unfold cx_ex
          rw [(t2.2 219 (by omega)).1]
        have L2 : cx_L G A r (cx_far S) (fun c d => (b_nb c d ∧ ∃ i, i < k ∧ cx_q S i = c) ∨ (c = cx_q S k ∧ b_nb (cx_q S k) d)) S2 e1 := by
          unfold cx_L at L1 ⊢
          rw [b1, b2]
          exact L1
        refine L2.to (fun c d hd => ?_) (fun c d hd => ?_) (fun c d hd hl => ?_)
        · rcases hd with ⟨-, i, hi, ei⟩ | ⟨ei, -⟩
          · rw [← ei]
            exact hf2 i (by omega)
          · rw [ei]
            exact hf2 k hk
        · rcases hd with ⟨hn, i, hi, ei⟩ | ⟨ei, hn⟩
          · exact ⟨hn, i, by omega, by rw [q4 i (by omega)]; exact ei⟩
          · exact ⟨by rw [ei]; exact hn, k, by omega, by rw [q4 k hk]; exact ei.symm⟩
        · obtain ⟨hn, i, hi, ei⟩ := hd
          by_cases z : i < k
          · exact Or.inl ⟨hn, i, z, by rw [← q4 i (by omega)]; exact ei⟩
          · have z1 : i = k := by omega
            subst z1
            rw [q4 i hk] at ei
            exact Or.inr ⟨ei.symm, by rw [ei]; exact hn⟩
  · have np : ¬ s_ps G A (cx_q S k) := fun z => q1 (dk_eqp (k := 255) (by decide +kernel) (by rw [← hat]; exact hps.mpr z))
    have B1 : cx_B G A S (k + 1) w (fun _ => False) := hB.next hk (fun z => absurd z np)
    exact ⟨w, wI, eI, S, F_w_spreadLight_p1 c0 ha hS.symm rfl q1 rfl, hwI, ek, kp.rf, B1, ec, hec, ext S w B1 (fun _ _ => rfl) (fun _ _ => rfl) (fun z => np z.1) hL⟩
theorem cx_loop (hG : G 0 0 ≤ 7 ∧ G 0 1 ≤ 7) (hp : pX p) (hS : zR o S0 214 7 = p) (hr : (zI S0 214 8).toInt = r) {z : dg_S} : ∀ (n k w : Nat) (kI wI eI : Int32) (S : dg_S), 65 ≤ n + k → zR o S 214 7 = p → cx_ce G A S p → cx_LP G A r S0 S k w → kI.toInt = k → wI.toInt = w → ∃ (S1 : dg_S) (k1 w1 : Nat), lp (F_w_spreadLight_B2 o S0) z n (kI, wI, eI, S) = S1 ∧ cx_LP G A r S0 S1 k1 w1 ∧ w1 ≤ k1 ∧ k_lo S S1 := by
  intro n
  induction n with
  | zero =>
    intro k w kI wI eI S hn hS2 hc h hk hw
    have := h.1.w64
    have := h.1.1.2.1
    omega
  | succ n ih =>
    intro k w kI wI eI S hn hS2 hc h hk hw
    have w64 := h.1.w64
    by_cases q : k < w
    · obtain ⟨w1, wI1, eI1, S1, e1, n1, k1, t1, L1⟩ := cx_turn (eI := eI) hG hp hS hS2 hr hc h q hk hw
      obtain ⟨S2, k2, w2, e2, L2, l2, t2⟩ := ih (k + 1) w1 (kI + 1) wI1 eI1 S1 (by omega) (by rw [t1.R (fun z => by omega)]; exact hS2) (t1.ce hp hc) L1 k1 n1
      exact ⟨S2, k2, w2, by rw [lp_sl e1]; exact e2, L2, l2, t1.tr t2⟩
    · have c0 : wI ≤ kI := dk_lep (k := kI.toInt) rfl (by omega)
      exact ⟨S, k, w, lp_sr (F_w_spreadLight_p0 c0), h, by omega, kp.rf⟩
/-- far, beam and exposed as the pit makes them -/
theorem cx_spread (hG : (0 < G 0 0 ∧ 0 < G 0 1) ∧ G 0 0 ≤ 7 ∧ G 0 1 ≤ 7) (hp : pX p) (hS : zR o S 214 7 = p) (hg : zR o S 214 6 = g) (hgs : g ≠ 214) (hr : (zI S 214 8).toInt = r) (hr9 : 0 ≤ r ∧ r ≤ 900) (hc : cx_ce G A S p) (hsh : (zI S g 2).toInt = G 0 2 + 8) (hs0 : 0 ≤ G 0 2) (hps : s_ps G A (G 0 2)) (hst : (zI S 214 9).toInt ≠ 0) : ∃ S1, F_w_spreadLight o S = S1 ∧ cx_light G A r S1 ∧ k_sp S S1 ∧ (zI S1 214 9).toInt = 0 := by
  have hsi := s_in_56 hG.2 hps.1
  have q0 : ¬ zI S 214 9 = (0 : Int32) := fun z => hst (dk_eqc (k := 0) (by decide +kernel) z)
  obtain ⟨S4, hS4⟩ : ∃ S4, S4 = dg_uF S 214 9 (.int (0 : Int32)) := ⟨_, rfl⟩
  obtain ⟨S6, hS6⟩ : ∃ S6, S6 = dg_uf S4 217 (dk_fl (S4.2.1 217) (-1 : Int32) 72) := ⟨_, rfl⟩
  obtain ⟨S8, hS8⟩ : ∃ S8, S8 = dg_uf S6 218 (dk_fl (S6.2.1 218) (1000 : Int32) 72) := ⟨_, rfl⟩
  obtain ⟨S10, hS10⟩ : ∃ S10, S10 = dg_uF S8 214 4 (.int (0 : Int32)) := ⟨_, rfl⟩
  have t10 : k_sp S S10 := by
    rw [hS10, hS8, hS6, hS4]
    exact kp.uF (kp.uf (kp.uf (kp.uF kp.rf ⟨rfl, Or.inr rfl⟩) ⟨by decide, by decide⟩) ⟨by decide, by decide⟩) ⟨rfl, Or.inl rfl⟩
  have q1 : ¬ zI S g 2 = (-1 : Int32) := fun z => by
    have := dk_eqc (k := -1) (by decide +kernel) z
    omega
  obtain ⟨S15, hS15⟩ : ∃ S15, S15 = dg_uf S10 217 (upd (S10.2.1 217) (zI S g 2).toNatClampNeg (0 : Int32)) := ⟨_, rfl⟩
  obtain ⟨S18, hS18⟩ : ∃ S18, S18 = dg_uf S15 220 (upd (S15.2.1 220) (0 : Int32).toNatClampNeg (zI S g 2)) := ⟨_, rfl⟩
  have t18 : k_sp S S18 := by
    rw [hS18, hS15]
    exact kp.uf (kp.uf t10 ⟨by decide, by decide⟩) ⟨by decide, by decide⟩
  have en : (zI S g 2).toNatClampNeg = (G 0 2 + 8).toNat := by rw [dk_clN, hsh]
  have z0 : (0 : Int32).toInt = 0 := by decide +kernel
  have m1 : (-1 : Int32).toInt = -1 := by decide +kernel
  have k1 : (1000 : Int32).toInt = 1000 := by decide +kernel
  have zn : (0 : Int32).toNatClampNeg = 0 := by decide +kernel
  have r217 : ∀ j, j < 72 → S18.2.1 217 j = if j = (G 0 2 + 8).toNat then (0 : Int32) else -1 := fun j hj => by
    rw [hS18, w_f, if_neg (by decide), hS15, w_f, if_pos rfl, w_u, en]
    by_cases z : j = (G 0 2 + 8).toNat
    · rw [if_pos z, if_pos z]
    · rw [if_neg z, if_neg z, hS10, w_Ff, hS8, w_f, if_neg (by decide), hS6, w_f, if_pos rfl]
      unfold dk_fl
      rw [if_pos hj]
  have r218 : ∀ j, j < 72 → S18.2.1 218 j = (1000 : Int32) := fun j hj => by
    rw [hS18, w_f, if_neg (by decide), hS15, w_f, if_neg (by decide), hS10, w_Ff, hS8, w_f, if_pos rfl]
    unfold dk_fl
    rw [if_pos hj]
  have r220 : S18.2.1 220 0 = zI S g 2 := by
    rw [hS18, w_f, if_pos rfl, w_u, zn, if_pos rfl]
  have f0 : cx_far S18 (G 0 2) = 0 := by
    unfold cx_far
    rw [if_pos (by omega), r217 _ (by omega), if_pos rfl]
    exact z0
  have fn : ∀ c, c ≠ G 0 2 → cx_far S18 c = -1 := fun c hc1 => by
    unfold cx_far
    by_cases z : 0 ≤ c + 8 ∧ c + 8 < 72
    · rw [if_pos z, r217 _ (by omega), if_neg (by omega)]
      exact m1
    · rw [if_neg z]
  have B0 : cx_B G A S18 0 1 (fun _ => False) := by
    refine b_I.init ?_ f0 fn ⟨hs0, by omega⟩ ⟨hps.1, by have := hps.2; omega⟩
    unfold cx_q
    rw [r220, hsh]
    omega
  have i4 : zI S18 214 4 = (0 : Int32) := by
    rw [hS18, w_If, hS15, w_If, hS10, w_I, if_pos ⟨rfl, rfl⟩]
  have L0 : cx_LP G A r S S18 0 1 := by
    refine ⟨B0, 0, by rw [i4]; exact z0, fun x x0 x1 => Or.inl ⟨?_, fun c hc1 => ?_⟩, fun i hi => absurd hi (Nat.not_lt_zero i), fun i j hi => absurd hi (Nat.not_lt_zero i), fun x x0 x1 _ xb => absurd ?_ xb⟩
    · unfold cx_bm
      rw [r218 _ (by omega)]
      exact k1
    · obtain ⟨-, i, hi, -⟩ := hc1
      exact absurd hi (Nat.not_lt_zero i)
    · unfold cx_bm
      rw [r218 _ (by omega)]
      exact k1
  obtain ⟨S1, k1', w1, e1, L1, l1, t1⟩ := cx_loop (o := o) (z := S) hG.2 hp hS hr 74 0 1 (0 : Int32) (1 : Int32) (0 : Int32) S18 (by omega) (by rw [t18.R (fun z => by omega)]; exact hS) (t18.ce hp hc) L0 z0 (by decide +kernel)
  refine ⟨S1, ?_, ?_, t18.tr t1.sp, ?_⟩
  · rw [F_w_spreadLight_p6 rfl q0 hS4 rfl hS6 rfl hS8 hS10, F_w_spreadLight_p4 hg.symm rfl q1 hS15 hS18]
    exact e1
  · obtain ⟨B1, ec, hec, LL⟩ := L1
    have hfd : ∀ c, cx_far S1 c = s_fd G A c := fun c => s_fd_eq (B1.far l1) c
    have lit : ∀ c, s_lit G A r c ↔ cx_lq G A r (cx_far S1) c ∧ ∃ i, i < k1' ∧ cx_q S1 i = c := fun c => by
      constructor
      · rintro ⟨a, b, d⟩
        rw [← hfd] at b d
        obtain ⟨i, hi, ei⟩ := B1.2.1 c b
        exact ⟨⟨a, d⟩, i, by omega, ei⟩
      · rintro ⟨⟨a, d⟩, i, hi, ei⟩
        have hkw := B1.1.2.1
        obtain ⟨-, n, en1, -⟩ := B1.2.2.1 i (by omega)
        rw [ei] at en1
        exact ⟨a, by rw [← hfd]; omega, by rw [← hfd]; exact d⟩
    have e72 := LL.ec
    obtain ⟨la, lb, lc, ld⟩ := LL
    refine ⟨hfd, fun x x0 x1 => ?_, ec, hec, e72, lb, lc, ld⟩
    rcases la x x0 x1 with ⟨z1, z2⟩ | ⟨c, ⟨d1, d1'⟩, d2, d3, d4, d5⟩
    · refine Or.inl ⟨z1, s_nl_n (fun d hd hl => ?_)⟩
      obtain ⟨l1', l2'⟩ := (lit d).mp hl
      exact z2 d ⟨hd.sym, l2'⟩ l1'
    · have hl := (lit c).mpr ⟨d2, d1'⟩
      have h0 : 0 ≤ cx_far S1 c := by
        obtain ⟨i, hi, ei⟩ := d1'
        have hkw := B1.1.2.1
        obtain ⟨-, n, en1, -⟩ := B1.2.2.1 i (by omega)
        rw [ei] at en1
        omega
      have hn := s_nl_y (v := cx_far S1 c) d1.sym hl (hfd c).symm h0 (fun d hd hld => by
        obtain ⟨l1', l2'⟩ := (lit d).mp hld
        rw [← hfd]
        exact d5 d ⟨hd.sym, l2'⟩ l1')
      exact Or.inr ⟨by rw [hn]; exact d3, by rw [hn]; exact h0, by rw [hn]; exact d4⟩
  · have e9 : zI S18 214 9 = (0 : Int32) := by
      rw [hS18, w_If, hS15, w_If, hS10, w_I, if_neg (by decide), hS8, w_If, hS6, w_If, hS4, w_I, if_pos ⟨rfl, rfl⟩]
    have e9' : zI S1 214 9 = zI S18 214 9 := t1.I (fun z => by omega)
    rw [e9', e9]
    exact z0
end XT
