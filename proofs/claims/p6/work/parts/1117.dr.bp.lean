/-! one shift of the class, all of it -/
section XP2
variable {G A A' : aR} {K : Nat → List Int} {S0 S S1 : dg_S} {o g p : Nat} {r c x v : Int}
theorem s_gr_b (hs : 0 ≤ s_c A c ∧ s_c A c ≤ 9) : 0 ≤ s_gr G K r A c ∧ s_gr G K r A c ≤ 9 := by
  unfold s_gr
  by_cases q : K 2 = []
  · rw [s_if_y q]
    exact hs
  · rw [s_if_n q]
    omega
/-- what holds of cells -/
def s_cw (G A : aR) : Prop := (∀ c, s_in G c → -2 ≤ s_c A c ∧ s_c A c ≤ 9) ∧ s_ps G A (G 0 2)
theorem s_dg_wf (hG : s_gw G) (hw : s_wf G A) (hc : s_cw G A) : s_wf G (s_dg G K r A).1 := by
  obtain ⟨w0, w1, w2, w3, w4, w5⟩ := id hw
  unfold s_dg
  by_cases q : s_no G A
  · rw [s_if_y q]
    exact hw
  · rw [s_if_n q]
    have hd : s_so G A (A 4 (s_k G A)) := by
      apply Classical.byContradiction
      intro z
      exact q (Or.inr (Or.inr (fun y => z y.1)))
    by_cases q2 : s_fa G K r A (A 4 (s_k G A))
    · rw [s_if_y q2]
      dsimp only
      have E : ∀ a b, a ≠ 1 → a ≠ 2 → s_up (s_up A 1 (A 4 (s_k G A)).toNat 0) 2 (A 3 (s_k G A)).toNat 1 a b = A a b := fun a b h1 h2 => by rw [s_up_ne (fun z => h2 z.1), s_up_ne (fun z => h1 z.1)]
      refine ⟨by rw [E _ _ (by decide) (by decide)]; exact w0, by rw [E _ _ (by decide) (by decide)]; exact w1, fun k hk => ?_, fun k hk => by rw [E _ _ (by decide) (by decide), E _ _ (by decide) (by decide)]; exact w3 k hk, fun k hk => by rw [E _ _ (by decide) (by decide)]; exact w4 k hk, fun k hk => by rw [E _ _ (by decide) (by decide)]; exact w5 k hk⟩
      by_cases y : k = (A 3 (s_k G A)).toNat
      · have g6 : G 0 6 ≠ 0 := fun z => q (Or.inl z)
        have hG6 := hG.2.2
        have hk6 : ((s_k G A : Nat) : Int) < G 0 6 := by
          have h1 := Int.emod_lt_of_pos (A 0 0) (show 0 < G 0 6 by omega)
          have h2 := Int.emod_nonneg (A 0 0) g6
          unfold s_k
          omega
        have := (w3 _ hk6).1
        rw [y, s_up_at]
        exact Or.inr ⟨rfl, by omega⟩
      · rw [s_up_ne (fun z => y z.2), s_up_ne (fun z => absurd z.1 (by decide))]
        exact w2 k hk
    · rw [s_if_n q2]
      obtain ⟨gr, hgr⟩ : ∃ gr, gr = s_gr G K r A (A 4 (s_k G A)) := ⟨_, rfl⟩
      have hgb := s_gr_b (G := G) (K := K) (r := r) ⟨hd.2, (hc.1 _ hd.1).2⟩
      rw [← hgr] at hgb ⊢
      dsimp only
      have E : ∀ a b, a ≠ 1 → a ≠ 6 → s_up (s_up A 6 gr.toNat (min 99 (A 6 gr.toNat + 1))) 1 (A 4 (s_k G A)).toNat (-1) a b = A a b := fun a b h1 h2 => by rw [s_up_ne (fun z => h1 z.1), s_up_ne (fun z => h2 z.1)]
      refine ⟨by rw [E _ _ (by decide) (by decide)]; exact w0, by rw [E _ _ (by decide) (by decide)]; exact w1, fun k hk => by rw [E _ _ (by decide) (by decide)]; exact w2 k hk, fun k hk => by rw [E _ _ (by decide) (by decide), E _ _ (by decide) (by decide)]; exact w3 k hk, fun k hk => by rw [E _ _ (by decide) (by decide)]; exact w4 k hk, fun k hk => ?_⟩
      rw [s_up_ne (fun z => absurd z.1 (by decide))]
      by_cases y : k = gr.toNat
      · rw [y, s_up_at]
        have := w5 gr.toNat (by omega)
        omega
      · rw [s_up_ne (fun z => y z.2)]
        exact w5 k hk
theorem s_dg_cw (hG : s_gw G) (hw : s_wf G A) (hc : s_cw G A) : s_cw G (s_dg G K r A).1 := by
  refine ⟨fun d hd => ?_, s_dg_ps hc.2 hG hw⟩
  have h0 : 0 ≤ d := hd.1.1
  have hb := hc.1 d hd
  unfold s_dg
  by_cases q : s_no G A
  · rw [s_if_y q]
    exact hb
  · rw [s_if_n q]
    have h4 : 0 ≤ A 4 (s_k G A) := by
      apply Classical.byContradiction
      intro z
      exact q (Or.inr (Or.inr (fun y => z y.1.1.1.1)))
    by_cases q2 : s_fa G K r A (A 4 (s_k G A))
    · rw [s_if_y q2]
      dsimp only
      rw [s_c_o (by decide), s_c_up h4 h0]
      split <;> omega
    · rw [s_if_n q2]
      dsimp only
      rw [s_c_up h4 h0, s_c_o (by decide)]
      split <;> omega
theorem s_sp_o {a b : Nat} (h : a ≠ 1) : s_sp G K r A a b = A a b := by
  unfold s_sp s_spD
  rw [s_if_n (fun z => h z.1)]
theorem s_sp_c {d : Int} (hd : 0 ≤ d) : s_c (s_sp G K r A) d = s_if (s_so G A d ∧ s_nl G A r d ≠ -1) (max 0 (s_c A d - max 0 (s_sv G K r A d))) (s_c A d) := by
  unfold s_sp
  rw [s_spD_c hd]
  by_cases q : s_so G A d ∧ s_nl G A r d ≠ -1
  · rw [s_if_y ⟨trivial, q⟩, s_if_y q]
  · rw [s_if_n (fun z => q z.2), s_if_n q]
theorem s_sp_cw (hc : s_cw G A) : s_cw G (s_sp G K r A) := by
  have h2 := hc.2.1.1.1
  refine ⟨fun d hd => ?_, hc.2.1, ?_⟩
  · have hb := hc.1 d hd
    rw [s_sp_c hd.1.1]
    by_cases q : s_so G A d ∧ s_nl G A r d ≠ -1
    · rw [s_if_y q]
      omega
    · rw [s_if_n q]
      exact hb
  · rw [s_sp_c h2, s_if_n (fun z => by have := z.1.2; have := hc.2.2; omega)]
    exact hc.2.2
theorem s_sp_sets : s_op G (s_sp G K r A) = s_op G A ∧ s_ps G (s_sp G K r A) = s_ps G A ∧ s_so G (s_sp G K r A) = s_so G A := by
  have E : ∀ d, s_in G d → (s_c (s_sp G K r A) d = s_c A d ∨ (0 ≤ s_c (s_sp G K r A) d ∧ 0 ≤ s_c A d)) := fun d hd => by
    rw [s_sp_c hd.1.1]
    by_cases q : s_so G A d ∧ s_nl G A r d ≠ -1
    · rw [s_if_y q]
      exact Or.inr ⟨by omega, q.1.2⟩
    · rw [s_if_n q]
      exact Or.inl rfl
  refine ⟨?_, ?_, ?_⟩
  · funext d
    apply propext
    unfold s_op
    refine ⟨fun z => ⟨z.1, ?_⟩, fun z => ⟨z.1, ?_⟩⟩ <;> (have h := E d z.1; have h2 := z.2; omega)
  · funext d
    apply propext
    unfold s_ps
    refine ⟨fun z => ⟨z.1, ?_⟩, fun z => ⟨z.1, ?_⟩⟩ <;> (have h := E d z.1; have h2 := z.2; omega)
  · funext d
    apply propext
    unfold s_so
    refine ⟨fun z => ⟨z.1, ?_⟩, fun z => ⟨z.1, ?_⟩⟩ <;> (have h := E d z.1; have h2 := z.2; omega)
theorem s_tk_c (d : Int) : s_c (s_tk G K r A) d = s_c (s_sp G K r (s_dg G K r A).1) d := s_c_o (by decide)
theorem s_tk_cw (hG : s_gw G) (hw : s_wf G A) (hc : s_cw G A) : s_cw G (s_tk G K r A) := by
  have h := s_sp_cw (K := K) (r := r) (s_dg_cw (K := K) (r := r) hG hw hc)
  refine ⟨fun d hd => by rw [s_tk_c]; exact h.1 d hd, h.2.1, by rw [s_tk_c]; exact h.2.2⟩
theorem s_tk_wf (hG : s_gw G) (hw : s_wf G A) (hc : s_cw G A) : s_wf G (s_tk G K r A) := by
  obtain ⟨w0, w1, w2, w3, w4, w5⟩ := s_dg_wf (K := K) (r := r) hG hw hc
  have h0 := hw.1
  have E : ∀ a b, a ≠ 0 → a ≠ 1 → s_tk G K r A a b = (s_dg G K r A).1 a b := fun a b h1 h2 => by
    unfold s_tk
    rw [s_up_ne (fun z => h1 z.1), s_sp_o h2]
  refine ⟨?_, ?_, fun k hk => by rw [E _ _ (by decide) (by decide)]; exact w2 k hk, fun k hk => by rw [E _ _ (by decide) (by decide), E _ _ (by decide) (by decide)]; exact w3 k hk, fun k hk => by rw [E _ _ (by decide) (by decide)]; exact w4 k hk, fun k hk => by rw [E _ _ (by decide) (by decide)]; exact w5 k hk⟩
  · unfold s_tk
    rw [s_up_at]
    omega
  · unfold s_tk
    rw [s_up_ne (by decide), s_sp_o (by decide)]
    exact w1
/-- one turn of pass -/
theorem cx_tick (hp : pX p) (hS0 : zR o S0 214 7 = p) (hS : zR o S 214 7 = p) (hgr : zR o S 214 6 = g) (hG : s_gw G) (hK : s_cd K) (hw : s_wf G A) (hcw : s_cw G A) (hg : cx_gt G K S g) (hr : (zI S 214 8).toInt = r) (hr9 : 0 ≤ r ∧ r ≤ 900) (hpit : cx_pit G A S p) (hl : cx_LI G A r S) {a k : Int32} (hk : ¬ a ≤ k) :
    ∃ S1, F_w_pass_B1 a o S0 (k, S) = .inl (k + 1, S1) ∧ k_wp p S S1 ∧ cx_pit G (s_tk G K r A) S1 p ∧ cx_LI G (s_tk G K r A) r S1 ∧ (((s_dg G K r A).2.1 = -1 ∧ (zI S1 214 10).toInt = -1) ∨ ((s_dg G K r A).2.1 ≠ -1 ∧ (zI S1 214 10).toInt = (s_dg G K r A).2.1 ∧ (zI S1 214 11).toInt = (s_dg G K r A).2.2.1 + 8 ∧ (zI S1 214 12).toInt = (s_dg G K r A).2.2.2)) := by
  have sep := pX_sep hp
  have sepg := rX_sep hg.1
  obtain ⟨S5, hS5⟩ : ∃ S5, S5 = dg_uF S 214 10 (.int (-1 : Int32)) := ⟨_, rfl⟩
  have t5 : k_wp p S S5 := by rw [hS5]; exact kp.uF kp.rf (by omega)
  have r5 : S5.2.1 = S.2.1 := by rw [hS5]; rfl
  have I5 : ∀ a b, ¬ (a = 214 ∧ b = 10) → zI S5 a b = zI S a b := fun a b h => by rw [hS5, w_I0 h]
  have hR : ∀ {S1 : dg_S}, k_wp p S S1 → zR o S1 214 7 = p ∧ zR o S1 214 6 = g ∧ cx_gt G K S1 g ∧ (zI S1 214 8).toInt = r := fun {S1} t => ⟨by rw [t.R (fun z => by omega)]; exact hS, by rw [t.R (fun z => by omega)]; exact hgr, hg.keep (fun i _ _ => (t.2 i (fun z => by omega)).1) (fun b => t.I (fun z => by omega)), by rw [t.I (fun z => by omega)]; exact hr⟩
  have p5 : cx_pit G A S5 p := hpit.keep (fun i _ _ => by rw [r5]) (fun b _ => I5 _ _ (fun z => by omega))
  have l5 : cx_LI G A r S5 := by
    rcases hl with z | z
    · exact Or.inl (by rw [I5 _ _ (by decide)]; exact z)
    · exact Or.inr (z.sm rfl rfl rfl (by rw [r5]) (by rw [r5]) (by rw [r5]) (I5 _ _ (by decide)))
  obtain ⟨a1, a2, a3, a4⟩ := hR t5
  obtain ⟨S6, e6, l6, k6⟩ := cx_spread2 (o := o) hp a1 a2 hG a3 a4 hr9 p5.1 hcw.2 l5
  have t6 := t5.tr k6.wp
  have p6 : cx_pit G A S6 p := p5.keep (fun i _ _ => (k6.2 i (fun z => by omega)).1) (fun b _ => k6.I (fun z => by omega))
  obtain ⟨b1, b2, b3, b4⟩ := hR t6
  obtain ⟨S7, e7, k7, p7, l7, d7⟩ := cx_dig (o := o) hp b1 b2 hG hK hw b3 p6 l6
  have t7 := t6.tr k7.wp
  obtain ⟨c1, c2, c3, c4⟩ := hR t7
  have cw1 := s_dg_cw (K := K) (r := r) hG hw hcw
  have l7' : cx_LI G (s_dg G K r A).1 r S7 := by
    rcases l7 with z | z
    · exact Or.inl z
    · exact Or.inr z.2
  obtain ⟨S8, e8, l8, k8⟩ := cx_spread2 (o := o) hp c1 c2 hG c3 c4 hr9 p7.1 cw1.2 l7'
  have t8 := t7.tr k8.wp
  have p8 : cx_pit G (s_dg G K r A).1 S8 p := p7.keep (fun i _ _ => (k8.2 i (fun z => by omega)).1) (fun b _ => k8.I (fun z => by omega))
  obtain ⟨f1, f2, f3, f4⟩ := hR t8
  obtain ⟨S9, e9, k9, p9⟩ := cx_spoil (o := o) hp f1 f2 hG hK (s_dg_wf (K := K) (r := r) hG hw hcw) f3 p8 l8
  have t9 := t8.tr k9.wp
  obtain ⟨x83, hx83⟩ : ∃ x83, x83 = if zI S9 p 0 + (1 : Int32) < (999 : Int32) then zI S9 p 0 + (1 : Int32) else (999 : Int32) := ⟨_, rfl⟩
  obtain ⟨S10, hS10⟩ : ∃ S10, S10 = dg_uF S9 p 0 (.int x83) := ⟨_, rfl⟩
  have h00 : (s_sp G K r (s_dg G K r A).1) 0 0 = A 0 0 := by
    rw [s_sp_o (by decide)]
    unfold s_dg
    by_cases q : s_no G A
    · rw [s_if_y q]
    · rw [s_if_n q]
      by_cases q2 : s_fa G K r A (A 4 (s_k G A))
      · rw [s_if_y q2]
        dsimp only
        rw [s_up_ne (fun z => absurd z.1 (by decide)), s_up_ne (fun z => absurd z.1 (by decide))]
      · rw [s_if_n q2]
        dsimp only
        rw [s_up_ne (fun z => absurd z.1 (by decide)), s_up_ne (fun z => absurd z.1 (by decide))]
  have esh : (zI S9 p 0).toInt = A 0 0 := by rw [p9.2.1, h00]
  have w00 := hw.1
  have e83 : x83.toInt = min 999 (A 0 0 + 1) := by
    have e3 : (zI S9 p 0 + (1 : Int32)).toInt = A 0 0 + 1 := dk_addT esh (by decide +kernel) (by omega) (by omega)
    have z99 : (999 : Int32).toInt = 999 := by decide +kernel
    rw [hx83]
    by_cases y : zI S9 p 0 + (1 : Int32) < (999 : Int32)
    · have := dk_ltc (k := 999) z99 y
      rw [if_pos y, e3]
      omega
    · have := dk_nltc (k := 999) z99 y
      rw [if_neg y, z99]
      omega
  have r10 : S10.2.1 = S9.2.1 := by rw [hS10]; rfl
  have I10 : ∀ a b, ¬ (a = p ∧ b = 0) → zI S10 a b = zI S9 a b := fun a b h => by rw [hS10, w_I0 h]
  refine ⟨S10, ?_, by rw [hS10]; exact kp.uF t9 (by omega), ?_, Or.inr ?_, ?_⟩
  · rw [F_w_pass_p2 hk hS5 e6.symm e7.symm e8.symm]
    exact F_w_pass_p1 e9.symm hS0.symm rfl rfl hx83 hS10 rfl
  · obtain ⟨q1, q2, q3, q4, q5, q6, q7⟩ := p9
    have E : ∀ a b, ¬ (a = 0 ∧ b = 0) → s_tk G K r A a b = s_sp G K r (s_dg G K r A).1 a b := fun a b h => by
      unfold s_tk
      rw [s_up_ne h]
    refine ⟨?_, ?_, ?_, fun k hk => ?_, fun k hk => ?_, fun k hk => ?_, fun k hk => ?_⟩
    · intro z a b
      rw [s_tk_c]
      exact (q1.keep (S1 := S10) (by rw [r10])) z a b
    · rw [hS10, w_I, if_pos ⟨rfl, rfl⟩, e83]
      unfold s_tk
      rw [s_up_at]
    · rw [I10 _ _ (by omega), E _ _ (by decide)]; exact q3
    · rw [r10, E _ _ (fun z => absurd z.1 (by decide))]; exact q4 k hk
    · rw [r10, E _ _ (fun z => absurd z.1 (by decide)), E _ _ (fun z => absurd z.1 (by decide))]; exact q5 k hk
    · rw [r10, E _ _ (fun z => absurd z.1 (by decide))]; exact q6 k hk
    · rw [r10, E _ _ (fun z => absurd z.1 (by decide))]; exact q7 k hk
  · obtain ⟨s1, s2, s3⟩ := s_sp_sets (G := G) (K := K) (r := r) (A := (s_dg G K r A).1)
    have T : ∀ (P : aR → Int → Prop), True := fun _ => trivial
    have o1 : s_op G (s_tk G K r A) = s_op G (s_dg G K r A).1 := by rw [← s1]; funext d; unfold s_op; rw [s_tk_c]
    have o2 : s_ps G (s_tk G K r A) = s_ps G (s_dg G K r A).1 := by rw [← s2]; funext d; unfold s_ps; rw [s_tk_c]
    have o3 : s_so G (s_tk G K r A) = s_so G (s_dg G K r A).1 := by rw [← s3]; funext d; unfold s_so; rw [s_tk_c]
    exact l8.sm o1 o2 o3 (by rw [r10, (k9.2 217 (fun z => by omega)).1]) (by rw [r10, (k9.2 218 (fun z => by omega)).1]) (by rw [r10, (k9.2 219 (fun z => by omega)).1]) (by rw [I10 _ _ (by omega)]; exact k9.I (fun z => absurd z (by decide)))
  · have J : ∀ b, 10 ≤ b → zI S10 214 b = zI S7 214 b := fun b hb => by
      rw [I10 _ _ (by omega), k9.I (fun z => absurd z (by decide)), k8.I (fun z => by omega)]
    rw [J 10 (by decide), J 11 (by decide), J 12 (by decide)]
    rcases d7 with ⟨z1, z2⟩ | z
    · refine Or.inl ⟨z1, ?_⟩
      rw [z2, k6.I (fun z => by omega), hS5, w_I, if_pos ⟨rfl, rfl⟩]
      decide +kernel
    · exact Or.inr z
end XP2
