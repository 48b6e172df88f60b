/-! a shift of the class -/
def k_wp (p : Nat) (S S1 : dg_S) : Prop := kp (fun a b => a = 215 ∨ (a = 214 ∧ (b = 4 ∨ 9 ≤ b)) ∨ (a = p ∧ b = 0)) (fun a => (216 ≤ a ∧ a ≤ 220) ∨ a = p + 1 ∨ a = p + 2 ∨ a = p + 6) S S1
theorem k_sp.wp {p : Nat} {S S1 : dg_S} (h : k_sp S S1) : k_wp p S S1 := h.w (fun a b z => by omega) (fun a z => by omega)
theorem k_dg.wp {p : Nat} {S S1 : dg_S} (h : k_dg p S S1) : k_wp p S S1 := h.w (fun a b z => by omega) (fun a z => by omega)
theorem k_ex.wp {p : Nat} {S S1 : dg_S} (h : k_ex p S S1) : k_wp p S S1 := h.w (fun a b z => by omega) (fun a z => by omega)
section XO
variable {G A A' : aR} {K : Nat → List Int} {S0 S S1 : dg_S} {o g p : Nat} {r c x v : Int} {D D' : Int → Prop}
theorem cx_spoil (hp : pX p) (hS : zR o S0 214 7 = p) (hgr : zR o S0 214 6 = g) (hG : s_gw G) (hK : s_cd K) (hw : s_wf G A) (hg : cx_gt G K S0 g) (hpit : cx_pit G A S0 p) (hl : cx_light G A r S0) : ∃ S1, F_w_spoilExposed o S0 = S1 ∧ k_ex p S0 S1 ∧ cx_pit G (s_sp G K r A) S1 p := by
  have sep := pX_sep hp
  have sepg := rX_sep hg.1
  obtain ⟨-, lb, ec, hec, e72, le1, le2, le3⟩ := id hl
  have loop : ∀ (n i : Nat) (k : Int32) (S : dg_S), 73 ≤ n + i → i ≤ ec → k.toInt = i → k_ex p S0 S → cx_ce G (s_spD G K r A (fun c => ∃ j, j < i ∧ c = cx_ex S0 j - 8)) S p → ∃ S1, lp (F_w_spoilExposed_B1 S0 o) S0 n (k, S) = S1 ∧ k_ex p S0 S1 ∧ cx_ce G (s_spD G K r A (fun c => ∃ j, j < ec ∧ c = cx_ex S0 j - 8)) S1 p := by
    intro n
    induction n with
    | zero => intro i k S h1 h2; omega
    | succ n ih =>
      intro i k S h1 h2 hk kx hc
      by_cases q : i < ec
      · have e4 : zI S 214 4 = zI S0 214 4 := kx.I (fun z => absurd z (by decide))
        have lS : cx_light G A r S := hl.sm rfl rfl rfl (kx.2 217 (fun z => by omega)).1 (kx.2 218 (fun z => by omega)).1 (kx.2 219 (fun z => by omega)).1 e4
        have ex : cx_ex S = cx_ex S0 := by
          funext j
          unfold cx_ex
          rw [(kx.2 219 (fun z => by omega)).1]
        obtain ⟨S1, e1, k1, c1⟩ := cx_sp1 (o := o) (S0 := S0) hp hS hgr hG hK hw (hg.keep (fun j _ _ => (kx.2 j (fun z => by omega)).1) (fun b => kx.I (fun z => by omega))) hpit.2.1 lS e4.symm hc hpit.1 (i := i) hk (by rw [e4, hec]; omega) (fun z => by
          obtain ⟨j, hj, ej⟩ := z
          rw [ex] at ej
          have := le2 i j q (by omega) (by omega)
          omega)
        rw [ex] at c1
        have ek : (k + 1).toInt = ((i + 1 : Nat) : Int) := by
          rw [dk_addT (a := (i : Int)) (b := 1) hk (by decide +kernel) (by omega) (by omega)]
          omega
        have cc : cx_ce G (s_spD G K r A (fun c => ∃ j, j < i + 1 ∧ c = cx_ex S0 j - 8)) S1 p := by
          rw [s_spD_congr (D' := fun c => (∃ j, j < i ∧ c = cx_ex S0 j - 8) ∨ c = cx_ex S0 i - 8) (fun c _ _ => ?_)]
          · exact c1
          · constructor
            · rintro ⟨j, hj, ej⟩
              by_cases y : j < i
              · exact Or.inl ⟨j, y, ej⟩
              · have y1 : j = i := by omega
                rw [y1] at ej
                exact Or.inr ej
            · rintro (⟨j, hj, ej⟩ | ej)
              · exact ⟨j, by omega, ej⟩
              · exact ⟨i, by omega, ej⟩
        obtain ⟨S2, e2, k2, c2⟩ := ih (i + 1) (k + 1) S1 (by omega) (by omega) ek (kx.tr k1) cc
        exact ⟨S2, by rw [lp_sl e1]; exact e2, k2, c2⟩
      · have y1 : i = ec := by omega
        subst y1
        have c0 : zI S0 214 4 ≤ k := dk_lep (k := k.toInt) rfl (by omega)
        exact ⟨S, lp_sr (F_w_spoilExposed_p0 rfl c0), kx, hc⟩
  obtain ⟨hce, hsh, hpu, hhu, hpl, hso, htu⟩ := id hpit
  have c0 : cx_ce G (s_spD G K r A (fun c => ∃ j, j < 0 ∧ c = cx_ex S0 j - 8)) S0 p := by
    intro z a b
    obtain ⟨h1, h2⟩ := hce z a b
    refine ⟨fun hz => ?_, h2⟩
    rw [s_spD_c hz.1.1, s_if_n (fun y => by obtain ⟨⟨j, hj, -⟩, -⟩ := y; exact absurd hj (Nat.not_lt_zero j))]
    exact h1 hz
  obtain ⟨S1, e1, k1, c1⟩ := loop 74 0 (0 : Int32) S0 (by omega) (by omega) (by decide +kernel) kp.rf c0
  have es : s_sp G K r A = s_spD G K r A (fun c => ∃ j, j < ec ∧ c = cx_ex S0 j - 8) := by
    unfold s_sp
    refine s_spD_congr (fun c hs hn => ⟨fun _ => ?_, fun _ => trivial⟩)
    have c56 := s_in_56 hG.1.2 hs.1
    have hb := lb (c + 8) (by omega) (by omega)
    rw [show c + 8 - 8 = c by omega] at hb
    obtain ⟨j, hj, ej⟩ := le3 (c + 8) (by omega) (by omega) (by rw [show c + 8 - 8 = c by omega]; exact hs) (fun z => by
      rcases hb with y | y
      · exact hn y.2
      · omega)
    exact ⟨j, hj, by omega⟩
  have oth : ∀ a b, a ≠ 1 → s_sp G K r A a b = A a b := fun a b h => by
    unfold s_sp s_spD
    rw [s_if_n (fun z => h z.1)]
  refine ⟨S1, ?_, k1, ?_⟩
  · rw [F_w_spoilExposed_p5]
    exact e1
  · have row : ∀ i, i ≠ 216 → i ≠ p + 1 → S1.2.1 i = S0.2.1 i := fun i a b => (k1.2 i (fun z => by omega)).1
    have fl : ∀ b, zI S1 p b = zI S0 p b := fun b => k1.I (fun z => by omega)
    refine ⟨by rw [es]; exact c1, ?_, ?_, fun k hk => ?_, fun k hk => ?_, fun k hk => ?_, fun k hk => ?_⟩
    · rw [fl, oth _ _ (by decide)]; exact hsh
    · rw [fl, oth _ _ (by decide)]; exact hpu
    · rw [row _ (by omega) (by omega), oth _ _ (by decide)]; exact hhu k hk
    · rw [row _ (by omega) (by omega), row _ (by omega) (by omega), oth _ _ (by decide), oth _ _ (by decide)]; exact hpl k hk
    · rw [row _ (by omega) (by omega), oth _ _ (by decide)]; exact hso k hk
    · rw [row _ (by omega) (by omega), oth _ _ (by decide)]; exact htu k hk
/-- light where it is stale, or is as it should be -/
def cx_LI (G A : aR) (r : Int) (S : dg_S) : Prop := (zI S 214 9).toInt ≠ 0 ∨ cx_light G A r S
theorem cx_spread2 (hp : pX p) (hS : zR o S 214 7 = p) (hgr : zR o S 214 6 = g) (hG : s_gw G) (hg : cx_gt G K S g) (hr : (zI S 214 8).toInt = r) (hr9 : 0 ≤ r ∧ r ≤ 900) (hc : cx_ce G A S p) (hps : s_ps G A (G 0 2)) (hl : cx_LI G A r S) : ∃ S1, F_w_spreadLight o S = S1 ∧ cx_light G A r S1 ∧ k_sp S S1 := by
  have sepg := rX_sep hg.1
  by_cases q : (zI S 214 9).toInt = 0
  · rcases hl with z | z
    · exact absurd q z
    · exact ⟨S, F_w_spreadLight_p7 rfl (dk_eqp (k := 0) (by decide +kernel) q), z, kp.rf⟩
  · obtain ⟨S1, e1, l1, k1, -⟩ := cx_spread (o := o) hG.1 hp hS hgr (by omega) hr hr9 hc hg.2.1 hG.2.1.1 hps q
    exact ⟨S1, e1, l1, k1⟩
/-- the shaft stays open, the grades between their bounds: what a shift keeps -/
noncomputable def s_tk (G : aR) (K : Nat → List Int) (r : Int) (A : aR) : aR := s_up (s_sp G K r (s_dg G K r A).1) 0 0 (min 999 (A 0 0 + 1))
theorem s_dg_ps (hps : s_ps G A (G 0 2)) (hG : s_gw G) (hw : s_wf G A) : s_ps G (s_dg G K r A).1 (G 0 2) := by
  have h2 : 0 ≤ G 0 2 := hG.2.1.1
  unfold s_dg
  by_cases q : s_no G A
  · rw [s_if_y q]
    exact hps
  · rw [s_if_n q]
    have hd : s_so G A (A 4 (s_k G A)) := by
      apply Classical.byContradiction
      intro z
      exact q (Or.inr (Or.inr (fun y => z y.1)))
    have hne : G 0 2 ≠ A 4 (s_k G A) := fun z => by
      have := hd.2
      rw [← z] at this
      have := hps.2
      omega
    have h4 : 0 ≤ A 4 (s_k G A) := hd.1.1.1
    by_cases q2 : s_fa G K r A (A 4 (s_k G A))
    · rw [s_if_y q2]
      refine ⟨hps.1, ?_⟩
      rw [s_c_o (by decide), s_c_up h4 h2, if_neg hne]
      exact hps.2
    · rw [s_if_n q2]
      refine ⟨hps.1, ?_⟩
      rw [s_c_up h4 h2, if_neg hne, s_c_o (by decide)]
      exact hps.2
end XO
