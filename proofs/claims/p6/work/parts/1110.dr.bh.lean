/-! the class spreads light -/
theorem s_mn_n {a b : Int} (h1 : a = -1) (h2 : b = -1) : s_mn a b = -1 := by
  unfold s_mn
  rw [if_pos h1]
  exact h2
theorem s_mn_ge {a b v : Int} (h1 : a = -1 ∨ v ≤ a) (h2 : b = -1 ∨ v ≤ b) : s_mn a b = -1 ∨ v ≤ s_mn a b := by
  unfold s_mn
  split
  · exact h2
  · split
    · exact h1
    · split
      · exact h1
      · exact h2
theorem s_mn_l {a b v : Int} (h1 : a = v) (h0 : 0 ≤ v) (h2 : b = -1 ∨ v ≤ b) : s_mn a b = v := by
  unfold s_mn
  rw [if_neg (by omega)]
  split
  · exact h1
  · split
    · exact h1
    · omega
theorem s_mn_r {a b v : Int} (h1 : b = v) (h0 : 0 ≤ v) (h2 : a = -1 ∨ v ≤ a) : s_mn a b = v := by
  unfold s_mn
  split
  · exact h1
  · rw [if_neg (by omega)]
    split
    · omega
    · exact h1
section SN
variable {G A : aR} {r c d v : Int}
theorem s_nl_n (h : ∀ d, b_nb c d → ¬ s_lit G A r d) : s_nl G A r c = -1 := by
  unfold s_nl
  rw [s_l1_n (h (c - 8) (by unfold b_nb; omega)), s_l1_n (h (c - 1) (by unfold b_nb; omega)), s_l1_n (h (c + 1) (by unfold b_nb; omega)), s_l1_n (h (c + 8) (by unfold b_nb; omega))]
  decide
theorem s_nl_y (hb : b_nb c d) (hl : s_lit G A r d) (e : s_fd G A d = v) (h0 : 0 ≤ v) (hm : ∀ d, b_nb c d → s_lit G A r d → v ≤ s_fd G A d) : s_nl G A r c = v := by
  have g : ∀ x, b_nb c x → s_l1 G A r x = -1 ∨ v ≤ s_l1 G A r x := fun x hx => by
    by_cases z : s_lit G A r x
    · rw [s_l1_y z]
      exact Or.inr (hm x hx z)
    · exact Or.inl (s_l1_n z)
  have ed : s_l1 G A r d = v := (s_l1_y hl).trans e
  have g1 := g (c - 8) (by unfold b_nb; omega)
  have g2 := g (c - 1) (by unfold b_nb; omega)
  have g3 := g (c + 1) (by unfold b_nb; omega)
  have g4 := g (c + 8) (by unfold b_nb; omega)
  unfold s_nl
  unfold b_nb at hb
  rcases hb with z | z | z | z <;> rw [z] at ed
  · exact s_mn_l (s_mn_l ed h0 g2) h0 (s_mn_ge g3 g4)
  · exact s_mn_l (s_mn_r ed h0 g1) h0 (s_mn_ge g3 g4)
  · exact s_mn_r (s_mn_l ed h0 g4) h0 (s_mn_ge g1 g2)
  · exact s_mn_r (s_mn_r ed h0 g3) h0 (s_mn_ge g1 g2)
end SN
/-- far, beam and exposed are as the pit makes them -/
def cx_light (G A : aR) (r : Int) (S : dg_S) : Prop :=
  (∀ c, cx_far S c = s_fd G A c) ∧
  (∀ x : Int, 0 ≤ x → x < 72 → (cx_bm S x = 1000 ∧ s_nl G A r (x - 8) = -1) ∨ (cx_bm S x = s_nl G A r (x - 8) ∧ 0 ≤ s_nl G A r (x - 8) ∧ s_nl G A r (x - 8) < 1000)) ∧
  ∃ ec : Nat, (zI S 214 4).toInt = ec ∧ ec ≤ 72 ∧
  (∀ i, i < ec → (0 ≤ cx_ex S i ∧ cx_ex S i < 72) ∧ s_so G A (cx_ex S i - 8) ∧ cx_bm S (cx_ex S i) ≠ 1000) ∧
  (∀ i j, i < ec → j < ec → cx_ex S i = cx_ex S j → i = j) ∧
  (∀ x : Int, 0 ≤ x → x < 72 → s_so G A (x - 8) → cx_bm S x ≠ 1000 → ∃ i, i < ec ∧ cx_ex S i = x)
def k_sp (S S1 : dg_S) : Prop := kp (fun a b => a = 214 ∧ (b = 4 ∨ b = 9)) (fun a => 217 ≤ a ∧ a ≤ 220) S S1
theorem k_sp.ce {G A : aR} {S S1 : dg_S} {p : Nat} (h : k_sp S S1) (hp : pX p) (c : cx_ce G A S p) : cx_ce G A S1 p := c.keep (h.2 (p + 1) (by have := pX_sep hp; omega)).1
def k_lo (S S1 : dg_S) : Prop := kp (fun a b => a = 214 ∧ b = 4) (fun a => 217 ≤ a ∧ a ≤ 220) S S1
theorem k_lo.ce {G A : aR} {S S1 : dg_S} {p : Nat} (h : k_lo S S1) (hp : pX p) (c : cx_ce G A S p) : cx_ce G A S1 p := c.keep (h.2 (p + 1) (by have := pX_sep hp; omega)).1
theorem k_lo.sp {S S1 : dg_S} (h : k_lo S S1) : k_sp S S1 := h.w (fun a b z => ⟨z.1, Or.inl z.2⟩) (fun a z => z)
theorem k_sl.lo {S S1 : dg_S} (h : k_sl S S1) : k_lo S S1 := h.w (fun a b z => absurd z id) (fun a z => by omega)
theorem k_sh.lo {S S1 : dg_S} (h : k_sh S S1) : k_lo S S1 := h.w (fun a b z => z) (fun a z => by omega)
theorem k_sl.sp {S S1 : dg_S} (h : k_sl S S1) : k_sp S S1 := h.w (fun a b z => absurd z id) (fun a z => by omega)
theorem k_sh.sp {S S1 : dg_S} (h : k_sh S S1) : k_sp S S1 := h.w (fun a b z => ⟨z.1, Or.inl z.2⟩) (fun a z => by omega)
theorem cx_L.to {G A : aR} {r : Int} {far far' : Int → Int} {D D' : Int → Int → Prop} {S : dg_S} {ec : Nat} (h : cx_L G A r far D S ec) (hf : ∀ c d, D c d → far' c = far c) (h1 : ∀ c d, D c d → D' c d) (h2 : ∀ c d, D' c d → cx_lq G A r far' c → D c d) : cx_L G A r far' D' S ec := by
  obtain ⟨a, b, e, g⟩ := h
  refine ⟨fun x x0 x1 => ?_, b, e, g⟩
  rcases a x x0 x1 with ⟨z1, z2⟩ | ⟨c, d1, d2, d3, d4, d5⟩
  · refine Or.inl ⟨z1, fun c hc hl => ?_⟩
    have hd := h2 c _ hc hl
    exact z2 c hd ⟨hl.1, by rw [← hf c _ hd]; exact hl.2⟩
  · refine Or.inr ⟨c, h1 c _ d1, ⟨d2.1, by rw [hf c _ d1]; exact d2.2⟩, by rw [hf c _ d1]; exact d3, by rw [hf c _ d1]; exact d4, fun c' hc' hl' => ?_⟩
    have hd := h2 c' _ hc' hl'
    rw [hf c _ d1, hf c' _ hd]
    exact d5 c' hd ⟨hl'.1, by rw [← hf c' _ hd]; exact hl'.2⟩
section XS
variable {G A : aR} {S0 S S1 : dg_S} {p o : Nat} {a : Int32} {r cc : Int} {far : Int → Int} {D : Int → Int → Prop} {ec : Nat}
theorem cx_shine (hp : pX p) (hS : zR o S 214 7 = p) (hc : cx_ce G A S p) (h : cx_L G A r far D S ec) (ha : 8 ≤ a.toInt ∧ a.toInt ≤ 63) (hcc : cc = a.toInt - 8) (hl : cx_lq G A r far cc) (hfx : (S.2.1 217 a.toNatClampNeg).toInt = far cc) (hf0 : 0 ≤ far cc ∧ far cc < 1000) (hm : ∀ c d, D c d → cx_lq G A r far c → far c ≤ far cc) (hmm : (zI S 214 4).toInt = ec) :
    ∃ (S1 : dg_S) (e1 : Nat), F_w_shineFrom o S a = S1 ∧ (zI S1 214 4).toInt = e1 ∧ cx_L G A r far (fun c d => D c d ∨ (c = cc ∧ b_nb cc d)) S1 e1 ∧ k_sh S S1 := by
  have hm2 : ∀ (E : Int → Int → Prop), (∀ c d, E c d → cx_lq G A r far c → far c ≤ far cc) → ∀ b c d, (E c d ∨ (c = cc ∧ d = cc + b)) → cx_lq G A r far c → far c ≤ far cc := fun E hE b c d hd hl2 => by
    rcases hd with z | z
    · exact hE c d z hl2
    · rw [z.1]
      exact Int.le_refl _
  obtain ⟨m1, S1, e1, f1, n1, L1, t1, g1⟩ := cx_sh1 (fx := S.2.1 217 a.toNatClampNeg) (S0 := S) (i := 0) (sd := -8) (b := -8) (m := zI S 214 4) hp hS hc h ha hcc hl hfx hf0 hm (by decide +kernel) (by decide +kernel) (by decide +kernel) (by omega) hmm
  obtain ⟨m2, S2, e2, f2, n2, L2, t2, g2⟩ := cx_sh1 (fx := S.2.1 217 a.toNatClampNeg) (S0 := S) (i := 0 + 1) (sd := -1) (b := -1) (m := m1) hp hS (t1.ce hp hc) L1 ha hcc hl hfx hf0 (hm2 _ hm _) (by decide +kernel) (by decide +kernel) (by decide +kernel) (by omega) n1
  obtain ⟨m3, S3, e3, f3, n3, L3, t3, g3⟩ := cx_sh1 (fx := S.2.1 217 a.toNatClampNeg) (S0 := S) (i := 0 + 1 + 1) (sd := 1) (b := 1) (m := m2) hp hS (t2.ce hp (t1.ce hp hc)) L2 ha hcc hl hfx hf0 (hm2 _ (hm2 _ hm _) _) (by decide +kernel) (by decide +kernel) (by decide +kernel) (by omega) n2
  obtain ⟨m4, S4, e4, f4, n4, L4, t4, g4⟩ := cx_sh1 (fx := S.2.1 217 a.toNatClampNeg) (S0 := S) (i := 0 + 1 + 1 + 1) (sd := 8) (b := 8) (m := m3) hp hS (t3.ce hp (t2.ce hp (t1.ce hp hc))) L3 ha hcc hl hfx hf0 (hm2 _ (hm2 _ (hm2 _ hm _) _) _) (by decide +kernel) (by decide +kernel) (by decide +kernel) (by omega) n3
  have e5 : F_w_shineFrom_B1 a (S.2.1 217 a.toNatClampNeg) o S (0 + 1 + 1 + 1 + 1, m4, S4) = .inr S4 := F_w_shineFrom_p0 (by decide +kernel)
  have w1 : zI S1 214 4 = m1 := by
    rcases g1 with z | z
    · exact z.symm
    · rw [z.2, z.1]
  have w2 : zI S2 214 4 = m2 := by
    rcases g2 with z | z
    · exact z.symm
    · rw [z.2, z.1, w1]
  have w3 : zI S3 214 4 = m3 := by
    rcases g3 with z | z
    · exact z.symm
    · rw [z.2, z.1, w2]
  have w4 : zI S4 214 4 = m4 := by
    rcases g4 with z | z
    · exact z.symm
    · rw [z.2, z.1, w3]
  refine ⟨S4, e4, ?_, by rw [w4]; exact n4, ?_, ((t1.tr t2).tr t3).tr t4⟩
  · rw [F_w_shineFrom_p4 rfl rfl, show ((5 - ((0 : Int32)).toInt).toNat + 1) = 5 + 1 by decide +kernel, lp_sl f1, lp_sl f2, lp_sl f3, lp_sl f4, lp_sr e5]
  · refine L4.to (fun _ _ _ => rfl) (fun c d hd => ?_) (fun c d hd _ => ?_)
    · rcases hd with (((z | z) | z) | z) | z
      · exact Or.inl z
      · exact Or.inr ⟨z.1, by unfold b_nb; omega⟩
      · exact Or.inr ⟨z.1, by unfold b_nb; omega⟩
      · exact Or.inr ⟨z.1, by unfold b_nb; omega⟩
      · exact Or.inr ⟨z.1, by unfold b_nb; omega⟩
    · rcases hd with z | ⟨z, z2⟩
      · exact Or.inl (Or.inl (Or.inl (Or.inl z)))
      · unfold b_nb at z2
        rcases z2 with z2 | z2 | z2 | z2
        · exact Or.inl (Or.inl (Or.inl (Or.inr ⟨z, by omega⟩)))
        · exact Or.inl (Or.inl (Or.inr ⟨z, by omega⟩))
        · exact Or.inl (Or.inr ⟨z, by omega⟩)
        · exact Or.inr ⟨z, by omega⟩
end XS
