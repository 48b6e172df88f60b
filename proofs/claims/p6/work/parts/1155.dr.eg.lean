/-! SALE: both sides, 2 -/
section EG
variable {o oX oM g n p : Nat} {G A A' : aR} {K : Nat → List Int} {L L' : s_L} {U : s_U} {S S0 S1 SX SM : dg_S} {x x' r c v t : Int} {a a1 a2 a3 a4 b y : Int32} {s : Nat}
theorem cx_wanted (ok : s_ok G K A U) (h : RX o g G K A L U x S) (ha : a1.toInt = s) (hs : s < 32) {gr : Int} (hg : a2.toInt = gr) : (F_d_wantedFrom o S a1 a2).toInt = s_wd G s gr (G 0 7).toNat := by
  have z0 : (0 : Int32).toInt = 0 := by decide +kernel
  have z1 : (1 : Int32).toInt = 1 := by decide +kernel
  have h7 := ok.1.2.2.2.2.1
  obtain ⟨-, -, -, -, -, f11⟩ := h.2.1.2.1
  have ho := h.2.1.2.2.2.2
  rw [F_d_wantedFrom_p5]
  refine lp_cnt (f := F_d_wantedFrom_B1 o S a1 a2) (z := (0 : Int32)) (W := (G 0 7).toNat) (P := fun k u => u.toInt = s_wd G s gr k) (Q := fun q => q.toInt = s_wd G s gr (G 0 7).toNat) (by omega) (fun k kI u hk hkI hP => ?_) (fun kI u hkI hP => ?_) ((6 - ((0 : Int32)).toInt).toNat + 1) 0 0 0 (by rw [z0]; omega) (by omega) z0 z0
  · have hP : u.toInt = s_wd G s gr k := hP
    have kn : kI.toNatClampNeg = k := by rw [dk_clN]; omega
    have q0 : ¬ zI S g 11 ≤ kI := fun z => by have := w_le.mp z; omega
    have bw := s_wd_b (s := s) (gr := gr) ok k (by omega)
    have h3 := (ok.1.2.2.2.2.2.2.2 k (by omega)).2.1
    obtain ⟨o2, o3, -⟩ := ho k (by omega)
    obtain ⟨b1, b2⟩ := w_bit (a := a1) (b := kI) (by omega) (by omega)
    rw [ha, hkI, show ((k : Int)).toNat = k by omega] at b1 b2
    have stay : (if mx_bit s k = 1 ∧ gr ≤ G 2 k then G 3 k else 0) = 0 → F_d_wantedFrom_B1 o S a1 a2 (kI, u) = F_d_wantedFrom_J2 kI u → ∃ s1, F_d_wantedFrom_B1 o S a1 a2 (kI, u) = .inl (kI + 1, s1) ∧ s1.toInt = s_wd G s gr (k + 1) := fun e0 e => by
      refine ⟨u, e.trans (F_d_wantedFrom_p1 rfl), ?_⟩
      show u.toInt = s_wd G s gr k + (if mx_bit s k = 1 ∧ gr ≤ G 2 k then G 3 k else 0)
      rw [e0, hP]
      omega
    by_cases q1 : (a1 >>> (kI &&& 31)) &&& (1 : Int32) = (1 : Int32)
    · have d1 := dk_eqc z1 q1
      rw [b1] at d1
      by_cases q2 : S.2.1 (g + 6) kI.toNatClampNeg < a2
      · have d2 := w_lt.mp q2
        rw [kn, o2, hg] at d2
        exact stay (if_neg (fun z => by omega)) (F_d_wantedFrom_p3 h.1.symm rfl q0 rfl rfl q1 rfl q2)
      · have d2 : ¬ (S.2.1 (g + 6) kI.toNatClampNeg).toInt < a2.toInt := fun z => q2 (w_lt.mpr z)
        rw [kn, o2, hg] at d2
        refine ⟨u + S.2.1 (g + 7) kI.toNatClampNeg, (F_d_wantedFrom_p4 h.1.symm rfl q0 rfl rfl q1 rfl q2 rfl rfl).trans (F_d_wantedFrom_p1 rfl), ?_⟩
        show (u + S.2.1 (g + 7) kI.toNatClampNeg).toInt = s_wd G s gr k + (if mx_bit s k = 1 ∧ gr ≤ G 2 k then G 3 k else 0)
        rw [if_pos ⟨d1, by omega⟩, kn]
        exact dk_addT hP o3 (by omega) (by omega)
    · have d1 := dk_neqc z1 q1
      rw [b1] at d1
      exact stay (if_neg (fun z => d1 z.1)) (F_d_wantedFrom_p2 h.1.symm rfl q0 rfl rfl q1)
  · exact ⟨u, F_d_wantedFrom_p0 h.1.symm rfl (w_le.mpr (by omega)), hP⟩
theorem cx_paid (ok : s_ok G K A U) (h : RX o g G K A L U x S) (ha : a1.toInt = s) (hs : s < 32) : (F_d_paidFor o S a1).toInt = s_pd G s (G 0 7).toNat := by
  have z0 : (0 : Int32).toInt = 0 := by decide +kernel
  have z1 : (1 : Int32).toInt = 1 := by decide +kernel
  have h7 := ok.1.2.2.2.2.1
  obtain ⟨-, -, -, -, -, f11⟩ := h.2.1.2.1
  have ho := h.2.1.2.2.2.2
  rw [F_d_paidFor_p4]
  refine lp_cnt (f := F_d_paidFor_B1 o S a1) (z := (0 : Int32)) (W := (G 0 7).toNat) (P := fun k u => u.toInt = s_pd G s k) (Q := fun q => q.toInt = s_pd G s (G 0 7).toNat) (by omega) (fun k kI u hk hkI hP => ?_) (fun kI u hkI hP => ?_) ((6 - ((0 : Int32)).toInt).toNat + 1) 0 0 0 (by rw [z0]; omega) (by omega) z0 z0
  · have hP : u.toInt = s_pd G s k := hP
    have kn : kI.toNatClampNeg = k := by rw [dk_clN]; omega
    have q0 : ¬ zI S g 11 ≤ kI := fun z => by have := w_le.mp z; omega
    have bw := s_pd_b (s := s) ok k (by omega)
    have h3 := (ok.1.2.2.2.2.2.2.2 k (by omega)).2.2
    obtain ⟨-, -, o4⟩ := ho k (by omega)
    obtain ⟨b1, b2⟩ := w_bit (a := a1) (b := kI) (by omega) (by omega)
    rw [ha, hkI, show ((k : Int)).toNat = k by omega] at b1 b2
    by_cases q1 : (a1 >>> (kI &&& 31)) &&& (1 : Int32) = (1 : Int32)
    · have d1 := dk_eqc z1 q1
      rw [b1] at d1
      refine ⟨u + S.2.1 (g + 8) kI.toNatClampNeg, (F_d_paidFor_p3 h.1.symm rfl q0 rfl rfl q1 rfl rfl).trans (F_d_paidFor_p1 rfl), ?_⟩
      show (u + S.2.1 (g + 8) kI.toNatClampNeg).toInt = s_pd G s k + (if mx_bit s k = 1 then G 4 k else 0)
      rw [if_pos d1, kn]
      exact dk_addT hP o4 (by omega) (by omega)
    · have d1 := dk_neqc z1 q1
      rw [b1] at d1
      refine ⟨u, (F_d_paidFor_p2 h.1.symm rfl q0 rfl rfl q1).trans (F_d_paidFor_p1 rfl), ?_⟩
      show u.toInt = s_pd G s k + (if mx_bit s k = 1 then G 4 k else 0)
      rw [if_neg d1, hP]
      omega
  · exact ⟨u, F_d_paidFor_p0 h.1.symm rfl (w_le.mpr (by omega)), hP⟩
theorem cx_canAll (ok : s_ok G K A U) (h : RX o g G K A L U x S) (ha : a1.toInt = s) (hs : s < 32) : F_d_canAllBeSold o S a1 = 1 ∧ s_cA G A s ∨ F_d_canAllBeSold o S a1 = 0 ∧ ¬ s_cA G A s := by
  have z0 : (0 : Int32).toInt = 0 := by decide +kernel
  have z1 : (1 : Int32).toInt = 1 := by decide +kernel
  have h7 := ok.1.2.2.2.2.1
  obtain ⟨-, -, -, -, -, f11⟩ := h.2.1.2.1
  have ho := h.2.1.2.2.2.2
  have w5 := ok.2.2.1.1
  rw [F_d_canAllBeSold_p6]
  refine lp_cnt1 (f := F_d_canAllBeSold_B1 o S a1) (z := (0 : Int32)) (W := (G 0 7).toNat) (P := fun k => ∀ j : Nat, j < k → mx_bit s j = 1 → A 5 j ≠ 1 ∧ s_wd G s (G 2 j) (G 0 7).toNat ≤ s_sz A (G 2 j).toNat (10 - (G 2 j).toNat)) (Q := fun q => q = 1 ∧ s_cA G A s ∨ q = 0 ∧ ¬ s_cA G A s) (by omega) (fun k kI hk hkI hP => ?_) (fun kI hkI hP => ?_) ((6 - ((0 : Int32)).toInt).toNat + 1) 0 0 (by rw [z0]; omega) (by omega) z0 (fun j hj => absurd hj (Nat.not_lt_zero j))
  · have kn : kI.toNatClampNeg = k := by rw [dk_clN]; omega
    have q0 : ¬ zI S g 11 ≤ kI := fun z => by have := w_le.mp z; omega
    have hgk := ok.1.2.2.2.2.2.2.2 k (by omega)
    obtain ⟨o2, o3, o4⟩ := ho k (by omega)
    obtain ⟨b1, b2⟩ := w_bit (a := a1) (b := kI) (by omega) (by omega)
    rw [ha, hkI, show ((k : Int)).toNat = k by omega] at b1 b2
    by_cases q1 : (a1 >>> (kI &&& 31)) &&& (1 : Int32) = (0 : Int32)
    · have d1 := dk_eqc z0 q1
      rw [b1] at d1
      refine Or.inl ⟨(F_d_canAllBeSold_p5 h.1.symm rfl q0 rfl rfl q1).trans (F_d_canAllBeSold_p1 rfl), fun j hj hb => ?_⟩
      by_cases u : j = k
      · subst u
        omega
      · exact hP j (by omega) hb
    · have d1 := dk_neqc z0 q1
      rw [b1] at d1
      have hb : mx_bit s k = 1 := by omega
      have hsd : (S.2.1 8 kI.toNatClampNeg).toInt = A 5 k := by rw [kn]; exact h.2.2.1.2.2.2.2.2.1 k (by omega)
      by_cases q2 : S.2.1 8 kI.toNatClampNeg = (1 : Int32)
      · have d2 := dk_eqc z1 q2
        rw [hsd] at d2
        exact Or.inr ⟨0, F_d_canAllBeSold_p2 h.1.symm rfl q0 rfl rfl q1 rfl q2, Or.inr ⟨rfl, fun z => (z k (by omega) hb).1 d2⟩⟩
      · have d2 := dk_neqc z1 q2
        rw [hsd] at d2
        have o2' : (S.2.1 (g + 6) kI.toNatClampNeg).toInt = G 2 k := by rw [kn]; exact o2
        have ew := cx_wanted (o := o) (a1 := a1) (a2 := S.2.1 (g + 6) kI.toNatClampNeg) ok h ha hs o2'
        have et := cx_tubsFrom (o := o) (a1 := S.2.1 (g + 6) kI.toNatClampNeg) (n := (G 2 k).toNat) h.2.2.1 w5 (by rw [o2']; omega) (by omega)
        by_cases q3 : F_d_wantedFrom o S a1 (S.2.1 (g + 6) kI.toNatClampNeg) ≤ F_p_tubsFrom o S 3 (S.2.1 (g + 6) kI.toNatClampNeg)
        · have d3 := w_le.mp q3
          rw [ew, et] at d3
          refine Or.inl ⟨(F_d_canAllBeSold_p3 h.1.symm rfl q0 rfl rfl q1 rfl rfl q2 rfl rfl q3).trans (F_d_canAllBeSold_p1 rfl), fun j hj hb' => ?_⟩
          by_cases u : j = k
          · subst u
            exact ⟨d2, d3⟩
          · exact hP j (by omega) hb'
        · have d3 : ¬ (F_d_wantedFrom o S a1 (S.2.1 (g + 6) kI.toNatClampNeg)).toInt ≤ (F_p_tubsFrom o S 3 (S.2.1 (g + 6) kI.toNatClampNeg)).toInt := fun z => q3 (w_le.mpr z)
          rw [ew, et] at d3
          exact Or.inr ⟨0, F_d_canAllBeSold_p4 h.1.symm rfl q0 rfl rfl q1 rfl rfl q2 rfl rfl q3, Or.inr ⟨rfl, fun z => d3 (z k (by omega) hb).2⟩⟩
  · exact ⟨1, F_d_canAllBeSold_p0 h.1.symm rfl (w_le.mpr (by omega)), Or.inl ⟨rfl, fun k hk hb => hP k (by omega) hb⟩⟩
/-- better than the best so far -/
def s_bt (G : aR) (m b : Nat) : Prop := s_pd G b (G 0 7).toNat < s_pd G m (G 0 7).toNat ∨ s_pd G b (G 0 7).toNat = s_pd G m (G 0 7).toNat ∧ s_pc m < s_pc b
theorem cx_better (ok : s_ok G K A U) (h : RX o g G K A L U x S) (ha : a1.toInt = s) (hs : s < 32) {b : Nat} (hb : a2.toInt = b) (hb9 : b < 32) : F_d_isBetterSale o S a1 a2 = 1 ∧ s_bt G s b ∨ F_d_isBetterSale o S a1 a2 = 0 ∧ ¬ s_bt G s b := by
  have z0 : (0 : Int32).toInt = 0 := by decide +kernel
  have h7 := ok.1.2.2.2.2.1
  have e1 := cx_paid (o := o) ok h ha hs
  have e2 := cx_paid (o := o) ok h hb hb9
  have b1 := s_pd_b (s := s) ok (G 0 7).toNat (by omega)
  have b2 := s_pd_b (s := b) ok (G 0 7).toNat (by omega)
  have e5 : (F_d_paidFor o S a1 - F_d_paidFor o S a2).toInt = s_pd G s (G 0 7).toNat - s_pd G b (G 0 7).toNat := dk_subT e1 e2 (by omega) (by omega)
  unfold s_bt
  by_cases q1 : (0 : Int32) < F_d_paidFor o S a1 - F_d_paidFor o S a2
  · have d1 := dk_gtc z0 q1
    exact Or.inl ⟨F_d_isBetterSale_p0 rfl rfl rfl q1, Or.inl (by omega)⟩
  have d1 := dk_ngtc z0 q1
  by_cases q2 : F_d_paidFor o S a1 - F_d_paidFor o S a2 = (0 : Int32)
  · have d2 := dk_eqc z0 q2
    have p1 := w_pc (o := o) (S := S) (a := a1) (by omega)
    have p2 := w_pc (o := o) (S := S) (a := a2) (by omega)
    rw [ha, show ((s : Int)).toNat = s by omega] at p1
    rw [hb, show ((b : Int)).toNat = b by omega] at p2
    by_cases q3 : F_bitCount o S a2 ≤ F_bitCount o S a1
    · have d3 := w_le.mp q3
      rw [p1, p2] at d3
      exact Or.inr ⟨F_d_isBetterSale_p2 rfl rfl rfl q1 q2 rfl rfl q3, fun z => by rcases z with z | z <;> omega⟩
    · have d3 : ¬ (F_bitCount o S a2).toInt ≤ (F_bitCount o S a1).toInt := fun z => q3 (w_le.mpr z)
      rw [p1, p2] at d3
      exact Or.inl ⟨F_d_isBetterSale_p3 rfl rfl rfl q1 q2 rfl rfl q3, Or.inr ⟨by omega, by omega⟩⟩
  · have d2 := dk_neqc z0 q2
    exact Or.inr ⟨F_d_isBetterSale_p1 rfl rfl rfl q1 q2, fun z => by rcases z with z | z <;> omega⟩
/-- what sale tells -/
noncomputable def s_sV (G A : aR) (w : Int) : Int := if w = 0 then (s_bS G A (2 ^ (G 0 7).toNat) : Int) else if w = 1 then s_pd G (s_bS G A (2 ^ (G 0 7).toNat)) (G 0 7).toNat else -1
theorem cx_sale (ok : s_ok G K A U) (h : RX o g G K A L U x S) : (F_d_sale o S a1).toInt = s_sV G A a1.toInt := by
  have z0 : (0 : Int32).toInt = 0 := by decide +kernel
  have z1 : (1 : Int32).toInt = 1 := by decide +kernel
  have m1 : (-1 : Int32).toInt = -1 := by decide +kernel
  have h7 := ok.1.2.2.2.2.1
  obtain ⟨-, -, -, -, -, f11⟩ := h.2.1.2.1
  obtain ⟨w1, w2⟩ := w_shl1 (a := zI S g 11) (by omega)
  rw [f11] at w1 w2
  have hpos : 1 ≤ 2 ^ (G 0 7).toNat := Nat.one_le_two_pow
  have main : (a1 = (0 : Int32) ∨ a1 = (1 : Int32)) → (F_d_sale_J1 o S a1).toInt = s_sV G A a1.toInt := fun hw => by
    rw [F_d_sale_p6]
    refine lp_cnt (f := F_d_sale_B2 o S a1) (z := (0 : Int32)) (W := 2 ^ (G 0 7).toNat) (P := fun k u => u.toInt = s_bS G A k) (Q := fun q => q.toInt = s_sV G A a1.toInt) (by omega) (fun k kI u hk hkI hP => ?_) (fun kI u hkI hP => ?_) ((2147483648 - ((1 : Int32)).toInt).toNat + 1) 1 1 0 (by rw [z1]; omega) hpos z1 (by
      show (0 : Int32).toInt = ((s_bS G A 1 : Nat) : Int)
      have : s_bS G A 1 = 0 := by
        have := s_bS_lt (G := G) (A := A) 1
        omega
      rw [this, z0]
      rfl)
    · have hP : u.toInt = ((s_bS G A k : Nat) : Int) := hP
      have q0 : ¬ (1 : Int32) <<< (zI S g 11 &&& 31) ≤ kI := fun z => by have := w_le.mp z; omega
      have bl := s_bS_lt (G := G) (A := A) k
      have stay : ¬ (s_cA G A k ∧ s_bt G k (s_bS G A k)) → F_d_sale_B2 o S a1 (kI, u) = F_d_sale_J3 kI u → ∃ s1, F_d_sale_B2 o S a1 (kI, u) = .inl (kI + 1, s1) ∧ s1.toInt = ((s_bS G A (k + 1) : Nat) : Int) := fun hn e => by
        refine ⟨u, e.trans (F_d_sale_p2 rfl), ?_⟩
        rw [s_bS_n hn]
        exact hP
      rcases cx_canAll (o := o) (a1 := kI) ok h hkI (by omega) with ⟨e, v⟩ | ⟨e, v⟩
      rotate_left
      · exact stay (fun z => v z.1) (F_d_sale_p3 h.1.symm rfl rfl q0 rfl e)
      have ne : ¬ F_d_canAllBeSold o S kI = (0 : Int32) := by rw [e]; decide +kernel
      by_cases k1 : 1 ≤ k
      rotate_left
      · have k0 : k = 0 := by omega
        subst k0
        -- the counter begins at 1
        have hb0 : s_bS G A 0 = 0 := rfl
        rcases cx_better (o := o) (a1 := kI) (a2 := u) (b := s_bS G A 0) ok h hkI (by omega) hP (by omega) with ⟨f, w⟩ | ⟨f, w⟩
        · exfalso
          rw [hb0] at w
          unfold s_bt at w
          omega
        · exact stay (fun z => w z.2) (F_d_sale_p4 h.1.symm rfl rfl q0 rfl ne rfl f)
      rcases cx_better (o := o) (a1 := kI) (a2 := u) (b := s_bS G A k) ok h hkI (by omega) hP (by omega) with ⟨f, w⟩ | ⟨f, w⟩
      · have nf : ¬ F_d_isBetterSale o S kI u = (0 : Int32) := by rw [f]; decide +kernel
        refine ⟨kI, (F_d_sale_p5 h.1.symm rfl rfl q0 rfl ne rfl nf).trans (F_d_sale_p2 rfl), ?_⟩
        rw [s_bS_y k1 v w]
        exact hkI
      · exact stay (fun z => w z.2) (F_d_sale_p4 h.1.symm rfl rfl q0 rfl ne rfl f)
    · have hP : u.toInt = ((s_bS G A (2 ^ (G 0 7).toNat) : Nat) : Int) := hP
      have bl := s_bS_lt (G := G) (A := A) (2 ^ (G 0 7).toNat)
      have q0 : (1 : Int32) <<< (zI S g 11 &&& 31) ≤ kI := w_le.mpr (by omega)
      unfold s_sV
      by_cases c0 : a1 = (0 : Int32)
      · have d0 := dk_eqc z0 c0
        refine ⟨u, F_d_sale_p1 h.1.symm rfl rfl q0 c0, ?_⟩
        rw [if_pos d0]
        exact hP
      · have d0 := dk_neqc z0 c0
        have d1 : a1.toInt = 1 := by
          rcases hw with hw | hw
          · exact absurd hw c0
          · exact dk_eqc z1 hw
        refine ⟨_, F_d_sale_p0 h.1.symm rfl rfl q0 c0 rfl, ?_⟩
        rw [if_neg d0, if_pos d1]
        exact cx_paid ok h hP (by omega)
  by_cases c0 : a1 = (0 : Int32)
  · rw [F_d_sale_p7 c0]
    exact main (Or.inl c0)
  by_cases c1 : a1 = (1 : Int32)
  · rw [F_d_sale_p8 c0 c1]
    exact main (Or.inr c1)
  · have d0 := dk_neqc z0 c0
    have d1 := dk_neqc z1 c1
    rw [F_d_sale_p9 c0 c1, m1]
    unfold s_sV
    rw [if_neg d0, if_neg d1]
end EG
