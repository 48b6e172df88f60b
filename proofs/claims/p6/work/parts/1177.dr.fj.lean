/-! ON: the reference reads an image -/
def s_cN (w h : Nat) : Nat → Nat
  | 0 => 0
  | c + 1 => s_cN w h c + if c % 8 < w ∧ c / 8 < h then 1 else 0
theorem s_cN_64 : ∀ w : Nat, w < 8 → ∀ h : Nat, h < 8 → s_cN w h 64 = w * h := by decide +kernel
theorem s_cp_cN {G : aR} {w h : Nat} (hw : G 0 0 = w) (hh : G 0 1 = h) : ∀ c : Nat, c ≤ 64 → s_cp G c = s_cN w h c
  | 0, _ => rfl
  | c + 1, hc => by
    have ih := s_cp_cN hw hh c (by omega)
    by_cases q : s_in G (c : Int)
    · obtain ⟨-, q1, q2⟩ := id q
      rw [s_cp_y q, ih]
      show _ = s_cN w h c + if c % 8 < w ∧ c / 8 < h then 1 else 0
      rw [if_pos ⟨by omega, by omega⟩]
    · rw [s_cp_n q, ih]
      show _ = s_cN w h c + if c % 8 < w ∧ c / 8 < h then 1 else 0
      rw [if_neg (fun z => q ⟨⟨by omega, by omega⟩, by omega, by omega⟩)]
      rfl
theorem s_cp64 {G : aR} (hG : s_gw G) : ((s_cp G 64 : Nat) : Int) = G 0 0 * G 0 1 ∧ s_cp G 64 ≤ 49 := by
  obtain ⟨⟨⟨w1, w2⟩, w3, w4⟩, -⟩ := hG
  obtain ⟨w, hw⟩ : ∃ w : Nat, G 0 0 = w := ⟨(G 0 0).toNat, by omega⟩
  obtain ⟨h, hh⟩ : ∃ h : Nat, G 0 1 = h := ⟨(G 0 1).toNat, by omega⟩
  rw [s_cp_cN hw hh 64 (Nat.le_refl _), s_cN_64 w (by omega) h (by omega), hw, hh]
  have b : w * h ≤ 7 * 7 := Nat.mul_le_mul (by omega) (by omega)
  exact ⟨Int.natCast_mul w h, b⟩
/-- bits side by side -/
theorem w_orN {x y : Int32} {r a b : Nat} (hr : r ≤ 29) (hx : x.toInt = ((2 ^ r * a : Nat) : Int)) (hy : y.toInt = b) (hb : b < 2 ^ r) (h31 : 2 ^ r * a + b < 2147483648) : (x ||| y).toInt = ((2 ^ r * a + b : Nat) : Int) := by
  have c1 := BitVec.toInt_eq_toNat_cond x.toBitVec
  have c2 := BitVec.toInt_eq_toNat_cond y.toBitVec
  have c3 := BitVec.toInt_eq_toNat_cond (x ||| y).toBitVec
  rw [Int32.toInt_toBitVec] at c1 c2 c3
  have b1 := x.toBitVec.isLt
  have b2 := y.toBitVec.isLt
  have e32 : (2 : Nat) ^ 32 = 4294967296 := by decide
  rw [e32] at c1 c2 c3 b1 b2
  have n1 : x.toBitVec.toNat = 2 ^ r * a := by
    generalize 2 ^ r * a = p at *
    split at c1 <;> omega
  have n2 : y.toBitVec.toNat = b := by
    generalize 2 ^ r * a = p at *
    split at c2 <;> omega
  have eo : (x ||| y).toBitVec.toNat = 2 ^ r * a + b := by
    show (x.toBitVec ||| y.toBitVec).toNat = _
    rw [BitVec.toNat_or, n1, n2]
    exact (Nat.two_pow_add_eq_or_of_lt (i := r) (b := b) hb a).symm
  rw [eo] at c3
  generalize 2 ^ r * a + b = p at *
  rw [if_pos (by omega)] at c3
  exact c3
theorem s_dc_9 {v : Int} (h : v ≤ 9) : s_dc v = v := by
  unfold s_dc
  rw [if_neg (by omega), if_neg (by omega)]
theorem s_dc_4 {v : Int} (h : v = 254) : s_dc v = -2 := by rw [h]; rfl
theorem s_dc_5 {v : Int} (h : v = 255) : s_dc v = -1 := by rw [h]; rfl
section FJ
variable {o oX oM g n p q k i N : Nat} {G A A' : aR} {K : Nat → List Int} {B : Nat → Int} {L : s_L} {U : s_U} {S S0 S1 SX SM T T1 : dg_S} {x x' r c v t m : Int} {a a1 a2 a3 a4 y : Int32}
/-- the tape's bytes, however many are told of -/
def mx_by (n : Nat) (B : Nat → Int) (S : dg_S) : Prop := n ≤ 1600 ∧ ∀ i, i < n → (S.2.1 1 i).toInt = B i ∧ 0 ≤ B i ∧ B i ≤ 255
theorem mx_by.keep (h : mx_by n B S) (e : S1.2.1 1 = S.2.1 1) : mx_by n B S1 := ⟨h.1, fun i hi => by rw [e]; exact h.2 i hi⟩
theorem mx_flagsOn (hp : a1.toInt = p) (hN : a2.toInt = N) (h6 : N ≤ 6) (tb : mx_by n B S) (hn : p + N ≤ n) : ((∀ j, j < N → B (p + j) ≤ 1) ∧ (0 ≤ (F_m_flagsOn o S a1 a2).toInt ∧ (F_m_flagsOn o S a1 a2).toInt < 64) ∧ ∀ k, k < 6 → mx_bit (F_m_flagsOn o S a1 a2).toInt k = if k < N then B (p + k) else 0) ∨ (¬ (∀ j, j < N → B (p + j) ≤ 1) ∧ F_m_flagsOn o S a1 a2 = -1) := by
  have z0 : (0 : Int32).toInt = 0 := by decide +kernel
  have z1 : (1 : Int32).toInt = 1 := by decide +kernel
  have shz : ∀ k : Nat, k < 6 → (0 : Int32) <<< (Int32.ofInt (k : Int) &&& 31) = 0 := by decide +kernel
  have orz : ∀ k : Nat, k < 64 → Int32.ofInt (k : Int) ||| 0 = Int32.ofInt (k : Int) := by decide +kernel
  obtain ⟨t1, t2⟩ := tb
  rw [F_m_flagsOn_p3]
  exact lp_cnt2 (f := F_m_flagsOn_B1 a2 a1 S) (z := (0 : Int32)) (W := N) (P := fun c s => (∀ j, j < c → B (p + j) ≤ 1) ∧ (0 ≤ s.toInt ∧ s.toInt < 64) ∧ ∀ k, k < 6 → mx_bit s.toInt k = if k < c then B (p + k) else 0) (Q := fun s => ((∀ j, j < N → B (p + j) ≤ 1) ∧ (0 ≤ s.toInt ∧ s.toInt < 64) ∧ ∀ k, k < 6 → mx_bit s.toInt k = if k < N then B (p + k) else 0) ∨ (¬ (∀ j, j < N → B (p + j) ≤ 1) ∧ s = -1)) (by omega) (fun c cI s hc hcI hP => by
    obtain ⟨p1, p2, p3⟩ := hP
    have q0 : ¬ a2 ≤ cI := fun z => by have := w_le.mp z; omega
    have e1 : (a1 + cI).toInt = ((p + c : Nat) : Int) := by rw [dk_addT hp hcI (by omega) (by omega)]; omega
    have e2 : (a1 + cI).toNatClampNeg = p + c := by rw [dk_clN, e1]; omega
    obtain ⟨b1, b2, b3⟩ := t2 (p + c) (by omega)
    by_cases q : S.2.1 1 (a1 + cI).toNatClampNeg ≤ (1 : Int32)
    · left
      have d := w_le.mp q
      rw [e2, b1, z1] at d
      refine ⟨_, F_m_flagsOn_p1 q0 rfl rfl q rfl rfl rfl rfl rfl, ?_⟩
      rw [e2]
      by_cases qb : B (p + c) = 0
      · have w0 : S.2.1 1 (p + c) = (0 : Int32) := dk_eqp z0 (by rw [b1]; exact qb)
        have ec : cI = Int32.ofInt (c : Int) := by rw [← hcI, Int32.ofInt_toInt]
        have es : s = Int32.ofInt ((s.toInt.toNat : Nat) : Int) := by rw [show ((s.toInt.toNat : Nat) : Int) = s.toInt by omega, Int32.ofInt_toInt]
        have ev : s ||| (S.2.1 1 (p + c) <<< (cI &&& 31)) = s := by
          rw [w0, ec, shz c (by omega)]
          have := orz s.toInt.toNat (by omega)
          rw [← es] at this
          exact this
        rw [ev]
        refine ⟨fun j hj => ?_, p2, fun k hk => ?_⟩
        · by_cases qj : j = c
          · subst qj
            exact d
          · exact p1 j (by omega)
        · rw [p3 k hk]
          by_cases qk : k = c
          · subst qk
            rw [if_neg (by omega), if_pos (by omega), qb]
          · by_cases qk2 : k < c
            · rw [if_pos qk2, if_pos (by omega)]
            · rw [if_neg qk2, if_neg (by omega)]
      · have w1 : S.2.1 1 (p + c) = (1 : Int32) := dk_eqp z1 (by rw [b1]; omega)
        have sb := mx_setbit (a := s) (b := cI) p2 (by omega)
        rw [w1]
        refine ⟨fun j hj => ?_, sb.1, fun k hk => ?_⟩
        · by_cases qj : j = c
          · subst qj
            exact d
          · exact p1 j (by omega)
        · rw [sb.2 k hk, hcI, show ((c : Int)).toNat = c by omega]
          by_cases qk : k = c
          · subst qk
            rw [if_pos rfl, if_pos (by omega)]
            omega
          · rw [if_neg qk, p3 k hk]
            by_cases qk2 : k < c
            · rw [if_pos qk2, if_pos (by omega)]
            · rw [if_neg qk2, if_neg (by omega)]
    · right
      refine ⟨_, F_m_flagsOn_p2 q0 rfl rfl q, Or.inr ⟨fun z => q (w_le.mpr ?_), rfl⟩⟩
      rw [e2, b1, z1]
      exact z c hc) (fun cI s hcI hP => ⟨s, F_m_flagsOn_p0 (w_le.mpr (by omega)), Or.inl hP⟩) ((7 - ((0 : Int32)).toInt).toNat + 1) 0 0 (0 : Int32) (by rw [z0]; omega) (by omega) z0 ⟨fun j hj => absurd hj (Nat.not_lt_zero _), by rw [z0]; decide, fun k hk => by rw [z0, mx_bit0 k hk, if_neg (Nat.not_lt_zero _)]⟩
/-- the cells of an image -/
def mx_ocs (G : aR) (B : Nat → Int) (c : Nat) (T : dg_S) : Prop := ∀ d : Nat, d < c → s_in G (d : Int) → (T.2.1 31 (64 + d)).toInt = mx_en (s_dc (B (5 + s_cp G d))) ∧ (T.2.1 32 (64 + d)).toInt = mx_cu (s_dc (B (5 + s_cp G d)))
theorem mx_cellsOn (hg : mx_gf G K S) (hG : s_gx G) (tb : mx_by n B S) (hn : 5 + s_cp G 64 ≤ n) (ha : a1.toInt = 5) : ∃ (T : dg_S) (y : Int32), F_m_cellsOn o S a1 = (T, y) ∧ (k_v 1 S T ∧ kp (fun _ _ => False) (fun a => a = 31 ∨ a = 32) S T) ∧ ((y = 1 ∧ (∀ d : Nat, d < 64 → s_in G (d : Int) → s_oc G B 5 d) ∧ mx_ocs G B 64 T) ∨ (y = 0 ∧ ¬ (∀ d : Nat, d < 64 → s_in G (d : Int) → s_oc G B 5 d))) := by
  have z0 : (0 : Int32).toInt = 0 := by decide +kernel
  have z1 : (1 : Int32).toInt = 1 := by decide +kernel
  have m1 : (-1 : Int32).toInt = -1 := by decide +kernel
  have z9 : (9 : Int32).toInt = 9 := by decide +kernel
  have z64 : (64 : Int32).toInt = 64 := by decide +kernel
  have z254 : (254 : Int32).toInt = 254 := by decide +kernel
  have z255 : (255 : Int32).toInt = 255 := by decide +kernel
  have hgb := hG.1
  obtain ⟨t1, t2⟩ := id tb
  have hc49 := (s_cp64 hgb).2
  rw [F_m_cellsOn_p13]
  have Q := lp_cnt2 (f := F_m_cellsOn_B1 o S) (z := (S, (0 : Int32))) (W := 64) (P := fun c s => s.1.toInt = ((5 + s_cp G c : Nat) : Int) ∧ (k_v 1 S s.2 ∧ kp (fun _ _ => False) (fun a => a = 31 ∨ a = 32) S s.2) ∧ (∀ d : Nat, d < c → s_in G (d : Int) → s_oc G B 5 d) ∧ mx_ocs G B c s.2) (Q := fun r => (k_v 1 S r.1 ∧ kp (fun _ _ => False) (fun a => a = 31 ∨ a = 32) S r.1) ∧ ((r.2 = 1 ∧ (∀ d : Nat, d < 64 → s_in G (d : Int) → s_oc G B 5 d) ∧ mx_ocs G B 64 r.1) ∨ (r.2 = 0 ∧ ¬ (∀ d : Nat, d < 64 → s_in G (d : Int) → s_oc G B 5 d)))) (by decide) (fun c cI s hc hcI hP => by
    obtain ⟨pI, T⟩ := s
    obtain ⟨p1, ⟨p2, p5⟩, p3, p4⟩ := hP
    have p1 : pI.toInt = ((5 + s_cp G c : Nat) : Int) := p1
    have p2 : k_v 1 S T := p2
    have p5 : kp (fun _ _ => False) (fun a => a = 31 ∨ a = 32) S T := p5
    have p4 : mx_ocs G B c T := p4
    have q0 : ¬ (64 : Int32) ≤ cI := fun z => by have := w_le.mp z; omega
    have gd : mx_gd G T := p2.gd hg.1.1
    rcases mx_isCellOf (o := o) (a := cI) gd hgb.1 with ⟨ic, hin⟩ | ⟨ic, hin⟩
    rotate_left
    · left
      rw [hcI] at hin
      exact ⟨(pI, T), F_m_cellsOn_p12 q0 rfl ic rfl, by show pI.toInt = _; rw [s_cp_n hin]; exact p1, ⟨p2, p5⟩, fun d hd hdi => p3 d (by
        by_cases z : d = c
        · subst z
          exact absurd hdi hin
        · omega) hdi, fun d hd hdi => p4 d (by
        by_cases z : d = c
        · subst z
          exact absurd hdi hin
        · omega) hdi⟩
    rw [hcI] at hin
    have nc : ¬ F_m_isCellOf o T cI = (0 : Int32) := by rw [ic]; decide
    have lt := s_cp_lt hin
    obtain ⟨b, hb⟩ : ∃ b : Int32, b = T.2.1 1 pI.toNatClampNeg := ⟨_, rfl⟩
    have pn : pI.toNatClampNeg = 5 + s_cp G c := by rw [dk_clN, p1]; omega
    obtain ⟨y1, y2, y3⟩ := t2 (5 + s_cp G c) (by omega)
    have bv : b.toInt = B (5 + s_cp G c) := by rw [hb, pn, p2.row (by decide)]; exact y1
    have e13 : zI T 0 13 = zI S 0 13 := p2.I
    have ex : (T.2.1 4 (zI S 0 13).toNatClampNeg).toInt = G 0 2 := by
      have := gd.2.2.2.1
      rw [e13] at this
      exact this
    have i64 : ((64 : Int32) + cI).toInt = ((64 + c : Nat) : Int) := by rw [dk_addT z64 hcI (by omega) (by omega)]; omega
    have n64 : ((64 : Int32) + cI).toNatClampNeg = 64 + c := by rw [dk_clN, i64]; omega
    have bad : ¬ s_oc G B 5 c → (k_v 1 S T ∧ kp (fun _ _ => False) (fun a => a = 31 ∨ a = 32) S T) ∧ (((0 : Int32) = 1 ∧ (∀ d : Nat, d < 64 → s_in G (d : Int) → s_oc G B 5 d) ∧ mx_ocs G B 64 T) ∨ ((0 : Int32) = 0 ∧ ¬ (∀ d : Nat, d < 64 → s_in G (d : Int) → s_oc G B 5 d))) := fun z => ⟨⟨p2, p5⟩, Or.inr ⟨rfl, fun w => z (w c hc hin)⟩⟩
    have wr : ∀ v1 v2 : Int32, s_oc G B 5 c → v1.toInt = mx_en (s_dc (B (5 + s_cp G c))) → v2.toInt = mx_cu (s_dc (B (5 + s_cp G c))) → F_m_cellsOn_J5 (dg_uf T 31 (upd (T.2.1 31) ((64 : Int32) + cI).toNatClampNeg v1)) ((64 : Int32) + cI) v2 pI cI = F_m_cellsOn_B1 o S (cI, pI, T) → ∃ s1, F_m_cellsOn_B1 o S (cI, pI, T) = .inl (cI + 1, s1) ∧ (s1.1.toInt = ((5 + s_cp G (c + 1) : Nat) : Int) ∧ (k_v 1 S s1.2 ∧ kp (fun _ _ => False) (fun a => a = 31 ∨ a = 32) S s1.2) ∧ (∀ d : Nat, d < c + 1 → s_in G (d : Int) → s_oc G B 5 d) ∧ mx_ocs G B (c + 1) s1.2) := fun v1 v2 hoc h1 h2 hF => by
      obtain ⟨T1, e1⟩ : ∃ X, X = dg_uf T 31 (upd (T.2.1 31) ((64 : Int32) + cI).toNatClampNeg v1) := ⟨_, rfl⟩
      obtain ⟨T2, e2⟩ : ∃ X, X = dg_uf T1 32 (upd (T1.2.1 32) ((64 : Int32) + cI).toNatClampNeg v2) := ⟨_, rfl⟩
      rw [← e1] at hF
      refine ⟨(pI + 1, T2), hF.symm.trans (F_m_cellsOn_p1 e2 rfl rfl), ?_, ?_, fun d hd hdi => ?_, fun d hd hdi => ?_⟩
      · show (pI + 1).toInt = _
        rw [dk_addT p1 z1 (by omega) (by omega), s_cp_y hin]
        omega
      · show k_v 1 S T2 ∧ kp (fun _ _ => False) (fun a => a = 31 ∨ a = 32) S T2
        rw [e2, e1, n64]
        refine ⟨?_, kp.uf (kp.uf p5 (Or.inl rfl)) (Or.inr rfl)⟩
        exact (p2.uf (by decide) (by decide) (by show 64 * 1 ≤ _ ∧ _ < 64 * 1 + 64; omega)).uf (by decide) (by decide) (by show 64 * 1 ≤ _ ∧ _ < 64 * 1 + 64; omega)
      · by_cases z : d = c
        · subst z
          exact hoc
        · exact p3 d (by omega) hdi
      · show (T2.2.1 31 (64 + d)).toInt = _ ∧ (T2.2.1 32 (64 + d)).toInt = _
        have r31 : T2.2.1 31 = upd (T.2.1 31) (64 + c) v1 := by rw [e2, w_f, if_neg (by decide), e1, w_f, if_pos rfl, n64]
        have r32 : T2.2.1 32 = upd (T.2.1 32) (64 + c) v2 := by rw [e2, w_f, if_pos rfl, n64, e1, w_f, if_neg (by decide)]
        rw [r31, r32, w_u, w_u]
        by_cases z : d = c
        · subst z
          rw [if_pos rfl, if_pos rfl]
          exact ⟨h1, h2⟩
        · rw [if_neg (by omega), if_neg (by omega)]
          exact p4 d (by omega) hdi
    by_cases q9 : b ≤ (9 : Int32)
    · have d9 := w_le.mp q9
      rw [bv, z9] at d9
      have n254 : ¬ b = (254 : Int32) := fun z => by have := dk_eqc z254 z; omega
      have v1 : b.toInt = mx_en (s_dc (B (5 + s_cp G c))) := by
        rw [bv, s_dc_9 d9]
        unfold mx_en
        rw [if_neg (by omega)]
      have v2 : (0 : Int32).toInt = mx_cu (s_dc (B (5 + s_cp G c))) := by
        rw [z0, s_dc_9 d9]
        unfold mx_cu
        rw [if_neg (by omega)]
      have st := F_m_cellsOn_p9 (S := S) q0 rfl nc hb q9
      by_cases qe : cI = T.2.1 4 (zI S 0 13).toNatClampNeg
      · right
        refine ⟨_, st.trans (F_m_cellsOn_p8 rfl rfl qe (fun z => by have := dk_eqc z255 z; omega)), bad (fun w => ?_)⟩
        have := w_eq.mp qe
        have := w.2 (by omega)
        omega
      · left
        refine wr b 0 ⟨Or.inl d9, fun w => absurd (Int32.toInt_inj.mp (by rw [hcI, ex]; exact w)) qe⟩ v1 v2 ?_
        rw [st, F_m_cellsOn_p6 rfl rfl qe, F_m_cellsOn_p4 rfl q9, F_m_cellsOn_p2 rfl rfl n254]
    have d9 : ¬ b.toInt ≤ (9 : Int32).toInt := fun z => q9 (w_le.mpr z)
    rw [bv, z9] at d9
    by_cases q254 : b < (254 : Int32)
    · right
      have d4 := w_lt.mp q254
      rw [bv, z254] at d4
      exact ⟨_, F_m_cellsOn_p10 q0 rfl nc hb q9 q254, bad (fun w => by have := w.1; omega)⟩
    have d4 : ¬ b.toInt < (254 : Int32).toInt := fun z => q254 (w_lt.mpr z)
    rw [bv, z254] at d4
    have st := F_m_cellsOn_p11 (S := S) q0 rfl nc hb q9 q254
    have v1 : (-1 : Int32).toInt = mx_en (s_dc (B (5 + s_cp G c))) := by
      rw [m1]
      by_cases w : B (5 + s_cp G c) = 255
      · rw [s_dc_5 w]
        rfl
      · rw [s_dc_4 (show B (5 + s_cp G c) = 254 by omega)]
        rfl
    have J3 : F_m_cellsOn_J2 S T cI b pI = F_m_cellsOn_J3 cI b T pI → s_oc G B 5 c → ∃ s1, F_m_cellsOn_B1 o S (cI, pI, T) = .inl (cI + 1, s1) ∧ (s1.1.toInt = ((5 + s_cp G (c + 1) : Nat) : Int) ∧ (k_v 1 S s1.2 ∧ kp (fun _ _ => False) (fun a => a = 31 ∨ a = 32) S s1.2) ∧ (∀ d : Nat, d < c + 1 → s_in G (d : Int) → s_oc G B 5 d) ∧ mx_ocs G B (c + 1) s1.2) := fun hJ hoc => by
      by_cases q5 : b = (254 : Int32)
      · have d5 := dk_eqc z254 q5
        refine wr (-1) 1 hoc v1 ?_ ?_
        · rw [z1, s_dc_4 (show B (5 + s_cp G c) = 254 by omega)]
          rfl
        · rw [st, hJ, F_m_cellsOn_p5 rfl q9, F_m_cellsOn_p3 rfl rfl q5]
      · have d5 := dk_neqc z254 q5
        refine wr (-1) 0 hoc v1 ?_ ?_
        · rw [z0, s_dc_5 (show B (5 + s_cp G c) = 255 by omega)]
          rfl
        · rw [st, hJ, F_m_cellsOn_p5 rfl q9, F_m_cellsOn_p2 rfl rfl q5]
    by_cases qe : cI = T.2.1 4 (zI S 0 13).toNatClampNeg
    · have de := w_eq.mp qe
      by_cases q5 : b = (255 : Int32)
      · left
        have d5 := dk_eqc z255 q5
        exact J3 (F_m_cellsOn_p7 rfl rfl qe q5) ⟨Or.inr (by omega), fun _ => by omega⟩
      · right
        have d5 := dk_neqc z255 q5
        exact ⟨_, st.trans (F_m_cellsOn_p8 rfl rfl qe q5), bad (fun w => by have := w.2 (by omega); omega)⟩
    · left
      exact J3 (F_m_cellsOn_p6 rfl rfl qe) ⟨Or.inr (by omega), fun w => absurd (Int32.toInt_inj.mp (by rw [hcI, ex]; exact w)) qe⟩) (fun cI s hcI hP => by
    obtain ⟨pI, T⟩ := s
    exact ⟨(T, 1), F_m_cellsOn_p0 (w_le.mpr (by omega)), hP.2.1, Or.inl ⟨rfl, hP.2.2.1, hP.2.2.2⟩⟩) ((65 - ((0 : Int32)).toInt).toNat + 1) 0 0 (a1, S) (by rw [z0]; decide) (by decide) z0 ⟨ha, ⟨k_v.rf, kp.rf⟩, fun d hd => absurd hd (Nat.not_lt_zero _), fun d hd => absurd hd (Nat.not_lt_zero _)⟩
  exact ⟨_, _, rfl, Q⟩
end FJ
