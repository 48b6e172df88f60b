/-! the reference's parser: what waits, of a state -/
/-- rule w of bank b, where it is told, is a program that ends ahead of c -/
def dk_pc (S : dg_S) (b w : Nat) (c : Int) : Prop := (S.2.1 16 (3 * b + w)).toInt ≠ -1 → 0 ≤ (S.2.1 16 (3 * b + w)).toInt ∧ (S.2.1 16 (3 * b + w)).toInt ≤ (S.2.1 17 (3 * b + w)).toInt ∧ (S.2.1 17 (3 * b + w)).toInt ≤ c ∧ ∃ m, dk_ok (S.2.1 18) ((S.2.1 17 (3 * b + w)).toInt - (S.2.1 16 (3 * b + w)).toInt).toNat (1600 * b + (S.2.1 16 (3 * b + w)).toInt.toNat) 0 m
theorem dk_pc.pr {S : dg_S} {b w : Nat} {c : Int} (h : dk_pc S b w c) (hc : c ≤ 1600) : dk_pr S b w := fun t => ⟨(h t).1, (h t).2.1, Int.le_trans (h t).2.2.1 hc, (h t).2.2.2⟩
theorem dk_pc.mono {S : dg_S} {b w : Nat} {c c' : Int} (h : dk_pc S b w c) (hc : c ≤ c') : dk_pc S b w c' := fun t => ⟨(h t).1, (h t).2.1, Int.le_trans (h t).2.2.1 hc, (h t).2.2.2⟩
theorem dk_pc.move {S S' : dg_S} {b w : Nat} {c : Int} (h : dk_pc S b w c) (e16 : S'.2.1 16 (3 * b + w) = S.2.1 16 (3 * b + w)) (e17 : S'.2.1 17 (3 * b + w) = S.2.1 17 (3 * b + w)) (e18 : ∀ j : Nat, 1600 * b ≤ j → (j : Int) < 1600 * (b : Int) + c → S'.2.1 18 j = S.2.1 18 j) : dk_pc S' b w c := by
  unfold dk_pc
  rw [e16, e17]
  intro t
  obtain ⟨h1, h2, h3, m, h4⟩ := h t
  exact ⟨h1, h2, h3, m, h4.congr (fun j j1 j2 => e18 j (by omega) (by omega))⟩
/-- the rule that is being read: its codes so far leave h values; the others are programs -/
def dk_qs (S : dg_S) (i w : Int32) (cd h : Int) : Prop := 0 ≤ w.toInt ∧ w.toInt ≤ 2 ∧ 0 ≤ (S.2.1 16 (3 * i.toNatClampNeg + w.toNatClampNeg)).toInt ∧ (S.2.1 16 (3 * i.toNatClampNeg + w.toNatClampNeg)).toInt ≤ cd ∧ dk_ok (S.2.1 18) (cd - (S.2.1 16 (3 * i.toNatClampNeg + w.toNatClampNeg)).toInt).toNat (1600 * i.toNatClampNeg + (S.2.1 16 (3 * i.toNatClampNeg + w.toNatClampNeg)).toInt.toNat) 0 h ∧ ∀ w' : Nat, w' < 3 → w' ≠ w.toNatClampNeg → dk_pc S i.toNatClampNeg w' (S.2.1 16 (3 * i.toNatClampNeg + w.toNatClampNeg)).toInt
def QSM (S : dg_S) (h : Int) : Prop := ∀ i w cd : Int32, S.1 0 35 = .int i → S.1 0 36 = .int w → S.1 0 34 = .int cd → dk_qs S i w cd.toInt h
theorem QSM.keep {S S1 : dg_S} {WF : List (Nat × Nat)} {WA : List Nat} {x : Int} (h : QSM S x) (m : dg_sm shM WF WA S S1) (h1 : (0, 35) ∉ WF) (h2 : (0, 36) ∉ WF) (h3 : (0, 34) ∉ WF) (h4 : 16 ∉ WA) (h5 : 17 ∉ WA) (h6 : 18 ∉ WA) : QSM S1 x := by
  intro i w cd q1 q2 q3
  rw [m.1 0 35 _ sM_0 h1] at q1
  rw [m.1 0 36 _ sM_0 h2] at q2
  rw [m.1 0 34 _ sM_0 h3] at q3
  have := h i w cd q1 q2 q3
  unfold dk_qs dk_pc at this ⊢
  rw [(m.2 16 _ sM_16 h4).1, (m.2 17 _ sM_17 h5).1, (m.2 18 _ sM_18 h6).1]
  exact this
def ADM (S S' : dg_S) (t : Int32) : Prop := ∀ h h' : Int, QSM S h → dk_st t.toInt h h' → QSM S' h'
theorem QSM.add {S S1 S2 S3 : dg_S} {i cd cd' x t y : Int32} {z : Nat} (fi : S.1 0 35 = .int i) (fc : S.1 0 34 = .int cd) (hi : 0 ≤ i.toInt) (hc : 0 ≤ cd.toInt) (e1 : S1 = dg_uf S 18 (upd (S.2.1 18) x.toNatClampNeg t)) (hx : x.toInt = 1600 * i.toInt + cd.toInt) (e2 : S2 = dg_uf S1 19 (upd (S1.2.1 19) z y)) (e3 : S3 = dg_uF S2 0 34 (.int cd')) (hcd : cd'.toInt = cd.toInt + 1) : ADM S S3 t := by
  intro h h' q hst i' w cd'' q1 q2 q3
  have g35 : S3.1 0 35 = S.1 0 35 := by rw [dg_uF_ne e3 (fun z => absurd z.2 (by decide)), dg_uf_F e2, dg_uf_F e1]
  have g36 : S3.1 0 36 = S.1 0 36 := by rw [dg_uF_ne e3 (fun z => absurd z.2 (by decide)), dg_uf_F e2, dg_uf_F e1]
  have g16 : S3.2.1 16 = S.2.1 16 := by rw [dg_uF_f e3, dg_uf_ne e2 (by decide), dg_uf_ne e1 (by decide)]
  have g17 : S3.2.1 17 = S.2.1 17 := by rw [dg_uF_f e3, dg_uf_ne e2 (by decide), dg_uf_ne e1 (by decide)]
  have g18 : S3.2.1 18 = upd (S.2.1 18) x.toNatClampNeg t := by rw [dg_uF_f e3, dg_uf_ne e2 (by decide), dg_uf_at e1]
  rw [g35, fi] at q1
  rw [g36] at q2
  rw [dg_uF_at e3] at q3
  cases q1
  cases q3
  obtain ⟨a1, a2, a3, a4, a5, a6⟩ := q i w cd fi q2 fc
  unfold dk_qs
  rw [g16, g18, hcd]
  generalize (S.2.1 16 (3 * i.toNatClampNeg + w.toNatClampNeg)).toInt = f0 at a3 a4 a5 a6 ⊢
  have ex : x.toNatClampNeg = 1600 * i.toNatClampNeg + f0.toNat + (cd.toInt - f0).toNat := by rw [dk_clN, dk_clN]; omega
  refine ⟨a1, a2, a3, by omega, ?_, fun w' w1 w2 => (a6 w' w1 w2).move (congrFun g16 _) (congrFun g17 _) (fun j j1 j2 => ?_)⟩
  · rw [show (cd.toInt + 1 - f0).toNat = (cd.toInt - f0).toNat + 1 by omega]
    refine dk_ok.snoc (a5.congr (fun j j1 j2 => ?_)) ?_
    · unfold upd
      rw [if_neg (by omega)]
    · unfold upd
      rw [if_pos ex.symm]
      exact hst
  · rw [g18]
    unfold upd
    rw [if_neg (by rw [ex]; omega)]
/-! the bank in use stands while the other one is written -/
def ZKM (S : dg_S) : Prop := ∀ b i : Int32, S.1 0 13 = .int b → S.1 0 35 = .int i → i.toInt = 1 - b.toInt
theorem ZKM.keep {S S1 : dg_S} {WF : List (Nat × Nat)} {WA : List Nat} (h : ZKM S) (m : dg_sm shM WF WA S S1) (h1 : (0, 13) ∉ WF) (h2 : (0, 35) ∉ WF) : ZKM S1 := by
  intro b i q1 q2
  rw [m.1 0 13 _ sM_0 h1] at q1
  rw [m.1 0 35 _ sM_0 h2] at q2
  exact h b i q1 q2
theorem ZWM.up18 {S S1 : dg_S} {b x v : Int32} (h : ZWM S) (hb : S.1 0 13 = .int b) (h0 : 0 ≤ b.toInt ∧ b.toInt ≤ 1) (e : S1 = dg_uf S 18 (upd (S.2.1 18) x.toNatClampNeg v)) (hx : 1600 * (1 - b.toInt) ≤ x.toInt ∧ x.toInt < 1600 * (1 - b.toInt) + 1600) : ZWM S1 := by
  intro b' hb' w hw
  rw [dg_uf_F e, hb] at hb'
  cases hb'
  have g16 : S1.2.1 16 = S.2.1 16 := dg_uf_ne e (by decide)
  have g17 : S1.2.1 17 = S.2.1 17 := dg_uf_ne e (by decide)
  unfold dk_pr
  rw [g16, g17]
  intro t
  obtain ⟨h1, h2, h3, m, h4⟩ := h b hb w hw t
  refine ⟨h1, h2, h3, m, h4.congr (fun j j1 j2 => ?_)⟩
  rw [dg_uf_at e]
  unfold upd
  rw [if_neg (by
    have e2 := dk_clN x
    have e3 := dk_clN b
    omega)]
theorem ZWM.up1 {S S1 : dg_S} {b x v : Int32} {r : Nat} (h : ZWM S) (hr : r = 16 ∨ r = 17) (hb : S.1 0 13 = .int b) (h0 : 0 ≤ b.toInt ∧ b.toInt ≤ 1) (e : S1 = dg_uf S r (upd (S.2.1 r) x.toNatClampNeg v)) (hx : 3 * (1 - b.toInt) ≤ x.toInt ∧ x.toInt < 3 * (1 - b.toInt) + 3) : ZWM S1 := by
  intro b' hb' w hw
  rw [dg_uf_F e, hb] at hb'
  cases hb'
  have hne : ¬ 3 * b.toNatClampNeg + w = x.toNatClampNeg := by
    have e2 := dk_clN x
    have e3 := dk_clN b
    omega
  have g16 : S1.2.1 16 (3 * b.toNatClampNeg + w) = S.2.1 16 (3 * b.toNatClampNeg + w) := by
    rcases hr with q | q
    · subst q
      rw [dg_uf_at e, dg_upd_ne hne]
    · subst q
      rw [dg_uf_ne e (by decide)]
  have g17 : S1.2.1 17 (3 * b.toNatClampNeg + w) = S.2.1 17 (3 * b.toNatClampNeg + w) := by
    rcases hr with q | q
    · subst q
      rw [dg_uf_ne e (by decide)]
    · subst q
      rw [dg_uf_at e, dg_upd_ne hne]
  have g18 : S1.2.1 18 = S.2.1 18 := dg_uf_ne e (by rcases hr with q | q <;> omega)
  unfold dk_pr
  rw [g16, g17, g18]
  exact h b hb w hw
theorem ZBM.up {S S1 : dg_S} {b x v : Int32} {r : Nat} (h : ZBM S) (hr : r = 2 ∨ r = 3 ∨ r = 4) (hb : S.1 0 13 = .int b) (h0 : 0 ≤ b.toInt ∧ b.toInt ≤ 1) (e : S1 = dg_uf S r (upd (S.2.1 r) x.toNatClampNeg v)) (hx : x.toInt = 1 - b.toInt) : ZBM S1 := by
  intro b' sm hb' hsm
  rw [dg_uf_F e, hb] at hb'
  rw [dg_uf_F e] at hsm
  cases hb'
  have hne : ¬ b.toNatClampNeg = x.toNatClampNeg := by
    have e2 := dk_clN x
    have e3 := dk_clN b
    omega
  have key : ∀ q : Nat, S1.2.1 q b.toNatClampNeg = S.2.1 q b.toNatClampNeg := by
    intro q
    by_cases z : q = r
    · subst z
      rw [dg_uf_at e, dg_upd_ne hne]
    · rw [dg_uf_ne e z]
  rw [key 2, key 3, key 4]
  exact h b sm hb hsm
/-! what waits -/
def PSM (S : dg_S) (op : Int) : Prop := ∀ dp on om : Int32, S.1 0 42 = .int dp → S.1 0 43 = .int on → S.1 0 45 = .int om → dk_fs (S.2.1 22) (S.2.1 23) (S.2.1 24) (S.2.1 25) (S.2.1 26) (S.2.1 27) dp.toNatClampNeg om.toNatClampNeg on.toInt ∧ (op = 1 → (S.2.1 24 (dp.toNatClampNeg - 1)).toInt = 0) ∧ 0 ≤ dp.toInt ∧ 0 ≤ om.toInt ∧ QSM S (om.toInt - (dk_cnt (S.2.1 27) 43 om.toNatClampNeg : Int) + dk_ex (S.2.1 22) (S.2.1 25) dp.toNatClampNeg + op)
theorem PSM.keep {S S1 : dg_S} {WF : List (Nat × Nat)} {WA : List Nat} {op : Int} (h : PSM S op) (m : dg_sm shM WF WA S S1) (h1 : (0, 35) ∉ WF) (h2 : (0, 36) ∉ WF) (h3 : (0, 34) ∉ WF) (h7 : (0, 42) ∉ WF) (h8 : (0, 43) ∉ WF) (h9 : (0, 45) ∉ WF) (h4 : 16 ∉ WA) (h5 : 17 ∉ WA) (h6 : 18 ∉ WA) (k2 : 22 ∉ WA) (k3 : 23 ∉ WA) (k4 : 24 ∉ WA) (k5 : 25 ∉ WA) (k6 : 26 ∉ WA) (k7 : 27 ∉ WA) : PSM S1 op := by
  intro dp on om q1 q2 q3
  rw [m.1 0 42 _ sM_0 h7] at q1
  rw [m.1 0 43 _ sM_0 h8] at q2
  rw [m.1 0 45 _ sM_0 h9] at q3
  rw [(m.2 22 _ sM_22 k2).1, (m.2 23 _ sM_23 k3).1, (m.2 24 _ sM_24 k4).1, (m.2 25 _ sM_25 k5).1, (m.2 26 _ sM_26 k6).1, (m.2 27 _ sM_27 k7).1]
  obtain ⟨a1, a2, a3, a4, a5⟩ := h dp on om q1 q2 q3
  exact ⟨a1, a2, a3, a4, a5.keep m h1 h2 h3 h4 h5 h6⟩
def P0M (S : dg_S) : Prop := PSM S 0
def P1M (S : dg_S) : Prop := PSM S 1
def PBM (S : dg_S) : Prop := PSM S 0 ∧ ∀ dp : Int32, S.1 0 42 = .int dp → (S.2.1 24 (dp.toNatClampNeg - 1)).toInt = 0
theorem P0M.keep {S S1 : dg_S} {WF : List (Nat × Nat)} {WA : List Nat} (h : P0M S) (m : dg_sm shM WF WA S S1) (h1 : (0, 35) ∉ WF) (h2 : (0, 36) ∉ WF) (h3 : (0, 34) ∉ WF) (h7 : (0, 42) ∉ WF) (h8 : (0, 43) ∉ WF) (h9 : (0, 45) ∉ WF) (h4 : 16 ∉ WA) (h5 : 17 ∉ WA) (h6 : 18 ∉ WA) (k2 : 22 ∉ WA) (k3 : 23 ∉ WA) (k4 : 24 ∉ WA) (k5 : 25 ∉ WA) (k6 : 26 ∉ WA) (k7 : 27 ∉ WA) : P0M S1 := PSM.keep h m h1 h2 h3 h7 h8 h9 h4 h5 h6 k2 k3 k4 k5 k6 k7
theorem P1M.keep {S S1 : dg_S} {WF : List (Nat × Nat)} {WA : List Nat} (h : P1M S) (m : dg_sm shM WF WA S S1) (h1 : (0, 35) ∉ WF) (h2 : (0, 36) ∉ WF) (h3 : (0, 34) ∉ WF) (h7 : (0, 42) ∉ WF) (h8 : (0, 43) ∉ WF) (h9 : (0, 45) ∉ WF) (h4 : 16 ∉ WA) (h5 : 17 ∉ WA) (h6 : 18 ∉ WA) (k2 : 22 ∉ WA) (k3 : 23 ∉ WA) (k4 : 24 ∉ WA) (k5 : 25 ∉ WA) (k6 : 26 ∉ WA) (k7 : 27 ∉ WA) : P1M S1 := PSM.keep h m h1 h2 h3 h7 h8 h9 h4 h5 h6 k2 k3 k4 k5 k6 k7
theorem PBM.keep {S S1 : dg_S} {WF : List (Nat × Nat)} {WA : List Nat} (h : PBM S) (m : dg_sm shM WF WA S S1) (h1 : (0, 35) ∉ WF) (h2 : (0, 36) ∉ WF) (h3 : (0, 34) ∉ WF) (h7 : (0, 42) ∉ WF) (h8 : (0, 43) ∉ WF) (h9 : (0, 45) ∉ WF) (h4 : 16 ∉ WA) (h5 : 17 ∉ WA) (h6 : 18 ∉ WA) (k2 : 22 ∉ WA) (k3 : 23 ∉ WA) (k4 : 24 ∉ WA) (k5 : 25 ∉ WA) (k6 : 26 ∉ WA) (k7 : 27 ∉ WA) : PBM S1 := by
  refine ⟨PSM.keep h.1 m h1 h2 h3 h7 h8 h9 h4 h5 h6 k2 k3 k4 k5 k6 k7, fun dp q => ?_⟩
  rw [m.1 0 42 _ sM_0 h7] at q
  rw [(m.2 24 _ sM_24 k4).1]
  exact h.2 dp q
/-- numbers that follow -/
theorem PSM.dims {S : dg_S} {op : Int} (h : PSM S op) {dp on om : Int32} (f1 : S.1 0 42 = .int dp) (f2 : S.1 0 43 = .int on) (f3 : S.1 0 45 = .int om) : 1 ≤ dp.toInt ∧ dp.toInt ≤ 8 ∧ 0 ≤ om.toInt ∧ om.toInt ≤ 47 ∧ dp.toInt - 1 ≤ on.toInt ∧ on.toInt ≤ 7 := by
  obtain ⟨a1, a2, a3, a4, a5⟩ := h dp on om f1 f2 f3
  have b := a1.bound
  obtain ⟨⟨c1, c2, c3⟩, -⟩ := a1
  have e1 := dk_clN dp
  have e2 := dk_clN om
  omega
/-- the height is small, and not below none -/
theorem PSM.high {S : dg_S} {op : Int} (h : PSM S op) (h0 : 0 ≤ op ∧ op ≤ 1) {dp on om : Int32} (f1 : S.1 0 42 = .int dp) (f2 : S.1 0 43 = .int on) (f3 : S.1 0 45 = .int om) : 0 ≤ om.toInt - (dk_cnt (S.2.1 27) 43 om.toNatClampNeg : Int) + dk_ex (S.2.1 22) (S.2.1 25) dp.toNatClampNeg + op ∧ om.toInt - (dk_cnt (S.2.1 27) 43 om.toNatClampNeg : Int) + dk_ex (S.2.1 22) (S.2.1 25) dp.toNatClampNeg + op ≤ 400 := by
  obtain ⟨a1, a2, a3, a4, a5⟩ := h dp on om f1 f2 f3
  have b := a1.bound
  have x := dk_ex_b (S.2.1 22) (S.2.1 25) dp.toNatClampNeg
  have y := dk_cnt_le (S.2.1 27) 43 om.toNatClampNeg
  have e2 := dk_clN om
  omega
/-- the top frame's last operator is below a rank, or there is none -/
def TOPM (S : dg_S) (l : Int32) : Prop := ∀ dp om : Int32, S.1 0 42 = .int dp → S.1 0 45 = .int om → om.toNatClampNeg = (S.2.1 26 (dp.toNatClampNeg - 1)).toInt.toNat ∨ dk_rk (S.2.1 27 (om.toNatClampNeg - 1)).toInt < l.toInt
def HBM (S S' : dg_S) (t : Int32) : Prop := ∀ om : Int32, S.1 0 45 = .int om → S'.2.1 27 = upd (S.2.1 27) om.toNatClampNeg t ∧ ∃ om' : Int32, S'.1 0 45 = .int om' ∧ om'.toInt = om.toInt + 1
def PUM (S S' : dg_S) (k : Int32) : Prop := ∀ dp om : Int32, S.1 0 42 = .int dp → S.1 0 45 = .int om → S'.2.1 22 = upd (S.2.1 22) dp.toNatClampNeg k ∧ S'.2.1 23 = upd (S.2.1 23) dp.toNatClampNeg 0 ∧ S'.2.1 24 = upd (S.2.1 24) dp.toNatClampNeg 1 ∧ S'.2.1 26 = upd (S.2.1 26) dp.toNatClampNeg om ∧ ∃ dp' : Int32, S'.1 0 42 = .int dp' ∧ dp'.toInt = dp.toInt + 1
def FRM (S S' : dg_S) (k : Int32) : Prop := PUM S S' k ∧ ∀ on : Int32, S.1 0 43 = .int on → on.toInt ≠ 7 ∧ ∃ on' : Int32, S'.1 0 43 = .int on' ∧ on'.toInt = on.toInt + 1
section DKPS
variable {S S' : dg_S} {dp on om : Int32}
theorem PSM.push {op : Int} {t on' om' : Int32} (h : PSM S op) (f1 : S.1 0 42 = .int dp) (f2 : S.1 0 43 = .int on) (f3 : S.1 0 45 = .int om) (g1 : S'.1 0 42 = .int dp) (g2 : S'.1 0 43 = .int on') (g3 : S'.1 0 45 = .int om') (hq : ∀ x, QSM S x → QSM S' x) (r22 : S'.2.1 22 = S.2.1 22) (r25 : S'.2.1 25 = S.2.1 25) (r26 : S'.2.1 26 = S.2.1 26) (r27 : S'.2.1 27 = upd (S.2.1 27) om.toNatClampNeg t)
    (hph : ∀ j, j + 1 < dp.toNatClampNeg → S'.2.1 23 j = S.2.1 23 j) (hbg : ∀ j, j + 1 < dp.toNatClampNeg → S'.2.1 24 j = S.2.1 24 j) (hv : dk_vo t.toInt) (hon : on'.toInt = on.toInt + (if t.toInt = 43 then 1 else 0)) (h7 : on'.toInt ≤ 7) (hom : om'.toInt = om.toInt + 1) (hop : op = if t.toInt = 43 then 0 else 1)
    (ht : om.toNatClampNeg = (S.2.1 26 (dp.toNatClampNeg - 1)).toInt.toNat ∨ dk_rk (S.2.1 27 (om.toNatClampNeg - 1)).toInt < dk_rk t.toInt ∨ (t.toInt = 43 ∧ dk_rk (S.2.1 27 (om.toNatClampNeg - 1)).toInt ≤ 3))
    (h4 : dk_ts (S.2.1 22 (dp.toNatClampNeg - 1)).toInt ∧ (S'.2.1 23 (dp.toNatClampNeg - 1)).toInt = 0 → (∀ i, (S.2.1 26 (dp.toNatClampNeg - 1)).toInt.toNat ≤ i → i < om.toNatClampNeg → dk_rk (S.2.1 27 i).toInt ≠ 4) ∧ dk_rk t.toInt ≠ 4) (h3 : dk_ts (S.2.1 22 (dp.toNatClampNeg - 1)).toInt ∧ (S'.2.1 24 (dp.toNatClampNeg - 1)).toInt = 1 → (∀ i, (S.2.1 26 (dp.toNatClampNeg - 1)).toInt.toNat ≤ i → i < om.toNatClampNeg → dk_rk (S.2.1 27 i).toInt ≤ 3) ∧ dk_rk t.toInt ≤ 3) : P0M S' := by
  intro dp' on'' om'' q1 q2 q3
  cases g1.symm.trans q1
  cases g2.symm.trans q2
  cases g3.symm.trans q3
  obtain ⟨a1, a2, a3, a4, a5⟩ := h dp on om f1 f2 f3
  have e : om'.toNatClampNeg = om.toNatClampNeg + 1 := by rw [dk_clN, dk_clN]; omega
  have e0 : (S'.2.1 27) om.toNatClampNeg = t := by rw [r27]; unfold upd; rw [if_pos rfl]
  have k := dk_cnt_s (S'.2.1 27) 43 om.toNatClampNeg
  rw [e0, dk_cnt_congr (f := S.2.1 27) (g := S'.2.1 27) (n := om.toNatClampNeg) (fun j hj => by rw [r27]; unfold upd; rw [if_neg (by omega)])] at k
  rw [r22, r25, r26, e]
  refine ⟨a1.push r27 hph hbg hv hon h7 ht h4 h3, fun z => absurd z (by decide), a3, by omega, ?_⟩
  have e9 : om'.toInt - (dk_cnt (S'.2.1 27) 43 (om.toNatClampNeg + 1) : Int) + dk_ex (S.2.1 22) (S.2.1 25) dp.toNatClampNeg + 0 = om.toInt - (dk_cnt (S.2.1 27) 43 om.toNatClampNeg : Int) + dk_ex (S.2.1 22) (S.2.1 25) dp.toNatClampNeg + op := by
    rcases k with ⟨k1, k2⟩ | ⟨k1, k2⟩
    · rw [if_pos k1] at hop
      omega
    · rw [if_neg k1] at hop
      omega
  rw [e9]
  exact hq _ a5
end DKPS
