/-! the reference's parser: ends of frames, pops, leaves; rules begun and ended -/
section DKEW
variable {S S1 S2 S3 S4 : dg_S} {dp on om fx : Int32}
/-- with nothing left in the top frame: its kind, its pair may change -/
theorem P1M.comma {l k k' v : Int32} (h : P1M S) (f1 : S.1 0 42 = .int dp) (f2 : S.1 0 43 = .int on) (f3 : S.1 0 45 = .int om) (top : TOPM S l) (hl : l.toInt = 1) (hf : fx.toInt = dp.toInt - 1) (t22 : S.2.1 22 fx.toNatClampNeg = k) (hk : (k.toInt = 3 ∧ k'.toInt = 4) ∨ (k.toInt = 6 ∧ k'.toInt = 3)) (e : S1 = dg_uf S 22 (upd (S.2.1 22) fx.toNatClampNeg k')) (e' : S2 = dg_uf S1 23 (upd (S1.2.1 23) fx.toNatClampNeg v)) : P0M S2 := by
  have dd := PSM.dims h f1 f2 f3
  have ef : fx.toNatClampNeg = dp.toNatClampNeg - 1 := by rw [dk_clN, dk_clN]; omega
  rw [ef] at t22 e e'
  have e3 := dk_clN dp
  have e2 := dk_clN om
  intro dp' on' om' q1 q2 q3
  rw [dg_uf_F e', dg_uf_F e] at q1 q2 q3
  cases f1.symm.trans q1
  cases f2.symm.trans q2
  cases f3.symm.trans q3
  obtain ⟨a1, a2, a3, a4, a5⟩ := h dp on om f1 f2 f3
  obtain ⟨b1, b2, b3, b4, b5⟩ := a1.top
  have g22 : S2.2.1 22 = upd (S.2.1 22) (dp.toNatClampNeg - 1) k' := by rw [dg_uf_ne e' (by decide), dg_uf_at e]
  have g23 : S2.2.1 23 = upd (S.2.1 23) (dp.toNatClampNeg - 1) v := by rw [dg_uf_at e', dg_uf_ne e (by decide)]
  have g24 : S2.2.1 24 = S.2.1 24 := (dg_uf_ne e' (by decide)).trans (dg_uf_ne e (by decide))
  have g25 : S2.2.1 25 = S.2.1 25 := (dg_uf_ne e' (by decide)).trans (dg_uf_ne e (by decide))
  have g26 : S2.2.1 26 = S.2.1 26 := (dg_uf_ne e' (by decide)).trans (dg_uf_ne e (by decide))
  have g27 : S2.2.1 27 = S.2.1 27 := (dg_uf_ne e' (by decide)).trans (dg_uf_ne e (by decide))
  rw [g22, g23, g24, g25, g26, g27]
  have emp : ∀ i, (S.2.1 26 (dp.toNatClampNeg - 1)).toInt.toNat ≤ i → i < om.toNatClampNeg → False := by
    intro i i1 i2
    rcases top dp om f1 f3 with q | q
    · omega
    · have r1 := dk_rl (S.2.1 27 (om.toNatClampNeg - 1)).toInt
      omega
  have b5' := b5
  rw [t22] at b5'
  unfold dk_fk at b5'
  refine ⟨a1.flag (fun j hj => dk_upd_o (by omega)) (fun j hj => dk_upd_o (by omega)) (fun _ _ => rfl) (fun _ _ => rfl) (fun i i1 i2 _ => (emp i i1 i2).elim) (fun i i1 i2 _ => (emp i i1 i2).elim) ?_, fun z => absurd z (by decide), a3, a4, ?_⟩
  · rw [dk_upd_s]
    unfold dk_fk
    omega
  · have x0 := dk_ex_top (fr := S.2.1 22) (pr := S.2.1 25) (d := dp.toNatClampNeg) (by omega)
    have x1 := dk_ex_top (fr := upd (S.2.1 22) (dp.toNatClampNeg - 1) k') (pr := S.2.1 25) (d := dp.toNatClampNeg) (by omega)
    rw [dk_upd_s, dk_ex_congr (fr := S.2.1 22) (pr := S.2.1 25) (fr' := upd (S.2.1 22) (dp.toNatClampNeg - 1) k') (pr' := S.2.1 25) (d := dp.toNatClampNeg - 1) (fun j hj => dk_upd_o (by omega)) (fun _ _ => rfl)] at x1
    rw [t22] at x0
    have x2 : dk_ex1 k'.toInt (S.2.1 25 (dp.toNatClampNeg - 1)).toInt = dk_ex1 k.toInt (S.2.1 25 (dp.toNatClampNeg - 1)).toInt + 1 := by
      unfold dk_ex1
      rcases hk with ⟨w1, w2⟩ | ⟨w1, w2⟩
      · rw [w1, w2]
        by_cases p : (S.2.1 25 (dp.toNatClampNeg - 1)).toInt = 44
        · simp [p]
        · simp [p]
      · rw [w1, w2]
        have p := b5'.2.2.2.2 w1
        simp [p]
    have e9 : om.toInt - (dk_cnt (S.2.1 27) 43 om.toNatClampNeg : Int) + dk_ex (upd (S.2.1 22) (dp.toNatClampNeg - 1) k') (S.2.1 25) dp.toNatClampNeg + 0 = om.toInt - (dk_cnt (S.2.1 27) 43 om.toNatClampNeg : Int) + dk_ex (S.2.1 22) (S.2.1 25) dp.toNatClampNeg + 1 := by omega
    rw [e9]
    exact (a5.uf ⟨by decide, by decide, by decide⟩ e).uf ⟨by decide, by decide, by decide⟩ e'
/-- the top frame goes: what it left is the outer one's operand, when its own end is accounted for -/
theorem P1M.close0 {l k dp2 on2 : Int32} (h : P1M S) (f1 : S.1 0 42 = .int dp) (f2 : S.1 0 43 = .int on) (f3 : S.1 0 45 = .int om) (top : TOPM S l) (hl : l.toInt = 1) (hf : fx.toInt = dp.toInt - 1) (t22 : S.2.1 22 fx.toNatClampNeg = k) (hk : 2 ≤ k.toInt) (e : S1 = dg_uF S 0 42 (.int dp2)) (hd : dp2.toInt = dp.toInt - 1) (e' : S2 = dg_uF S1 0 43 (.int on2)) (ho : on2.toInt = on.toInt - 1) :
    2 ≤ dp.toInt ∧ dk_fs (S2.2.1 22) (S2.2.1 23) (S2.2.1 24) (S2.2.1 25) (S2.2.1 26) (S2.2.1 27) dp2.toNatClampNeg om.toNatClampNeg on2.toInt ∧ (S2.2.1 24 (dp2.toNatClampNeg - 1)).toInt = 0 ∧ QSM S2 (om.toInt - (dk_cnt (S2.2.1 27) 43 om.toNatClampNeg : Int) + dk_ex (S2.2.1 22) (S2.2.1 25) dp2.toNatClampNeg + 1 + dk_ex1 k.toInt (S.2.1 25 fx.toNatClampNeg).toInt) ∧ dk_fk (dp.toNatClampNeg - 1) k.toInt (S.2.1 25 fx.toNatClampNeg).toInt ∧ S2.1 0 45 = .int om ∧ S2.1 0 42 = .int dp2 ∧ S2.1 0 43 = .int on2 ∧ S2.2.1 = S.2.1 := by
  have dd := PSM.dims h f1 f2 f3
  have ef : fx.toNatClampNeg = dp.toNatClampNeg - 1 := by rw [dk_clN, dk_clN]; omega
  rw [ef] at t22
  rw [ef]
  have e3 := dk_clN dp
  have e4 := dk_clN dp2
  have e2 := dk_clN om
  have ed : dp2.toNatClampNeg = dp.toNatClampNeg - 1 := by omega
  obtain ⟨a1, a2, a3, a4, a5⟩ := h dp on om f1 f2 f3
  obtain ⟨b1, b2, b3, b4, b5⟩ := a1.top
  have gg : S2.2.1 = S.2.1 := by
    subst e'
    subst e
    rfl
  rw [gg, ed]
  have b5' := b5
  rw [t22] at b5'
  have hd2 : 2 ≤ dp.toNatClampNeg := by
    unfold dk_fk at b5'
    have z1 := b5'.1
    by_cases z : dp.toNatClampNeg - 1 = 0
    · have := z1 z
      omega
    · omega
  have emp : om.toNatClampNeg = (S.2.1 26 (dp.toNatClampNeg - 1)).toInt.toNat := by
    rcases top dp om f1 f3 with q | q
    · exact q
    · have r1 := dk_rl (S.2.1 27 (om.toNatClampNeg - 1)).toInt
      omega
  have cl := a1.close (ph' := S.2.1 23) hd2 emp (fun _ _ => rfl) (Or.inl rfl)
  have x0 := dk_ex_top (fr := S.2.1 22) (pr := S.2.1 25) (d := dp.toNatClampNeg) (by omega)
  rw [t22] at x0
  refine ⟨by omega, ?_, ?_, ?_, b5', ?_, ?_, dg_uF_at e', rfl⟩
  · rw [ho]
    exact cl
  · exact (a1.2 (dp.toNatClampNeg - 1 - 1) (by omega)).2.2.2.2 (by omega)
  · have e9 : om.toInt - (dk_cnt (S.2.1 27) 43 om.toNatClampNeg : Int) + dk_ex (S.2.1 22) (S.2.1 25) (dp.toNatClampNeg - 1) + 1 + dk_ex1 k.toInt (S.2.1 25 (dp.toNatClampNeg - 1)).toInt = om.toInt - (dk_cnt (S.2.1 27) 43 om.toNatClampNeg : Int) + dk_ex (S.2.1 22) (S.2.1 25) dp.toNatClampNeg + 1 := by omega
    rw [e9]
    exact QSM.uF ⟨by decide, by decide, by decide⟩ e' (QSM.uF ⟨by decide, by decide, by decide⟩ e a5)
  · rw [dg_uF_ne e' (fun z => absurd z.2 (by decide)), dg_uF_ne e (fun z => absurd z.2 (by decide))]
    exact f3
  · rw [dg_uF_ne e' (fun z => absurd z.2 (by decide))]
    exact dg_uF_at e
theorem P1M.close2 {l k dp2 on2 : Int32} (h : P1M S) (f1 : S.1 0 42 = .int dp) (f2 : S.1 0 43 = .int on) (f3 : S.1 0 45 = .int om) (top : TOPM S l) (hl : l.toInt = 1) (hf : fx.toInt = dp.toInt - 1) (t22 : S.2.1 22 fx.toNatClampNeg = k) (hk : k.toInt = 2 ∨ k.toInt = 5) (e : S1 = dg_uF S 0 42 (.int dp2)) (hd : dp2.toInt = dp.toInt - 1) (e' : S2 = dg_uF S1 0 43 (.int on2)) (ho : on2.toInt = on.toInt - 1) : P1M S2 := by
  obtain ⟨c1, c2, c3, c4, c5, c6, c7, c8, c9⟩ := h.close0 f1 f2 f3 top hl hf t22 (by omega) e hd e' ho
  have dd := PSM.dims h f1 f2 f3
  intro dp' on' om' q1 q2 q3
  cases c7.symm.trans q1
  cases c8.symm.trans q2
  cases c6.symm.trans q3
  have x : dk_ex1 k.toInt (S.2.1 25 fx.toNatClampNeg).toInt = 0 := by
    unfold dk_ex1
    rw [if_neg (by omega), if_neg (by omega)]
  rw [x] at c4
  refine ⟨c2, fun _ => c3, by omega, by omega, ?_⟩
  rw [Int.add_zero] at c4
  exact c4
theorem P1M.close5 {g v dp2 : Int32} (h : P1M S) (f1 : S.1 0 42 = .int dp2) (hd : 1 ≤ dp2.toInt) (hg : g.toInt = dp2.toInt - 1) (hv : v.toInt ≠ 0) (e : S1 = dg_uf S 23 (upd (S.2.1 23) g.toNatClampNeg v)) : P1M S1 := by
  have ef : g.toNatClampNeg = dp2.toNatClampNeg - 1 := by rw [dk_clN, dk_clN]; omega
  have e1 := dk_clN dp2
  rw [ef] at e
  intro dp' on om q1 q2 q3
  rw [dg_uf_F e] at q1 q2 q3
  cases f1.symm.trans q1
  obtain ⟨a1, a2, a3, a4, a5⟩ := h dp2 on om f1 q2 q3
  rw [dg_uf_at e, dg_uf_ne (a := 22) e (by decide), dg_uf_ne (a := 24) e (by decide), dg_uf_ne (a := 25) e (by decide), dg_uf_ne (a := 26) e (by decide), dg_uf_ne (a := 27) e (by decide)]
  obtain ⟨b1, b2, b3, b4, b5⟩ := a1.top
  refine ⟨a1.flag (fun _ _ => rfl) (fun j hj => dk_upd_o (by omega)) (fun _ _ => rfl) (fun _ _ => rfl) (fun i i1 i2 w => ?_) (fun i i1 i2 w => (b4 i i1 i2).2.2.2.2 w) b5, a2, a3, a4, a5.uf ⟨by decide, by decide, by decide⟩ e⟩
  rw [dk_upd_s] at w
  exact absurd w.2 hv
theorem P1M.close4 {l k dp2 on2 p : Int32} (h : P1M S) (f1 : S.1 0 42 = .int dp) (f2 : S.1 0 43 = .int on) (f3 : S.1 0 45 = .int om) (top : TOPM S l) (hl : l.toInt = 1) (hf : fx.toInt = dp.toInt - 1) (t22 : S.2.1 22 fx.toNatClampNeg = k) (hk : k.toInt = 4) (e : S1 = dg_uF S 0 42 (.int dp2)) (hd : dp2.toInt = dp.toInt - 1) (e' : S2 = dg_uF S1 0 43 (.int on2)) (ho : on2.toInt = on.toInt - 1) (t25 : S.2.1 25 fx.toNatClampNeg = p) (m : dg_sm shM [(0, 34)] [18, 19] S2 S3) (a : ADM S2 S3 p) : P1M S3 := by
  have hh := PSM.high h (by omega) f1 f2 f3
  obtain ⟨c1, c2, c3, c4, c5, c6, c7, c8, c9⟩ := h.close0 f1 f2 f3 top hl hf t22 (by omega) e hd e' ho
  have dd := PSM.dims h f1 f2 f3
  rw [t25] at c4 c5
  intro dp' on' om' q1 q2 q3
  rw [m.1 0 42 _ sM_0 (by decide)] at q1
  rw [m.1 0 43 _ sM_0 (by decide)] at q2
  rw [m.1 0 45 _ sM_0 (by decide)] at q3
  cases c7.symm.trans q1
  cases c8.symm.trans q2
  cases c6.symm.trans q3
  rw [(m.2 22 _ sM_22 (by decide)).1, (m.2 23 _ sM_23 (by decide)).1, (m.2 24 _ sM_24 (by decide)).1, (m.2 25 _ sM_25 (by decide)).1, (m.2 26 _ sM_26 (by decide)).1, (m.2 27 _ sM_27 (by decide)).1]
  refine ⟨c2, fun _ => c3, by omega, by omega, a _ _ c4 ?_⟩
  have fw := c2.bound
  have ex := dk_ex_b (S2.2.1 22) (S2.2.1 25) dp2.toNatClampNeg
  have cl := dk_cnt_le (S2.2.1 27) 43 om.toNatClampNeg
  have e2 := dk_clN om
  have p3 : p.toInt = 36 ∨ p.toInt = 37 ∨ p.toInt = 44 := c5.2.2.2.1 (Or.inr hk)
  have x : dk_ex1 k.toInt p.toInt = if p.toInt = 44 then 2 else 1 := by
    unfold dk_ex1
    rw [if_pos hk]
  rw [x]
  unfold dk_st
  by_cases z : p.toInt = 44
  · rw [if_pos z]
    omega
  · rw [if_neg z]
    omega
/-- an operator leaves the top -/
theorem P1M.opv {om1 fy b : Int32} (h : P1M S) (f1 : S.1 0 42 = .int dp) (f2 : S.1 0 43 = .int on) (f3 : S.1 0 45 = .int om) (hf : fx.toInt = dp.toInt - 1) (b26 : S.2.1 26 fx.toNatClampNeg = b) (hb : b.toInt < om.toInt) (ho : om1.toInt = om.toInt - 1) {t : Int32} (ht : S.2.1 27 om1.toNatClampNeg = t) : (31 ≤ t.toInt ∧ t.toInt ≤ 35) ∨ (38 ≤ t.toInt ∧ t.toInt ≤ 43) := by
  have dd := PSM.dims h f1 f2 f3
  have ef : fx.toNatClampNeg = dp.toNatClampNeg - 1 := by rw [dk_clN, dk_clN]; omega
  rw [ef] at b26
  obtain ⟨a1, a2, a3, a4, a5⟩ := h dp on om f1 f2 f3
  obtain ⟨b1, b2, b3, b4, b5⟩ := a1.top
  rw [b26] at b1 b2 b3 b4
  have e2 := dk_clN om
  have e3 := dk_clN om1
  subst ht
  exact (b4 om1.toNatClampNeg (by omega) (by omega)).1
theorem P1M.pop0 {om1 b t : Int32} (h : P1M S) (f1 : S.1 0 42 = .int dp) (f2 : S.1 0 43 = .int on) (f3 : S.1 0 45 = .int om) (hf : fx.toInt = dp.toInt - 1) (b26 : S.2.1 26 fx.toNatClampNeg = b) (hb : b.toInt < om.toInt) (e1 : S1 = dg_uF S 0 45 (.int om1)) (ho : om1.toInt = om.toInt - 1) (ht : S.2.1 27 om1.toNatClampNeg = t) (m : dg_sm shM [(0, 34)] [18, 19] S1 S2) (a : ADM S1 S2 t) :
    dk_fs (S2.2.1 22) (S2.2.1 23) (S2.2.1 24) (S2.2.1 25) (S2.2.1 26) (S2.2.1 27) dp.toNatClampNeg om1.toNatClampNeg (on.toInt - (if t.toInt = 43 then 1 else 0)) ∧ (S2.2.1 24 (dp.toNatClampNeg - 1)).toInt = 0 ∧ S2.1 0 42 = .int dp ∧ S2.1 0 43 = .int on ∧ S2.1 0 45 = .int om1 ∧ 0 ≤ om1.toInt ∧ QSM S2 (om1.toInt - (dk_cnt (S2.2.1 27) 43 om1.toNatClampNeg : Int) + dk_ex (S2.2.1 22) (S2.2.1 25) dp.toNatClampNeg + 1) := by
  have hh := PSM.high h (by omega) f1 f2 f3
  have ov := h.opv (fy := fx) f1 f2 f3 hf b26 hb ho ht
  have dd := PSM.dims h f1 f2 f3
  have ef : fx.toNatClampNeg = dp.toNatClampNeg - 1 := by rw [dk_clN, dk_clN]; omega
  rw [ef] at b26
  obtain ⟨a1, a2, a3, a4, a5⟩ := h dp on om f1 f2 f3
  obtain ⟨b1, b2, b3, b4, b5⟩ := a1.top
  rw [b26] at b1 b2 b3 b4
  have e2 := dk_clN om
  have e3 := dk_clN om1
  have e4 : om.toNatClampNeg - 1 = om1.toNatClampNeg := by omega
  have k := dk_cnt_s (S.2.1 27) 43 om1.toNatClampNeg
  rw [ht, show om1.toNatClampNeg + 1 = om.toNatClampNeg by omega] at k
  rw [(m.2 22 _ sM_22 (by decide)).1, (m.2 23 _ sM_23 (by decide)).1, (m.2 24 _ sM_24 (by decide)).1, (m.2 25 _ sM_25 (by decide)).1, (m.2 26 _ sM_26 (by decide)).1, (m.2 27 _ sM_27 (by decide)).1, m.1 0 42 _ sM_0 (by decide), m.1 0 43 _ sM_0 (by decide), m.1 0 45 _ sM_0 (by decide)]
  rw [dg_uF_f e1, dg_uF_f e1, dg_uF_f e1, dg_uF_f e1, dg_uF_f e1, dg_uF_f e1, dg_uF_ne (b := 42) e1 (fun z => absurd z.2 (by decide)), dg_uF_ne (b := 43) e1 (fun z => absurd z.2 (by decide)), dg_uF_at e1]
  have pp := a1.pop1 (on' := on.toInt - (if t.toInt = 43 then 1 else 0)) (by rw [b26]; omega) (by rw [e4, ht])
  rw [e4] at pp
  refine ⟨pp, a2 rfl, f1, f2, rfl, by omega, a _ _ (QSM.uF ⟨by decide, by decide, by decide⟩ e1 a5) ?_⟩
  unfold dk_st
  have ex := dk_ex_b (S.2.1 22) (S.2.1 25) dp.toNatClampNeg
  have cl := dk_cnt_le (S.2.1 27) 43 om1.toNatClampNeg
  omega
theorem P1M.popb {om1 b t : Int32} (h : P1M S) (f1 : S.1 0 42 = .int dp) (f2 : S.1 0 43 = .int on) (f3 : S.1 0 45 = .int om) (hf : fx.toInt = dp.toInt - 1) (b26 : S.2.1 26 fx.toNatClampNeg = b) (hb : b.toInt < om.toInt) (e1 : S1 = dg_uF S 0 45 (.int om1)) (ho : om1.toInt = om.toInt - 1) (ht : S.2.1 27 om1.toNatClampNeg = t) (m : dg_sm shM [(0, 34)] [18, 19] S1 S2) (a : ADM S1 S2 t) (hne : t.toInt ≠ 43) : P1M S2 := by
  have dd := PSM.dims h f1 f2 f3
  obtain ⟨c1, c2, c3, c4, c5, c6, c7⟩ := h.pop0 f1 f2 f3 hf b26 hb e1 ho ht m a
  rw [if_neg hne, Int.sub_zero] at c1
  intro dp' on' om' q1 q2 q3
  cases c3.symm.trans q1
  cases c4.symm.trans q2
  cases c5.symm.trans q3
  exact ⟨c1, fun _ => c2, by omega, c6, c7⟩
theorem P1M.popn {om1 b t on2 : Int32} (h : P1M S) (f1 : S.1 0 42 = .int dp) (f2 : S.1 0 43 = .int on) (f3 : S.1 0 45 = .int om) (hf : fx.toInt = dp.toInt - 1) (b26 : S.2.1 26 fx.toNatClampNeg = b) (hb : b.toInt < om.toInt) (e1 : S1 = dg_uF S 0 45 (.int om1)) (ho : om1.toInt = om.toInt - 1) (ht : S.2.1 27 om1.toNatClampNeg = t) (m : dg_sm shM [(0, 34)] [18, 19] S1 S2) (a : ADM S1 S2 t) (heq : t.toInt = 43) (e3 : S3 = dg_uF S2 0 43 (.int on2)) (hon : on2.toInt = on.toInt - 1) : P1M S3 := by
  have dd := PSM.dims h f1 f2 f3
  obtain ⟨c1, c2, c3, c4, c5, c6, c7⟩ := h.pop0 f1 f2 f3 hf b26 hb e1 ho ht m a
  rw [if_pos heq, ← hon] at c1
  intro dp' on' om' q1 q2 q3
  rw [dg_uF_ne e3 (fun z => absurd z.2 (by decide))] at q1 q3
  rw [dg_uF_at e3] at q2
  cases c3.symm.trans q1
  cases q2
  cases c5.symm.trans q3
  rw [dg_uF_f e3, dg_uF_f e3, dg_uF_f e3, dg_uF_f e3, dg_uF_f e3, dg_uF_f e3]
  exact ⟨c1, fun _ => c2, by omega, c6, c7.uF ⟨by decide, by decide, by decide⟩ e3⟩
/-- a leaf -/
theorem PBM.leaf {t : Int32} (h : PBM S) (f1 : S.1 0 42 = .int dp) (f2 : S.1 0 43 = .int on) (f3 : S.1 0 45 = .int om) (m : dg_sm shM [(0, 34)] [18, 19] S S1) (a : ADM S S1 t) (ht : (0 ≤ t.toInt ∧ t.toInt ≤ 6) ∨ t.toInt = 30) : P1M S1 := by
  have hh := PSM.high h.1 (by omega) f1 f2 f3
  obtain ⟨a1, a2, a3, a4, a5⟩ := h.1 dp on om f1 f2 f3
  intro dp' on' om' q1 q2 q3
  rw [m.1 0 42 _ sM_0 (by decide)] at q1
  rw [m.1 0 43 _ sM_0 (by decide)] at q2
  rw [m.1 0 45 _ sM_0 (by decide)] at q3
  cases f1.symm.trans q1
  cases f2.symm.trans q2
  cases f3.symm.trans q3
  rw [(m.2 22 _ sM_22 (by decide)).1, (m.2 23 _ sM_23 (by decide)).1, (m.2 24 _ sM_24 (by decide)).1, (m.2 25 _ sM_25 (by decide)).1, (m.2 26 _ sM_26 (by decide)).1, (m.2 27 _ sM_27 (by decide)).1]
  refine ⟨a1, fun _ => h.2 dp f1, a3, a4, a _ _ a5 ?_⟩
  unfold dk_st
  omega
/-- a new frame -/
theorem PBM.opens0 {k : Int32} {WF : List (Nat × Nat)} (h : PBM S) (f1 : S.1 0 42 = .int dp) (f2 : S.1 0 43 = .int on) (f3 : S.1 0 45 = .int om) (r : FRM S S1 k) (m : dg_sm shM WF [22, 23, 24, 26] S S1) (w1 : (0, 34) ∉ WF) (w2 : (0, 35) ∉ WF) (w3 : (0, 36) ∉ WF) (w4 : (0, 45) ∉ WF) {pr' : Nat → Int32} (hpr : ∀ j, j < dp.toNatClampNeg → pr' j = S.2.1 25 j) (hk : dk_fk dp.toNatClampNeg k.toInt (pr' dp.toNatClampNeg).toInt) (hx : dk_ex1 k.toInt (pr' dp.toNatClampNeg).toInt = 0) :
    ∃ dp' on' : Int32, S1.1 0 42 = .int dp' ∧ dp'.toInt = dp.toInt + 1 ∧ S1.1 0 43 = .int on' ∧ S1.1 0 45 = .int om ∧ dk_fs (S1.2.1 22) (S1.2.1 23) (S1.2.1 24) pr' (S1.2.1 26) (S1.2.1 27) dp'.toNatClampNeg om.toNatClampNeg on'.toInt ∧ 0 ≤ om.toInt ∧ 0 ≤ dp.toInt ∧ QSM S1 (om.toInt - (dk_cnt (S1.2.1 27) 43 om.toNatClampNeg : Int) + dk_ex (S1.2.1 22) pr' dp'.toNatClampNeg + 0) := by
  have dd := PSM.dims h.1 f1 f2 f3
  obtain ⟨r1, r2⟩ := r
  obtain ⟨g22, g23, g24, g26, dp', gd, hd⟩ := r1 dp om f1 f3
  obtain ⟨h7, on', go, ho⟩ := r2 on f2
  obtain ⟨a1, a2, a3, a4, a5⟩ := h.1 dp on om f1 f2 f3
  have g27 := (m.2 27 _ sM_27 (by decide)).1
  have e1 := dk_clN dp
  have e2 := dk_clN dp'
  have e3 := dk_clN om
  have ed : dp'.toNatClampNeg = dp.toNatClampNeg + 1 := by omega
  refine ⟨dp', on', gd, hd, go, (m.1 0 45 _ sM_0 w4).trans f3, ?_, a4, a3, ?_⟩
  · rw [ed, ho, g27]
    refine a1.opens (h.2 dp f1) (fun j hj => by rw [g22]; exact dk_upd_o (by omega)) (fun j hj => by rw [g23]; exact dk_upd_o (by omega)) (fun j hj => by rw [g24]; exact dk_upd_o (by omega)) hpr (fun j hj => by rw [g26]; exact dk_upd_o (by omega)) ?_ ?_ (by omega)
    · rw [g26, dk_upd_s]
      omega
    · rw [g22, dk_upd_s]
      exact hk
  · have x : dk_ex (S1.2.1 22) pr' (dp.toNatClampNeg + 1) = dk_ex (S1.2.1 22) pr' dp.toNatClampNeg + dk_ex1 (S1.2.1 22 dp.toNatClampNeg).toInt (pr' dp.toNatClampNeg).toInt := rfl
    rw [ed, x, g22, dk_upd_s, hx, dk_ex_congr (fr := S.2.1 22) (pr := S.2.1 25) (fun j hj => dk_upd_o (by omega)) hpr, g27, Int.add_zero, Int.add_zero]
    have q := a5.keep m w2 w3 w1 (by decide) (by decide) (by decide)
    rw [Int.add_zero] at q
    exact q
theorem PBM.opens {k : Int32} {WF : List (Nat × Nat)} (h : PBM S) (f1 : S.1 0 42 = .int dp) (f2 : S.1 0 43 = .int on) (f3 : S.1 0 45 = .int om) (r : FRM S S1 k) (m : dg_sm shM WF [22, 23, 24, 26] S S1) (w1 : (0, 34) ∉ WF) (w2 : (0, 35) ∉ WF) (w3 : (0, 36) ∉ WF) (w4 : (0, 45) ∉ WF) (hk : k.toInt = 2 ∨ k.toInt = 5) : P0M S1 := by
  have dd := PSM.dims h.1 f1 f2 f3
  have e1 := dk_clN dp
  obtain ⟨dp', on', c1, c2, c3, c4, c5, c6, c7, c8⟩ := h.opens0 (pr' := S.2.1 25) f1 f2 f3 r m w1 w2 w3 w4 (fun _ _ => rfl) (by unfold dk_fk; omega) (by unfold dk_ex1; rw [if_neg (by omega), if_neg (by omega)])
  intro dq oq mq q1 q2 q3
  cases c1.symm.trans q1
  cases c3.symm.trans q2
  cases c4.symm.trans q3
  rw [(m.2 25 _ sM_25 (by decide)).1]
  exact ⟨c5, fun z => absurd z (by decide), by omega, c6, c8⟩
theorem PBM.openp {k p g dp1 : Int32} {WF : List (Nat × Nat)} (h : PBM S) (f1 : S.1 0 42 = .int dp) (f2 : S.1 0 43 = .int on) (f3 : S.1 0 45 = .int om) (r : FRM S S1 k) (m : dg_sm shM WF [22, 23, 24, 26] S S1) (w1 : (0, 34) ∉ WF) (w2 : (0, 35) ∉ WF) (w3 : (0, 36) ∉ WF) (w4 : (0, 45) ∉ WF) (hk : (k.toInt = 6 ∧ p.toInt = 44) ∨ (k.toInt = 3 ∧ (p.toInt = 36 ∨ p.toInt = 37))) (fd : S1.1 0 42 = .int dp1) (hg : g.toInt = dp1.toInt - 1) (e : S2 = dg_uf S1 25 (upd (S1.2.1 25) g.toNatClampNeg p)) : P0M S2 := by
  have dd := PSM.dims h.1 f1 f2 f3
  have e1 := dk_clN dp
  obtain ⟨-, -, -, -, dpx, gd, hd⟩ := r.1 dp om f1 f3
  cases gd.symm.trans fd
  have eg : g.toNatClampNeg = dp.toNatClampNeg := by rw [dk_clN, dk_clN]; omega
  rw [eg] at e
  have g25 := (m.2 25 _ sM_25 (by decide)).1
  have hp : (upd (S.2.1 25) dp.toNatClampNeg p dp.toNatClampNeg) = p := dk_upd_s
  obtain ⟨dp', on', c1, c2, c3, c4, c5, c6, c7, c8⟩ := h.opens0 (pr' := upd (S.2.1 25) dp.toNatClampNeg p) f1 f2 f3 r m w1 w2 w3 w4 (fun j hj => dk_upd_o (by omega)) (by rw [hp]; unfold dk_fk; omega) (by
    rw [hp]
    unfold dk_ex1
    rw [if_neg (by omega), if_neg (by omega)])
  intro dq oq mq q1 q2 q3
  rw [dg_uf_F e] at q1 q2 q3
  cases c1.symm.trans q1
  cases c3.symm.trans q2
  cases c4.symm.trans q3
  rw [dg_uf_at e, g25, dg_uf_ne (a := 22) e (by decide), dg_uf_ne (a := 23) e (by decide), dg_uf_ne (a := 24) e (by decide), dg_uf_ne (a := 26) e (by decide), dg_uf_ne (a := 27) e (by decide)]
  exact ⟨c5, fun z => absurd z (by decide), by omega, c6, c8.uf ⟨by decide, by decide, by decide⟩ e⟩
/-- a rule's first frame -/
theorem P0M.first {k : Int32} (q : QSM S 0) (f1 : S.1 0 42 = .int dp) (f2 : S.1 0 43 = .int on) (f3 : S.1 0 45 = .int om) (h1 : dp.toInt = 0) (h2 : on.toInt = 0) (h3 : om.toInt = 0) (r : PUM S S1 k) (m : dg_sm shM [(0, 42)] [22, 23, 24, 26] S S1) (hk : k.toInt = 0 ∨ k.toInt = 1) : P0M S1 := by
  obtain ⟨g22, g23, g24, g26, dp', gd, hd⟩ := r dp om f1 f3
  have e1 : dp.toNatClampNeg = 0 := by rw [dk_clN]; omega
  have e2 : om.toNatClampNeg = 0 := by rw [dk_clN]; omega
  have e3 : dp'.toNatClampNeg = 1 := by rw [dk_clN]; omega
  rw [e1] at g22 g23 g24 g26
  intro dq oq mq q1 q2 q3
  rw [m.1 0 43 _ sM_0 (by decide)] at q2
  rw [m.1 0 45 _ sM_0 (by decide)] at q3
  cases gd.symm.trans q1
  cases f2.symm.trans q2
  cases f3.symm.trans q3
  have k0 : (S1.2.1 22 0) = k := by rw [g22, dk_upd_s]
  have k1 : (S1.2.1 26 0) = om := by rw [g26, dk_upd_s]
  rw [e2, e3, h2]
  refine ⟨dk_fs.first (k := k.toInt) rfl (by rw [k1]; exact h3) (by rw [k0]) hk, fun z => absurd z (by decide), by omega, by omega, ?_⟩
  have x : om.toInt - (dk_cnt (S1.2.1 27) 43 0 : Int) + dk_ex (S1.2.1 22) (S1.2.1 25) 1 + 0 = 0 := by
    have y : dk_ex (S1.2.1 22) (S1.2.1 25) 1 = 0 + dk_ex1 (S1.2.1 22 0).toInt (S1.2.1 25 0).toInt := rfl
    have z : dk_cnt (S1.2.1 27) 43 0 = 0 := rfl
    rw [y, z, k0, h3]
    unfold dk_ex1
    rw [if_neg (by omega), if_neg (by omega)]
    rfl
  rw [x]
  exact q.keep m (by decide) (by decide) (by decide) (by decide) (by decide) (by decide)
end DKEW
/-- all rules of the bank that is written, between statements -/
def ZVM (S : dg_S) : Prop := ∀ i cd : Int32, S.1 0 35 = .int i → S.1 0 34 = .int cd → ∀ w : Nat, w < 3 → dk_pc S i.toNatClampNeg w cd.toInt
theorem ZVM.keep {S S1 : dg_S} {WF : List (Nat × Nat)} {WA : List Nat} (h : ZVM S) (m : dg_sm shM WF WA S S1) (h1 : (0, 35) ∉ WF) (h3 : (0, 34) ∉ WF) (h4 : 16 ∉ WA) (h5 : 17 ∉ WA) (h6 : 18 ∉ WA) : ZVM S1 := by
  intro i cd q1 q3 w hw
  rw [m.1 0 35 _ sM_0 h1] at q1
  rw [m.1 0 34 _ sM_0 h3] at q3
  have := h i cd q1 q3 w hw
  unfold dk_pc at this ⊢
  rw [(m.2 16 _ sM_16 h4).1, (m.2 17 _ sM_17 h5).1, (m.2 18 _ sM_18 h6).1]
  exact this
/-- a rule begins -/
theorem ZVM.begins {S S1 S2 : dg_S} {i cd w x : Int32} (h : ZVM S) (fi : S.1 0 35 = .int i) (fc : S.1 0 34 = .int cd) (hi : 0 ≤ i.toInt) (hc : 0 ≤ cd.toInt) (hw : 0 ≤ w.toInt ∧ w.toInt ≤ 2) (e1 : S1 = dg_uF S 0 36 (.int w)) (hx : x.toInt = 3 * i.toInt + w.toInt) (e2 : S2 = dg_uf S1 16 (upd (S1.2.1 16) x.toNatClampNeg cd)) : QSM S2 0 := by
  intro i' w' cd' q1 q2 q3
  rw [dg_uf_F e2] at q1 q2 q3
  rw [dg_uF_ne e1 (fun z => absurd z.2 (by decide))] at q1 q3
  rw [dg_uF_at e1] at q2
  cases fi.symm.trans q1
  cases q2
  cases fc.symm.trans q3
  have ex : x.toNatClampNeg = 3 * i.toNatClampNeg + w.toNatClampNeg := by rw [dk_clN, dk_clN, dk_clN]; omega
  have g16 : S2.2.1 16 = upd (S.2.1 16) (3 * i.toNatClampNeg + w.toNatClampNeg) cd := by rw [dg_uf_at e2, dg_uF_f e1, ex]
  have g17 : S2.2.1 17 = S.2.1 17 := by rw [dg_uf_ne e2 (by decide), dg_uF_f e1]
  have g18 : S2.2.1 18 = S.2.1 18 := by rw [dg_uf_ne e2 (by decide), dg_uF_f e1]
  have g0 : (S2.2.1 16 (3 * i.toNatClampNeg + w.toNatClampNeg)) = cd := by rw [g16, dk_upd_s]
  unfold dk_qs
  rw [g0]
  refine ⟨hw.1, hw.2, hc, Int.le_refl _, ?_, fun w' w1 w2 => (h i cd fi fc w' w1).move ?_ (congrFun g17 _) (fun j _ _ => congrFun g18 j)⟩
  · rw [show (cd.toInt - cd.toInt).toNat = 0 by omega]
    exact rfl
  · rw [g16]
    exact dk_upd_o (by omega)
/-- a rule ends -/
theorem QSM.ends {S S1 : dg_S} {i cd w x : Int32} {y : Int} (h : QSM S y) (fi : S.1 0 35 = .int i) (fw : S.1 0 36 = .int w) (fc : S.1 0 34 = .int cd) (hi : 0 ≤ i.toInt) (hx : x.toInt = 3 * i.toInt + w.toInt) (e : S1 = dg_uf S 17 (upd (S.2.1 17) x.toNatClampNeg cd)) : ZVM S1 := by
  intro i' cd' q1 q3 w' hw'
  rw [dg_uf_F e] at q1 q3
  cases fi.symm.trans q1
  cases fc.symm.trans q3
  obtain ⟨a1, a2, a3, a4, a5, a6⟩ := h i w cd fi fw fc
  have ex : x.toNatClampNeg = 3 * i.toNatClampNeg + w.toNatClampNeg := by rw [dk_clN, dk_clN, dk_clN]; omega
  have g16 : S1.2.1 16 = S.2.1 16 := dg_uf_ne e (by decide)
  have g17 : S1.2.1 17 = upd (S.2.1 17) (3 * i.toNatClampNeg + w.toNatClampNeg) cd := by rw [dg_uf_at e, ex]
  have g18 : S1.2.1 18 = S.2.1 18 := dg_uf_ne e (by decide)
  by_cases z : w' = w.toNatClampNeg
  · subst z
    intro _
    rw [g16, g17, g18, dk_upd_s]
    exact ⟨a3, a4, Int.le_refl _, y, a5⟩
  · refine ((a6 w' hw' z).mono a4).move (congrFun g16 _) ?_ (fun j _ _ => congrFun g18 j)
    rw [g17]
    exact dk_upd_o (by omega)
/-- nothing is told yet -/
theorem ZVM.none {S : dg_S} (h : ∀ (i : Int32) (w : Nat), S.1 0 35 = .int i → w < 3 → (S.2.1 16 (3 * i.toNatClampNeg + w)).toInt = -1) : ZVM S := fun i cd q1 _ w hw t => absurd (h i w q1 hw) t
/-- the bank that was written is the one in use from now on -/
theorem ZVM.use {S S1 : dg_S} {i cd : Int32} (h : ZVM S) (fi : S.1 0 35 = .int i) (fc : S.1 0 34 = .int cd) (hc : cd.toInt ≤ 1600) (e : S1 = dg_uF S 0 13 (.int i)) : ZWM S1 := by
  intro b hb w hw
  rw [dg_uF_at e] at hb
  cases hb
  have := (h i cd fi fc w hw).pr hc
  unfold dk_pr at this ⊢
  rw [dg_uF_f e, dg_uF_f e, dg_uF_f e]
  exact this
/-- the seam of the bank that is written -/
def ZCM (S : dg_S) : Prop := ∀ i : Int32, S.1 0 35 = .int i → 3 ≤ (S.2.1 2 i.toNatClampNeg).toInt ∧ (S.2.1 2 i.toNatClampNeg).toInt ≤ 7 ∧ 3 ≤ (S.2.1 3 i.toNatClampNeg).toInt ∧ (S.2.1 3 i.toNatClampNeg).toInt ≤ 7 ∧ 0 ≤ (S.2.1 4 i.toNatClampNeg).toInt ∧ (S.2.1 4 i.toNatClampNeg).toInt ≤ 6
theorem ZCM.keep {S S1 : dg_S} {WF : List (Nat × Nat)} {WA : List Nat} (h : ZCM S) (m : dg_sm shM WF WA S S1) (h1 : (0, 35) ∉ WF) (h2 : 2 ∉ WA) (h3 : 3 ∉ WA) (h4 : 4 ∉ WA) : ZCM S1 := by
  intro i q
  rw [m.1 0 35 _ sM_0 h1] at q
  rw [(m.2 2 _ sM_2 h2).1, (m.2 3 _ sM_3 h3).1, (m.2 4 _ sM_4 h4).1]
  exact h i q
theorem ZCM.use {S S1 S2 : dg_S} {i v : Int32} (h : ZCM S) (fi : S.1 0 35 = .int i) (e : S1 = dg_uF S 0 13 (.int i)) (e2 : S2 = dg_uF S1 0 47 (.int v)) : ZBM S2 := by
  intro b sm hb hsm
  rw [dg_uF_ne e2 (fun z => absurd z.2 (by decide)), dg_uF_at e] at hb
  cases hb
  rw [dg_uF_f e2, dg_uF_f e2, dg_uF_f e2, dg_uF_f e, dg_uF_f e, dg_uF_f e]
  obtain ⟨h1, h2, h3, h4, h5, h6⟩ := h i fi
  exact ⟨by omega, by omega, by omega, fun _ => ⟨h1, h3⟩⟩
