/-! the reference's parser: the acts' words out of their states -/
section DKEX
variable {S S1 S2 S3 S4 S5 : dg_S} {dp on om fx : Int32}
theorem HBM.mk {om' t : Int32} (f3 : S.1 0 45 = .int om) (e1 : S1 = dg_uf S 27 (upd (S.2.1 27) om.toNatClampNeg t)) (e2 : S2 = dg_uF S1 0 45 (.int om')) (h : om'.toInt = om.toInt + 1) : HBM S S2 t := by
  intro om2 q
  cases f3.symm.trans q
  exact ⟨by rw [dg_uF_f e2, dg_uf_at e1], om', dg_uF_at e2, h⟩
theorem PUM.mk {k dp' : Int32} (f1 : S.1 0 42 = .int dp) (f3 : S.1 0 45 = .int om) (e1 : S1 = dg_uf S 22 (upd (S.2.1 22) dp.toNatClampNeg k)) (e2 : S2 = dg_uf S1 23 (upd (S1.2.1 23) dp.toNatClampNeg 0)) (e3 : S3 = dg_uf S2 24 (upd (S2.2.1 24) dp.toNatClampNeg 1)) (e4 : S4 = dg_uf S3 26 (upd (S3.2.1 26) dp.toNatClampNeg om)) (e5 : S5 = dg_uF S4 0 42 (.int dp')) (h : dp'.toInt = dp.toInt + 1) : PUM S S5 k := by
  intro dp2 om2 q1 q2
  cases f1.symm.trans q1
  cases f3.symm.trans q2
  refine ⟨?_, ?_, ?_, ?_, dp', dg_uF_at e5, h⟩
  · rw [dg_uF_f e5, dg_uf_ne e4 (by decide), dg_uf_ne e3 (by decide), dg_uf_ne e2 (by decide), dg_uf_at e1]
  · rw [dg_uF_f e5, dg_uf_ne e4 (by decide), dg_uf_ne e3 (by decide), dg_uf_at e2, dg_uf_ne e1 (by decide)]
  · rw [dg_uF_f e5, dg_uf_ne e4 (by decide), dg_uf_at e3, dg_uf_ne e2 (by decide), dg_uf_ne e1 (by decide)]
  · rw [dg_uF_f e5, dg_uf_at e4, dg_uf_ne e3 (by decide), dg_uf_ne e2 (by decide), dg_uf_ne e1 (by decide)]
theorem FRM.mk {k on' : Int32} {WF : List (Nat × Nat)} (f2 : S.1 0 43 = .int on) (h7 : on.toInt ≠ 7) (e1 : S1 = dg_uF S 0 43 (.int on')) (hon : on'.toInt = on.toInt + 1) (m : dg_sm shM WF [] S1 S2) (w1 : (0, 42) ∉ WF) (w2 : (0, 45) ∉ WF) (w3 : (0, 43) ∉ WF) (p : PUM S2 S3 k) (m3 : dg_sm shM [(0, 42)] [22, 23, 24, 26] S2 S3) : FRM S S3 k := by
  have rr : ∀ q x, shM[q]? = some x → S2.2.1 q = S.2.1 q := fun q x hx => ((m.2 q x hx List.not_mem_nil).1).trans (dg_uF_f e1 q)
  refine ⟨fun dp om q1 q2 => ?_, fun on2 q => ?_⟩
  · obtain ⟨p1, p2, p3, p4, p5⟩ := p dp om (by rw [m.1 0 42 _ sM_0 w1, dg_uF_ne e1 (fun z => absurd z.2 (by decide))]; exact q1) (by rw [m.1 0 45 _ sM_0 w2, dg_uF_ne e1 (fun z => absurd z.2 (by decide))]; exact q2)
    rw [rr 22 _ sM_22] at p1
    rw [rr 23 _ sM_23] at p2
    rw [rr 24 _ sM_24] at p3
    rw [rr 26 _ sM_26] at p4
    exact ⟨p1, p2, p3, p4, p5⟩
  · cases f2.symm.trans q
    exact ⟨h7, on', by rw [m3.1 0 43 _ sM_0 (by decide), m.1 0 43 _ sM_0 w3]; exact dg_uF_at e1, hon⟩
theorem TOPM.l {b l : Int32} (f1 : S.1 0 42 = .int dp) (f3 : S.1 0 45 = .int om) (h : P1M S) (f2 : S.1 0 43 = .int on) (hf : fx.toInt = dp.toInt - 1) (b26 : S.2.1 26 fx.toNatClampNeg = b) (hb : om.toInt ≤ b.toInt) : TOPM S l := by
  intro dp2 om2 q1 q2
  cases f1.symm.trans q1
  cases f3.symm.trans q2
  have dd := PSM.dims h f1 f2 f3
  have ef : fx.toNatClampNeg = dp.toNatClampNeg - 1 := by rw [dk_clN, dk_clN]; omega
  obtain ⟨a1, a2, a3, a4, a5⟩ := h dp on om f1 f2 f3
  obtain ⟨b1, b2, b3, b4, b5⟩ := a1.top
  left
  rw [← ef, b26] at b2 ⊢
  have e2 := dk_clN om
  omega
theorem TOPM.r {t l g : Int32} (f1 : S.1 0 42 = .int dp) (f3 : S.1 0 45 = .int om) (hg : g.toInt = om.toInt - 1) (t27 : S.2.1 27 g.toNatClampNeg = t) (hr : dk_rk t.toInt < l.toInt) : TOPM S l := by
  intro dp2 om2 q1 q2
  cases f1.symm.trans q1
  cases f3.symm.trans q2
  have eg : g.toNatClampNeg = om.toNatClampNeg - 1 := by rw [dk_clN, dk_clN]; omega
  right
  rw [← eg, t27]
  exact hr
/-- what waits, by the flag that tells whether an operand stands -/
def POM (S : dg_S) : Prop := ∀ x : Int32, S.1 0 46 = .int x → PSM S x.toInt
theorem POM.of {r : Int32} (e : S1 = dg_uF S 0 46 (.int r)) (h1 : r.toInt = 1 → P1M S) (h0 : r.toInt = 0 → P0M S) (hr : 0 ≤ r.toInt ∧ r.toInt ≤ 1) : POM S1 := by
  have m : dg_sm shM [(0, 46)] [] S S1 := dg_sm.uF dg_sm.rf e sM_0 (by decide)
  intro x hx
  rw [dg_uF_at e] at hx
  cases hx
  by_cases z : r.toInt = 1
  · rw [z]
    exact PSM.keep (h1 z) m (by decide) (by decide) (by decide) (by decide) (by decide) (by decide) (by decide) (by decide) (by decide) (by decide) (by decide) (by decide) (by decide) (by decide) (by decide)
  · have z0 : r.toInt = 0 := by omega
    rw [z0]
    exact PSM.keep (h0 z0) m (by decide) (by decide) (by decide) (by decide) (by decide) (by decide) (by decide) (by decide) (by decide) (by decide) (by decide) (by decide) (by decide) (by decide) (by decide)
def QEM (S : dg_S) : Prop := ∃ h : Int, QSM S h
theorem PSM.qe {op : Int} (h : PSM S op) (f1 : S.1 0 42 = .int dp) (f2 : S.1 0 43 = .int on) (f3 : S.1 0 45 = .int om) : QEM S := ⟨_, (h dp on om f1 f2 f3).2.2.2.2⟩
theorem POM.qe {x : Int32} (h : POM S) (f0 : S.1 0 46 = .int x) (f1 : S.1 0 42 = .int dp) (f2 : S.1 0 43 = .int on) (f3 : S.1 0 45 = .int om) : QEM S := PSM.qe (h x f0) f1 f2 f3
theorem POM.p0 {x : Int32} (h : POM S) (f0 : S.1 0 46 = .int x) (hx : x.toInt = 0) : P0M S := by
  have := h x f0
  rw [hx] at this
  exact this
theorem POM.p1 {x : Int32} (h : POM S) (f0 : S.1 0 46 = .int x) (hx : x.toInt = 1) : P1M S := by
  have := h x f0
  rw [hx] at this
  exact this
theorem POM.mk0 {x : Int32} (h : P0M S) (f0 : S.1 0 46 = .int x) (hx : x.toInt = 0) : POM S := by
  intro y hy
  cases f0.symm.trans hy
  rw [hx]
  exact h
theorem POM.mk1 {x : Int32} (h : P1M S) (f0 : S.1 0 46 = .int x) (hx : x.toInt = 1) : POM S := by
  intro y hy
  cases f0.symm.trans hy
  rw [hx]
  exact h
/-- a kind of frame that the walk has read -/
theorem PSM.kind {op : Int} {k : Int32} (h : PSM S op) (f1 : S.1 0 42 = .int dp) (f2 : S.1 0 43 = .int on) (f3 : S.1 0 45 = .int om) (hf : fx.toInt = dp.toInt - 1) (t22 : S.2.1 22 fx.toNatClampNeg = k) {p : Int32} (t25 : S.2.1 25 fx.toNatClampNeg = p) : dk_fk fx.toNatClampNeg k.toInt p.toInt := by
  have dd := PSM.dims h f1 f2 f3
  have ef : fx.toNatClampNeg = dp.toNatClampNeg - 1 := by rw [dk_clN, dk_clN]; omega
  obtain ⟨a1, a2, a3, a4, a5⟩ := h dp on om f1 f2 f3
  obtain ⟨b1, b2, b3, b4, b5⟩ := a1.top
  subst t22
  subst t25
  rw [ef]
  exact b5
end DKEX
/-! statements -/
theorem ZKM.mk {S S1 : dg_S} {b v : Int32} (hb : S.1 0 13 = .int b) (e : S1 = dg_uF S 0 35 (.int v)) (h : v.toInt = 1 - b.toInt) : ZKM S1 := by
  intro b' i q1 q2
  rw [dg_uF_ne e (fun z => absurd z.2 (by decide))] at q1
  rw [dg_uF_at e] at q2
  cases hb.symm.trans q1
  cases q2
  exact h
def SEM (S : dg_S) : Prop := ∀ i : Int32, S.1 0 35 = .int i → 3 ≤ (S.2.1 2 i.toNatClampNeg).toInt ∧ (S.2.1 2 i.toNatClampNeg).toInt ≤ 7 ∧ 3 ≤ (S.2.1 3 i.toNatClampNeg).toInt ∧ (S.2.1 3 i.toNatClampNeg).toInt ≤ 7
theorem SEM.mk {S : dg_S} {i c r : Int32} (fi : S.1 0 35 = .int i) (f2 : S.2.1 2 i.toNatClampNeg = c) (f3 : S.2.1 3 i.toNatClampNeg = r) (h : 3 ≤ c.toInt ∧ c.toInt ≤ 7 ∧ 3 ≤ r.toInt ∧ r.toInt ≤ 7) : SEM S := by
  intro j q
  cases fi.symm.trans q
  rw [f2, f3]
  exact h
theorem SEM.zc {S : dg_S} {i x : Int32} (h : SEM S) (fi : S.1 0 35 = .int i) (f4 : S.2.1 4 i.toNatClampNeg = x) (hx : 0 ≤ x.toInt ∧ x.toInt ≤ 6) : ZCM S := by
  intro j q
  cases fi.symm.trans q
  have := h i fi
  rw [f4]
  exact ⟨this.1, this.2.1, this.2.2.1, this.2.2.2, hx.1, hx.2⟩
theorem ZCM.shaft {S S1 : dg_S} {i v : Int32} (h : ZCM S) (fi : S.1 0 35 = .int i) (e : S1 = dg_uf S 4 (upd (S.2.1 4) i.toNatClampNeg v)) (hv : 0 ≤ v.toInt ∧ v.toInt ≤ 6) : ZCM S1 := by
  intro j q
  rw [dg_uf_F e] at q
  cases fi.symm.trans q
  obtain ⟨h1, h2, h3, h4, h5, h6⟩ := h i fi
  rw [dg_uf_ne (a := 2) e (by decide), dg_uf_ne (a := 3) e (by decide), dg_uf_at e, dk_upd_s]
  exact ⟨h1, h2, h3, h4, hv.1, hv.2⟩
/-- rules are made untold, one behind another -/
def NTM (S : dg_S) (i : Int32) (k : Int) : Prop := ∀ w : Nat, w < 3 → 3 * i.toInt + (w : Int) < k → (S.2.1 16 (3 * i.toNatClampNeg + w)).toInt = -1
theorem NTM.step {S S1 : dg_S} {i k v : Int32} (h : NTM S i k.toInt) (hi : 0 ≤ i.toInt) (hk : 3 * i.toInt ≤ k.toInt) (e : S1 = dg_uf S 16 (upd (S.2.1 16) k.toNatClampNeg v)) (hv : v.toInt = -1) {k' : Int} (hk' : k' = k.toInt + 1) : NTM S1 i k' := by
  intro w hw hlt
  have e1 := dk_clN i
  have e2 := dk_clN k
  rw [dg_uf_at e]
  by_cases z : 3 * i.toNatClampNeg + w = k.toNatClampNeg
  · rw [z, dk_upd_s]
    exact hv
  · rw [dk_upd_o z]
    exact h w hw (by omega)
theorem NTM.zv {S S1 : dg_S} {i : Int32} {k : Int} {v : Value} (h : NTM S i k) (fi : S.1 0 35 = .int i) (hk : 3 * i.toInt + 3 ≤ k) (e : S1 = dg_uF S 0 34 v) : ZVM S1 := by
  refine ZVM.none (fun j w q hw => ?_)
  rw [dg_uF_ne e (fun z => absurd z.2 (by decide))] at q
  cases fi.symm.trans q
  rw [dg_uF_f e]
  exact h w hw (by omega)
